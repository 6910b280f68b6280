/-! ===== a store taken over from another ===== -/
def ad_rK (σ : ad_Mem) (s : Nat) : Prop := (∀ v, v < 10 → ad_nw σ (10 * s + v) ∧ ad_dw σ (10 * s + v)) ∧ ad_nw σ (30 + s)
theorem ad_rC.K {σ : ad_Mem} {s : Nat} {A : ad_Ar} (hr : ad_rC σ s A) : ad_rK σ s := ⟨hr.2.2.2.2.1, hr.2.2.2.2.2.2.2⟩
def ad_Tu (s : Nat) (k i : Nat) : Prop := (k = 0 ∨ k = 2 ∨ k = 6 ∨ k = 10 ∨ k = 11 ∨ k = 12) ∧ 10 * s ≤ i ∧ i < 10 * s + 10
theorem ad_fr_u {s : Nat} {σ σ1 : ad_Mem} (h : ad_fr (ad_Tu s) σ σ1) (k i : Nat) (hk : (k ≠ 0 ∧ k ≠ 2 ∧ k ≠ 6 ∧ k ≠ 10 ∧ k ≠ 11 ∧ k ≠ 12) ∨ i < 10 * s ∨ 10 * s + 10 ≤ i) : σ1 k i = σ k i := h k i (fun q => hk.elim (fun z => by have := q.1; omega) (fun z => by have := q.2; omega))
def ad_sameV (σ σ1 : ad_Mem) (s s2 w : Nat) : Prop := ad_nl σ1 (10 * s + w) = ad_nl σ (10 * s2 + w) ∧ ad_ds σ1 (10 * s + w) = ad_ds σ (10 * s2 + w) ∧ σ1 6 (10 * s + w) 2 = σ 6 (10 * s2 + w) 2 ∧ σ1 6 (10 * s + w) 3 = σ 6 (10 * s2 + w) 3 ∧ σ1 6 (10 * s + w) 4 = σ 6 (10 * s2 + w) 4 ∧ σ1 6 (10 * s + w) 5 = σ 6 (10 * s2 + w) 5 ∧ σ1 6 (10 * s + w) 6 = σ 6 (10 * s2 + w) 6
theorem c_X4_copyFrom {g : ad_G} {d : Nat} {σ : ad_Mem} {s s2 : Nat} {A : ad_Ar} (hs : s < 3) (hs2 : s2 < 3) (hne : s ≠ s2) (hr : ad_rC σ s2 A) (hw : ad_wA A) (hk : ad_rK σ s) (h3d : 3 ≤ d) : ad_V g mX4_copyFrom d [ad_rf g 4 s, ad_rf g 4 s2] σ (fun m => ad_rC m s A ∧ ad_fr (ad_Ts s) σ m) := by
  have hr0 := hr
  have hw0 := hw
  obtain ⟨r1, r2, r3, r4, r5, r6, r7, r8⟩ := hr
  obtain ⟨w1, w2, w3, w4, w5, w6, w7, w8, w9⟩ := hw
  refine ad_M1 (k := 1) rfl (by simp [Value.category]) rfl (Nat.le_of_ble_eq_true rfl) ?_
  simp only [List.map_cons, List.map_nil, List.replicate, List.cons_append, List.nil_append]
  have done : ∀ (v : Int) (σ1 : ad_Mem), ad_fr (ad_Tu s) σ σ1 → 0 ≤ v → (ad_aC A : Int) ≤ v → (∀ w : Nat, (w : Int) < v → ad_sameV σ σ1 s s2 w) → (∀ w, w < 10 → ad_nw σ1 (10 * s + w) ∧ ad_dw σ1 (10 * s + w)) → ad_R g mX4_copyFrom d (ad_ZV mX4_copyFrom (fun m => ad_rC m s A ∧ ad_fr (ad_Ts s) σ m)) 37 [some (ad_rf g 4 s), some (ad_rf g 4 s2), some (ad_iv v)] [] σ1 := by
    intro v σ1 e0 hv0 hv1 e1 e2
    have o4 := ad_fr_u e0 4 s2 (Or.inl (by decide))
    have o19 := ad_fr_u e0 19 s2 (Or.inl (by decide))
    have p4 := ad_fr_u e0 4 s (Or.inl (by decide))
    refine ad_aload_n dX4_copyFrom_37 rfl ?_
    refine gf_X4_18 rfl (by omega) dX4_copyFrom_38 ?_
    refine ad_iconst dX4_copyFrom_41 ?_
    refine ad_aload_n dX4_copyFrom_42 rfl ?_
    refine gf_X4_18 rfl (by omega) dX4_copyFrom_43 ?_
    refine ad_iconst dX4_copyFrom_46 ?_
    refine ad_iconst dX4_copyFrom_47 ?_
    refine ad_copy rfl lk_X4_51 dX4_copyFrom_48 (by omega) (by show _ < 3; omega) (by show _ < 3; omega) ⟨by decide, by decide⟩ ⟨by decide, by decide⟩ (Nat.le_of_ble_eq_true rfl) (by omega) (by omega) (by omega) (by show _ ≤ ((4 : Nat) : Int); omega) (by show _ ≤ ((4 : Nat) : Int); omega) ?_
    refine ad_aload_n dX4_copyFrom_51 rfl ?_
    refine ad_aload_n dX4_copyFrom_52 rfl ?_
    refine gf_X4_31 rfl (by omega) dX4_copyFrom_53 ?_
    refine pf_X4_31 rfl (by omega) dX4_copyFrom_56 ?_
    refine ad_aload_n dX4_copyFrom_59 rfl ?_
    refine ad_aload_n dX4_copyFrom_60 rfl ?_
    refine gf_X4_35 rfl (by omega) dX4_copyFrom_61 ?_
    refine pf_X4_35 rfl (by omega) dX4_copyFrom_64 ?_
    refine ad_aload_n dX4_copyFrom_67 rfl ?_
    refine ad_aload_n dX4_copyFrom_68 rfl ?_
    refine gf_X4_38 rfl (by omega) dX4_copyFrom_69 ?_
    refine pf_X4_38 rfl (by omega) dX4_copyFrom_72 ?_
    refine ad_aload_n dX4_copyFrom_75 rfl ?_
    refine ad_aload_n dX4_copyFrom_76 rfl ?_
    refine gf_X4_41 rfl (by omega) dX4_copyFrom_77 ?_
    refine pf_X4_41 rfl (by omega) dX4_copyFrom_80 ?_
    refine ad_aload_n dX4_copyFrom_83 rfl ?_
    refine ad_aload_n dX4_copyFrom_84 rfl ?_
    refine gf_X4_44 rfl (by omega) dX4_copyFrom_85 ?_
    refine pf_X4_44 rfl (by omega) dX4_copyFrom_88 ?_
    exact ad_retv dX4_copyFrom_91 rfl (by
        generalize hm : ad_st _ 4 s 7 _ = m
        have n1 : ¬ s2 = s := fun q => hne q.symm
        have g4 : ∀ k, m 4 s k = if k = 3 ∨ k = 4 ∨ k = 5 ∨ k = 6 ∨ k = 7 then σ 4 s2 k else σ 4 s k := by
          intro k
          rw [← hm]
          simp only [ad_st, ad_sr, n1, and_false, false_and, if_false, true_and, and_true]
          by_cases k7 : k = 7
          · simp [k7, congrFun o4 7]
          by_cases k6 : k = 6
          · simp [k6, congrFun o4 6]
          by_cases k5 : k = 5
          · simp [k5, congrFun o4 5]
          by_cases k4 : k = 4
          · simp [k4, congrFun o4 4]
          by_cases k3 : k = 3
          · simp [k3, congrFun o4 3]
          · simp [k3, k4, k5, k6, k7, congrFun p4 k]
        have g19 : ∀ h, h < 4 → m 19 s h = σ 19 s2 h := by
          intro h hh
          rw [← hm]
          simp [ad_st, ad_sr, hh, congrFun o19 h]
        have e : ∀ k i, ¬ (k = 4 ∧ i = s) → ¬ (k = 19 ∧ i = s) → m k i = σ1 k i := by
          intro k i h h2
          funext c
          rw [← hm]
          have hx : ∀ z, ¬ (k = 4 ∧ i = s ∧ c = z) := fun z q => h ⟨q.1, q.2.1⟩
          simp only [ad_st, ad_sr, hx, h2, if_false]
        have ev : ∀ k w, k ≠ 4 → k ≠ 19 → m k (10 * s + w) = σ1 k (10 * s + w) := fun k w h4 h19 => e k _ (fun z => h4 z.1) (fun z => h19 z.1)
        have sm : ∀ w : Nat, w < ad_aC A → ad_sameV σ m s s2 w := fun w hw => by
          have h1 := e1 w (by omega)
          unfold ad_sameV at h1 ⊢
          rw [ad_nl_congr (ev 2 w (by decide) (by decide)) (ev 12 w (by decide) (by decide)), ad_ds_congr (ev 0 w (by decide) (by decide)) (ev 10 w (by decide) (by decide)) (ev 11 w (by decide) (by decide)), ev 6 w (by decide) (by decide)]
          exact h1
        refine ⟨⟨by rw [g4]; exact r1, by rw [g4]; exact r2, by rw [g4, g4, g4]; exact r3, fun h hh => by rw [g19 h hh]; exact r4 h hh, fun w hw => ⟨ad_nw_congr (ev 2 w (by decide) (by decide)) (ev 12 w (by decide) (by decide)) (e2 w hw).1, ad_dw_congr (ev 0 w (by decide) (by decide)) (ev 10 w (by decide) (by decide)) (ev 11 w (by decide) (by decide)) (e2 w hw).2⟩, fun w hw => ?_, fun w hw => ?_, ?_⟩, fun k i hk => ?_⟩
        · obtain ⟨a1, a2, a3, a4, a5, a6, a7⟩ := sm w (w2 w hw)
          rw [a1, a2, a6, a7]
          exact r6 w hw
        · obtain ⟨a1, a2, a3, a4, a5, a6, a7⟩ := sm w hw
          rw [a3, a4, a5]
          exact r7 w hw
        · exact ad_nw_congr ((e 2 _ (by omega) (by omega)).trans (ad_fr_u e0 2 _ (Or.inr (by omega)))) ((e 12 _ (by omega) (by omega)).trans (ad_fr_u e0 12 _ (Or.inr (by omega)))) hk.2
        · rw [e k i (fun z => hk (Or.inl z)) (fun z => hk (Or.inr (Or.inl z)))]
          exact e0 k i (fun z => hk (Or.inr (Or.inr (Or.inr z)))))
  have lp : ∀ (n : Nat) (v : Int) (σ1 : ad_Mem), (ad_fr (ad_Tu s) σ σ1) → (0 ≤ v) → (v ≤ ad_aC A) → (∀ w : Nat, (w : Int) < v → ad_sameV σ σ1 s s2 w) → (∀ w, w < 10 → ad_nw σ1 (10 * s + w) ∧ ad_dw σ1 (10 * s + w)) → (ad_aC A - v).toNat ≤ n → ad_R g mX4_copyFrom d (ad_ZV mX4_copyFrom (fun m => ad_rC m s A ∧ ad_fr (ad_Ts s) σ m)) 2 [some (ad_rf g 4 s), some (ad_rf g 4 s2), some (ad_iv v)] [] σ1 := by
    intro n
    induction n with
    | zero =>
      intro v σ1 e0 hv0 hv1 e1 e2 hn
      refine ad_iload_n dX4_copyFrom_2 rfl ?_
      refine ad_aload_n dX4_copyFrom_3 rfl ?_
      refine gf_X4_31 rfl (by omega) dX4_copyFrom_4 ?_
      have hc4 := ad_fr_u e0 4 s2 (Or.inl (by decide))
      rw [congrFun hc4 3]
      refine ad_icmp_ge 37 dX4_copyFrom_7 (by decide) (by omega) (by omega) (fun h7 => ?_) (fun h7 => ?_)
      · skip
        exact done v σ1 e0 hv0 (by omega) e1 e2
      · show ad_R _ _ _ _ 10 _ _ _
        exfalso; omega
    | succ n ih =>
      intro v σ1 e0 hv0 hv1 e1 e2 hn
      refine ad_iload_n dX4_copyFrom_2 rfl ?_
      refine ad_aload_n dX4_copyFrom_3 rfl ?_
      refine gf_X4_31 rfl (by omega) dX4_copyFrom_4 ?_
      have hc4 := ad_fr_u e0 4 s2 (Or.inl (by decide))
      rw [congrFun hc4 3]
      refine ad_icmp_ge 37 dX4_copyFrom_7 (by decide) (by omega) (by omega) (fun h7 => ?_) (fun h7 => ?_)
      · skip
        exact done v σ1 e0 hv0 (by omega) e1 e2
      · show ad_R _ _ _ _ 10 _ _ _
        refine ad_iload_n dX4_copyFrom_10 rfl ?_
        refine ad_bipush dX4_copyFrom_11 rfl ?_
        refine ad_icmp_ge 37 dX4_copyFrom_13 (by decide) (by omega) (by omega) (fun h13 => ?_) (fun h13 => ?_)
        · skip
          exact done v σ1 e0 hv0 (by omega) e1 e2
        · show ad_R _ _ _ _ 16 _ _ _
          have o : ∀ k, σ1 k (10 * s2 + v.toNat) = σ k (10 * s2 + v.toNat) := fun k => ad_fr_u e0 k _ (Or.inr (by omega))
          refine ad_aload_n dX4_copyFrom_16 rfl ?_
          refine gf_X4_11 rfl (by omega) dX4_copyFrom_17 ?_
          refine ad_iload_n dX4_copyFrom_20 rfl ?_
          refine ad_aald dX4_copyFrom_21 (by omega) (by omega) (by omega) ?_
          refine ad_aload_n dX4_copyFrom_22 rfl ?_
          refine gf_X4_11 rfl (by omega) dX4_copyFrom_23 ?_
          refine ad_iload_n dX4_copyFrom_26 rfl ?_
          refine ad_aald dX4_copyFrom_27 (by omega) (by omega) (by omega) ?_
          refine ad_cv1v rfl cl_X4_47 dX4_copyFrom_28 (c_X6_copyFrom (by omega) (by omega) (by omega) (by omega) (e2 v.toNat (by omega)).1 (ad_nw_congr (o 2) (o 12) (r5 v.toNat (by omega)).1) (e2 v.toNat (by omega)).2.2.2.2 (ad_dw_congr (o 0) (o 10) (o 11) (r5 v.toNat (by omega)).2)) (by omega) (by show _ < 30; omega) (Nat.le_of_ble_eq_true rfl) (fun s28 q28 => ?_)
          obtain ⟨t0, t1, t2, t3, t4, t5, t6, t7, t8, t9⟩ := q28
          rw [ad_nl_congr (o 2) (o 12)] at t1
          rw [ad_ds_congr (o 0) (o 10) (o 11)] at t3
          rw [o] at t5 t6 t7 t8 t9
          refine ad_iinc dX4_copyFrom_31 rfl (by decide) rfl (by dsimp only [ad_set]) ?_
          refine ad_goto 2 dX4_copyFrom_34 (by decide) ?_
          have tf : ∀ k w, w ≠ v.toNat → s28 k (10 * s + w) = σ1 k (10 * s + w) := fun k w hw => t0 k _ (fun z => hw (by have := z.2; omega))
          refine ih (v + 1) _ (e0.trans (t0.mono (fun k i h => ⟨by rcases h.1 with h | h | h | h | h | h <;> simp [h], by have := h.2; omega, by have := h.2; omega⟩))) (by omega) (by omega) (fun w hw => ?_) (fun w hw => ?_) (by omega)
          · by_cases hwv : w = v.toNat
            · rw [hwv]; exact ⟨t1, t3, t5, t6, t7, t8, t9⟩
            · have h1 := e1 w (by omega)
              unfold ad_sameV at h1 ⊢
              rw [ad_nl_congr (tf 2 w hwv) (tf 12 w hwv), ad_ds_congr (tf 0 w hwv) (tf 10 w hwv) (tf 11 w hwv), tf 6 w hwv]
              exact h1
          · by_cases hwv : w = v.toNat
            · rw [hwv]; exact ⟨t2, t4⟩
            · exact ⟨ad_nw_congr (tf 2 w hwv) (tf 12 w hwv) (e2 w hw).1, ad_dw_congr (tf 0 w hwv) (tf 10 w hwv) (tf 11 w hwv) (e2 w hw).2⟩
  refine ad_iconst dX4_copyFrom_0 ?_
  refine ad_istore_n dX4_copyFrom_1 (by decide) rfl (by dsimp only [ad_set]) ?_
  exact lp (ad_aC A) 0 _ ad_fr.refl (by omega) (by omega) (fun w hw => by omega) hk.1 (by omega)
