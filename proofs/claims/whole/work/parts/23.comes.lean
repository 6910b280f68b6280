/-! ===== a version more ===== -/
def ad_add (A : ad_Ar) (l : List Int) (p q : Int) : ad_Ar :=
  ad_mk (ad_aC A + 1) (fun v => if v = ad_aC A then true else ad_aH A v) (fun v => if v = ad_aC A then l else ad_aL A v) (fun v => if v = ad_aC A then p else ad_aP A v) (fun v => if v = ad_aC A then q else ad_aQ A v) (fun v => if v = ad_aC A then ad_hs l else ad_aG A v) (fun v => if v = ad_aC A then -1 else ad_aB A v) (fun v => if v = ad_aC A then [] else ad_aT A v) (ad_aE A) (ad_aK A) (ad_aF A) (ad_aN A)
theorem ad_wA_add {A : ad_Ar} (hw : ad_wA A) {l : List Int} {p q : Int} (hc : ad_aC A < 10) (hl : 1 ≤ l.length ∧ l.length ≤ 12 ∧ ∀ x ∈ l, 0 ≤ x ∧ x ≤ 7) (hp : -1 ≤ p ∧ p < ad_aC A) (hq : -1 ≤ q ∧ q < ad_aC A) : ad_wA (ad_add A l p q) := by
  obtain ⟨w1, w2, w3, w4, w5, ⟨dep, w6⟩, w7, w8, w9a, w9b, w9c, w9d⟩ := hw
  have hne : ∀ v, ad_aH A v = true → v ≠ ad_aC A := fun v hv => by have := w2 v hv; omega
  unfold ad_add ad_wA
  simp only [ad_mkC, ad_mkH, ad_mkL, ad_mkP, ad_mkQ, ad_mkG, ad_mkB, ad_mkT, ad_mkE, ad_mkK, ad_mkF, ad_mkN]
  have hhs := ad_hs_fold l (fun x hx => by have := hl.2.2 x hx; omega) 7 (by omega) (by omega)
  refine ⟨by omega, fun v hv => ?_, fun v hv => ?_, fun v => ?_, fun v hv => ?_, ⟨fun v => if v = ad_aC A then 0 else dep v, fun v hv => ?_⟩, fun h hh => ?_, w8, fun v hv => ?_, fun v hv => ?_, fun v hv => ?_, w9d⟩
  · by_cases h : v = ad_aC A
    · omega
    · rw [if_neg h] at hv; have := w2 v hv; omega
  · by_cases h : v = ad_aC A
    · simp only [h, if_true]; exact ⟨hl, hhs⟩
    · simp only [h, if_false] at hv ⊢; exact w3 v hv
  · have := w4 v
    by_cases h : v = ad_aC A
    · simp only [h, if_true]; omega
    · simp only [h, if_false]; exact this
  · by_cases h : v = ad_aC A
    · simp [h]
    · simp only [h, if_false] at hv ⊢
      have h5 := w5 v hv
      refine ⟨h5.1, fun hb => ?_⟩
      have h6 := h5.2 hb
      have h7 := hne _ h6.2.1
      simp only [h7, if_false]
      exact h6
  · by_cases h : v = ad_aC A
    · simp [h]
    · simp only [h, if_false] at hv ⊢
      have h5 := w6 v hv
      refine ⟨h5.1, h5.2.1, fun hb => ?_⟩
      have h7 := hne _ ((w5 v hv).2 hb).2.1
      simp only [h7, if_false]
      exact h5.2.2 hb
  · have h7 := w7 h hh
    refine ⟨h7.1, fun hb => ?_⟩
    have h8 := h7.2 hb
    have h9 := hne _ h8.2
    simp only [h9, if_false]
    exact h8
  · by_cases h : v = ad_aC A
    · simp [h] at hv
    · simp only [h, if_false] at hv ⊢; exact w9a v hv
  · have h : v ≠ ad_aC A := by omega
    simp only [h, if_false]
    exact w9b v (by omega)
  · by_cases h : v = ad_aC A
    · simp [h]
    · simp only [h, if_false] at hv ⊢; exact w9c v hv
theorem ad_reach_congr {P Q P' Q' : Nat → Int} (hp : ad_pw P Q) (hp' : ad_pw P' Q') : ∀ (n v : Nat), v < n → (∀ u, u ≤ v → P' u = P u ∧ Q' u = Q u) → ad_reach P' Q' v = ad_reach P Q v := by
  intro n
  induction n with
  | zero => intro v h; omega
  | succ n ih =>
    intro v hv h
    funext w
    have hv2 := hp v
    rw [ad_reach_eq hp, ad_reach_eq hp', (h v (Nat.le_refl v)).1, (h v (Nat.le_refl v)).2]
    congr 1
    · congr 1
      by_cases hh : 0 ≤ P v
      · rw [ih (P v).toNat (by omega) (fun u hu => h u (by omega))]
      · simp [hh]
    · by_cases hh : 0 ≤ Q v
      · rw [ih (Q v).toNat (by omega) (fun u hu => h u (by omega))]
      · simp [hh]
def ad_Tw (j : Nat) (k i : Nat) : Prop := (k = 2 ∨ k = 6 ∨ k = 12) ∧ i = j
theorem ad_rC_new {σ σ' : ad_Mem} {s : Nat} {A : ad_Ar} (hs : s < 3) (hr : ad_rC σ s A) (hw : ad_wA A) (hc : ad_aC A < 10) (hf : ad_fr (ad_Tw (10 * s + ad_aC A)) σ σ') (hn : ad_nw σ' (10 * s + ad_aC A)) : ad_rC σ' s A := by
  obtain ⟨r1, r2, r3, r4, r5, r6, r7, r8⟩ := hr
  have w2 := hw.2.1
  have e : ∀ k i, ¬ (k = 2 ∨ k = 6 ∨ k = 12) ∨ i ≠ 10 * s + ad_aC A → σ' k i = σ k i := fun k i h => hf k i (fun q => h.elim (fun z => z q.1) (fun z => z q.2))
  have e4 := e 4 s (Or.inl (by decide))
  have e19 := e 19 s (Or.inl (by decide))
  refine ⟨by rw [e4]; exact r1, by rw [e4]; exact r2, by rw [e4]; exact r3, fun h hh => by rw [e19]; exact r4 h hh, fun v hv => ?_, fun v hv => ?_, fun v hv => ?_, ad_nw_congr (e 2 _ (Or.inr (by omega))) (e 12 _ (Or.inr (by omega))) r8⟩
  · refine ⟨?_, ad_dw_congr (e 0 _ (Or.inl (by decide))) (e 10 _ (Or.inl (by decide))) (e 11 _ (Or.inl (by decide))) (r5 v hv).2⟩
    by_cases h : v = ad_aC A
    · rw [h]; exact hn
    · exact ad_nw_congr (e 2 _ (Or.inr (by omega))) (e 12 _ (Or.inr (by omega))) (r5 v hv).1
  · have h := w2 v hv
    rw [ad_nl_congr (e 2 _ (Or.inr (by omega))) (e 12 _ (Or.inr (by omega))), ad_ds_congr (e 0 _ (Or.inl (by decide))) (e 10 _ (Or.inl (by decide))) (e 11 _ (Or.inl (by decide))), e 6 _ (Or.inr (by omega))]
    exact r6 v hv
  · rw [e 6 _ (Or.inr (by omega))]
    exact r7 v hv
theorem c_X4_comes {g : ad_G} {d : Nat} {σ : ad_Mem} {s : Nat} {A : ad_Ar} (hs : s < 3) (hr : ad_rC σ s A) (hw : ad_wA A) {j : Nat} {p q : Int} (h2d : 2 ≤ d) (hc : ad_aC A < 10) (hj : j < 36) (hj2 : j ≠ (10 * s + ad_aC A)) (hj3 : ad_nw σ j) (hl : 1 ≤ (ad_nl σ j).length ∧ (ad_nl σ j).length ≤ 12 ∧ ∀ x ∈ ad_nl σ j, 0 ≤ x ∧ x ≤ 7) (hp : -1 ≤ p ∧ p < ad_aC A) (hq : -1 ≤ q ∧ q < ad_aC A) : ad_Q g mX4_comes d [ad_rf g 4 s, ad_iv p, ad_iv q, ad_rf g 2 j] σ (fun x m => x = ad_iv (ad_aC A : Int) ∧ ad_rC m s (ad_add A (ad_nl σ j) p q) ∧ ad_fr (ad_Ts s) σ m) := by
  have hr0 := hr
  have hw0 := hw
  obtain ⟨r1, r2, r3, r4, r5, r6, r7, r8⟩ := hr
  obtain ⟨w1, w2, w3, w4, w5, w6, w7, w8, w9⟩ := hw
  have r2b := ad_bits_lt (ad_aH A)
  have hwa := ad_wA_add hw0 (l := ad_nl σ j) hc hl hp hq
  have hle : σ 2 j 1 ≤ (ad_len 12 (10 * s + ad_aC A) : Int) := by
    have h1 := ad_nl_len σ j
    have h2 := ad_len12 (10 * s + ad_aC A)
    have h3 := hj3.1
    omega
  refine ad_M1 (k := 1) rfl (by simp [Value.category]) rfl (Nat.le_of_ble_eq_true rfl) ?_
  simp only [List.map_cons, List.map_nil, List.replicate, List.cons_append, List.nil_append]
  refine ad_aload_n dX4_comes_0 rfl ?_
  refine gf_X4_31 rfl (by omega) dX4_comes_1 ?_
  refine ad_if_lt 16 dX4_comes_4 (by decide) (by omega) (fun h4 => ?_) (fun h4 => ?_)
  · skip
    exfalso; omega
  · show ad_R _ _ _ _ 7 _ _ _
    refine ad_aload_n dX4_comes_7 rfl ?_
    refine gf_X4_31 rfl (by omega) dX4_comes_8 ?_
    refine ad_bipush dX4_comes_11 rfl ?_
    refine ad_icmp_lt 18 dX4_comes_13 (by decide) (by omega) (by omega) (fun h13 => ?_) (fun h13 => ?_)
    · skip
      refine ad_aload_n dX4_comes_18 rfl ?_
      refine gf_X4_11 rfl (by omega) dX4_comes_19 ?_
      refine ad_aload_n dX4_comes_22 rfl ?_
      refine gf_X4_31 rfl (by omega) dX4_comes_23 ?_
      rw [r1]
      refine ad_aald dX4_comes_26 (by omega) (by omega) (by omega) ?_
      rw [Int.toNat_natCast]
      refine ad_astore dX4_comes_27 (by decide) rfl (by dsimp only [ad_set]) ?_
      refine ad_aload dX4_comes_29 rfl ?_
      refine gf_X4_61 rfl (by omega) dX4_comes_31 ?_
      refine ad_aload_n dX4_comes_34 rfl ?_
      refine ad_cv1v rfl cl_X4_73 dX4_comes_35 (c_X2_copyFrom (by omega) (by omega) hj (r5 _ hc).1 hj3 hle) (by omega) (by show _ < 36; omega) (Nat.le_of_ble_eq_true rfl) (fun s35 q35 => ?_)
      obtain ⟨a1, a2, a3, a4⟩ := ad_cpy_nl (r5 _ hc).1 hj3 hle q35
      have b2 := ad_fr_n a3 2 j (Or.inr hj2)
      have b12 := ad_fr_n a3 12 j (Or.inr hj2)
      have t0 : ad_fr (ad_Tw (10 * s + ad_aC A)) σ s35 := a3.mono (fun k i h => ⟨by rcases h.1 with h | h <;> simp [h], h.2⟩)
      refine ad_aload dX4_comes_38 rfl ?_
      refine ad_aload_n dX4_comes_40 rfl ?_
      refine ad_cv0f rfl cl_X4_76 dX4_comes_41 (c_X2_hashed hj (ad_nw_congr b2 b12 hj3)) (by omega) (by show _ < 36; omega) (Nat.le_of_ble_eq_true rfl) ?_
      rw [ad_nl_congr b2 b12]
      refine pf_X4_80 rfl (by omega) dX4_comes_44 ?_
      refine ad_aload dX4_comes_47 rfl ?_
      refine ad_iload_n dX4_comes_49 rfl ?_
      refine pf_X4_67 rfl (by omega) dX4_comes_50 ?_
      refine ad_aload dX4_comes_53 rfl ?_
      refine ad_iload_n dX4_comes_55 rfl ?_
      refine pf_X4_70 rfl (by omega) dX4_comes_56 ?_
      refine ad_aload dX4_comes_59 rfl ?_
      refine ad_iconst dX4_comes_61 ?_
      refine ad_aload_n dX4_comes_62 rfl ?_
      refine gf_X4_31 rfl (by omega) dX4_comes_63 ?_
      rw [show ∀ (a : ad_Mem) x y z, ad_st (ad_st (ad_st a 6 (10 * s + ad_aC A) 5 x) 6 (10 * s + ad_aC A) 2 y) 6 (10 * s + ad_aC A) 3 z 4 s 3 = a 4 s 3 from fun a x y z => by simp [ad_st], ad_fr_n a3 4 s (Or.inl (by decide)), r1]
      refine ad_ishl dX4_comes_66 ?_
      refine ad_aload_n dX4_comes_67 rfl ?_
      refine ad_iload_n dX4_comes_68 rfl ?_
      refine ad_cv1f rfl cl_X4_83 dX4_comes_69 (c_X4_reachOf hs (ad_rC_new hs hr0 hw0 hc (((t0.trans (ad_fr.st ⟨by simp, rfl⟩)).trans (ad_fr.st ⟨by simp, rfl⟩)).trans (ad_fr.st ⟨by simp, rfl⟩)) (ad_nw_congr (by funext z; simp [ad_st]) (by funext z; simp [ad_st]) a2)) hw0 (by omega)) (by omega) (by show _ < 3; omega) (Nat.le_of_ble_eq_true rfl) ?_
      refine ad_ior dX4_comes_72 ?_
      refine ad_aload_n dX4_comes_73 rfl ?_
      refine ad_iload_n dX4_comes_74 rfl ?_
      refine ad_cv1f rfl cl_X4_83 dX4_comes_75 (c_X4_reachOf hs (ad_rC_new hs hr0 hw0 hc (((t0.trans (ad_fr.st ⟨by simp, rfl⟩)).trans (ad_fr.st ⟨by simp, rfl⟩)).trans (ad_fr.st ⟨by simp, rfl⟩)) (ad_nw_congr (by funext z; simp [ad_st]) (by funext z; simp [ad_st]) a2)) hw0 (by omega)) (by omega) (by show _ < 3; omega) (Nat.le_of_ble_eq_true rfl) ?_
      refine ad_ior dX4_comes_78 ?_
      refine pf_X4_87 rfl (by omega) dX4_comes_79 ?_
      refine ad_aload dX4_comes_82 rfl ?_
      refine ad_iconst dX4_comes_84 ?_
      refine pf_X4_90 rfl (by omega) dX4_comes_85 ?_
      refine ad_aload_n dX4_comes_88 rfl ?_
      refine ad_dup dX4_comes_89 rfl ?_
      refine gf_X4_35 rfl (by omega) dX4_comes_90 ?_
      refine ad_iconst dX4_comes_93 ?_
      refine ad_aload_n dX4_comes_94 rfl ?_
      refine gf_X4_31 rfl (by omega) dX4_comes_95 ?_
      rw [show ∀ (a : ad_Mem) x y z u w, ad_st (ad_st (ad_st (ad_st (ad_st a 6 (10 * s + ad_aC A) 5 x) 6 (10 * s + ad_aC A) 2 y) 6 (10 * s + ad_aC A) 3 z) 6 (10 * s + ad_aC A) 4 u) 6 (10 * s + ad_aC A) 6 w 4 s 3 = a 4 s 3 from fun a x y z u w => by simp [ad_st], show ∀ (a : ad_Mem) x y z u w, ad_st (ad_st (ad_st (ad_st (ad_st a 6 (10 * s + ad_aC A) 5 x) 6 (10 * s + ad_aC A) 2 y) 6 (10 * s + ad_aC A) 3 z) 6 (10 * s + ad_aC A) 4 u) 6 (10 * s + ad_aC A) 6 w 4 s 4 = a 4 s 4 from fun a x y z u w => by simp [ad_st], ad_fr_n a3 4 s (Or.inl (by decide)), r1]
      refine ad_ishl dX4_comes_98 ?_
      refine ad_ior dX4_comes_99 ?_
      refine pf_X4_35 rfl (by omega) dX4_comes_100 ?_
      refine ad_aload_n dX4_comes_103 rfl ?_
      refine ad_dup dX4_comes_104 rfl ?_
      refine gf_X4_31 rfl (by omega) dX4_comes_105 ?_
      rw [show ∀ (a : ad_Mem) x y z u w t, ad_st (ad_st (ad_st (ad_st (ad_st (ad_st a 6 (10 * s + ad_aC A) 5 x) 6 (10 * s + ad_aC A) 2 y) 6 (10 * s + ad_aC A) 3 z) 6 (10 * s + ad_aC A) 4 u) 6 (10 * s + ad_aC A) 6 w) 4 s 4 t 4 s 3 = a 4 s 3 from fun a x y z u w t => by simp [ad_st], ad_fr_n a3 4 s (Or.inl (by decide)), r1]
      refine ad_iconst dX4_comes_108 ?_
      refine ad_iadd dX4_comes_109 ?_
      refine pf_X4_31 rfl (by omega) dX4_comes_110 ?_
      refine ad_aload_n dX4_comes_113 rfl ?_
      refine gf_X4_31 rfl (by omega) dX4_comes_114 ?_
      rw [show ∀ (a : ad_Mem) y, ad_st a 4 s 3 y 4 s 3 = y from fun a y => by simp [ad_st]]
      refine ad_iconst dX4_comes_117 ?_
      refine ad_isub dX4_comes_118 ?_
      exact ad_reti dX4_comes_119 rfl (by
        generalize hm : ad_st _ 4 s 3 _ = m
        have hpw := hwa.2.2.2.1
        have hj6 : ∀ k, m 6 (10 * s + ad_aC A) k = if k = 6 then -1 else if k = 4 then ad_or (ad_or (ad_shl 1 (ad_aC A : Int)) (ad_bits (ad_rOf A p) : Nat)) (ad_bits (ad_rOf A q) : Nat) else if k = 3 then q else if k = 2 then p else if k = 5 then ad_hs (ad_nl σ j) else s35 6 (10 * s + ad_aC A) k := by
          intro k
          rw [← hm]
          simp only [ad_st, true_and, and_true]
          simp
        have h4 : ∀ k, m 4 s k = if k = 3 then (ad_aC A : Int) + 1 else if k = 4 then ad_or (σ 4 s 4) (ad_shl 1 (ad_aC A : Int)) else σ 4 s k := by
          intro k
          rw [← hm]
          simp only [ad_st, true_and, and_true]
          simp only [ad_fr_n a3 4 s (Or.inl (by decide)), r1]
          simp
        have hoth : ∀ a b, ¬ (a = 4 ∧ b = s) → ¬ (a = 6 ∧ b = (10 * s + ad_aC A)) → m a b = s35 a b := by
          intro a b hab hab2
          funext c
          rw [← hm]
          simp only [ad_st]
          have hx : ∀ z, ¬ (a = 4 ∧ b = s ∧ c = z) := fun z q => hab ⟨q.1, q.2.1⟩
          have hy : ∀ z, ¬ (a = 6 ∧ b = (10 * s + ad_aC A) ∧ c = z) := fun z q => hab2 ⟨q.1, q.2.1⟩
          simp only [hx, hy, if_false]
        have hoth2 : ∀ a b, ¬ (a = 4 ∧ b = s) → ¬ ad_Tw (10 * s + ad_aC A) a b → m a b = σ a b := fun a b h1 h2 => by
          rw [hoth a b h1 (fun q => h2 ⟨by simp [q.1], q.2⟩)]
          exact t0 a b h2
        have e : ∀ k i, k ≠ 4 → (¬ (k = 2 ∨ k = 6 ∨ k = 12) ∨ i ≠ (10 * s + ad_aC A)) → m k i = σ k i := fun k i h4 h => hoth2 k i (fun z => h4 z.1) (fun z => h.elim (fun y => y z.1) (fun y => y z.2))
        refine ⟨by congr 1; omega, ⟨?_, ?_, ?_, ?_, ?_, ?_, ?_, ?_⟩, ?_⟩
        · rw [h4]; simp only [ad_add, ad_mkC]; simp
        · rw [h4, if_neg (by decide), if_pos rfl, r2, ad_one_bits hc, ad_or_bits]
          simp only [ad_add, ad_mkH]
          congr 2
          funext w
          by_cases hh : w = ad_aC A
          · simp [hh]
          · simp [hh]
        · rw [h4, h4, h4]; simp only [ad_add, ad_mkK, ad_mkF, ad_mkN]; exact r3
        · intro h hh
          rw [e 19 s (by decide) (Or.inl (by decide))]; exact r4 h hh
        · intro v hv
          refine ⟨?_, ad_dw_congr (e 0 _ (by decide) (Or.inl (by decide))) (e 10 _ (by decide) (Or.inl (by decide))) (e 11 _ (by decide) (Or.inl (by decide))) (r5 v hv).2⟩
          by_cases hh : v = ad_aC A
          · rw [hh]; exact ad_nw_congr (hoth 2 _ (by omega) (by omega)) (hoth 12 _ (by omega) (by omega)) a2
          · exact ad_nw_congr (e 2 _ (by decide) (Or.inr (by omega))) (e 12 _ (by decide) (Or.inr (by omega))) (r5 v hv).1
        · intro v hv
          simp only [ad_add, ad_mkH, ad_mkL, ad_mkG, ad_mkB, ad_mkT] at hv ⊢
          by_cases hh : v = ad_aC A
          · simp only [hh, if_true]
            rw [ad_nl_congr (hoth 2 _ (by omega) (by omega)) (hoth 12 _ (by omega) (by omega)), hj6, hj6]
            exact ⟨a1, rfl, rfl, fun z => absurd rfl z⟩
          · simp only [hh, if_false] at hv ⊢
            rw [ad_nl_congr (e 2 _ (by decide) (Or.inr (by omega))) (e 12 _ (by decide) (Or.inr (by omega))), ad_ds_congr (e 0 _ (by decide) (Or.inl (by decide))) (e 10 _ (by decide) (Or.inl (by decide))) (e 11 _ (by decide) (Or.inl (by decide))), e 6 _ (by decide) (Or.inr (by omega))]
            exact r6 v hv
        · intro v hv
          simp only [ad_add, ad_mkC, ad_mkP, ad_mkQ] at hv ⊢
          have hpw2 := hpw
          simp only [ad_add, ad_mkP, ad_mkQ] at hpw2
          by_cases hh : v = ad_aC A
          · simp only [hh, if_true]
            rw [hj6, hj6, hj6]
            refine ⟨rfl, rfl, ?_⟩
            rw [if_neg (by decide), if_pos rfl, ad_one_bits hc, ad_or_bits, ad_or_bits]
            congr 2
            funext w
            rw [ad_reach_eq hpw2]
            simp only [if_true]
            have key : ∀ z : Int, -1 ≤ z ∧ z < ad_aC A → (decide (0 ≤ z) && ad_reach (fun v => if v = ad_aC A then p else ad_aP A v) (fun v => if v = ad_aC A then q else ad_aQ A v) z.toNat w) = ad_rOf A z w := by
              intro z hz
              unfold ad_rOf
              by_cases h0 : 0 ≤ z
              · rw [decide_eq_true h0, decide_eq_true (by omega : 0 ≤ z ∧ z < (ad_aC A : Int)), ad_reach_congr w4 hpw2 (z.toNat + 1) z.toNat (by omega) (fun u hu => ⟨if_neg (by omega), if_neg (by omega)⟩)]
              · rw [decide_eq_false h0, decide_eq_false (by omega : ¬ (0 ≤ z ∧ z < (ad_aC A : Int)))]; simp
            rw [key p hp, key q hq]
            congr 2
          · simp only [hh, if_false]
            rw [e 6 _ (by decide) (Or.inr (by omega)), ad_reach_congr w4 hpw2 (v + 1) v (by omega) (fun u hu => ⟨if_neg (by omega), if_neg (by omega)⟩)]
            exact r7 v (by omega)
        · exact ad_nw_congr (e 2 _ (by decide) (Or.inr (by omega))) (e 12 _ (by decide) (Or.inr (by omega))) r8
        · intro k i hk
          refine hoth2 k i (fun z => hk (Or.inl z)) (fun z => hk ?_)
          right; right; right
          refine ⟨by rcases z.1 with h | h | h <;> simp [h], by have := z.2; omega, by have := z.2; omega⟩)
    · show ad_R _ _ _ _ 16 _ _ _
      exfalso; omega
