/-! ===== deltas made whole ===== -/
theorem c_X0_addStep2 {g : ad_G} {d : Nat} {σ : ad_Mem} {j a b : Nat} {p : Int} (h1d : 1 ≤ d) (hj : j < 32) (ha : a < 36) (hb : b < 36) (hwa : ad_nw σ a) (hwb : ad_nw σ b) (hp : 0 ≤ p ∧ p < σ 2 b 1) (h12 : σ 2 b 1 ≤ 12) (h0 : 0 ≤ σ 0 j 2) (h1 : σ 0 j 2 < 12) (hdr : ad_dr σ j) :
    ad_Q g mX0_addStep d [ad_rf g 0 j, ad_rf g 2 a, ad_rf g 2 b, ad_iv p] σ (fun x s => ad_fr (ad_Td j) σ s ∧ s 0 j 2 = σ 0 j 2 + 1 ∧ ad_dr s j ∧ ∃ (r : Int) (q : Int × Int), x = ad_iv r ∧ 1 ≤ r ∧ p + r ≤ σ 2 b 1 ∧ ad_ds s j = ad_ds σ j ++ [q] ∧ ad_dl (ad_nl σ a) ((ad_nl σ b).drop p.toNat) = q :: ad_dl (ad_nl σ a) ((ad_nl σ b).drop (p + r).toNat) ∧ s 0 j 3 = σ 0 j 3 + ad_nc [q]) := by
  refine (c_X0_addStep h1d hj ha hb hwa hwb hp h12 h0 h1 hdr).mono ?_
  rintro x s ⟨f1, f2, f3, f4⟩
  refine ⟨f1, f2, f3, ?_⟩
  have hcons := ad_nl_drop σ b p.toNat (by omega)
  have hb1 := ad_bs_le (ad_nl σ a) ((ad_nl σ b).drop p.toNat) (ad_nl σ a).length
  change (ad_bst (ad_nl σ a) ((ad_nl σ b).drop p.toNat)).1 ≤ _ ∧ _ at hb1
  rw [List.length_drop, ad_nl_len] at hb1
  by_cases hc : 2 ≤ (ad_bst (ad_nl σ a) ((ad_nl σ b).drop p.toNat)).1
  · rw [if_pos hc] at f4
    obtain ⟨rfl, f5, f6⟩ := f4
    refine ⟨_, _, rfl, by omega, by omega, f5, ?_, ?_⟩
    · rw [hcons] at hc ⊢
      rw [ad_dl_copy _ _ _ hc, ← hcons]
      congr 2
      rw [List.drop_drop]
      congr 1; omega
    · rw [f6]
      simp only [ad_nc]
      rw [if_pos (by show 0 < (((ad_bst (ad_nl σ a) ((ad_nl σ b).drop p.toNat)).1 : Nat) : Int); omega)]
      omega
  · rw [if_neg hc] at f4
    obtain ⟨rfl, f5, f6⟩ := f4
    refine ⟨1, _, rfl, by omega, by omega, f5, ?_, ?_⟩
    · rw [hcons] at hc
      rw [hcons, ad_dl_ins _ _ _ hc, show (p + 1).toNat = p.toNat + 1 by omega]
    · rw [f6]; simp [ad_nc]
theorem c_X0_make {g : ad_G} {d : Nat} {σ : ad_Mem} {j a b : Nat} (h2d : 2 ≤ d) (hj : j < 32) (ha : a < 36) (hb : b < 36) (hwa : ad_nw σ a) (hwb : ad_nw σ b) (h12 : σ 2 b 1 ≤ 12) (hdr : ad_dr σ j) : ad_V g mX0_make d [ad_rf g 0 j, ad_rf g 2 a, ad_rf g 2 b] σ (fun s => ad_fr (ad_Td j) σ s ∧ ad_ds s j = ad_dl (ad_nl σ a) (ad_nl σ b) ∧ ad_dw s j) := by
  have hwa0 := hwa
  have hwb0 := hwb
  obtain ⟨hwa1, hwa2, hwa3⟩ := hwa
  obtain ⟨hwb1, hwb2, hwb3⟩ := hwb
  have hlna := ad_len12 a
  have hlnb := ad_len12 b
  refine ad_M1 (k := 1) rfl (by simp [Value.category]) rfl (Nat.le_of_ble_eq_true rfl) ?_
  simp only [List.map_cons, List.map_nil, List.replicate, List.cons_append, List.nil_append]
  have loop : ∀ (n : Nat) (p : Int) (σ1 : ad_Mem), ad_fr (ad_Td j) σ σ1 → ad_dr σ1 j → 0 ≤ p → p ≤ σ 2 b 1 → 0 ≤ σ1 0 j 2 → σ1 0 j 2 ≤ p → σ1 0 j 3 = ad_nc (ad_ds σ1 j) → ad_ds σ1 j ++ ad_dl (ad_nl σ a) ((ad_nl σ b).drop p.toNat) = ad_dl (ad_nl σ a) (ad_nl σ b) → (σ 2 b 1 - p).toNat ≤ n →
      ad_R g mX0_make d (ad_ZV mX0_make (fun s => ad_fr (ad_Td j) σ s ∧ ad_ds s j = ad_dl (ad_nl σ a) (ad_nl σ b) ∧ ad_dw s j)) 12 [some (ad_rf g 0 j), some (ad_rf g 2 a), some (ad_rf g 2 b), some (ad_iv p)] [] σ1 := by
    intro n
    induction n with
    | zero =>
      intro p σ1 e0 e1 hp0 hp1 e2 e3 e4 e5 hn
      have fb := ad_fr_nl e0 b
      have fb3 := congrFun fb.2.2.1 1
      refine ad_iload_n dX0_make_12 rfl ?_
      refine ad_aload_n dX0_make_13 rfl ?_
      refine gf_X0_25 rfl (by omega) dX0_make_14 ?_
      refine ad_icmp_ge 50 dX0_make_17 (by decide) (by omega) (by omega) (fun h17 => ?_) (fun h17 => ?_)
      · skip
        exact ad_retv dX0_make_50 rfl (by
                have hz : ad_ds σ1 j = ad_dl (ad_nl σ a) (ad_nl σ b) := by rw [← e5, ad_nl_end σ b _ (by omega), ad_dl_nil, List.append_nil]
                exact ⟨e0, hz, by omega, by omega, e4, e1⟩)
      · show ad_R _ _ _ _ 20 _ _ _
        exfalso; omega
    | succ n ih =>
      intro p σ1 e0 e1 hp0 hp1 e2 e3 e4 e5 hn
      have fa := ad_fr_nl e0 a
      have fb := ad_fr_nl e0 b
      have fb3 := congrFun fb.2.2.1 1
      refine ad_iload_n dX0_make_12 rfl ?_
      refine ad_aload_n dX0_make_13 rfl ?_
      refine gf_X0_25 rfl (by omega) dX0_make_14 ?_
      refine ad_icmp_ge 50 dX0_make_17 (by decide) (by omega) (by omega) (fun h17 => ?_) (fun h17 => ?_)
      · skip
        exact ad_retv dX0_make_50 rfl (by
                have hz : ad_ds σ1 j = ad_dl (ad_nl σ a) (ad_nl σ b) := by rw [← e5, ad_nl_end σ b _ (by omega), ad_dl_nil, List.append_nil]
                exact ⟨e0, hz, by omega, by omega, e4, e1⟩)
      · show ad_R _ _ _ _ 20 _ _ _
        refine ad_aload_n dX0_make_20 rfl ?_
        refine gf_X0_18 rfl (by omega) dX0_make_21 ?_
        refine ad_aload_n dX0_make_24 rfl ?_
        refine gf_X0_9 rfl (by omega) dX0_make_25 ?_
        refine ad_alen (n := 12) dX0_make_28 (by show _ < 32; omega) ⟨by decide, by decide⟩ rfl ?_
        refine ad_icmp_lt 33 dX0_make_29 (by decide) (by omega) (by omega) (fun h29 => ?_) (fun h29 => ?_)
        · skip
          refine ad_iload_n dX0_make_33 rfl ?_
          refine ad_iconst dX0_make_34 ?_
          refine ad_aload_n dX0_make_35 rfl ?_
          refine ad_aload_n dX0_make_36 rfl ?_
          refine ad_aload_n dX0_make_37 rfl ?_
          refine ad_iload_n dX0_make_38 rfl ?_
          refine ad_cv3q rfl cl_X0_28 dX0_make_39 (c_X0_addStep2 (by omega) hj ha hb (fa.2.1 hwa0) (fb.2.1 hwb0) ⟨hp0, by omega⟩ (by omega) e2 (by omega) e1) (by omega) (by show _ < 32; omega) (Nat.le_of_ble_eq_true rfl) (fun x39 s39 q39 => ?_)
          obtain ⟨f1, f2, f3, r, q, rfl, f4, f5, f6, f7, f8⟩ := q39
          rw [fa.1, fb.1] at f7
          refine ad_mmax rfl lk_X0_32 dX0_make_42 (by omega) (by omega) (by omega) (Nat.le_of_ble_eq_true rfl) ?_
          rw [Int.max_eq_right f4]
          refine ad_iadd dX0_make_45 ?_
          refine ad_istore_n dX0_make_46 (by decide) rfl (by dsimp only [ad_set]) ?_
          refine ad_goto 12 dX0_make_47 (by decide) ?_
          exact ih (p + r) _ (e0.trans f1) f3 (by omega) (by omega) (by omega) (by omega) (by rw [f8, f6, ad_nc_app, e4]) (by rw [f6, List.append_assoc, List.singleton_append, ← f7]; exact e5) (by omega)
        · show ad_R _ _ _ _ 32 _ _ _
          exact ad_retv dX0_make_32 rfl (by exfalso; omega)
  refine ad_aload_n dX0_make_0 rfl ?_
  refine ad_iconst dX0_make_1 ?_
  refine pf_X0_18 rfl (by omega) dX0_make_2 ?_
  refine ad_aload_n dX0_make_5 rfl ?_
  refine ad_iconst dX0_make_6 ?_
  refine pf_X0_22 rfl (by omega) dX0_make_7 ?_
  refine ad_iconst dX0_make_10 ?_
  refine ad_istore_n dX0_make_11 (by decide) rfl (by dsimp only [ad_set]) ?_
  have hz : ad_ds (ad_st (ad_st σ 0 j 2 0) 0 j 3 0) j = [] := by simp [ad_ds, ad_st]
  exact loop (σ 2 b 1).toNat 0 _ ((ad_fr.st ⟨Or.inl rfl, rfl⟩).trans (ad_fr.st ⟨Or.inl rfl, rfl⟩)) (ad_dr_congr (by funext c; simp [ad_st]) (by funext c; simp [ad_st]) hdr) (by omega) (by omega) (by simp [ad_st]) (by simp [ad_st]) (by rw [hz]; simp [ad_st, ad_nc]) (by rw [hz]; simp) (by omega)
theorem c_X0_copyFrom {g : ad_G} {d : Nat} {σ : ad_Mem} {j j2 : Nat} (h1d : 1 ≤ d) (hj : j < 32) (hj2 : j2 < 32) (hne : j ≠ j2) (hw : ad_dw σ j2) (hdr : ad_dr σ j) : ad_V g mX0_copyFrom d [ad_rf g 0 j, ad_rf g 0 j2] σ (fun s => ad_fr (ad_Td j) σ s ∧ ad_ds s j = ad_ds σ j2 ∧ ad_dw s j) := by
  refine ad_M1 (k := 0) rfl (by simp [Value.category]) rfl (Nat.le_of_ble_eq_true rfl) ?_
  simp only [List.map_cons, List.map_nil, List.replicate, List.cons_append, List.nil_append]
  refine ad_aload_n dX0_copyFrom_0 rfl ?_
  refine gf_X0_9 rfl (by omega) dX0_copyFrom_1 ?_
  refine ad_iconst dX0_copyFrom_4 ?_
  refine ad_aload_n dX0_copyFrom_5 rfl ?_
  refine gf_X0_9 rfl (by omega) dX0_copyFrom_6 ?_
  refine ad_iconst dX0_copyFrom_9 ?_
  refine ad_bipush dX0_copyFrom_10 rfl ?_
  refine ad_copy rfl lk_X0_57 dX0_copyFrom_12 (by omega) (by show _ < 32; omega) (by show _ < 32; omega) ⟨by decide, by decide⟩ ⟨by decide, by decide⟩ (Nat.le_of_ble_eq_true rfl) (by omega) (by omega) (by omega) (by show _ ≤ ((12 : Nat) : Int); omega) (by show _ ≤ ((12 : Nat) : Int); omega) ?_
  refine ad_aload_n dX0_copyFrom_15 rfl ?_
  refine gf_X0_15 rfl (by omega) dX0_copyFrom_16 ?_
  refine ad_iconst dX0_copyFrom_19 ?_
  refine ad_aload_n dX0_copyFrom_20 rfl ?_
  refine gf_X0_15 rfl (by omega) dX0_copyFrom_21 ?_
  refine ad_iconst dX0_copyFrom_24 ?_
  refine ad_bipush dX0_copyFrom_25 rfl ?_
  refine ad_copy rfl lk_X0_57 dX0_copyFrom_27 (by omega) (by show _ < 32; omega) (by show _ < 32; omega) ⟨by decide, by decide⟩ ⟨by decide, by decide⟩ (Nat.le_of_ble_eq_true rfl) (by omega) (by omega) (by omega) (by show _ ≤ ((12 : Nat) : Int); omega) (by show _ ≤ ((12 : Nat) : Int); omega) ?_
  refine ad_aload_n dX0_copyFrom_30 rfl ?_
  refine ad_aload_n dX0_copyFrom_31 rfl ?_
  refine gf_X0_18 rfl (by omega) dX0_copyFrom_32 ?_
  refine pf_X0_18 rfl (by omega) dX0_copyFrom_35 ?_
  refine ad_aload_n dX0_copyFrom_38 rfl ?_
  refine ad_aload_n dX0_copyFrom_39 rfl ?_
  refine gf_X0_22 rfl (by omega) dX0_copyFrom_40 ?_
  refine pf_X0_22 rfl (by omega) dX0_copyFrom_43 ?_
  exact ad_retv dX0_copyFrom_46 rfl (by
      generalize hs : ad_st _ 0 j 3 _ = s
      have f0 : ad_fr (ad_Td j) σ s := by
        rw [← hs]
        exact (((ad_fr.sr ⟨Or.inr (Or.inl rfl), rfl⟩).trans (ad_fr.sr ⟨Or.inr (Or.inr rfl), rfl⟩)).trans (ad_fr.st ⟨Or.inl rfl, rfl⟩)).trans (ad_fr.st ⟨Or.inl rfl, rfl⟩)
      have n1 : ¬ j2 = j := fun q => hne q.symm
      have g2 : s 0 j 2 = σ 0 j2 2 := by rw [← hs]; simp [ad_st, ad_sr]
      have g3 : s 0 j 3 = σ 0 j2 3 := by rw [← hs]; simp [ad_st, ad_sr, n1]
      have g10 : ∀ k, s 10 j k = if k < 12 then σ 10 j2 k else σ 10 j k := by intro k; rw [← hs]; simp [ad_st, ad_sr]
      have g11 : ∀ k, s 11 j k = if k < 12 then σ 11 j2 k else σ 11 j k := by intro k; rw [← hs]; simp [ad_st, ad_sr]
      obtain ⟨w0, w1, w2, w3⟩ := hw
      have hd : ad_ds s j = ad_ds σ j2 := by
        unfold ad_ds
        rw [g2]
        apply List.map_congr_left
        intro k hk
        have := List.mem_range.mp hk
        rw [g10, g11, if_pos (by omega), if_pos (by omega)]
      refine ⟨f0, hd, by omega, by omega, by rw [hd, g3]; exact w2, fun k => ?_⟩
      have h1 := w3 k
      have h2 := hdr k
      rw [g10, g11]
      by_cases hk : k < 12
      · rw [if_pos hk, if_pos hk]; exact h1
      · rw [if_neg hk, if_neg hk]; exact h2)
