/-! ===== the rows of numbers (Numbers) ===== -/
theorem c_X2_isFull {g : ad_G} {d : Nat} {σ : ad_Mem} {j : Nat} (hj : j < 36) (hw : ad_nw σ j) : ad_Q g mX2_isFull d [ad_rf g 2 j] σ (fun x s => x = ad_pv ((ad_len 12 j : Int) ≤ σ 2 j 1) ∧ s = σ) := by
  obtain ⟨hw0, hw1, hw2⟩ := hw
  have hln := ad_len12 j
  refine ad_M1 (k := 0) rfl (by simp [Value.category]) rfl (Nat.le_of_ble_eq_true rfl) ?_
  refine ad_aload_n dX2_isFull_0 rfl ?_
  refine gf_X2_21 rfl (by omega) dX2_isFull_1 ?_
  refine ad_aload_n dX2_isFull_4 rfl ?_
  refine gf_X2_15 rfl (by omega) dX2_isFull_5 ?_
  refine ad_alen dX2_isFull_8 (by show _ < 36; omega) ⟨by decide, by decide⟩ rfl ?_
  refine ad_icmp_lt 16 dX2_isFull_9 (by decide) (by omega) (by omega) (fun h9 => ?_) (fun h9 => ?_)
  · skip
    refine ad_iconst dX2_isFull_16 ?_
    exact ad_ret0 dX2_isFull_17 rfl (⟨ad_pv_f (by omega), rfl⟩)
  · skip
    refine ad_iconst dX2_isFull_12 ?_
    refine ad_goto 17 dX2_isFull_13 (by decide) ?_
    exact ad_ret1 dX2_isFull_17 rfl (⟨ad_pv_t (by omega), rfl⟩)
theorem c_X2_add {g : ad_G} {d : Nat} {σ : ad_Mem} {j : Nat} {x : Int} (hj : j < 36) (hw : ad_nw σ j) (hr : σ 2 j 1 < (ad_len 12 j : Int)) : ad_V g mX2_add d [ad_rf g 2 j, ad_iv x] σ (fun s => s = ad_st (ad_st σ 12 j (σ 2 j 1).toNat x) 2 j 1 (σ 2 j 1 + 1)) := by
  obtain ⟨hw0, hw1, hw2⟩ := hw
  have hln := ad_len12 j
  refine ad_M1 (k := 0) rfl (by simp [Value.category]) rfl (Nat.le_of_ble_eq_true rfl) ?_
  refine ad_aload_n dX2_add_0 rfl ?_
  refine gf_X2_21 rfl (by omega) dX2_add_1 ?_
  refine ad_if_lt 39 dX2_add_4 (by decide) (by omega) (fun h4 => ?_) (fun h4 => ?_)
  · skip
    exact ad_retv dX2_add_39 rfl (by first | rfl | (exfalso; omega))
  · skip
    refine ad_aload_n dX2_add_7 rfl ?_
    refine gf_X2_21 rfl (by omega) dX2_add_8 ?_
    refine ad_aload_n dX2_add_11 rfl ?_
    refine gf_X2_15 rfl (by omega) dX2_add_12 ?_
    refine ad_alen dX2_add_15 (by show _ < 36; omega) ⟨by decide, by decide⟩ rfl ?_
    refine ad_icmp_ge 39 dX2_add_16 (by decide) (by omega) (by omega) (fun h16 => ?_) (fun h16 => ?_)
    · skip
      exact ad_retv dX2_add_39 rfl (by first | rfl | (exfalso; omega))
    · skip
      refine ad_aload_n dX2_add_19 rfl ?_
      refine gf_X2_15 rfl (by omega) dX2_add_20 ?_
      refine ad_aload_n dX2_add_23 rfl ?_
      refine gf_X2_21 rfl (by omega) dX2_add_24 ?_
      refine ad_iload_n dX2_add_27 rfl ?_
      refine ad_iast dX2_add_28 (by show _ < 36; omega) ⟨by decide, by decide⟩ (by omega) (by omega) ?_
      refine ad_aload_n dX2_add_29 rfl ?_
      refine ad_dup dX2_add_30 rfl ?_
      refine gf_X2_21 rfl (by omega) dX2_add_31 ?_
      refine ad_iconst dX2_add_34 ?_
      refine ad_iadd dX2_add_35 ?_
      refine pf_X2_21 rfl (by omega) dX2_add_36 ?_
      exact ad_retv dX2_add_39 rfl (by first | rfl | (exfalso; omega))
theorem c_X2_at {g : ad_G} {d : Nat} {σ : ad_Mem} {j : Nat} {i : Int} (hj : j < 36) (hw : ad_nw σ j) (hi : ad_rng i) : ad_Q g mX2_at d [ad_rf g 2 j, ad_iv i] σ (fun x s => x = ad_iv (if 0 ≤ i ∧ i < σ 2 j 1 then σ 12 j i.toNat else -1) ∧ s = σ) := by
  obtain ⟨hw0, hw1, hw2⟩ := hw
  have hln := ad_len12 j
  refine ad_M1 (k := 0) rfl (by simp [Value.category]) rfl (Nat.le_of_ble_eq_true rfl) ?_
  refine ad_iload_n dX2_at_0 rfl ?_
  refine ad_if_lt 30 dX2_at_1 (by decide) (by omega) (fun h1 => ?_) (fun h1 => ?_)
  · skip
    refine ad_iconst dX2_at_30 ?_
    exact ad_reti dX2_at_31 rfl (by first | (exfalso; omega) | exact ⟨by rw [if_pos (by omega)], rfl⟩ | exact ⟨by rw [if_neg (by omega)], rfl⟩)
  · skip
    refine ad_iload_n dX2_at_4 rfl ?_
    refine ad_aload_n dX2_at_5 rfl ?_
    refine gf_X2_21 rfl (by omega) dX2_at_6 ?_
    refine ad_icmp_ge 30 dX2_at_9 (by decide) (by omega) (by omega) (fun h9 => ?_) (fun h9 => ?_)
    · skip
      refine ad_iconst dX2_at_30 ?_
      exact ad_reti dX2_at_31 rfl (by first | (exfalso; omega) | exact ⟨by rw [if_pos (by omega)], rfl⟩ | exact ⟨by rw [if_neg (by omega)], rfl⟩)
    · skip
      refine ad_iload_n dX2_at_12 rfl ?_
      refine ad_aload_n dX2_at_13 rfl ?_
      refine gf_X2_15 rfl (by omega) dX2_at_14 ?_
      refine ad_alen dX2_at_17 (by show _ < 36; omega) ⟨by decide, by decide⟩ rfl ?_
      refine ad_icmp_ge 30 dX2_at_18 (by decide) (by omega) (by omega) (fun h18 => ?_) (fun h18 => ?_)
      · skip
        refine ad_iconst dX2_at_30 ?_
        exact ad_reti dX2_at_31 rfl (by first | (exfalso; omega) | exact ⟨by rw [if_pos (by omega)], rfl⟩ | exact ⟨by rw [if_neg (by omega)], rfl⟩)
      · skip
        refine ad_aload_n dX2_at_21 rfl ?_
        refine gf_X2_15 rfl (by omega) dX2_at_22 ?_
        refine ad_iload_n dX2_at_25 rfl ?_
        refine ad_iald dX2_at_26 (by show _ < 36; omega) ⟨by decide, by decide⟩ (by omega) (by omega) ?_
        refine ad_goto 31 dX2_at_27 (by decide) ?_
        exact ad_reti dX2_at_31 rfl (by first | (exfalso; omega) | exact ⟨by rw [if_pos (by omega)], rfl⟩ | exact ⟨by rw [if_neg (by omega)], rfl⟩)
theorem c_X2_put {g : ad_G} {d : Nat} {σ : ad_Mem} {j : Nat} {i x : Int} (hj : j < 36) (hw : ad_nw σ j) (hi : 0 ≤ i ∧ i < σ 2 j 1) : ad_V g mX2_put d [ad_rf g 2 j, ad_iv i, ad_iv x] σ (fun s => s = ad_st σ 12 j i.toNat x) := by
  obtain ⟨hw0, hw1, hw2⟩ := hw
  have hln := ad_len12 j
  refine ad_M1 (k := 0) rfl (by simp [Value.category]) rfl (Nat.le_of_ble_eq_true rfl) ?_
  refine ad_iload_n dX2_put_0 rfl ?_
  refine ad_if_lt 28 dX2_put_1 (by decide) (by omega) (fun h1 => ?_) (fun h1 => ?_)
  · skip
    exact ad_retv dX2_put_28 rfl (by first | rfl | (exfalso; omega))
  · skip
    refine ad_iload_n dX2_put_4 rfl ?_
    refine ad_aload_n dX2_put_5 rfl ?_
    refine gf_X2_21 rfl (by omega) dX2_put_6 ?_
    refine ad_icmp_ge 28 dX2_put_9 (by decide) (by omega) (by omega) (fun h9 => ?_) (fun h9 => ?_)
    · skip
      exact ad_retv dX2_put_28 rfl (by first | rfl | (exfalso; omega))
    · skip
      refine ad_iload_n dX2_put_12 rfl ?_
      refine ad_aload_n dX2_put_13 rfl ?_
      refine gf_X2_15 rfl (by omega) dX2_put_14 ?_
      refine ad_alen dX2_put_17 (by show _ < 36; omega) ⟨by decide, by decide⟩ rfl ?_
      refine ad_icmp_ge 28 dX2_put_18 (by decide) (by omega) (by omega) (fun h18 => ?_) (fun h18 => ?_)
      · skip
        exact ad_retv dX2_put_28 rfl (by first | rfl | (exfalso; omega))
      · skip
        refine ad_aload_n dX2_put_21 rfl ?_
        refine gf_X2_15 rfl (by omega) dX2_put_22 ?_
        refine ad_iload_n dX2_put_25 rfl ?_
        refine ad_iload_n dX2_put_26 rfl ?_
        refine ad_iast dX2_put_27 (by show _ < 36; omega) ⟨by decide, by decide⟩ (by omega) (by omega) ?_
        exact ad_retv dX2_put_28 rfl (by first | rfl | (exfalso; omega))
theorem c_X2_empty {g : ad_G} {d : Nat} {σ : ad_Mem} {j : Nat} (hj : j < 36) : ad_V g mX2_empty d [ad_rf g 2 j] σ (fun s => s = ad_st σ 2 j 1 0) := by
  refine ad_M1 (k := 0) rfl (by simp [Value.category]) rfl (Nat.le_of_ble_eq_true rfl) ?_
  refine ad_aload_n dX2_empty_0 rfl ?_
  refine ad_iconst dX2_empty_1 ?_
  refine pf_X2_21 rfl (by omega) dX2_empty_2 ?_
  exact ad_retv dX2_empty_5 rfl (rfl)
theorem c_X2_alikeFrom {g : ad_G} {d : Nat} {σ : ad_Mem} {j j2 : Nat} {p q : Int} (hj : j < 36) (hj2 : j2 < 36) (hw : ad_nw σ j) (hwb : ad_nw σ j2) (hp : 0 ≤ p ∧ p ≤ 1000) (hq : 0 ≤ q ∧ q ≤ 1000) : ad_Q g mX2_alikeFrom d [ad_rf g 2 j, ad_iv p, ad_rf g 2 j2, ad_iv q] σ (fun x s => x = ad_iv ((ad_cpl ((ad_nl σ j).drop p.toNat) ((ad_nl σ j2).drop q.toNat) : Nat) : Int) ∧ s = σ) := by
  obtain ⟨hw0, hw1, hw2⟩ := hw
  have hln := ad_len12 j
  obtain ⟨hwb0, hwb1, hwb2⟩ := hwb
  have hlnb := ad_len12 j2
  refine ad_M1 (k := 1) rfl (by simp [Value.category]) rfl (Nat.le_of_ble_eq_true rfl) ?_
  have loop : ∀ (n : Nat) (a : Int), 0 ≤ a → a ≤ 1000 → (σ 2 j 1 - p - a).toNat ≤ n → ad_cpl ((ad_nl σ j).drop p.toNat) ((ad_nl σ j2).drop q.toNat) = a.toNat + ad_cpl ((ad_nl σ j).drop (p + a).toNat) ((ad_nl σ j2).drop (q + a).toNat) →
      ad_R g mX2_alikeFrom d (ad_ZQ mX2_alikeFrom (fun x s => x = ad_iv ((ad_cpl ((ad_nl σ j).drop p.toNat) ((ad_nl σ j2).drop q.toNat) : Nat) : Int) ∧ s = σ)) 13 [some (ad_rf g 2 j), some (ad_iv p), some (ad_rf g 2 j2), some (ad_iv q), some (ad_iv a)] [] σ := by
    intro n
    induction n with
    | zero =>
      intro a ha0 ha1 hn hI
      refine ad_iload_n dX2_alikeFrom_13 rfl ?_
      refine ad_iload dX2_alikeFrom_14 rfl ?_
      refine ad_iadd dX2_alikeFrom_16 ?_
      refine ad_aload_n dX2_alikeFrom_17 rfl ?_
      refine gf_X2_21 rfl (by omega) dX2_alikeFrom_18 ?_
      refine ad_icmp_ge 62 dX2_alikeFrom_21 (by decide) (by omega) (by omega) (fun h21 => ?_) (fun h21 => ?_)
      · skip
        refine ad_iload dX2_alikeFrom_62 rfl ?_
        exact ad_reti dX2_alikeFrom_64 rfl (by rw [hI, ad_nl_end σ j _ (by omega), ad_cpl_0l]; exact ⟨by congr 2; omega, rfl⟩)
      · skip
        exfalso; omega
    | succ n ih =>
      intro a ha0 ha1 hn hI
      refine ad_iload_n dX2_alikeFrom_13 rfl ?_
      refine ad_iload dX2_alikeFrom_14 rfl ?_
      refine ad_iadd dX2_alikeFrom_16 ?_
      refine ad_aload_n dX2_alikeFrom_17 rfl ?_
      refine gf_X2_21 rfl (by omega) dX2_alikeFrom_18 ?_
      refine ad_icmp_ge 62 dX2_alikeFrom_21 (by decide) (by omega) (by omega) (fun h21 => ?_) (fun h21 => ?_)
      · skip
        refine ad_iload dX2_alikeFrom_62 rfl ?_
        exact ad_reti dX2_alikeFrom_64 rfl (by first | (rw [hI, ad_nl_end σ j _ (by omega), ad_cpl_0l]; exact ⟨by congr 2; omega, rfl⟩) | (rw [hI, ad_nl_end σ j2 _ (by omega), ad_cpl_0r]; exact ⟨by congr 2; omega, rfl⟩) | (rw [hI, ad_nl_drop σ j _ (by omega : (p + a).toNat < _), ad_nl_drop σ j2 _ (by omega : (q + a).toNat < _), ad_cpl_n (by omega)]; exact ⟨by congr 2; omega, rfl⟩))
      · skip
        refine ad_iload_n dX2_alikeFrom_24 rfl ?_
        refine ad_iload dX2_alikeFrom_25 rfl ?_
        refine ad_iadd dX2_alikeFrom_27 ?_
        refine ad_aload_n dX2_alikeFrom_28 rfl ?_
        refine gf_X2_21 rfl (by omega) dX2_alikeFrom_29 ?_
        refine ad_icmp_ge 62 dX2_alikeFrom_32 (by decide) (by omega) (by omega) (fun h32 => ?_) (fun h32 => ?_)
        · skip
          refine ad_iload dX2_alikeFrom_62 rfl ?_
          exact ad_reti dX2_alikeFrom_64 rfl (by first | (rw [hI, ad_nl_end σ j _ (by omega), ad_cpl_0l]; exact ⟨by congr 2; omega, rfl⟩) | (rw [hI, ad_nl_end σ j2 _ (by omega), ad_cpl_0r]; exact ⟨by congr 2; omega, rfl⟩) | (rw [hI, ad_nl_drop σ j _ (by omega : (p + a).toNat < _), ad_nl_drop σ j2 _ (by omega : (q + a).toNat < _), ad_cpl_n (by omega)]; exact ⟨by congr 2; omega, rfl⟩))
        · skip
          refine ad_aload_n dX2_alikeFrom_35 rfl ?_
          refine gf_X2_15 rfl (by omega) dX2_alikeFrom_36 ?_
          refine ad_iload_n dX2_alikeFrom_39 rfl ?_
          refine ad_iload dX2_alikeFrom_40 rfl ?_
          refine ad_iadd dX2_alikeFrom_42 ?_
          refine ad_iald dX2_alikeFrom_43 (by show _ < 36; omega) ⟨by decide, by decide⟩ (by omega) (by omega) ?_
          refine ad_aload_n dX2_alikeFrom_44 rfl ?_
          refine gf_X2_15 rfl (by omega) dX2_alikeFrom_45 ?_
          refine ad_iload_n dX2_alikeFrom_48 rfl ?_
          refine ad_iload dX2_alikeFrom_49 rfl ?_
          refine ad_iadd dX2_alikeFrom_51 ?_
          refine ad_iald dX2_alikeFrom_52 (by show _ < 36; omega) ⟨by decide, by decide⟩ (by omega) (by omega) ?_
          have e1 := hw2 (p + a).toNat
          have e2 := hwb2 (q + a).toNat
          refine ad_icmp_ne 62 dX2_alikeFrom_53 (by decide) (by omega) (by omega) (fun h53 => ?_) (fun h53 => ?_)
          · skip
            refine ad_iload dX2_alikeFrom_62 rfl ?_
            exact ad_reti dX2_alikeFrom_64 rfl (by first | (rw [hI, ad_nl_end σ j _ (by omega), ad_cpl_0l]; exact ⟨by congr 2; omega, rfl⟩) | (rw [hI, ad_nl_end σ j2 _ (by omega), ad_cpl_0r]; exact ⟨by congr 2; omega, rfl⟩) | (rw [hI, ad_nl_drop σ j _ (by omega : (p + a).toNat < _), ad_nl_drop σ j2 _ (by omega : (q + a).toNat < _), ad_cpl_n (by omega)]; exact ⟨by congr 2; omega, rfl⟩))
          · skip
            refine ad_iinc dX2_alikeFrom_56 rfl (by decide) rfl (by dsimp only [ad_set]) ?_
            refine ad_goto 13 dX2_alikeFrom_59 (by decide) ?_
            exact ih (a + 1) (by omega) (by omega) (by omega) (by rw [hI, ad_nl_drop σ j _ (by omega : (p + a).toNat < _), ad_nl_drop σ j2 _ (by omega : (q + a).toNat < _), ad_cpl_s (by omega), show (p + (a + 1)).toNat = (p + a).toNat + 1 by omega, show (q + (a + 1)).toNat = (q + a).toNat + 1 by omega]; omega)
  refine ad_iload_n dX2_alikeFrom_0 rfl ?_
  refine ad_if_lt 8 dX2_alikeFrom_1 (by decide) (by omega) (fun h1 => ?_) (fun h1 => ?_)
  · skip
    exfalso; omega
  · skip
    refine ad_iload_n dX2_alikeFrom_4 rfl ?_
    refine ad_if_ge 10 dX2_alikeFrom_5 (by decide) (by omega) (fun h5 => ?_) (fun h5 => ?_)
    · skip
      refine ad_iconst dX2_alikeFrom_10 ?_
      refine ad_istore dX2_alikeFrom_11 (by decide) rfl (by dsimp only [ad_set]) ?_
      exact loop (σ 2 j 1 - p).toNat 0 (by omega) (by omega) (by omega) (by rw [Int.add_zero, Int.add_zero]; simp)
    · skip
      exfalso; omega
theorem c_X2_isSameAs {g : ad_G} {d : Nat} {σ : ad_Mem} {j j2 : Nat} (h1d : 1 ≤ d) (hj : j < 36) (hj2 : j2 < 36) (hw : ad_nw σ j) (hwb : ad_nw σ j2) : ad_Q g mX2_isSameAs d [ad_rf g 2 j, ad_rf g 2 j2] σ (fun x s => x = ad_pv (ad_nl σ j = ad_nl σ j2) ∧ s = σ) := by
  have hw0 := hw
  have hwb0 := hwb
  obtain ⟨a1, a2, a3⟩ := hw
  obtain ⟨b1, b2, b3⟩ := hwb
  have hln := ad_len12 j
  have hlnb := ad_len12 j2
  refine ad_M1 (k := 0) rfl (by simp [Value.category]) rfl (Nat.le_of_ble_eq_true rfl) ?_
  refine ad_aload_n dX2_isSameAs_0 rfl ?_
  refine gf_X2_21 rfl (by omega) dX2_isSameAs_1 ?_
  refine ad_aload_n dX2_isSameAs_4 rfl ?_
  refine gf_X2_21 rfl (by omega) dX2_isSameAs_5 ?_
  refine ad_icmp_ne 29 dX2_isSameAs_8 (by decide) (by omega) (by omega) (fun h8 => ?_) (fun h8 => ?_)
  · skip
    refine ad_iconst dX2_isSameAs_29 ?_
    exact ad_ret0 dX2_isSameAs_30 rfl (by first | exact ⟨ad_pv_f (fun q => h8 (by have := congrArg List.length q; rw [ad_nl_len, ad_nl_len] at this; omega)), rfl⟩ | exact ⟨ad_pv_f (fun q => h22 (by have h3 := (ad_cpl_all (ad_nl σ j) (ad_nl σ j2) (by rw [ad_nl_len, ad_nl_len]; omega)).mpr q; rw [ad_nl_len] at h3; simp only [Int.toNat_zero, List.drop_zero]; omega)), rfl⟩)
  · skip
    refine ad_aload_n dX2_isSameAs_11 rfl ?_
    refine ad_iconst dX2_isSameAs_12 ?_
    refine ad_aload_n dX2_isSameAs_13 rfl ?_
    refine ad_iconst dX2_isSameAs_14 ?_
    refine ad_cv3f rfl cl_X2_34 dX2_isSameAs_15 (c_X2_alikeFrom hj hj2 hw0 hwb0 ⟨by omega, by omega⟩ ⟨by omega, by omega⟩) (by omega) (by show _ < 36; omega) (Nat.le_of_ble_eq_true rfl) ?_
    have hc := ad_cpl_le ((ad_nl σ j).drop (0 : Int).toNat) ((ad_nl σ j2).drop (0 : Int).toNat)
    rw [List.length_drop, List.length_drop, ad_nl_len, ad_nl_len] at hc
    refine ad_aload_n dX2_isSameAs_18 rfl ?_
    refine gf_X2_21 rfl (by omega) dX2_isSameAs_19 ?_
    refine ad_icmp_ne 29 dX2_isSameAs_22 (by decide) (by omega) (by omega) (fun h22 => ?_) (fun h22 => ?_)
    · skip
      refine ad_iconst dX2_isSameAs_29 ?_
      exact ad_ret0 dX2_isSameAs_30 rfl (by first | exact ⟨ad_pv_f (fun q => h8 (by have := congrArg List.length q; rw [ad_nl_len, ad_nl_len] at this; omega)), rfl⟩ | exact ⟨ad_pv_f (fun q => h22 (by have h3 := (ad_cpl_all (ad_nl σ j) (ad_nl σ j2) (by rw [ad_nl_len, ad_nl_len]; omega)).mpr q; rw [ad_nl_len] at h3; simp only [Int.toNat_zero, List.drop_zero]; omega)), rfl⟩)
    · skip
      refine ad_iconst dX2_isSameAs_25 ?_
      refine ad_goto 30 dX2_isSameAs_26 (by decide) ?_
      exact ad_ret1 dX2_isSameAs_30 rfl (⟨ad_pv_t ((ad_cpl_all _ _ (by rw [ad_nl_len, ad_nl_len]; omega)).mp (by rw [ad_nl_len]; simp only [Int.toNat_zero, List.drop_zero] at h22; omega)), rfl⟩)
theorem c_X2_hashed {g : ad_G} {d : Nat} {σ : ad_Mem} {j : Nat} (hj : j < 36) (hw : ad_nw σ j) : ad_Q g mX2_hashed d [ad_rf g 2 j] σ (fun x s => x = ad_iv (ad_hs (ad_nl σ j)) ∧ s = σ) := by
  obtain ⟨hw0, hw1, hw2⟩ := hw
  have hln := ad_len12 j
  refine ad_M1 (k := 2) rfl (by simp [Value.category]) rfl (Nat.le_of_ble_eq_true rfl) ?_
  have loop : ∀ (n : Nat) (h i : Int), 0 ≤ i → i ≤ 1000 → 0 ≤ h → h < 9973 → (σ 2 j 1 - i).toNat ≤ n → ad_hs (ad_nl σ j) = ((ad_nl σ j).drop i.toNat).foldl (fun h x => (31 * h + x) % 9973) h →
      ad_R g mX2_hashed d (ad_ZQ mX2_hashed (fun x s => x = ad_iv (ad_hs (ad_nl σ j)) ∧ s = σ)) 5 [some (ad_rf g 2 j), some (ad_iv h), some (ad_iv i)] [] σ := by
    intro n
    induction n with
    | zero =>
      intro h i hi0 hi1 hh0 hh1 hn hI
      refine ad_iload_n dX2_hashed_5 rfl ?_
      refine ad_aload_n dX2_hashed_6 rfl ?_
      refine gf_X2_21 rfl (by omega) dX2_hashed_7 ?_
      refine ad_icmp_ge 35 dX2_hashed_10 (by decide) (by omega) (by omega) (fun h10 => ?_) (fun h10 => ?_)
      · skip
        refine ad_iload_n dX2_hashed_35 rfl ?_
        exact ad_reti dX2_hashed_36 rfl (by rw [hI, ad_nl_end σ j _ (by omega)]; exact ⟨rfl, rfl⟩)
      · skip
        exfalso; omega
    | succ n ih =>
      intro h i hi0 hi1 hh0 hh1 hn hI
      have hx := hw2 i.toNat
      refine ad_iload_n dX2_hashed_5 rfl ?_
      refine ad_aload_n dX2_hashed_6 rfl ?_
      refine gf_X2_21 rfl (by omega) dX2_hashed_7 ?_
      refine ad_icmp_ge 35 dX2_hashed_10 (by decide) (by omega) (by omega) (fun h10 => ?_) (fun h10 => ?_)
      · skip
        refine ad_iload_n dX2_hashed_35 rfl ?_
        exact ad_reti dX2_hashed_36 rfl (by rw [hI, ad_nl_end σ j _ (by omega)]; exact ⟨rfl, rfl⟩)
      · skip
        refine ad_bipush dX2_hashed_13 rfl ?_
        refine ad_iload_n dX2_hashed_15 rfl ?_
        refine ad_imul dX2_hashed_16 ?_
        refine ad_aload_n dX2_hashed_17 rfl ?_
        refine gf_X2_15 rfl (by omega) dX2_hashed_18 ?_
        refine ad_iload_n dX2_hashed_21 rfl ?_
        refine ad_iald dX2_hashed_22 (by show _ < 36; omega) ⟨by decide, by decide⟩ (by omega) (by omega) ?_
        refine ad_iadd dX2_hashed_23 ?_
        refine ad_sipush dX2_hashed_24 rfl ?_
        refine ad_irem dX2_hashed_27 (by omega) (by omega) ?_
        rw [ad_rem_h (by omega) (by omega) (by omega) (by omega)]
        refine ad_istore_n dX2_hashed_28 (by decide) rfl (by dsimp only [ad_set]) ?_
        refine ad_iinc dX2_hashed_29 rfl (by decide) rfl (by dsimp only [ad_set]) ?_
        refine ad_goto 5 dX2_hashed_32 (by decide) ?_
        exact ih _ (i + 1) (by omega) (by omega) (by omega) (by omega) (by omega) (by rw [hI, ad_nl_drop σ j _ (by omega : i.toNat < _), List.foldl_cons, show (i + 1).toNat = i.toNat + 1 by omega])
  refine ad_bipush dX2_hashed_0 rfl ?_
  refine ad_istore_n dX2_hashed_2 (by decide) rfl (by dsimp only [ad_set]) ?_
  refine ad_iconst dX2_hashed_3 ?_
  refine ad_istore_n dX2_hashed_4 (by decide) rfl (by dsimp only [ad_set]) ?_
  exact loop (σ 2 j 1).toNat 7 0 (by omega) (by omega) (by omega) (by omega) (by omega) (by simp [ad_hs])
theorem c_X2_copyFrom {g : ad_G} {d : Nat} {σ : ad_Mem} {j j2 : Nat} (h1d : 1 ≤ d) (hj : j < 36) (hj2 : j2 < 36) (hw : ad_nw σ j) (hwb : ad_nw σ j2) (hle : σ 2 j2 1 ≤ (ad_len 12 j : Int)) : ad_V g mX2_copyFrom d [ad_rf g 2 j, ad_rf g 2 j2] σ (fun s => s = ad_sr (ad_st σ 2 j 1 (σ 2 j2 1)) 12 j (fun c => if c < (σ 2 j2 1).toNat then σ 12 j2 c else σ 12 j c)) := by
  obtain ⟨hw0, hw1, hw2⟩ := hw
  have hln := ad_len12 j
  obtain ⟨hwb0, hwb1, hwb2⟩ := hwb
  have hlnb := ad_len12 j2
  refine ad_M1 (k := 0) rfl (by simp [Value.category]) rfl (Nat.le_of_ble_eq_true rfl) ?_
  refine ad_aload_n dX2_copyFrom_0 rfl ?_
  refine ad_aload_n dX2_copyFrom_1 rfl ?_
  refine gf_X2_21 rfl (by omega) dX2_copyFrom_2 ?_
  refine ad_aload_n dX2_copyFrom_5 rfl ?_
  refine gf_X2_15 rfl (by omega) dX2_copyFrom_6 ?_
  refine ad_alen dX2_copyFrom_9 (by show _ < 36; omega) ⟨by decide, by decide⟩ rfl ?_
  refine ad_mmin rfl lk_X2_25 dX2_copyFrom_10 (by omega) (by omega) (by omega) (Nat.le_of_ble_eq_true rfl) ?_
  rw [Int.min_eq_left hle]
  refine pf_X2_21 rfl (by omega) dX2_copyFrom_13 ?_
  refine ad_aload_n dX2_copyFrom_16 rfl ?_
  refine gf_X2_15 rfl (by omega) dX2_copyFrom_17 ?_
  refine ad_iconst dX2_copyFrom_20 ?_
  refine ad_aload_n dX2_copyFrom_21 rfl ?_
  refine gf_X2_15 rfl (by omega) dX2_copyFrom_22 ?_
  refine ad_iconst dX2_copyFrom_25 ?_
  refine ad_aload_n dX2_copyFrom_26 rfl ?_
  refine gf_X2_21 rfl (by omega) dX2_copyFrom_27 ?_
  have e1 : ad_st σ 2 j 1 (σ 2 j2 1) 2 j 1 = σ 2 j2 1 := by simp [ad_st]
  rw [e1]
  refine ad_copy rfl lk_X2_28 dX2_copyFrom_30 (by omega) (by show _ < 36; omega) (by show _ < 36; omega) ⟨by decide, by decide⟩ ⟨by decide, by decide⟩ (Nat.le_of_ble_eq_true rfl) (by omega) (by omega) (by omega) (by omega) (by omega) ?_
  exact ad_retv dX2_copyFrom_33 rfl (by congr 1; funext c; simp [ad_st])
