/-! ===== the plan's small methods (Plan) ===== -/
theorem ad_sz {σ : ad_Mem} {s : Nat} {A : ad_Ar} (hr : ad_rC σ s A) (hw : ad_wA A) {v : Nat} (h : ad_aH A v = true) : σ 2 (10 * s + v) 1 = (ad_aL A v).length := by
  have hv := ad_rC_rng hr hw h
  have hl := ad_nl_len σ (10 * s + v)
  rw [(hr.2.2.2.2.2.1 v h).1] at hl
  omega
theorem c_X4_lettersOf {g : ad_G} {d : Nat} {σ : ad_Mem} {s : Nat} {A : ad_Ar} (hs : s < 3) (hr : ad_rC σ s A) (hw : ad_wA A) {v : Nat} (hv : ad_aH A v = true) (h1d : 1 ≤ d) : ad_Q g mX4_lettersOf d [ad_rf g 4 s, ad_iv (v : Int)] σ (fun x m => x = ad_iv ((ad_aL A v).length : Int) ∧ m = σ) := by
  have hr0 := hr
  have hw0 := hw
  obtain ⟨r1, r2, r3, r4, r5, r6, r7, r8⟩ := hr
  obtain ⟨w1, w2, w3, w4, w5, w6, w7, w8, w9⟩ := hw
  have hvv := ad_rC_rng hr0 hw0 hv
  refine ad_M1 (k := 0) rfl (by simp [Value.category]) rfl (Nat.le_of_ble_eq_true rfl) ?_
  simp only [List.map_cons, List.map_nil, List.replicate, List.cons_append, List.nil_append]
  refine ad_aload_n dX4_lettersOf_0 rfl ?_
  refine ad_iload_n dX4_lettersOf_1 rfl ?_
  refine ad_cv1f rfl cl_X4_57 dX4_lettersOf_2 (c_X4_holds hs hr0 hw0 (by omega)) (by omega) (by show _ < 3; omega) (Nat.le_of_ble_eq_true rfl) ?_
  refine ad_ifp_eq 23 dX4_lettersOf_5 (by decide) (fun h5 => ?_) (fun h5 => ?_)
  · exact absurd ⟨by omega, by rw [Int.toNat_natCast]; exact hv⟩ h5
  · show ad_R _ _ _ _ 8 _ _ _
    refine ad_aload_n dX4_lettersOf_8 rfl ?_
    refine gf_X4_11 rfl (by omega) dX4_lettersOf_9 ?_
    refine ad_iload_n dX4_lettersOf_12 rfl ?_
    refine ad_aald dX4_lettersOf_13 (by omega) (by omega) (by omega) ?_
    rw [Int.toNat_natCast]
    refine gf_X4_61 rfl (by omega) dX4_lettersOf_14 ?_
    refine gf_X4_64 rfl (by omega) dX4_lettersOf_17 ?_
    rw [ad_sz hr0 hw0 hv]
    refine ad_goto 24 dX4_lettersOf_20 (by decide) ?_
    exact ad_reti dX4_lettersOf_24 rfl (⟨rfl, rfl⟩)
theorem c_X4_hasParent {g : ad_G} {d : Nat} {σ : ad_Mem} {s : Nat} {A : ad_Ar} (hs : s < 3) (hr : ad_rC σ s A) (hw : ad_wA A) {v : Nat} {n : Int} (hv : ad_aH A v = true) (hn : ad_rng n) (h1d : 1 ≤ d) : ad_Q g mX4_hasParent d [ad_rf g 4 s, ad_iv (v : Int), ad_iv n] σ (fun x m => x = ad_pv (ad_aP A v = n ∨ ad_aQ A v = n) ∧ m = σ) := by
  have hr0 := hr
  have hw0 := hw
  obtain ⟨r1, r2, r3, r4, r5, r6, r7, r8⟩ := hr
  obtain ⟨w1, w2, w3, w4, w5, w6, w7, w8, w9⟩ := hw
  have hvv := ad_rC_rng hr0 hw0 hv
  have hvc := w2 v hv
  have hpq := w4 v
  refine ad_M1 (k := 0) rfl (by simp [Value.category]) rfl (Nat.le_of_ble_eq_true rfl) ?_
  simp only [List.map_cons, List.map_nil, List.replicate, List.cons_append, List.nil_append]
  refine ad_aload_n dX4_hasParent_0 rfl ?_
  refine ad_iload_n dX4_hasParent_1 rfl ?_
  refine ad_cv1f rfl cl_X4_57 dX4_hasParent_2 (c_X4_holds hs hr0 hw0 (by omega)) (by omega) (by show _ < 3; omega) (Nat.le_of_ble_eq_true rfl) ?_
  refine ad_ifp_eq 38 dX4_hasParent_5 (by decide) (fun h5 => ?_) (fun h5 => ?_)
  · exact absurd ⟨by omega, by rw [Int.toNat_natCast]; exact hv⟩ h5
  · show ad_R _ _ _ _ 8 _ _ _
    refine ad_aload_n dX4_hasParent_8 rfl ?_
    refine gf_X4_11 rfl (by omega) dX4_hasParent_9 ?_
    refine ad_iload_n dX4_hasParent_12 rfl ?_
    refine ad_aald dX4_hasParent_13 (by omega) (by omega) (by omega) ?_
    rw [Int.toNat_natCast]
    refine gf_X4_67 rfl (by omega) dX4_hasParent_14 ?_
    rw [(r7 _ hvc).1]
    refine ad_iload_n dX4_hasParent_17 rfl ?_
    refine ad_icmp_eq 34 dX4_hasParent_18 (by decide) (by omega) (by omega) (fun h18 => ?_) (fun h18 => ?_)
    · skip
      refine ad_iconst dX4_hasParent_34 ?_
      refine ad_goto 39 dX4_hasParent_35 (by decide) ?_
      exact ad_ret1 dX4_hasParent_39 rfl (⟨ad_pv_t (by omega), rfl⟩)
    · show ad_R _ _ _ _ 21 _ _ _
      refine ad_aload_n dX4_hasParent_21 rfl ?_
      refine gf_X4_11 rfl (by omega) dX4_hasParent_22 ?_
      refine ad_iload_n dX4_hasParent_25 rfl ?_
      refine ad_aald dX4_hasParent_26 (by omega) (by omega) (by omega) ?_
      rw [Int.toNat_natCast]
      refine gf_X4_70 rfl (by omega) dX4_hasParent_27 ?_
      rw [(r7 _ hvc).2.1]
      refine ad_iload_n dX4_hasParent_30 rfl ?_
      refine ad_icmp_ne 38 dX4_hasParent_31 (by decide) (by omega) (by omega) (fun h31 => ?_) (fun h31 => ?_)
      · skip
        refine ad_iconst dX4_hasParent_38 ?_
        exact ad_ret0 dX4_hasParent_39 rfl (⟨ad_pv_f (by omega), rfl⟩)
      · show ad_R _ _ _ _ 34 _ _ _
        refine ad_iconst dX4_hasParent_34 ?_
        refine ad_goto 39 dX4_hasParent_35 (by decide) ?_
        exact ad_ret1 dX4_hasParent_39 rfl (⟨ad_pv_t (by omega), rfl⟩)
theorem c_X3_isAhead {g : ad_G} {d : Nat} {σ : ad_Mem} {s : Nat} {A : ad_Ar} (hs : s < 3) (hr : ad_rC σ s A) (hw : ad_wA A) (hst : σ 3 0 5 = (s : Int) + 1) {k : Int} {v u : Nat} (hk : σ 3 0 7 = k) (hk2 : 0 ≤ k ∧ k ≤ 5) (hv : ad_aH A v = true) (hu : ad_aH A u = true) (h2d : 2 ≤ d) : ad_Q g mX3_isAhead d [ad_rf g 3 0, ad_iv (v : Int), ad_iv (u : Int)] σ (fun x m => x = ad_pv (ad_ah A k v u = true) ∧ m = σ) := by
  have hr0 := hr
  have hw0 := hw
  obtain ⟨r1, r2, r3, r4, r5, r6, r7, r8⟩ := hr
  obtain ⟨w1, w2, w3, w4, w5, w6, w7, w8, w9⟩ := hw
  have hlv := (w3 v hv).1
  have hlu := (w3 u hu).1
  refine ad_M1 (k := 0) rfl (by simp [Value.category]) rfl (Nat.le_of_ble_eq_true rfl) ?_
  simp only [List.map_cons, List.map_nil, List.replicate, List.cons_append, List.nil_append]
  refine ad_aload_n dX3_isAhead_0 rfl ?_
  refine gf_X3_35 rfl dX3_isAhead_1 ?_
  rw [hk]
  by_cases hs4_1 : k = 1
  · refine ad_table dX3_isAhead_4 (by omega) 42 (by rw [hs4_1]; rfl) ?_
    refine ad_aload_n dX3_isAhead_42 rfl ?_
    refine gf_X3_31 rfl (by assumption) dX3_isAhead_43 ?_
    refine ad_iload_n dX3_isAhead_46 rfl ?_
    refine ad_cv1f rfl cl_X3_77 dX3_isAhead_47 (c_X4_lettersOf hs hr0 hw0 hv (by omega)) (by omega) (by show _ < 3; omega) (Nat.le_of_ble_eq_true rfl) ?_
    refine ad_aload_n dX3_isAhead_50 rfl ?_
    refine gf_X3_31 rfl (by assumption) dX3_isAhead_51 ?_
    refine ad_iload_n dX3_isAhead_54 rfl ?_
    refine ad_cv1f rfl cl_X3_77 dX3_isAhead_55 (c_X4_lettersOf hs hr0 hw0 hu (by omega)) (by omega) (by show _ < 3; omega) (Nat.le_of_ble_eq_true rfl) ?_
    refine ad_icmp_le 65 dX3_isAhead_58 (by decide) (by omega) (by omega) (fun h58 => ?_) (fun h58 => ?_)
    · skip
      refine ad_iconst dX3_isAhead_65 ?_
      exact ad_ret0 dX3_isAhead_66 rfl (⟨ad_pv_f (by unfold ad_ah; rw [if_neg (by omega), if_pos (by omega)]; intro q; have := of_decide_eq_true q; omega), rfl⟩)
    · show ad_R _ _ _ _ 61 _ _ _
      refine ad_iconst dX3_isAhead_61 ?_
      refine ad_goto 66 dX3_isAhead_62 (by decide) ?_
      exact ad_ret1 dX3_isAhead_66 rfl (⟨ad_pv_t (by unfold ad_ah; rw [if_neg (by omega), if_pos (by omega)]; exact decide_eq_true (by omega)), rfl⟩)
  by_cases hs4_2 : k = 2
  · refine ad_table dX3_isAhead_4 (by omega) 40 (by rw [hs4_2]; rfl) ?_
    refine ad_iconst dX3_isAhead_40 ?_
    exact ad_ret1 dX3_isAhead_41 rfl (⟨ad_pv_t (by unfold ad_ah; rw [if_pos (by omega)]), rfl⟩)
  by_cases hs4_3 : k = 3
  · refine ad_table dX3_isAhead_4 (by omega) 40 (by rw [hs4_3]; rfl) ?_
    refine ad_iconst dX3_isAhead_40 ?_
    exact ad_ret1 dX3_isAhead_41 rfl (⟨ad_pv_t (by unfold ad_ah; rw [if_pos (by omega)]), rfl⟩)
  by_cases hs4_4 : k = 4
  · refine ad_table dX3_isAhead_4 (by omega) 42 (by rw [hs4_4]; rfl) ?_
    refine ad_aload_n dX3_isAhead_42 rfl ?_
    refine gf_X3_31 rfl (by assumption) dX3_isAhead_43 ?_
    refine ad_iload_n dX3_isAhead_46 rfl ?_
    refine ad_cv1f rfl cl_X3_77 dX3_isAhead_47 (c_X4_lettersOf hs hr0 hw0 hv (by omega)) (by omega) (by show _ < 3; omega) (Nat.le_of_ble_eq_true rfl) ?_
    refine ad_aload_n dX3_isAhead_50 rfl ?_
    refine gf_X3_31 rfl (by assumption) dX3_isAhead_51 ?_
    refine ad_iload_n dX3_isAhead_54 rfl ?_
    refine ad_cv1f rfl cl_X3_77 dX3_isAhead_55 (c_X4_lettersOf hs hr0 hw0 hu (by omega)) (by omega) (by show _ < 3; omega) (Nat.le_of_ble_eq_true rfl) ?_
    refine ad_icmp_le 65 dX3_isAhead_58 (by decide) (by omega) (by omega) (fun h58 => ?_) (fun h58 => ?_)
    · skip
      refine ad_iconst dX3_isAhead_65 ?_
      exact ad_ret0 dX3_isAhead_66 rfl (⟨ad_pv_f (by unfold ad_ah; rw [if_neg (by omega), if_pos (by omega)]; intro q; have := of_decide_eq_true q; omega), rfl⟩)
    · show ad_R _ _ _ _ 61 _ _ _
      refine ad_iconst dX3_isAhead_61 ?_
      refine ad_goto 66 dX3_isAhead_62 (by decide) ?_
      exact ad_ret1 dX3_isAhead_66 rfl (⟨ad_pv_t (by unfold ad_ah; rw [if_neg (by omega), if_pos (by omega)]; exact decide_eq_true (by omega)), rfl⟩)
  by_cases hs4_5 : k = 5
  · refine ad_table dX3_isAhead_4 (by omega) 42 (by rw [hs4_5]; rfl) ?_
    refine ad_aload_n dX3_isAhead_42 rfl ?_
    refine gf_X3_31 rfl (by assumption) dX3_isAhead_43 ?_
    refine ad_iload_n dX3_isAhead_46 rfl ?_
    refine ad_cv1f rfl cl_X3_77 dX3_isAhead_47 (c_X4_lettersOf hs hr0 hw0 hv (by omega)) (by omega) (by show _ < 3; omega) (Nat.le_of_ble_eq_true rfl) ?_
    refine ad_aload_n dX3_isAhead_50 rfl ?_
    refine gf_X3_31 rfl (by assumption) dX3_isAhead_51 ?_
    refine ad_iload_n dX3_isAhead_54 rfl ?_
    refine ad_cv1f rfl cl_X3_77 dX3_isAhead_55 (c_X4_lettersOf hs hr0 hw0 hu (by omega)) (by omega) (by show _ < 3; omega) (Nat.le_of_ble_eq_true rfl) ?_
    refine ad_icmp_le 65 dX3_isAhead_58 (by decide) (by omega) (by omega) (fun h58 => ?_) (fun h58 => ?_)
    · skip
      refine ad_iconst dX3_isAhead_65 ?_
      exact ad_ret0 dX3_isAhead_66 rfl (⟨ad_pv_f (by unfold ad_ah; rw [if_neg (by omega), if_pos (by omega)]; intro q; have := of_decide_eq_true q; omega), rfl⟩)
    · show ad_R _ _ _ _ 61 _ _ _
      refine ad_iconst dX3_isAhead_61 ?_
      refine ad_goto 66 dX3_isAhead_62 (by decide) ?_
      exact ad_ret1 dX3_isAhead_66 rfl (⟨ad_pv_t (by unfold ad_ah; rw [if_neg (by omega), if_pos (by omega)]; exact decide_eq_true (by omega)), rfl⟩)
  refine ad_table dX3_isAhead_4 (by omega) 67 (by rw [if_pos (by omega)]; rfl) ?_
  refine ad_iconst dX3_isAhead_67 ?_
  exact ad_ret0 dX3_isAhead_68 rfl (⟨ad_pv_f (by unfold ad_ah; rw [if_neg (by omega), if_neg (by omega)]; decide), rfl⟩)
theorem c_X3_savings {g : ad_G} {d : Nat} {σ : ad_Mem} {k f : Int} (hk : σ 3 0 7 = k) (hf : σ 3 0 8 = f) (hk2 : 0 ≤ k ∧ k ≤ 5) (hf2 : 0 ≤ f ∧ f ≤ 9) : ad_Q g mX3_savings d [ad_rf g 3 0] σ (fun x m => x = ad_iv (ad_sav k f) ∧ m = σ) := by
  refine ad_M1 (k := 0) rfl (by simp [Value.category]) rfl (Nat.le_of_ble_eq_true rfl) ?_
  simp only [List.map_cons, List.map_nil, List.replicate, List.cons_append, List.nil_append]
  refine ad_aload_n dX3_savings_0 rfl ?_
  refine gf_X3_35 rfl dX3_savings_1 ?_
  refine ad_iconst dX3_savings_4 ?_
  refine ad_icmp_ne 17 dX3_savings_5 (by decide) (by omega) (by omega) (fun h5 => ?_) (fun h5 => ?_)
  · skip
    refine ad_iconst dX3_savings_17 ?_
    exact ad_reti dX3_savings_18 rfl (⟨by unfold ad_sav; rw [if_neg (by omega)], rfl⟩)
  · show ad_R _ _ _ _ 8 _ _ _
    refine ad_aload_n dX3_savings_8 rfl ?_
    refine gf_X3_39 rfl dX3_savings_9 ?_
    refine ad_iconst dX3_savings_12 ?_
    refine ad_iadd dX3_savings_13 ?_
    refine ad_goto 18 dX3_savings_14 (by decide) ?_
    exact ad_reti dX3_savings_18 rfl (⟨by unfold ad_sav; rw [if_pos (by omega), hf], rfl⟩)
theorem c_X3_settle {g : ad_G} {d : Nat} {σ : ad_Mem} {v : Int} {b e c : Int} (h1d : 1 ≤ d) (hv : 0 ≤ v ∧ v < 10) (hg : ad_rng (σ 3 0 11)) (he : ad_rng e) : ad_V g mX3_settle d [ad_rf g 3 0, ad_iv v, ad_iv b, ad_iv e, ad_iv c] σ (fun m => m = ad_st (ad_st (ad_st (ad_st σ 14 0 v.toNat b) 15 0 v.toNat e) 3 0 10 (σ 3 0 10 + c)) 3 0 11 (max (σ 3 0 11) e)) := by
  refine ad_M1 (k := 0) rfl (by simp [Value.category]) rfl (Nat.le_of_ble_eq_true rfl) ?_
  simp only [List.map_cons, List.map_nil, List.replicate, List.cons_append, List.nil_append]
  refine ad_aload_n dX3_settle_0 rfl ?_
  refine gf_X3_15 rfl dX3_settle_1 ?_
  refine ad_iload_n dX3_settle_4 rfl ?_
  refine ad_iload_n dX3_settle_5 rfl ?_
  refine ad_iast dX3_settle_6 (by show _ < 1; omega) ⟨by decide, by decide⟩ (by omega) (by show _ < ((10 : Nat) : Int); omega) ?_
  refine ad_aload_n dX3_settle_7 rfl ?_
  refine gf_X3_18 rfl dX3_settle_8 ?_
  refine ad_iload_n dX3_settle_11 rfl ?_
  refine ad_iload_n dX3_settle_12 rfl ?_
  refine ad_iast dX3_settle_13 (by show _ < 1; omega) ⟨by decide, by decide⟩ (by omega) (by show _ < ((10 : Nat) : Int); omega) ?_
  refine ad_aload_n dX3_settle_14 rfl ?_
  refine ad_dup dX3_settle_15 rfl ?_
  refine gf_X3_48 rfl dX3_settle_16 ?_
  rw [show ad_st (ad_st σ 14 0 v.toNat b) 15 0 v.toNat e 3 0 10 = σ 3 0 10 from by simp [ad_st]]
  refine ad_iload dX3_settle_19 rfl ?_
  refine ad_iadd dX3_settle_21 ?_
  refine pf_X3_48 rfl dX3_settle_22 ?_
  refine ad_aload_n dX3_settle_25 rfl ?_
  refine ad_aload_n dX3_settle_26 rfl ?_
  refine gf_X3_51 rfl dX3_settle_27 ?_
  rw [show ∀ y, ad_st (ad_st (ad_st σ 14 0 v.toNat b) 15 0 v.toNat e) 3 0 10 y 3 0 11 = σ 3 0 11 from fun y => by simp [ad_st]]
  refine ad_iload_n dX3_settle_30 rfl ?_
  refine ad_mmax rfl lk_X3_116 dX3_settle_31 (by omega) (by omega) (by omega) (Nat.le_of_ble_eq_true rfl) ?_
  refine pf_X3_51 rfl dX3_settle_34 ?_
  exact ad_retv dX3_settle_37 rfl (rfl)
theorem c_X3_baseOf {g : ad_G} {d : Nat} {σ : ad_Mem} {v : Int} (hv : ad_rng v) (hb : ∀ u, u < 10 → 0 ≤ σ 14 0 u ∧ σ 14 0 u ≤ 11) : ad_Q g mX3_baseOf d [ad_rf g 3 0, ad_iv v] σ (fun x m => x = ad_iv (if 0 ≤ v ∧ v < 10 ∧ σ 14 0 v.toNat < 10 then σ 14 0 v.toNat else -1) ∧ m = σ) := by
  refine ad_M1 (k := 0) rfl (by simp [Value.category]) rfl (Nat.le_of_ble_eq_true rfl) ?_
  simp only [List.map_cons, List.map_nil, List.replicate, List.cons_append, List.nil_append]
  refine ad_iload_n dX3_baseOf_0 rfl ?_
  refine ad_if_lt 30 dX3_baseOf_1 (by decide) (by omega) (fun h1 => ?_) (fun h1 => ?_)
  · skip
    refine ad_iconst dX3_baseOf_30 ?_
    exact ad_reti dX3_baseOf_31 rfl (⟨by rw [if_neg (by omega)], rfl⟩)
  · show ad_R _ _ _ _ 4 _ _ _
    refine ad_iload_n dX3_baseOf_4 rfl ?_
    refine ad_bipush dX3_baseOf_5 rfl ?_
    refine ad_icmp_ge 30 dX3_baseOf_7 (by decide) (by omega) (by omega) (fun h7 => ?_) (fun h7 => ?_)
    · skip
      refine ad_iconst dX3_baseOf_30 ?_
      exact ad_reti dX3_baseOf_31 rfl (⟨by rw [if_neg (by omega)], rfl⟩)
    · show ad_R _ _ _ _ 10 _ _ _
      have hbv := hb v.toNat (by omega)
      refine ad_aload_n dX3_baseOf_10 rfl ?_
      refine gf_X3_15 rfl dX3_baseOf_11 ?_
      refine ad_iload_n dX3_baseOf_14 rfl ?_
      refine ad_iald dX3_baseOf_15 (by show _ < 1; omega) ⟨by decide, by decide⟩ (by omega) (by show _ < ((10 : Nat) : Int); omega) ?_
      refine ad_bipush dX3_baseOf_16 rfl ?_
      refine ad_icmp_ge 30 dX3_baseOf_18 (by decide) (by omega) (by omega) (fun h18 => ?_) (fun h18 => ?_)
      · skip
        refine ad_iconst dX3_baseOf_30 ?_
        exact ad_reti dX3_baseOf_31 rfl (⟨by rw [if_neg (by omega)], rfl⟩)
      · show ad_R _ _ _ _ 21 _ _ _
        refine ad_aload_n dX3_baseOf_21 rfl ?_
        refine gf_X3_15 rfl dX3_baseOf_22 ?_
        refine ad_iload_n dX3_baseOf_25 rfl ?_
        refine ad_iald dX3_baseOf_26 (by show _ < 1; omega) ⟨by decide, by decide⟩ (by omega) (by show _ < ((10 : Nat) : Int); omega) ?_
        refine ad_goto 31 dX3_baseOf_27 (by decide) ?_
        exact ad_reti dX3_baseOf_31 rfl (⟨by rw [if_pos ⟨by omega, by omega, by omega⟩], rfl⟩)
theorem c_X3_isTold {g : ad_G} {d : Nat} {σ : ad_Mem} {j : Nat} (h1d : 1 ≤ d) (hj : j < 36) (hw : ad_nw σ j) (h12 : σ 2 j 1 ≤ 12) (hb : ∀ u, u < 10 → 0 ≤ σ 14 0 u ∧ σ 14 0 u ≤ 11) [hdec : Decidable (∀ i : Nat, (i : Int) < σ 2 j 1 → σ 12 j i = if i < 10 then σ 14 0 i else 11)] : ad_Q g mX3_isTold d [ad_rf g 3 0, ad_rf g 2 j] σ (fun x m => x = ad_pv (∀ i : Nat, (i : Int) < σ 2 j 1 → σ 12 j i = if i < 10 then σ 14 0 i else 11) ∧ m = σ) := by
  have hww := hw
  obtain ⟨hw0, hw1, hw2⟩ := hw
  have hln := ad_len12 j
  refine ad_M1 (k := 2) rfl (by simp [Value.category]) rfl (Nat.le_of_ble_eq_true rfl) ?_
  simp only [List.map_cons, List.map_nil, List.replicate, List.cons_append, List.nil_append]
  have lp : ∀ (n : Nat) (v : Int) (v3 : Option Value), (0 ≤ v) → (v ≤ σ 2 j 1) → (∀ i : Nat, (i : Int) < v → σ 12 j i = if i < 10 then σ 14 0 i else 11) → (σ 2 j 1 - v).toNat ≤ n → ad_R g mX3_isTold d (ad_ZQ mX3_isTold (fun x m => x = ad_pv (∀ i : Nat, (i : Int) < σ 2 j 1 → σ 12 j i = if i < 10 then σ 14 0 i else 11) ∧ m = σ)) 2 [some (ad_rf g 3 0), some (ad_rf g 2 j), some (ad_iv v), v3] [] σ := by
    intro n
    induction n with
    | zero =>
      intro v v3 hv0 hv1 hI hn
      refine ad_iload_n dX3_isTold_2 rfl ?_
      refine ad_aload_n dX3_isTold_3 rfl ?_
      refine gf_X3_122 rfl (by omega) dX3_isTold_4 ?_
      refine ad_icmp_ge 45 dX3_isTold_7 (by decide) (by omega) (by omega) (fun h7 => ?_) (fun h7 => ?_)
      · skip
        refine ad_iconst dX3_isTold_45 ?_
        exact ad_ret1 dX3_isTold_46 rfl (⟨ad_pv_t (fun i hi => hI i (by omega)), rfl⟩)
      · show ad_R _ _ _ _ 10 _ _ _
        exfalso; omega
    | succ n ih =>
      intro v v3 hv0 hv1 hI hn
      refine ad_iload_n dX3_isTold_2 rfl ?_
      refine ad_aload_n dX3_isTold_3 rfl ?_
      refine gf_X3_122 rfl (by omega) dX3_isTold_4 ?_
      refine ad_icmp_ge 45 dX3_isTold_7 (by decide) (by omega) (by omega) (fun h7 => ?_) (fun h7 => ?_)
      · skip
        refine ad_iconst dX3_isTold_45 ?_
        exact ad_ret1 dX3_isTold_46 rfl (⟨ad_pv_t (fun i hi => hI i (by omega)), rfl⟩)
      · show ad_R _ _ _ _ 10 _ _ _
        refine ad_iload_n dX3_isTold_10 rfl ?_
        refine ad_bipush dX3_isTold_11 rfl ?_
        refine ad_icmp_ge 25 dX3_isTold_13 (by decide) (by omega) (by omega) (fun h13 => ?_) (fun h13 => ?_)
        · skip
          refine ad_bipush dX3_isTold_25 rfl ?_
          refine ad_istore_n dX3_isTold_27 (by decide) rfl (by dsimp only [ad_set]) ?_
          have hx := hw2 v.toNat
          refine ad_aload_n dX3_isTold_28 rfl ?_
          refine ad_iload_n dX3_isTold_29 rfl ?_
          refine ad_cv1f rfl cl_X3_127 dX3_isTold_30 (c_X2_at hj hww (by omega)) (by omega) (by show _ < 36; omega) (Nat.le_of_ble_eq_true rfl) ?_
          rw [if_pos (by omega)]
          refine ad_iload_n dX3_isTold_33 rfl ?_
          refine ad_icmp_eq 39 dX3_isTold_34 (by decide) (by omega) (by omega) (fun h34 => ?_) (fun h34 => ?_)
          · skip
            refine ad_iinc dX3_isTold_39 rfl (by decide) rfl (by dsimp only [ad_set]) ?_
            refine ad_goto 2 dX3_isTold_42 (by decide) ?_
            refine ih (v + 1) _ (by omega) (by omega) (fun i hi => ?_) (by omega)
            by_cases hiv : (i : Int) = v
            · have hit : i = v.toNat := by omega
              rw [hit, if_neg (by omega)]; exact h34
            · exact hI i (by omega)
          · show ad_R _ _ _ _ 37 _ _ _
            refine ad_iconst dX3_isTold_37 ?_
            exact ad_ret0 dX3_isTold_38 rfl (⟨ad_pv_f (fun q => h34 (by have hq := q v.toNat (by omega); rw [hq, if_neg (by omega)])), rfl⟩)
        · show ad_R _ _ _ _ 16 _ _ _
          have hbv := hb v.toNat (by omega)
          refine ad_aload_n dX3_isTold_16 rfl ?_
          refine gf_X3_15 rfl dX3_isTold_17 ?_
          refine ad_iload_n dX3_isTold_20 rfl ?_
          refine ad_iald dX3_isTold_21 (by show _ < 1; omega) ⟨by decide, by decide⟩ (by omega) (by show _ < ((10 : Nat) : Int); omega) ?_
          refine ad_goto 27 dX3_isTold_22 (by decide) ?_
          refine ad_istore_n dX3_isTold_27 (by decide) rfl (by dsimp only [ad_set]) ?_
          have hx := hw2 v.toNat
          refine ad_aload_n dX3_isTold_28 rfl ?_
          refine ad_iload_n dX3_isTold_29 rfl ?_
          refine ad_cv1f rfl cl_X3_127 dX3_isTold_30 (c_X2_at hj hww (by omega)) (by omega) (by show _ < 36; omega) (Nat.le_of_ble_eq_true rfl) ?_
          rw [if_pos (by omega)]
          refine ad_iload_n dX3_isTold_33 rfl ?_
          refine ad_icmp_eq 39 dX3_isTold_34 (by decide) (by omega) (by omega) (fun h34 => ?_) (fun h34 => ?_)
          · skip
            refine ad_iinc dX3_isTold_39 rfl (by decide) rfl (by dsimp only [ad_set]) ?_
            refine ad_goto 2 dX3_isTold_42 (by decide) ?_
            refine ih (v + 1) _ (by omega) (by omega) (fun i hi => ?_) (by omega)
            by_cases hiv : (i : Int) = v
            · have hit : i = v.toNat := by omega
              rw [hit, if_pos (by omega)]; exact h34
            · exact hI i (by omega)
          · show ad_R _ _ _ _ 37 _ _ _
            refine ad_iconst dX3_isTold_37 ?_
            exact ad_ret0 dX3_isTold_38 rfl (⟨ad_pv_f (fun q => h34 (by have hq := q v.toNat (by omega); rw [hq, if_pos (by omega)])), rfl⟩)
  refine ad_iconst dX3_isTold_0 ?_
  refine ad_istore_n dX3_isTold_1 (by decide) rfl (by dsimp only [ad_set]) ?_
  exact lp (σ 2 j 1).toNat 0 _ (by omega) (by omega) (fun i hi => by omega) (by omega)
theorem c_X3_mayBeBase {g : ad_G} {d : Nat} {σ : ad_Mem} {s : Nat} {A : ad_Ar} (hs : s < 3) (hr : ad_rC σ s A) (hw : ad_wA A) (hst : σ 3 0 5 = (s : Int) + 1) {k f n : Int} {l : List Nat} {j i : Nat} (h2d : 2 ≤ d) (hk : σ 3 0 7 = k) (hk2 : 0 ≤ k ∧ k ≤ 5) (hf : σ 3 0 8 = f) (hf2 : 0 ≤ f ∧ f ≤ 9) (hl : ∀ u ∈ l, u < 10 ∧ ad_aH A u = true) (hj : j < l.length) (hi : i < l.length) (hl10 : l.length ≤ 10) (hn : n = (i : Int) - j) : ad_Q g mX3_mayBeBase d [ad_rf g 3 0, ad_iv (l.getD j 0 : Int), ad_iv (l.getD i 0 : Int), ad_iv n] σ (fun x m => x = ad_pv (ad_may A k f l j i = true) ∧ m = σ) := by
  have hr0 := hr
  have hw0 := hw
  obtain ⟨r1, r2, r3, r4, r5, r6, r7, r8⟩ := hr
  obtain ⟨w1, w2, w3, w4, w5, w6, w7, w8, w9⟩ := hw
  have hmi := hl _ (ad_getD_mem hi)
  have hmj := hl _ (ad_getD_mem hj)
  refine ad_M1 (k := 0) rfl (by simp [Value.category]) rfl (Nat.le_of_ble_eq_true rfl) ?_
  simp only [List.map_cons, List.map_nil, List.replicate, List.cons_append, List.nil_append]
  refine ad_aload_n dX3_mayBeBase_0 rfl ?_
  refine gf_X3_35 rfl dX3_mayBeBase_1 ?_
  rw [hk]
  by_cases hs4_3 : k = 3
  · refine ad_lookup dX3_mayBeBase_4 (by omega) (by decide) 32 (by first | (rw [hs4_3]; rfl) | rw [hs4_3]) (by decide) ?_
    refine ad_aload_n dX3_mayBeBase_32 rfl ?_
    refine gf_X3_31 rfl (by assumption) dX3_mayBeBase_33 ?_
    refine ad_iload_n dX3_mayBeBase_36 rfl ?_
    refine ad_iload_n dX3_mayBeBase_37 rfl ?_
    refine ad_cv2f rfl cl_X3_113 dX3_mayBeBase_38 (c_X4_hasParent hs hr0 hw0 hmi.2 (by omega) (by omega)) (by omega) (by show _ < 3; omega) (Nat.le_of_ble_eq_true rfl) ?_
    refine ad_ifp_ne 56 dX3_mayBeBase_41 (by decide) (fun h41 => ?_) (fun h41 => ?_)
    · skip
      refine ad_iconst dX3_mayBeBase_56 ?_
      refine ad_goto 61 dX3_mayBeBase_57 (by decide) ?_
      exact ad_ret1 dX3_mayBeBase_61 rfl (⟨ad_pv_t (by unfold ad_may ad_par; rw [if_neg (by omega), if_pos (by omega)]; simp only [decide_eq_true h41, Bool.true_or]), rfl⟩)
    · show ad_R _ _ _ _ 44 _ _ _
      refine ad_aload_n dX3_mayBeBase_44 rfl ?_
      refine gf_X3_31 rfl (by assumption) dX3_mayBeBase_45 ?_
      refine ad_iload_n dX3_mayBeBase_48 rfl ?_
      refine ad_iload_n dX3_mayBeBase_49 rfl ?_
      refine ad_cv2f rfl cl_X3_113 dX3_mayBeBase_50 (c_X4_hasParent hs hr0 hw0 hmj.2 (by omega) (by omega)) (by omega) (by show _ < 3; omega) (Nat.le_of_ble_eq_true rfl) ?_
      refine ad_ifp_eq 60 dX3_mayBeBase_53 (by decide) (fun h53 => ?_) (fun h53 => ?_)
      · skip
        refine ad_iconst dX3_mayBeBase_60 ?_
        exact ad_ret0 dX3_mayBeBase_61 rfl (⟨ad_pv_f (by unfold ad_may ad_par; rw [if_neg (by omega), if_pos (by omega)]; simp only [decide_eq_false h41, decide_eq_false h53]; decide), rfl⟩)
      · show ad_R _ _ _ _ 56 _ _ _
        refine ad_iconst dX3_mayBeBase_56 ?_
        refine ad_goto 61 dX3_mayBeBase_57 (by decide) ?_
        exact ad_ret1 dX3_mayBeBase_61 rfl (⟨ad_pv_t (by unfold ad_may ad_par; rw [if_neg (by omega), if_pos (by omega)]; simp only [decide_eq_true h53, Bool.or_true]), rfl⟩)
  by_cases hs4_5 : k = 5
  · refine ad_lookup dX3_mayBeBase_4 (by omega) (by decide) 62 (by first | (rw [hs4_5]; rfl) | rw [hs4_5]) (by decide) ?_
    refine ad_iload_n dX3_mayBeBase_62 rfl ?_
    refine ad_aload_n dX3_mayBeBase_63 rfl ?_
    refine gf_X3_39 rfl dX3_mayBeBase_64 ?_
    rw [hf]
    refine ad_icmp_gt 74 dX3_mayBeBase_67 (by decide) (by omega) (by omega) (fun h67 => ?_) (fun h67 => ?_)
    · skip
      refine ad_iconst dX3_mayBeBase_74 ?_
      exact ad_ret0 dX3_mayBeBase_75 rfl (⟨ad_pv_f (by unfold ad_may; rw [if_pos (by omega)]; intro q; have := of_decide_eq_true q; omega), rfl⟩)
    · show ad_R _ _ _ _ 70 _ _ _
      refine ad_iconst dX3_mayBeBase_70 ?_
      refine ad_goto 75 dX3_mayBeBase_71 (by decide) ?_
      exact ad_ret1 dX3_mayBeBase_75 rfl (⟨ad_pv_t (by unfold ad_may; rw [if_pos (by omega)]; exact decide_eq_true (by omega)), rfl⟩)
  refine ad_lookup dX3_mayBeBase_4 (by omega) (by decide) 76 (by simp [Op.lookupswitch.offset, Ne.symm hs4_3, Ne.symm hs4_5]; rfl) (by decide) ?_
  refine ad_iconst dX3_mayBeBase_76 ?_
  exact ad_ret1 dX3_mayBeBase_77 rfl (⟨ad_pv_t (by unfold ad_may; rw [if_neg (by omega), if_neg (by omega)]), rfl⟩)
theorem c_X3_learn {g : ad_G} {d : Nat} {σ : ad_Mem} {s : Nat} (hs : s < 3) : ad_V g mX3_learn d [ad_rf g 3 0, ad_rf g 4 s] σ (fun m => m 3 0 5 = (s : Int) + 1 ∧ (∀ q, q < 100 → m 16 0 q = 0) ∧ (∀ k i, k ≠ 16 → k ≠ 3 → m k i = σ k i) ∧ (∀ q, q ≠ 5 → m 3 0 q = σ 3 0 q)) := by
  refine ad_M1 (k := 1) rfl (by simp [Value.category]) rfl (Nat.le_of_ble_eq_true rfl) ?_
  simp only [List.map_cons, List.map_nil, List.replicate, List.cons_append, List.nil_append]
  have lp : ∀ (n : Nat) (v : Int) (σ1 : ad_Mem), (0 ≤ v) → (v ≤ 100) → (σ1 3 0 5 = (s : Int) + 1) → (∀ q : Nat, (q : Int) < v → σ1 16 0 q = 0) → (∀ k i, k ≠ 16 → k ≠ 3 → σ1 k i = σ k i) → (∀ q, q ≠ 5 → σ1 3 0 q = σ 3 0 q) → (100 - v).toNat ≤ n → ad_R g mX3_learn d (ad_ZV mX3_learn (fun m => m 3 0 5 = (s : Int) + 1 ∧ (∀ q, q < 100 → m 16 0 q = 0) ∧ (∀ k i, k ≠ 16 → k ≠ 3 → m k i = σ k i) ∧ (∀ q, q ≠ 5 → m 3 0 q = σ 3 0 q))) 7 [some (ad_rf g 3 0), some (ad_rf g 4 s), some (ad_iv v)] [] σ1 := by
    intro n
    induction n with
    | zero =>
      intro v σ1 hv0 hv1 e0 e1 e2 e3 hn
      refine ad_iload_n dX3_learn_7 rfl ?_
      refine ad_aload_n dX3_learn_8 rfl ?_
      refine gf_X3_21 rfl dX3_learn_9 ?_
      refine ad_alen (n := 100) dX3_learn_12 (by show _ < 1; omega) ⟨by decide, by decide⟩ rfl ?_
      refine ad_icmp_ge 29 dX3_learn_13 (by decide) (by omega) (by omega) (fun h13 => ?_) (fun h13 => ?_)
      · skip
        exact ad_retv dX3_learn_29 rfl (⟨e0, fun q hq => e1 q (by omega), e2, e3⟩)
      · show ad_R _ _ _ _ 16 _ _ _
        exfalso; omega
    | succ n ih =>
      intro v σ1 hv0 hv1 e0 e1 e2 e3 hn
      refine ad_iload_n dX3_learn_7 rfl ?_
      refine ad_aload_n dX3_learn_8 rfl ?_
      refine gf_X3_21 rfl dX3_learn_9 ?_
      refine ad_alen (n := 100) dX3_learn_12 (by show _ < 1; omega) ⟨by decide, by decide⟩ rfl ?_
      refine ad_icmp_ge 29 dX3_learn_13 (by decide) (by omega) (by omega) (fun h13 => ?_) (fun h13 => ?_)
      · skip
        exact ad_retv dX3_learn_29 rfl (⟨e0, fun q hq => e1 q (by omega), e2, e3⟩)
      · show ad_R _ _ _ _ 16 _ _ _
        refine ad_aload_n dX3_learn_16 rfl ?_
        refine gf_X3_21 rfl dX3_learn_17 ?_
        refine ad_iload_n dX3_learn_20 rfl ?_
        refine ad_iconst dX3_learn_21 ?_
        refine ad_iast dX3_learn_22 (by show _ < 1; omega) ⟨by decide, by decide⟩ (by omega) (by show _ < ((100 : Nat) : Int); omega) ?_
        refine ad_iinc dX3_learn_23 rfl (by decide) rfl (by dsimp only [ad_set]) ?_
        refine ad_goto 7 dX3_learn_26 (by decide) ?_
        refine ih (v + 1) _ (by omega) (by omega) (by rw [← e0]; simp [ad_st]) (fun q hq => ?_) (fun k i h1 h2 => ?_) (fun q hq => ?_) (by omega)
        · by_cases hqv : q = v.toNat
          · simp [ad_st, hqv]
          · rw [← e1 q (by omega)]; simp [ad_st, hqv]
        · rw [← e2 k i h1 h2]; funext c; simp [ad_st, h1]
        · rw [← e3 q hq]; simp [ad_st]
  refine ad_aload_n dX3_learn_0 rfl ?_
  refine ad_aload_n dX3_learn_1 rfl ?_
  refine pf_X3_31 rfl dX3_learn_2 ?_
  refine ad_iconst dX3_learn_5 ?_
  refine ad_istore_n dX3_learn_6 (by decide) rfl (by dsimp only [ad_set]) ?_
  refine lp 100 0 _ (by omega) (by omega) (by simp [ad_st]) (fun q hq => by omega) (fun k i h1 h2 => ?_) (fun q hq => ?_) (by omega)
  · funext c; simp [ad_st, h2]
  · simp [ad_st, hq]
