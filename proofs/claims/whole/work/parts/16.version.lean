/-! ===== one version (Version) ===== -/
theorem c_X6_isWhole {g : ad_G} {d : Nat} {σ : ad_Mem} {j : Nat} (hj : j < 30) (hb : ad_rng (σ 6 j 6)) : ad_Q g mX6_isWhole d [ad_rf g 6 j] σ (fun x s => x = ad_pv (σ 6 j 6 = -1) ∧ s = σ) := by
  refine ad_M1 (k := 0) rfl (by simp [Value.category]) rfl (Nat.le_of_ble_eq_true rfl) ?_
  simp only [List.map_cons, List.map_nil, List.replicate, List.cons_append, List.nil_append]
  refine ad_aload_n dX6_isWhole_0 rfl ?_
  refine gf_X6_40 rfl (by omega) dX6_isWhole_1 ?_
  refine ad_iconst dX6_isWhole_4 ?_
  refine ad_icmp_ne 12 dX6_isWhole_5 (by decide) (by omega) (by omega) (fun h5 => ?_) (fun h5 => ?_)
  · skip
    refine ad_iconst dX6_isWhole_12 ?_
    exact ad_ret0 dX6_isWhole_13 rfl (⟨ad_pv_f (by omega), rfl⟩)
  · show ad_R _ _ _ _ 8 _ _ _
    refine ad_iconst dX6_isWhole_8 ?_
    refine ad_goto 13 dX6_isWhole_9 (by decide) ?_
    exact ad_ret1 dX6_isWhole_13 rfl (⟨ad_pv_t (by omega), rfl⟩)
theorem c_X6_wholeCost {g : ad_G} {d : Nat} {σ : ad_Mem} {j : Nat} (hj : j < 30) : ad_Q g mX6_wholeCost d [ad_rf g 6 j] σ (fun x s => x = ad_iv (1 + σ 2 j 1) ∧ s = σ) := by
  refine ad_M1 (k := 0) rfl (by simp [Value.category]) rfl (Nat.le_of_ble_eq_true rfl) ?_
  simp only [List.map_cons, List.map_nil, List.replicate, List.cons_append, List.nil_append]
  refine ad_iconst dX6_wholeCost_0 ?_
  refine ad_aload_n dX6_wholeCost_1 rfl ?_
  refine gf_X6_14 rfl (by omega) dX6_wholeCost_2 ?_
  refine gf_X6_43 rfl (by omega) dX6_wholeCost_5 ?_
  refine ad_iadd dX6_wholeCost_8 ?_
  exact ad_reti dX6_wholeCost_9 rfl (⟨rfl, rfl⟩)
theorem c_X6_cost {g : ad_G} {d : Nat} {σ : ad_Mem} {j : Nat} (h1d : 1 ≤ d) (hj : j < 30) (hb : ad_rng (σ 6 j 6)) : ad_Q g mX6_cost d [ad_rf g 6 j] σ (fun x s => x = ad_iv (if σ 6 j 6 = -1 then 1 + σ 2 j 1 else 1 + σ 0 j 2 + σ 0 j 3) ∧ s = σ) := by
  refine ad_M1 (k := 0) rfl (by simp [Value.category]) rfl (Nat.le_of_ble_eq_true rfl) ?_
  simp only [List.map_cons, List.map_nil, List.replicate, List.cons_append, List.nil_append]
  refine ad_aload_n dX6_cost_0 rfl ?_
  refine ad_cv0f rfl cl_X6_46 dX6_cost_1 (c_X6_isWhole hj hb) (by omega) (by show _ < 30; omega) (Nat.le_of_ble_eq_true rfl) ?_
  refine ad_ifp_eq 14 dX6_cost_4 (by decide) (fun h4 => ?_) (fun h4 => ?_)
  · skip
    refine ad_aload_n dX6_cost_14 rfl ?_
    refine gf_X6_23 rfl (by omega) dX6_cost_15 ?_
    refine ad_cv0f rfl cl_X6_54 dX6_cost_18 (c_X0_cost (by omega)) (by omega) (by show _ < 32; omega) (Nat.le_of_ble_eq_true rfl) ?_
    exact ad_reti dX6_cost_21 rfl (by first | exact ⟨by rw [if_pos h4], rfl⟩ | exact ⟨by rw [if_neg h4], rfl⟩)
  · show ad_R _ _ _ _ 7 _ _ _
    refine ad_aload_n dX6_cost_7 rfl ?_
    refine ad_cv0f rfl cl_X6_50 dX6_cost_8 (c_X6_wholeCost hj) (by omega) (by show _ < 30; omega) (Nat.le_of_ble_eq_true rfl) ?_
    refine ad_goto 21 dX6_cost_11 (by decide) ?_
    exact ad_reti dX6_cost_21 rfl (by first | exact ⟨by rw [if_pos h4], rfl⟩ | exact ⟨by rw [if_neg h4], rfl⟩)
theorem c_X6_isSound {g : ad_G} {d : Nat} {σ : ad_Mem} {j : Nat} (h1d : 1 ≤ d) (hj : j < 30) (hw : ad_nw σ j) (hb : ad_rng (σ 6 j 5)) : ad_Q g mX6_isSound d [ad_rf g 6 j] σ (fun x s => x = ad_pv (ad_hs (ad_nl σ j) = σ 6 j 5) ∧ s = σ) := by
  refine ad_M1 (k := 0) rfl (by simp [Value.category]) rfl (Nat.le_of_ble_eq_true rfl) ?_
  simp only [List.map_cons, List.map_nil, List.replicate, List.cons_append, List.nil_append]
  refine ad_aload_n dX6_isSound_0 rfl ?_
  refine gf_X6_14 rfl (by omega) dX6_isSound_1 ?_
  refine ad_cv0f rfl cl_X6_57 dX6_isSound_4 (c_X2_hashed (by omega) hw) (by omega) (by show _ < 36; omega) (Nat.le_of_ble_eq_true rfl) ?_
  have hr := ad_hs_rng σ j hw
  refine ad_aload_n dX6_isSound_7 rfl ?_
  refine gf_X6_37 rfl (by omega) dX6_isSound_8 ?_
  refine ad_icmp_ne 18 dX6_isSound_11 (by decide) (by omega) (by omega) (fun h11 => ?_) (fun h11 => ?_)
  · skip
    refine ad_iconst dX6_isSound_18 ?_
    exact ad_ret0 dX6_isSound_19 rfl (⟨ad_pv_f (by omega), rfl⟩)
  · show ad_R _ _ _ _ 14 _ _ _
    refine ad_iconst dX6_isSound_14 ?_
    refine ad_goto 19 dX6_isSound_15 (by decide) ?_
    exact ad_ret1 dX6_isSound_19 rfl (⟨ad_pv_t (by omega), rfl⟩)
theorem c_X6_leave {g : ad_G} {d : Nat} {σ : ad_Mem} {j : Nat} {n : Int} (h1d : 1 ≤ d) (hj : j < 30) (hn : 0 ≤ n ∧ n ≤ 2147483647) (hb : -1 ≤ σ 6 j 6 ∧ σ 6 j 6 < 10) : ad_V g mX6_leave d [ad_rf g 6 j, ad_iv n] σ (fun s => s = if σ 6 j 6 ≠ -1 ∧ ad_tb n (σ 6 j 6) then ad_st σ 6 j 6 (-1) else σ) := by
  refine ad_M1 (k := 0) rfl (by simp [Value.category]) rfl (Nat.le_of_ble_eq_true rfl) ?_
  simp only [List.map_cons, List.map_nil, List.replicate, List.cons_append, List.nil_append]
  refine ad_aload_n dX6_leave_0 rfl ?_
  refine ad_cv0f rfl cl_X6_46 dX6_leave_1 (c_X6_isWhole hj (by omega)) (by omega) (by show _ < 30; omega) (Nat.le_of_ble_eq_true rfl) ?_
  refine ad_ifp_ne 24 dX6_leave_4 (by decide) (fun h4 => ?_) (fun h4 => ?_)
  · skip
    exact ad_retv dX6_leave_24 rfl (by first | (rw [if_neg (fun q => q.1 h4)]; done) | (rw [if_pos ⟨h4, h16⟩]; done) | (rw [if_neg (fun q => h16 q.2)]; done))
  · show ad_R _ _ _ _ 7 _ _ _
    refine ad_iload_n dX6_leave_7 rfl ?_
    refine ad_aload_n dX6_leave_8 rfl ?_
    refine gf_X6_40 rfl (by omega) dX6_leave_9 ?_
    refine ad_ishr dX6_leave_12 ?_
    refine ad_iconst dX6_leave_13 ?_
    refine ad_iand dX6_leave_14 ?_
    rw [ad_bitI (by omega) (by omega)]
    refine ad_iconst dX6_leave_15 ?_
    refine ad_icmp_ne_p1 24 dX6_leave_16 (by decide) (fun h16 => ?_) (fun h16 => ?_)
    · skip
      exact ad_retv dX6_leave_24 rfl (by first | (rw [if_neg (fun q => q.1 h4)]; done) | (rw [if_pos ⟨h4, h16⟩]; done) | (rw [if_neg (fun q => h16 q.2)]; done))
    · show ad_R _ _ _ _ 19 _ _ _
      refine ad_aload_n dX6_leave_19 rfl ?_
      refine ad_iconst dX6_leave_20 ?_
      refine pf_X6_40 rfl (by omega) dX6_leave_21 ?_
      exact ad_retv dX6_leave_24 rfl (by first | (rw [if_neg (fun q => q.1 h4)]; done) | (rw [if_pos ⟨h4, h16⟩]; done) | (rw [if_neg (fun q => h16 q.2)]; done))
def ad_Tv (j : Nat) (k i : Nat) : Prop := (k = 0 ∨ k = 2 ∨ k = 6 ∨ k = 10 ∨ k = 11 ∨ k = 12) ∧ i = j
theorem c_X6_copyFrom {g : ad_G} {d : Nat} {σ : ad_Mem} {j j2 : Nat} (h2d : 2 ≤ d) (hj : j < 30) (hj2 : j2 < 30) (hne : j ≠ j2) (hw : ad_nw σ j) (hw2 : ad_nw σ j2) (hdr : ad_dr σ j) (hdw : ad_dw σ j2) : ad_V g mX6_copyFrom d [ad_rf g 6 j, ad_rf g 6 j2] σ (fun s => ad_fr (ad_Tv j) σ s ∧ ad_nl s j = ad_nl σ j2 ∧ ad_nw s j ∧ ad_ds s j = ad_ds σ j2 ∧ ad_dw s j ∧ s 6 j 2 = σ 6 j2 2 ∧ s 6 j 3 = σ 6 j2 3 ∧ s 6 j 4 = σ 6 j2 4 ∧ s 6 j 5 = σ 6 j2 5 ∧ s 6 j 6 = σ 6 j2 6) := by
  have hle : σ 2 j2 1 ≤ (ad_len 12 j : Int) := by
    have h1 := hw2.2.1
    have h2 : (ad_len 12 j2 : Int) = 12 := by show ((if j2 = 33 then 96 else 12 : Nat) : Int) = 12; rw [if_neg (by omega)]; rfl
    have h3 := ad_len12 j
    omega
  refine ad_M1 (k := 0) rfl (by simp [Value.category]) rfl (Nat.le_of_ble_eq_true rfl) ?_
  simp only [List.map_cons, List.map_nil, List.replicate, List.cons_append, List.nil_append]
  refine ad_aload_n dX6_copyFrom_0 rfl ?_
  refine gf_X6_14 rfl (by omega) dX6_copyFrom_1 ?_
  refine ad_aload_n dX6_copyFrom_4 rfl ?_
  refine gf_X6_14 rfl (by omega) dX6_copyFrom_5 ?_
  refine ad_cv1v rfl cl_X6_60 dX6_copyFrom_8 (c_X2_copyFrom (by omega) (by omega) (by omega) hw hw2 hle) (by omega) (by show _ < 36; omega) (Nat.le_of_ble_eq_true rfl) (fun s8 q8 => ?_)
  obtain ⟨a1, a2, a3, a4⟩ := ad_cpy_nl hw hw2 hle q8
  have b0 := ad_fr_n a3 0 j2 (Or.inl (by decide))
  have b10 := ad_fr_n a3 10 j2 (Or.inl (by decide))
  have b11 := ad_fr_n a3 11 j2 (Or.inl (by decide))
  have c10 := ad_fr_n a3 10 j (Or.inl (by decide))
  have c11 := ad_fr_n a3 11 j (Or.inl (by decide))
  have a6 := fun i => ad_fr_n a3 6 i (Or.inl (by decide))
  refine ad_aload_n dX6_copyFrom_11 rfl ?_
  refine gf_X6_23 rfl (by omega) dX6_copyFrom_12 ?_
  refine ad_aload_n dX6_copyFrom_15 rfl ?_
  refine gf_X6_23 rfl (by omega) dX6_copyFrom_16 ?_
  refine ad_cv1v rfl cl_X6_64 dX6_copyFrom_19 (c_X0_copyFrom (by omega) (by omega) (by omega) hne (ad_dw_congr b0 b10 b11 hdw) (ad_dr_congr c10 c11 hdr)) (by omega) (by show _ < 32; omega) (Nat.le_of_ble_eq_true rfl) (fun s19 q19 => ?_)
  obtain ⟨e1, e2, e3⟩ := q19
  have e6 := fun i => ad_fr_d e1 6 i (Or.inl (by decide))
  have e26 := ad_fr_d e1 2 j (Or.inl (by decide))
  have e12 := ad_fr_d e1 12 j (Or.inl (by decide))
  refine ad_aload_n dX6_copyFrom_22 rfl ?_
  refine ad_aload_n dX6_copyFrom_23 rfl ?_
  refine gf_X6_27 rfl (by omega) dX6_copyFrom_24 ?_
  refine pf_X6_27 rfl (by omega) dX6_copyFrom_27 ?_
  refine ad_aload_n dX6_copyFrom_30 rfl ?_
  refine ad_aload_n dX6_copyFrom_31 rfl ?_
  refine gf_X6_31 rfl (by omega) dX6_copyFrom_32 ?_
  refine pf_X6_31 rfl (by omega) dX6_copyFrom_35 ?_
  refine ad_aload_n dX6_copyFrom_38 rfl ?_
  refine ad_aload_n dX6_copyFrom_39 rfl ?_
  refine gf_X6_34 rfl (by omega) dX6_copyFrom_40 ?_
  refine pf_X6_34 rfl (by omega) dX6_copyFrom_43 ?_
  refine ad_aload_n dX6_copyFrom_46 rfl ?_
  refine ad_aload_n dX6_copyFrom_47 rfl ?_
  refine gf_X6_37 rfl (by omega) dX6_copyFrom_48 ?_
  refine pf_X6_37 rfl (by omega) dX6_copyFrom_51 ?_
  refine ad_aload_n dX6_copyFrom_54 rfl ?_
  refine ad_aload_n dX6_copyFrom_55 rfl ?_
  refine gf_X6_40 rfl (by omega) dX6_copyFrom_56 ?_
  refine pf_X6_40 rfl (by omega) dX6_copyFrom_59 ?_
  generalize hs : ad_st _ 6 j 6 _ = s
  have n1 : ¬ j2 = j := fun q => hne q.symm
  have f6 : ∀ k, s 6 j k = if k = 2 ∨ k = 3 ∨ k = 4 ∨ k = 5 ∨ k = 6 then σ 6 j2 k else σ 6 j k := by
    intro k
    rw [← hs]
    simp only [ad_st, n1, and_false, false_and, if_false, true_and, and_true]
    rw [e6, a6, e6, a6]
    by_cases k6 : k = 6
    · simp [k6]
    by_cases k5 : k = 5
    · simp [k5]
    by_cases k4 : k = 4
    · simp [k4]
    by_cases k3 : k = 3
    · simp [k3]
    by_cases k2 : k = 2
    · simp [k2]
    · simp [k2, k3, k4, k5, k6]
  have f0 : ∀ a b, ¬ (a = 6 ∧ b = j) → s a b = s19 a b := by
    intro a b hab
    funext c
    rw [← hs]
    simp only [ad_st]
    have hx : ∀ z, ¬ (a = 6 ∧ b = j ∧ c = z) := fun z q => hab ⟨q.1, q.2.1⟩
    simp only [hx, if_false]
  exact ad_retv dX6_copyFrom_62 rfl (by
    refine ⟨fun a b hab => ?_, ?_, ?_, ?_, ?_, ?_, ?_, ?_, ?_, ?_⟩
    · have h6 : ¬ (a = 6 ∧ b = j) := fun q => hab ⟨by simp [q.1], q.2⟩
      rw [f0 a b h6, e1 a b (fun q => hab ⟨by rcases q.1 with h | h | h <;> simp [h], q.2⟩), a3 a b (fun q => hab ⟨by rcases q.1 with h | h <;> simp [h], q.2⟩)]
    · rw [ad_nl_congr (f0 2 j (by omega)) (f0 12 j (by omega)), ad_nl_congr e26 e12]; exact a1
    · exact ad_nw_congr (f0 2 j (by omega)) (f0 12 j (by omega)) (ad_nw_congr e26 e12 a2)
    · rw [ad_ds_congr (f0 0 j (by omega)) (f0 10 j (by omega)) (f0 11 j (by omega)), e2, ad_ds_congr b0 b10 b11]
    · exact ad_dw_congr (f0 0 j (by omega)) (f0 10 j (by omega)) (f0 11 j (by omega)) e3
    · rw [f6]; simp
    · rw [f6]; simp
    · rw [f6]; simp
    · rw [f6]; simp
    · rw [f6]; simp)
