/-! ===== the class's state as a mathematical value ===== -/
/-- now, whether an image is taken, the taken, signs, row, refusals -/
abbrev ad_C7 : Type := ad_Ar × Bool × ad_Ar × List Int × List Int × (Nat → Int)
def ad_cmk (A : ad_Ar) (t : Bool) (T : ad_Ar) (S R : List Int) (F : Nat → Int) : ad_C7 := (A, t, T, S, R, F)
def ad_cA (C : ad_C7) : ad_Ar := C.1
def ad_ck (C : ad_C7) : Bool := C.2.1
def ad_cT (C : ad_C7) : ad_Ar := C.2.2.1
def ad_cS (C : ad_C7) : List Int := C.2.2.2.1
def ad_cR (C : ad_C7) : List Int := C.2.2.2.2.1
def ad_cF (C : ad_C7) : Nat → Int := C.2.2.2.2.2
def ad_sA (C : ad_C7) (A : ad_Ar) : ad_C7 := ad_cmk A (ad_ck C) (ad_cT C) (ad_cS C) (ad_cR C) (ad_cF C)
def ad_sS (C : ad_C7) (S : List Int) : ad_C7 := ad_cmk (ad_cA C) (ad_ck C) (ad_cT C) S (ad_cR C) (ad_cF C)
def ad_sR (C : ad_C7) (R : List Int) : ad_C7 := ad_cmk (ad_cA C) (ad_ck C) (ad_cT C) (ad_cS C) R (ad_cF C)
def ad_sT (C : ad_C7) (T : ad_Ar) : ad_C7 := ad_cmk (ad_cA C) true T (ad_cS C) (ad_cR C) (ad_cF C)
def ad_rfz (C : ad_C7) (n : Nat) : ad_C7 := ad_cmk (ad_cA C) (ad_ck C) (ad_cT C) (ad_cS C) (ad_cR C) (fun i => if i = n then ad_cF C i + 1 else ad_cF C i)
/-- a refusal -/
def ad_no (C : ad_C7) (n : Nat) : Int × ad_C7 := (-(n : Int), ad_rfz C n)
/-- what the class's fields hold -/
def ad_c7 (σ : ad_Mem) (C : ad_C7) : Prop :=
  (ad_rC σ 0 (ad_cA C) ∧ ad_wA (ad_cA C)) ∧ σ 7 0 9 = (if ad_ck C = true then 1 else 0) ∧ (ad_ck C = true → ad_rC σ 1 (ad_cT C) ∧ ad_wA (ad_cT C)) ∧ (ad_rK σ 1 ∧ ad_rK σ 2) ∧ (ad_nw σ 33 ∧ ad_nw σ 34 ∧ ad_nw σ 35) ∧ (ad_dr σ 30 ∧ ad_dr σ 31) ∧
  (ad_nl σ 33 = ad_cS C ∧ ∀ x ∈ ad_cS C, 0 ≤ x ∧ x ≤ 255) ∧ (ad_nl σ 35 = ad_cR C ∧ ∀ x ∈ ad_cR C, 0 ≤ x ∧ x ≤ 99) ∧ ∀ i, i < 7 → σ 20 0 i = ad_cF C i
/-- the class's memory -/
def ad_f7 (k _i : Nat) : Prop := k ≠ 8 ∧ k < 21
/-- an answer with the state behind it -/
def ad_an7 (σ : ad_Mem) (x : Value) (m : ad_Mem) (r : Int × ad_C7) : Prop := x = ad_iv r.1 ∧ ad_c7 m r.2 ∧ ad_fr ad_f7 σ m
def ad_al7 (σ : ad_Mem) (x : Value) (m : ad_Mem) (r : Int × ad_C7) : Prop := x = ad_lv r.1 ∧ ad_c7 m r.2 ∧ ad_fr ad_f7 σ m
theorem ad_rK_congr {σ m : ad_Mem} {s : Nat} (h : ∀ k i, ad_Ts s k i → m k i = σ k i) (hr : ad_rK σ s) : ad_rK m s := by
  have ev : ∀ k v, (k = 0 ∨ k = 2 ∨ k = 6 ∨ k = 10 ∨ k = 11 ∨ k = 12) → v < 10 → m k (10 * s + v) = σ k (10 * s + v) := fun k v hk hv => h k _ (Or.inr (Or.inr (Or.inr ⟨hk, by omega, by omega⟩)))
  exact ⟨fun v hv => ⟨ad_nw_congr (ev 2 v (by simp) hv) (ev 12 v (by simp) hv) (hr.1 v hv).1, ad_dw_congr (ev 0 v (by simp) hv) (ev 10 v (by simp) hv) (ev 11 v (by simp) hv) (hr.1 v hv).2⟩, ad_nw_congr (h 2 (30 + s) (Or.inr (Or.inr (Or.inl ⟨Or.inl rfl, rfl⟩)))) (h 12 (30 + s) (Or.inr (Or.inr (Or.inl ⟨Or.inr rfl, rfl⟩)))) hr.2⟩
def ad_TX (k i : Nat) : Prop := (k = 1 ∨ k = 3 ∨ k = 13 ∨ k = 14 ∨ k = 15 ∨ k = 16) ∨ ((k = 0 ∨ k = 10 ∨ k = 11) ∧ (i = 30 ∨ i = 31)) ∨ ad_Ts 0 k i ∨ ad_Ts 2 k i
theorem ad_TX_f7 {k i : Nat} (h : ad_TX k i) : ad_f7 k i := by
  unfold ad_TX ad_Ts at h
  unfold ad_f7
  omega
theorem ad_Ts_f7 {s k i : Nat} (h : ad_Ts s k i) : ad_f7 k i := by
  unfold ad_Ts at h
  unfold ad_f7
  omega
theorem ad_Ts_TX0 {k i : Nat} (h : ad_Ts 0 k i) : ad_TX k i := Or.inr (Or.inr (Or.inl h))
theorem ad_Ts_TX2 {k i : Nat} (h : ad_Ts 2 k i) : ad_TX k i := Or.inr (Or.inr (Or.inr h))
theorem ad_c7_X {σ m : ad_Mem} {C : ad_C7} {A : ad_Ar} (h : ad_c7 σ C) (hf : ad_fr ad_TX σ m) (hr : ad_rC m 0 A) (hw : ad_wA A) (h2 : ad_rK m 2) (h30 : ad_dr m 30) (h31 : ad_dr m 31) : ad_c7 m (ad_sA C A) := by
  obtain ⟨a1, a2, a3, a4, a5, a6, a7, a8, a9⟩ := h
  have e1 : ∀ k i, ad_Ts 1 k i → m k i = σ k i := fun k i hk => hf k i (fun z => by unfold ad_TX at z; unfold ad_Ts at z hk; omega)
  have en : ∀ k i, k = 2 ∨ k = 12 → 33 ≤ i → m k i = σ k i := fun k i hk hi => hf k i (fun z => by unfold ad_TX ad_Ts at z; omega)
  have e7 : ∀ k i, k = 7 ∨ k = 20 → m k i = σ k i := fun k i hk => hf k i (fun z => by unfold ad_TX ad_Ts at z; omega)
  refine ⟨⟨hr, hw⟩, by rw [e7 7 0 (by simp)]; exact a2, fun q => ⟨ad_rC_congr (a3 q).2 e1 (a3 q).1, (a3 q).2⟩, ⟨ad_rK_congr e1 a4.1, h2⟩, ⟨ad_nw_congr (en 2 33 (by simp) (by omega)) (en 12 33 (by simp) (by omega)) a5.1, ad_nw_congr (en 2 34 (by simp) (by omega)) (en 12 34 (by simp) (by omega)) a5.2.1, ad_nw_congr (en 2 35 (by simp) (by omega)) (en 12 35 (by simp) (by omega)) a5.2.2⟩, ⟨h30, h31⟩, ⟨?_, a7.2⟩, ⟨?_, a8.2⟩, fun i hi => by rw [e7 20 0 (by simp)]; exact a9 i hi⟩
  · rw [ad_nl_congr (en 2 33 (by simp) (by omega)) (en 12 33 (by simp) (by omega))]; exact a7.1
  · rw [ad_nl_congr (en 2 35 (by simp) (by omega)) (en 12 35 (by simp) (by omega))]; exact a8.1
theorem ad_c7_now {σ m : ad_Mem} {C : ad_C7} {A : ad_Ar} (h : ad_c7 σ C) (hf : ad_fr (ad_Ts 0) σ m) (hr : ad_rC m 0 A) (hw : ad_wA A) : ad_c7 m (ad_sA C A) := by
  have e : ∀ k i, ¬ ad_Ts 0 k i → m k i = σ k i := hf
  refine ad_c7_X h (hf.mono (fun k i => ad_Ts_TX0)) hr hw (ad_rK_congr (fun k i hk => e k i (fun z => by unfold ad_Ts at z hk; omega)) h.2.2.2.1.2) (ad_dr_congr ?_ ?_ h.2.2.2.2.2.1.1) (ad_dr_congr ?_ ?_ h.2.2.2.2.2.1.2)
  all_goals exact e _ _ (fun z => by unfold ad_Ts at z; omega)
theorem ad_c7_same {σ m : ad_Mem} {C : ad_C7} (h : ad_c7 σ C) (hf : ad_fr ad_TX σ m) (h0 : ∀ k i, ad_Ts 0 k i → m k i = σ k i) (h2 : ad_rK m 2) (h30 : ad_dr m 30) (h31 : ad_dr m 31) : ad_c7 m C := ad_c7_X h hf (ad_rC_congr h.1.2 h0 h.1.1) h.1.2 h2 h30 h31
theorem ad_c7_plan {σ m : ad_Mem} {C : ad_C7} (h : ad_c7 σ C) (hf : ad_fr ad_TP σ m) (h30 : ad_dr m 30) : ad_c7 m C := by
  have ev : ∀ k i, ¬ ad_TP k i → m k i = σ k i := hf
  refine ad_c7_same h (hf.mono (fun k i z => by unfold ad_TP at z; unfold ad_TX; omega)) (fun k i hk => ev k i (fun z => by unfold ad_Ts at hk; unfold ad_TP at z; omega)) (ad_rK_congr (fun k i hk => ev k i (fun z => by unfold ad_Ts at hk; unfold ad_TP at z; omega)) h.2.2.2.1.2) h30 (ad_dr_congr ?_ ?_ h.2.2.2.2.2.1.2)
  all_goals exact ev _ _ (fun z => by unfold ad_TP at z; omega)
theorem ad_c7_refuse {σ : ad_Mem} {C : ad_C7} (h : ad_c7 σ C) (n : Nat) (hn : n < 7) : ad_c7 (ad_st σ 20 0 n (σ 20 0 n + 1)) (ad_rfz C n) := by
  obtain ⟨a1, a2, a3, a4, a5, a6, a7, a8, a9⟩ := h
  have e : ∀ k i, k ≠ 20 → ad_st σ 20 0 n (σ 20 0 n + 1) k i = σ k i := fun k i hk => by funext c; simp [ad_st, hk]
  have e1 : ∀ s, ∀ k i, ad_Ts s k i → ad_st σ 20 0 n (σ 20 0 n + 1) k i = σ k i := fun s k i hk => e k i (fun z => by unfold ad_Ts at hk; omega)
  refine ⟨⟨ad_rC_congr a1.2 (e1 0) a1.1, a1.2⟩, by rw [e 7 0 (by decide)]; exact a2, fun q => ⟨ad_rC_congr (a3 q).2 (e1 1) (a3 q).1, (a3 q).2⟩, ⟨ad_rK_congr (e1 1) a4.1, ad_rK_congr (e1 2) a4.2⟩, ⟨ad_nw_congr (e _ _ (by decide)) (e _ _ (by decide)) a5.1, ad_nw_congr (e _ _ (by decide)) (e _ _ (by decide)) a5.2.1, ad_nw_congr (e _ _ (by decide)) (e _ _ (by decide)) a5.2.2⟩, ⟨ad_dr_congr (e _ _ (by decide)) (e _ _ (by decide)) a6.1, ad_dr_congr (e _ _ (by decide)) (e _ _ (by decide)) a6.2⟩, ⟨?_, a7.2⟩, ⟨?_, a8.2⟩, fun i hi => ?_⟩
  · rw [ad_nl_congr (e _ _ (by decide)) (e _ _ (by decide))]; exact a7.1
  · rw [ad_nl_congr (e _ _ (by decide)) (e _ _ (by decide))]; exact a8.1
  · show (if 20 = 20 ∧ 0 = 0 ∧ i = n then σ 20 0 n + 1 else σ 20 0 i) = if i = n then ad_cF C i + 1 else ad_cF C i
    by_cases hi2 : i = n
    · subst hi2; rw [if_pos ⟨rfl, rfl, rfl⟩, if_pos rfl, a9 i hi]
    · rw [if_neg (fun z => hi2 z.2.2), if_neg hi2, a9 i hi]
theorem ad_f7_st {σ : ad_Mem} {k i j : Nat} {x : Int} (h : k ≠ 8 ∧ k < 21) : ad_fr ad_f7 σ (ad_st σ k i j x) := ad_fr.st h
theorem c_X7_refuse {g : ad_G} {d : Nat} {σ : ad_Mem} {C : ad_C7} {y : Int} (hC : ad_c7 σ C) (hy : -6 ≤ y ∧ y ≤ -1) : ad_Q g mX7_refuse d [ad_rf g 7 0, ad_iv y] σ (fun x m => x = ad_iv y ∧ ad_c7 m (ad_rfz C (-y).toNat) ∧ ad_fr ad_f7 σ m) := by
  refine ad_M1 (k := 0) rfl (by simp [Value.category]) rfl (Nat.le_of_ble_eq_true rfl) ?_
  simp only [List.map_cons, List.map_nil, List.replicate, List.cons_append, List.nil_append]
  refine ad_iload_n dX7_refuse_0 rfl ?_
  refine ad_if_ge 25 dX7_refuse_1 (by decide) (by omega) (fun h1 => ?_) (fun h1 => ?_)
  · skip
    refine ad_iload_n dX7_refuse_25 rfl ?_
    exact ad_reti dX7_refuse_26 rfl (by exfalso; omega)
  · show ad_R _ _ _ _ 4 _ _ _
    refine ad_iload_n dX7_refuse_4 rfl ?_
    refine ad_aload_n dX7_refuse_5 rfl ?_
    refine gf_X7_59 rfl dX7_refuse_6 ?_
    refine ad_alen (n := 7) dX7_refuse_9 (by show _ < 1; omega) ⟨by decide, by decide⟩ rfl ?_
    refine ad_ineg dX7_refuse_10 ?_
    refine ad_icmp_le 25 dX7_refuse_11 (by decide) (by omega) (by omega) (fun h11 => ?_) (fun h11 => ?_)
    · skip
      refine ad_iload_n dX7_refuse_25 rfl ?_
      exact ad_reti dX7_refuse_26 rfl (by exfalso; omega)
    · show ad_R _ _ _ _ 14 _ _ _
      refine ad_aload_n dX7_refuse_14 rfl ?_
      refine gf_X7_59 rfl dX7_refuse_15 ?_
      refine ad_iload_n dX7_refuse_18 rfl ?_
      refine ad_ineg dX7_refuse_19 ?_
      refine ad_dup2 dX7_refuse_20 rfl rfl ?_
      refine ad_iald dX7_refuse_21 (by show _ < 1; omega) ⟨by decide, by decide⟩ (by omega) (by show _ < ((7 : Nat) : Int); omega) ?_
      refine ad_iconst dX7_refuse_22 ?_
      refine ad_iadd dX7_refuse_23 ?_
      refine ad_iast dX7_refuse_24 (by show _ < 1; omega) ⟨by decide, by decide⟩ (by omega) (by show _ < ((7 : Nat) : Int); omega) ?_
      refine ad_iload_n dX7_refuse_25 rfl ?_
      exact ad_reti dX7_refuse_26 rfl (⟨rfl, ad_c7_refuse hC (-y).toNat (by omega), ad_f7_st (by decide)⟩)
theorem ad_lv_sub (y : Int) : 4000000000000000000 - y = 4000000000000000000 - y := rfl
theorem c_X7_refuseLong {g : ad_G} {d : Nat} {σ : ad_Mem} {C : ad_C7} {y : Int} (hC : ad_c7 σ C) (hy : -6 ≤ y ∧ y ≤ -1) (h1d : 1 ≤ d) : ad_Q g mX7_refuseLong d [ad_rf g 7 0, ad_iv y] σ (fun x m => x = ad_lv (4000000000000000000 - y) ∧ ad_c7 m (ad_rfz C (-y).toNat) ∧ ad_fr ad_f7 σ m) := by
  refine ad_M1 (k := 0) rfl (by simp [Value.category]) rfl (Nat.le_of_ble_eq_true rfl) ?_
  simp only [List.map_cons, List.map_nil, List.replicate, List.cons_append, List.nil_append]
  refine ad_ldc2 (n := 4000000000000000000) dX7_refuseLong_0 kc_X7_287 ?_
  refine ad_aload_n dX7_refuseLong_3 rfl ?_
  refine ad_iload_n dX7_refuseLong_4 rfl ?_
  refine ad_cv1q rfl cl_X7_67 dX7_refuseLong_5 (c_X7_refuse hC hy) (by omega) (by show _ < 1; omega) (Nat.le_of_ble_eq_true rfl) (fun x5 s5 q5 => ?_)
  obtain ⟨rfl, c5, f5⟩ := q5
  refine ad_i2l dX7_refuseLong_8 (by omega) ?_
  refine ad_lsub dX7_refuseLong_9 ?_
  exact ad_retl dX7_refuseLong_10 rfl (⟨rfl, c5, f5⟩)
theorem c_X7_orLacking {g : ad_G} {d : Nat} {σ : ad_Mem} {v : Int} (hv : ad_rng v) : ad_Q g mX7_orLacking d [ad_iv v] σ (fun x m => x = ad_iv (if v = -1 then -9 else v) ∧ m = σ) := by
  refine ad_M1 (k := 0) rfl (by simp [Value.category]) rfl (Nat.le_of_ble_eq_true rfl) ?_
  simp only [List.map_cons, List.map_nil, List.replicate, List.cons_append, List.nil_append]
  refine ad_iload_n dX7_orLacking_0 rfl ?_
  refine ad_iconst dX7_orLacking_1 ?_
  refine ad_icmp_ne 10 dX7_orLacking_2 (by decide) hv (by decide) (fun h2 => ?_) (fun h2 => ?_)
  · skip
    refine ad_iload_n dX7_orLacking_10 rfl ?_
    exact ad_reti dX7_orLacking_11 rfl (by rw [if_neg h2]; exact ⟨rfl, rfl⟩)
  · show ad_R _ _ _ _ 5 _ _ _
    refine ad_bipush dX7_orLacking_5 rfl ?_
    refine ad_goto 11 dX7_orLacking_7 (by decide) ?_
    exact ad_reti dX7_orLacking_11 rfl (by rw [if_pos (by omega)]; exact ⟨rfl, rfl⟩)
theorem c_X7_isHead {g : ad_G} {d : Nat} {σ : ad_Mem} {h : Int} (hh : ad_rng h) : ad_Q g mX7_isHead d [ad_iv h] σ (fun x m => x = ad_pv (0 ≤ h ∧ h < 4) ∧ m = σ) := by
  refine ad_M1 (k := 0) rfl (by simp [Value.category]) rfl (Nat.le_of_ble_eq_true rfl) ?_
  simp only [List.map_cons, List.map_nil, List.replicate, List.cons_append, List.nil_append]
  refine ad_iload_n dX7_isHead_0 rfl ?_
  refine ad_if_lt 13 dX7_isHead_1 (by decide) hh (fun h1 => ?_) (fun h1 => ?_)
  · skip
    refine ad_iconst dX7_isHead_13 ?_
    exact ad_ret0 dX7_isHead_14 rfl (by rw [show ad_pv (0 ≤ h ∧ h < 4) = ad_iv 0 from by unfold ad_pv; rw [if_neg (by omega)]]; exact ⟨rfl, rfl⟩)
  · show ad_R _ _ _ _ 4 _ _ _
    refine ad_iload_n dX7_isHead_4 rfl ?_
    refine ad_iconst dX7_isHead_5 ?_
    refine ad_icmp_ge 13 dX7_isHead_6 (by decide) hh (by decide) (fun h6 => ?_) (fun h6 => ?_)
    · skip
      refine ad_iconst dX7_isHead_13 ?_
      exact ad_ret0 dX7_isHead_14 rfl (by rw [show ad_pv (0 ≤ h ∧ h < 4) = ad_iv 0 from by unfold ad_pv; rw [if_neg (by omega)]]; exact ⟨rfl, rfl⟩)
    · show ad_R _ _ _ _ 9 _ _ _
      refine ad_iconst dX7_isHead_9 ?_
      refine ad_goto 14 dX7_isHead_10 (by decide) ?_
      exact ad_ret1 dX7_isHead_14 rfl (by rw [show ad_pv (0 ≤ h ∧ h < 4) = ad_iv 1 from by unfold ad_pv; rw [if_pos (by omega)]]; exact ⟨rfl, rfl⟩)
