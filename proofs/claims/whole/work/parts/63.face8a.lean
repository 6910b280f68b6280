/-! ===== the reference's state; its public methods ===== -/
abbrev ad_K8 : List Nat := [21, 22, 23, 24, 25, 26, 27, 28, 29, 30, 31, 32, 33]
abbrev ad_J8 : List Nat := [13, 14, 15, 16, 17, 18, 19, 20]
def ad_c8 (σ : ad_Mem) (C : ad_C7) : Prop :=
  (ad_ra (σ 21 0) (ad_cA C) ∧ ad_wA (ad_cA C)) ∧ σ 8 0 20 = (if ad_ck C = true then 1 else 0) ∧ (ad_ck C = true → ad_ra (σ 22 0) (ad_cT C) ∧ ad_wA (ad_cT C)) ∧
  (σ 8 0 13 = ((ad_cS C).length : Int) ∧ (ad_cS C).length ≤ 96 ∧ (∀ i, i < (ad_cS C).length → σ 26 0 i = (ad_cS C).getD i 0) ∧ ∀ x ∈ ad_cS C, 0 ≤ x ∧ x ≤ 255) ∧
  (σ 8 0 14 = ((ad_cR C).length : Int) ∧ (ad_cR C).length ≤ 12 ∧ (∀ i, i < (ad_cR C).length → σ 27 0 i = (ad_cR C).getD i 0) ∧ ∀ x ∈ ad_cR C, 0 ≤ x ∧ x ≤ 99) ∧
  ∀ i, 1 ≤ i → i < 7 → σ 25 0 i = ad_cF C i
theorem ad_f8_2 {σ m n : ad_Mem} {k1 j1 k2 j2 k3 j3 : List Nat} (h1 : ad_f8 k1 j1 σ m) (h2 : ad_f8 k2 j2 m n) (a1 : ∀ k ∈ k1, k ∈ k3) (b1 : ∀ k ∈ j1, k ∈ j3) (a2 : ∀ k ∈ k2, k ∈ k3) (b2 : ∀ k ∈ j2, k ∈ j3) : ad_f8 k3 j3 σ n := (h1.mono a1 b1).trans (h2.mono a2 b2)
def ad_an8 (σ : ad_Mem) (x : Value) (m : ad_Mem) (r : Int × ad_C7) : Prop := x = ad_iv r.1 ∧ ad_c8 m r.2 ∧ ad_f8 ad_K8 ad_J8 σ m
def ad_al8 (σ : ad_Mem) (x : Value) (m : ad_Mem) (r : Int × ad_C7) : Prop := x = ad_lv r.1 ∧ ad_c8 m r.2 ∧ ad_f8 ad_K8 ad_J8 σ m
theorem ad_c8_now {σ m : ad_Mem} {C : ad_C7} {A : ad_Ar} (h : ad_c8 σ C) (hf : ad_f8 [21, 23, 24, 28, 29, 30, 31, 32, 33] [15, 16, 17, 18, 19] σ m) (hr : ad_ra (m 21 0) A) (hw : ad_wA A) : ad_c8 m (ad_sA C A) := by
  obtain ⟨a1, a2, a3, a4, a5, a6⟩ := h
  have e : ∀ k, k = 22 ∨ k = 25 ∨ k = 26 ∨ k = 27 → m k 0 = σ k 0 := fun k hk => hf.1 k 0 (by omega) (by rcases hk with rfl | rfl | rfl | rfl <;> decide)
  have j : ∀ c, c = 13 ∨ c = 14 ∨ c = 20 → m 8 0 c = σ 8 0 c := fun c hc => hf.2 0 c (by rcases hc with rfl | rfl | rfl <;> decide)
  refine ⟨⟨hr, hw⟩, by rw [j 20 (by simp)]; exact a2, fun q => by rw [e 22 (by simp)]; exact a3 q, ?_, ?_, fun i h1 h2 => by rw [e 25 (by simp)]; exact a6 i h1 h2⟩
  · rw [j 13 (by simp), e 26 (by simp)]; exact a4
  · rw [j 14 (by simp), e 27 (by simp)]; exact a5
theorem ad_c8_fr {σ m : ad_Mem} {C : ad_C7} (h : ad_c8 σ C) (hf : ad_f8 [23, 24, 28, 29, 30, 31, 32, 33] [15, 16, 17, 18, 19] σ m) : ad_c8 m C :=
  ad_c8_now h (hf.mono (by decide) (by decide)) (ad_ra_congr (fun i _ => congrFun (hf.1 21 0 (by decide) (by decide)) i) h.1.1) h.1.2
theorem ad_c8_no {σ : ad_Mem} {C : ad_C7} (h : ad_c8 σ C) {n : Nat} (h1 : 1 ≤ n ∧ n < 7) : ad_c8 (ad_st σ 25 0 n (σ 25 0 n + 1)) (ad_rfz C n) := by
  obtain ⟨a1, a2, a3, a4, a5, a6⟩ := h
  refine ⟨⟨by rw [ad_st_ne _ _ (by decide)]; exact a1.1, a1.2⟩, by rw [ad_st_ne _ _ (by decide)]; exact a2, fun q => by rw [ad_st_ne _ _ (by decide)]; exact a3 q, by rw [ad_st_ne _ _ (by decide), ad_st_ne _ _ (by decide)]; exact a4, by rw [ad_st_ne _ _ (by decide), ad_st_ne _ _ (by decide)]; exact a5, fun i h2 h3 => ?_⟩
  rw [ad_st_r1]
  show _ = if i = n then ad_cF C i + 1 else ad_cF C i
  by_cases hi : i = n
  · subst hi; rw [ad_u1_eq, if_pos rfl, a6 i h2 h3]
  · rw [ad_u1_ne _ _ hi, if_neg hi, a6 i h2 h3]
theorem c_X8_noC {g : ad_G} {d : Nat} {σ : ad_Mem} {C : ad_C7} {y : Int} (hC : ad_c8 σ C) (hy : -6 ≤ y ∧ y ≤ -1) : ad_Q g mX8_no d [ad_rf g 8 0, ad_iv y] σ (fun x m => x = ad_iv y ∧ ad_c8 m (ad_rfz C (-y).toNat) ∧ ad_f8 [25] [] σ m) :=
  (c_X8_no hy).mono (fun x s h => ⟨h.1, by rw [h.2]; exact ad_c8_no hC (by omega), by rw [h.2]; exact ad_f8.st (by decide) (by decide)⟩)
theorem c_X8_noLongC {g : ad_G} {d : Nat} {σ : ad_Mem} {C : ad_C7} {y : Int} (hC : ad_c8 σ C) (hy : -6 ≤ y ∧ y ≤ -1) (h1d : 1 ≤ d) : ad_Q g mX8_noLong d [ad_rf g 8 0, ad_iv y] σ (fun x m => x = ad_lv (4000000000000000000 - y) ∧ ad_c8 m (ad_rfz C (-y).toNat) ∧ ad_f8 [25] [] σ m) :=
  (c_X8_noLong hy h1d).mono (fun x s h => ⟨h.1, by rw [h.2]; exact ad_c8_no hC (by omega), by rw [h.2]; exact ad_f8.st (by decide) (by decide)⟩)
theorem ad_c8_S {σ m : ad_Mem} {C : ad_C7} {S : List Int} (h : ad_c8 σ C) (hf : ad_f8 [26] [13] σ m) (hS : m 8 0 13 = (S.length : Int) ∧ S.length ≤ 96 ∧ (∀ i, i < S.length → m 26 0 i = S.getD i 0) ∧ ∀ x ∈ S, 0 ≤ x ∧ x ≤ 255) : ad_c8 m (ad_sS C S) := by
  obtain ⟨a1, a2, a3, a4, a5, a6⟩ := h
  refine ⟨⟨by rw [hf.1 21 0 (by decide) (by decide)]; exact a1.1, a1.2⟩, by rw [hf.2 0 20 (by decide)]; exact a2, fun q => by rw [hf.1 22 0 (by decide) (by decide)]; exact a3 q, hS, by rw [hf.2 0 14 (by decide), hf.1 27 0 (by decide) (by decide)]; exact a5, fun i h1 h2 => by rw [hf.1 25 0 (by decide) (by decide)]; exact a6 i h1 h2⟩
theorem ad_c8_R {σ m : ad_Mem} {C : ad_C7} {S : List Int} (h : ad_c8 σ C) (hf : ad_f8 [27] [14] σ m) (hS : m 8 0 14 = (S.length : Int) ∧ S.length ≤ 12 ∧ (∀ i, i < S.length → m 27 0 i = S.getD i 0) ∧ ∀ x ∈ S, 0 ≤ x ∧ x ≤ 99) : ad_c8 m (ad_sR C S) := by
  obtain ⟨a1, a2, a3, a4, a5, a6⟩ := h
  refine ⟨⟨by rw [hf.1 21 0 (by decide) (by decide)]; exact a1.1, a1.2⟩, by rw [hf.2 0 20 (by decide)]; exact a2, fun q => by rw [hf.1 22 0 (by decide) (by decide)]; exact a3 q, by rw [hf.2 0 13 (by decide), hf.1 26 0 (by decide) (by decide)]; exact a4, hS, fun i h1 h2 => by rw [hf.1 25 0 (by decide) (by decide)]; exact a6 i h1 h2⟩
theorem ad_snoc_at {l : List Int} {x : Int} {a : Nat → Int} (h : ∀ i, i < l.length → a i = l.getD i 0) : ∀ i, i < (l ++ [x]).length → ad_u1 a l.length x i = (l ++ [x]).getD i 0 := fun i hi => by
  rw [List.length_append, List.length_singleton] at hi
  by_cases hie : i = l.length
  · subst hie; rw [ad_u1_eq]; simp [List.getD_eq_getElem?_getD]
  · rw [ad_u1_ne _ _ hie, h i (by omega), List.getD_eq_getElem?_getD, List.getD_eq_getElem?_getD, List.getElem?_append_left (by omega)]
theorem ad_ra_hd {a b : Nat → Int} {A : ad_Ar} (hr : ad_ra a A) {E : Nat → Int} {K F N : Int} (h0 : ∀ i, i < 520 → i < 501 → b i = a i) (hE : ∀ h, h < 4 → b (501 + h) = ad_lk (E h)) (hK : b 505 = K ∧ b 506 = F ∧ b 507 = N) (hg : ∀ i, i < 520 → ad_rng (b i)) : ad_ra b (ad_hd A E K F N) := by
  obtain ⟨h1, ⟨h2, h3, h4, h5, h6⟩, h7, h8, h9, h10⟩ := hr
  have hc := h1.1
  refine ⟨h1, ⟨by rw [h0 _ (by omega) (by omega)]; exact h2, hE, hK⟩, fun v hv => by rw [h0 _ (by omega) (by omega)]; exact h7 v hv, fun v hv => by have hv : v < ad_aC A := hv; rw [h0 _ (by omega) (by omega), h0 _ (by omega) (by omega)]; exact h8 v hv, fun v hv => ?_, hg⟩
  obtain ⟨g1, g2, g3⟩ := h1.2 v hv
  obtain ⟨k1, k2, k3, k4⟩ := h9 v hv
  refine ⟨by rw [h0 _ (by omega) (by omega)]; exact k1, by rw [h0 _ (by omega) (by omega)]; exact k2, fun q => ⟨by rw [h0 _ (by omega) (by omega)]; exact (k3 q).1, fun i hi => by have hi : i < (ad_aL A v).length := hi; rw [h0 _ (by omega) (by omega)]; exact (k3 q).2 i hi⟩, fun q => ⟨by rw [h0 _ (by omega) (by omega)]; exact (k4 q).1, fun i hi => ?_⟩⟩
  have hi : i < (ad_aT A v).length := hi
  exact ⟨by rw [h0 _ (by omega) (by omega)]; exact ((k4 q).2 i hi).1, by rw [h0 _ (by omega) (by omega)]; exact ((k4 q).2 i hi).2⟩
theorem c_X8_letter {g : ad_G} {d : Nat} {σ : ad_Mem} {C : ad_C7} {c : Int} (hc : ad_rng c) (hC : ad_c8 σ C) (h16d : 16 ≤ d) : ad_Q g mX8_letter d [ad_rf g 8 0, ad_iv c] σ (fun x m => ad_an8 σ x m (ad_m_letter C c)) := by
  have hC0 := hC
  obtain ⟨a1, a2, a3, a4, a5, a6⟩ := hC0
  have hr := a1.1
  have hw := a1.2
  refine ad_M1 (k := 0) rfl (by simp [Value.category]) rfl (Nat.le_of_ble_eq_true rfl) ?_
  simp only [List.map_cons, List.map_nil, List.replicate, List.cons_append, List.nil_append]
  refine ad_iload_n dX8_letter_0 rfl ?_
  refine ad_if_ge 11 dX8_letter_1 (by decide) (by omega) (fun h1 => ?_) (fun h1 => ?_)
  · skip
    refine ad_iload_n dX8_letter_11 rfl ?_
    refine ad_sipush dX8_letter_12 rfl ?_
    refine ad_icmp_gt 27 dX8_letter_15 (by decide) (by omega) (by omega) (fun h15 => ?_) (fun h15 => ?_)
    · skip
      refine ad_aload_n dX8_letter_27 rfl ?_
      refine ad_bipush dX8_letter_28 rfl ?_
      refine ad_cv1q rfl cl_X8_51 dX8_letter_30 (c_X8_noC hC (by decide)) (by omega) (by show _ < 1; omega) (Nat.le_of_ble_eq_true rfl) (fun x30 s30 q30 => ?_)
      obtain ⟨rfl, c30, f30⟩ := q30
      exact ad_reti dX8_letter_33 rfl (by
        have e : ad_m_letter C c = ad_no C 6 := by
          unfold ad_m_letter
          (repeat' split) <;> first | with_reducible rfl | contradiction | (exfalso; omega) | rfl | (exfalso; simp_all; omega) | (simp_all; done)
        rw [e]
        exact ⟨rfl, c30, (f30.mono (by decide) (by decide))⟩)
    · show ad_R _ _ _ _ 18 _ _ _
      refine ad_aload_n dX8_letter_18 rfl ?_
      refine gf_X8_154 rfl dX8_letter_19 ?_
      rw [a4.1]
      refine ad_bipush dX8_letter_22 rfl ?_
      refine ad_icmp_ne 34 dX8_letter_24 (by decide) (by omega) (by omega) (fun h24 => ?_) (fun h24 => ?_)
      · skip
        refine ad_aload_n dX8_letter_34 rfl ?_
        refine gf_X8_25 rfl dX8_letter_35 ?_
        refine ad_aload_n dX8_letter_38 rfl ?_
        refine gf_X8_154 rfl dX8_letter_39 ?_
        rw [a4.1]
        refine ad_iload_n dX8_letter_42 rfl ?_
        refine ad_iasj ((ad_cS C).length) dX8_letter_43 (by decide) ⟨by decide, by decide⟩ (by omega) (by show _ < 96; omega) ?_
        refine ad_aload_n dX8_letter_44 rfl ?_
        refine ad_dup dX8_letter_45 rfl ?_
        refine gf_X8_154 rfl dX8_letter_46 ?_
        rw [ad_st_ne _ _ (by decide), a4.1]
        refine ad_iconst dX8_letter_49 ?_
        refine ad_iadd dX8_letter_50 ?_
        refine pf_X8_154 rfl dX8_letter_51 ?_
        refine ad_aload_n dX8_letter_54 rfl ?_
        refine gf_X8_154 rfl dX8_letter_55 ?_
        rw [ad_st_r1, ad_u1_eq]
        exact ad_reti dX8_letter_58 rfl (by
          have e : ad_m_letter C c = ((((ad_cS C).length : Nat) : Int) + 1, ad_sS C (ad_cS C ++ [c])) := by
            unfold ad_m_letter
            (repeat' split) <;> first | with_reducible rfl | contradiction | (exfalso; omega) | rfl | (exfalso; simp_all; omega) | (simp_all; done)
          rw [e]
          exact ⟨rfl, ad_c8_S hC ((ad_f8.st (by decide) (by decide)).trans (ad_f8.sj (by decide))) ⟨by rw [ad_st_r1, ad_u1_eq, List.length_append]; rfl, by rw [List.length_append, List.length_singleton]; omega, by rw [ad_st_ne _ _ (by decide), ad_st_r1]; exact ad_snoc_at a4.2.2.1, ad_mem_snoc a4.2.2.2 (by omega)⟩, ((ad_f8.st (by decide) (by decide)).trans (ad_f8.sj (by decide)))⟩)
      · show ad_R _ _ _ _ 27 _ _ _
        refine ad_aload_n dX8_letter_27 rfl ?_
        refine ad_bipush dX8_letter_28 rfl ?_
        refine ad_cv1q rfl cl_X8_51 dX8_letter_30 (c_X8_noC hC (by decide)) (by omega) (by show _ < 1; omega) (Nat.le_of_ble_eq_true rfl) (fun x30 s30 q30 => ?_)
        obtain ⟨rfl, c30, f30⟩ := q30
        exact ad_reti dX8_letter_33 rfl (by
          have e : ad_m_letter C c = ad_no C 6 := by
            unfold ad_m_letter
            (repeat' split) <;> first | with_reducible rfl | contradiction | (exfalso; omega) | rfl | (exfalso; simp_all; omega) | (simp_all; done)
          rw [e]
          exact ⟨rfl, c30, (f30.mono (by decide) (by decide))⟩)
  · show ad_R _ _ _ _ 4 _ _ _
    refine ad_aload_n dX8_letter_4 rfl ?_
    refine ad_bipush dX8_letter_5 rfl ?_
    refine ad_cv1q rfl cl_X8_51 dX8_letter_7 (c_X8_noC hC (by decide)) (by omega) (by show _ < 1; omega) (Nat.le_of_ble_eq_true rfl) (fun x7 s7 q7 => ?_)
    obtain ⟨rfl, c7, f7⟩ := q7
    exact ad_reti dX8_letter_10 rfl (by
      have e : ad_m_letter C c = ad_no C 4 := by
        unfold ad_m_letter
        (repeat' split) <;> first | with_reducible rfl | contradiction | (exfalso; omega) | rfl | (exfalso; simp_all; omega) | (simp_all; done)
      rw [e]
      exact ⟨rfl, c7, (f7.mono (by decide) (by decide))⟩)
theorem c_X8_row {g : ad_G} {d : Nat} {σ : ad_Mem} {C : ad_C7} {c : Int} (hc : ad_rng c) (hC : ad_c8 σ C) (h16d : 16 ≤ d) : ad_Q g mX8_row d [ad_rf g 8 0, ad_iv c] σ (fun x m => ad_an8 σ x m (ad_m_row C c)) := by
  have hC0 := hC
  obtain ⟨a1, a2, a3, a4, a5, a6⟩ := hC0
  have hr := a1.1
  have hw := a1.2
  refine ad_M1 (k := 0) rfl (by simp [Value.category]) rfl (Nat.le_of_ble_eq_true rfl) ?_
  simp only [List.map_cons, List.map_nil, List.replicate, List.cons_append, List.nil_append]
  refine ad_iload_n dX8_row_0 rfl ?_
  refine ad_if_ge 11 dX8_row_1 (by decide) (by omega) (fun h1 => ?_) (fun h1 => ?_)
  · skip
    refine ad_iload_n dX8_row_11 rfl ?_
    refine ad_bipush dX8_row_12 rfl ?_
    refine ad_icmp_gt 26 dX8_row_14 (by decide) (by omega) (by omega) (fun h14 => ?_) (fun h14 => ?_)
    · skip
      refine ad_aload_n dX8_row_26 rfl ?_
      refine ad_bipush dX8_row_27 rfl ?_
      refine ad_cv1q rfl cl_X8_51 dX8_row_29 (c_X8_noC hC (by decide)) (by omega) (by show _ < 1; omega) (Nat.le_of_ble_eq_true rfl) (fun x29 s29 q29 => ?_)
      obtain ⟨rfl, c29, f29⟩ := q29
      exact ad_reti dX8_row_32 rfl (by
        have e : ad_m_row C c = ad_no C 6 := by
          unfold ad_m_row
          (repeat' split) <;> first | with_reducible rfl | contradiction | (exfalso; omega) | rfl | (exfalso; simp_all; omega) | (simp_all; done)
        rw [e]
        exact ⟨rfl, c29, (f29.mono (by decide) (by decide))⟩)
    · show ad_R _ _ _ _ 17 _ _ _
      refine ad_aload_n dX8_row_17 rfl ?_
      refine gf_X8_212 rfl dX8_row_18 ?_
      rw [a5.1]
      refine ad_bipush dX8_row_21 rfl ?_
      refine ad_icmp_ne 33 dX8_row_23 (by decide) (by omega) (by omega) (fun h23 => ?_) (fun h23 => ?_)
      · skip
        refine ad_aload_n dX8_row_33 rfl ?_
        refine gf_X8_28 rfl dX8_row_34 ?_
        refine ad_aload_n dX8_row_37 rfl ?_
        refine gf_X8_212 rfl dX8_row_38 ?_
        rw [a5.1]
        refine ad_iload_n dX8_row_41 rfl ?_
        refine ad_iasj ((ad_cR C).length) dX8_row_42 (by decide) ⟨by decide, by decide⟩ (by omega) (by show _ < 12; omega) ?_
        refine ad_aload_n dX8_row_43 rfl ?_
        refine ad_dup dX8_row_44 rfl ?_
        refine gf_X8_212 rfl dX8_row_45 ?_
        rw [ad_st_ne _ _ (by decide), a5.1]
        refine ad_iconst dX8_row_48 ?_
        refine ad_iadd dX8_row_49 ?_
        refine pf_X8_212 rfl dX8_row_50 ?_
        refine ad_aload_n dX8_row_53 rfl ?_
        refine gf_X8_212 rfl dX8_row_54 ?_
        rw [ad_st_r1, ad_u1_eq]
        exact ad_reti dX8_row_57 rfl (by
          have e : ad_m_row C c = ((((ad_cR C).length : Nat) : Int) + 1, ad_sR C (ad_cR C ++ [c])) := by
            unfold ad_m_row
            (repeat' split) <;> first | with_reducible rfl | contradiction | (exfalso; omega) | rfl | (exfalso; simp_all; omega) | (simp_all; done)
          rw [e]
          exact ⟨rfl, ad_c8_R hC ((ad_f8.st (by decide) (by decide)).trans (ad_f8.sj (by decide))) ⟨by rw [ad_st_r1, ad_u1_eq, List.length_append]; rfl, by rw [List.length_append, List.length_singleton]; omega, by rw [ad_st_ne _ _ (by decide), ad_st_r1]; exact ad_snoc_at a5.2.2.1, ad_mem_snoc a5.2.2.2 (by omega)⟩, ((ad_f8.st (by decide) (by decide)).trans (ad_f8.sj (by decide)))⟩)
      · show ad_R _ _ _ _ 26 _ _ _
        refine ad_aload_n dX8_row_26 rfl ?_
        refine ad_bipush dX8_row_27 rfl ?_
        refine ad_cv1q rfl cl_X8_51 dX8_row_29 (c_X8_noC hC (by decide)) (by omega) (by show _ < 1; omega) (Nat.le_of_ble_eq_true rfl) (fun x29 s29 q29 => ?_)
        obtain ⟨rfl, c29, f29⟩ := q29
        exact ad_reti dX8_row_32 rfl (by
          have e : ad_m_row C c = ad_no C 6 := by
            unfold ad_m_row
            (repeat' split) <;> first | with_reducible rfl | contradiction | (exfalso; omega) | rfl | (exfalso; simp_all; omega) | (simp_all; done)
          rw [e]
          exact ⟨rfl, c29, (f29.mono (by decide) (by decide))⟩)
  · show ad_R _ _ _ _ 4 _ _ _
    refine ad_aload_n dX8_row_4 rfl ?_
    refine ad_bipush dX8_row_5 rfl ?_
    refine ad_cv1q rfl cl_X8_51 dX8_row_7 (c_X8_noC hC (by decide)) (by omega) (by show _ < 1; omega) (Nat.le_of_ble_eq_true rfl) (fun x7 s7 q7 => ?_)
    obtain ⟨rfl, c7, f7⟩ := q7
    exact ad_reti dX8_row_10 rfl (by
      have e : ad_m_row C c = ad_no C 4 := by
        unfold ad_m_row
        (repeat' split) <;> first | with_reducible rfl | contradiction | (exfalso; omega) | rfl | (exfalso; simp_all; omega) | (simp_all; done)
      rw [e]
      exact ⟨rfl, c7, (f7.mono (by decide) (by decide))⟩)
theorem c_X8_clear {g : ad_G} {d : Nat} {σ : ad_Mem} {C : ad_C7}  (hC : ad_c8 σ C) (h16d : 16 ≤ d) : ad_Q g mX8_clear d [ad_rf g 8 0] σ (fun x m => ad_an8 σ x m (ad_m_clear C)) := by
  have hC0 := hC
  obtain ⟨a1, a2, a3, a4, a5, a6⟩ := hC0
  have hr := a1.1
  have hw := a1.2
  refine ad_M1 (k := 1) rfl (by simp [Value.category]) rfl (Nat.le_of_ble_eq_true rfl) ?_
  simp only [List.map_cons, List.map_nil, List.replicate, List.cons_append, List.nil_append]
  refine ad_aload_n dX8_clear_0 rfl ?_
  refine gf_X8_212 rfl dX8_clear_1 ?_
  rw [a5.1]
  refine ad_istore_n dX8_clear_4 (by decide) rfl (by dsimp only [ad_set]) ?_
  refine ad_aload_n dX8_clear_5 rfl ?_
  refine ad_iconst dX8_clear_6 ?_
  refine pf_X8_212 rfl dX8_clear_7 ?_
  refine ad_iload_n dX8_clear_10 rfl ?_
  exact ad_reti dX8_clear_11 rfl (by
      refine ⟨rfl, ad_c8_R (S := []) hC (ad_f8.sj (by decide)) ⟨by rw [ad_st_r1, ad_u1_eq]; rfl, by simp, fun i hi => absurd hi (Nat.not_lt_zero i), fun x hx => by cases hx⟩, ad_f8.sj (by decide)⟩)
theorem c_X8_kind {g : ad_G} {d : Nat} {σ : ad_Mem} {C : ad_C7} {k f : Int} (hk : ad_rng k) (hf : ad_rng f) (hC : ad_c8 σ C) (h16d : 16 ≤ d) : ad_Q g mX8_kind d [ad_rf g 8 0, ad_iv k, ad_iv f] σ (fun x m => ad_an8 σ x m (ad_m_kind C k f)) := by
  have hC0 := hC
  obtain ⟨a1, a2, a3, a4, a5, a6⟩ := hC0
  have hr := a1.1
  have hw := a1.2
  refine ad_M1 (k := 1) rfl (by simp [Value.category]) rfl (Nat.le_of_ble_eq_true rfl) ?_
  simp only [List.map_cons, List.map_nil, List.replicate, List.cons_append, List.nil_append]
  refine ad_iload_n dX8_kind_0 rfl ?_
  refine ad_iconst dX8_kind_1 ?_
  refine ad_iconst dX8_kind_2 ?_
  refine ad_cs3f rfl cl_X8_55 dX8_kind_3 (c_X8_isIn (by omega) (by omega) (by omega)) (by omega) (Nat.le_of_ble_eq_true rfl) ?_
  refine ad_ifp_ne 16 dX8_kind_6 (by decide) (fun h6 => ?_) (fun h6 => ?_)
  · skip
    refine ad_iload_n dX8_kind_16 rfl ?_
    refine ad_if_ge 27 dX8_kind_17 (by decide) (by omega) (fun h17 => ?_) (fun h17 => ?_)
    · skip
      refine ad_iload_n dX8_kind_27 rfl ?_
      refine ad_bipush dX8_kind_28 rfl ?_
      refine ad_icmp_le 40 dX8_kind_30 (by decide) (by omega) (by omega) (fun h30 => ?_) (fun h30 => ?_)
      · skip
        refine ad_bipush dX8_kind_40 rfl ?_
        refine ad_aload_n dX8_kind_42 rfl ?_
        refine gf_X8_9 rfl dX8_kind_43 ?_
        refine ad_sipush dX8_kind_46 rfl ?_
        refine ad_ialj (505) dX8_kind_49 (by decide) ⟨by decide, by decide⟩ (by omega) (by show _ < 520; omega) (hr.2.1.2.2.1) ?_
        refine ad_imul dX8_kind_50 ?_
        refine ad_aload_n dX8_kind_51 rfl ?_
        refine gf_X8_9 rfl dX8_kind_52 ?_
        refine ad_sipush dX8_kind_55 rfl ?_
        refine ad_ialj (506) dX8_kind_58 (by decide) ⟨by decide, by decide⟩ (by omega) (by show _ < 520; omega) (hr.2.1.2.2.2.1) ?_
        refine ad_iadd dX8_kind_59 ?_
        refine ad_istore_n dX8_kind_60 (by decide) rfl (by dsimp only [ad_set]) ?_
        refine ad_aload_n dX8_kind_61 rfl ?_
        refine gf_X8_9 rfl dX8_kind_62 ?_
        refine ad_sipush dX8_kind_65 rfl ?_
        refine ad_iload_n dX8_kind_68 rfl ?_
        refine ad_iasj (505) dX8_kind_69 (by decide) ⟨by decide, by decide⟩ (by omega) (by show _ < 520; omega) ?_
        refine ad_aload_n dX8_kind_70 rfl ?_
        refine gf_X8_9 rfl dX8_kind_71 ?_
        refine ad_sipush dX8_kind_74 rfl ?_
        refine ad_iload_n dX8_kind_77 rfl ?_
        refine ad_iasj (506) dX8_kind_78 (by decide) ⟨by decide, by decide⟩ (by omega) (by show _ < 520; omega) ?_
        refine ad_iload_n dX8_kind_79 rfl ?_
        exact ad_reti dX8_kind_80 rfl (by
          have e : ad_m_kind C k f = (10 * ad_aK (ad_cA C) + ad_aF (ad_cA C), ad_sA C (ad_hd (ad_cA C) (ad_aE (ad_cA C)) k f (ad_aN (ad_cA C)))) := by
            unfold ad_m_kind
            (repeat' split) <;> first | with_reducible rfl | contradiction | (exfalso; omega) | rfl | (exfalso; simp_all; omega) | (simp_all; done)
          rw [e]
          exact ⟨rfl, ad_c8_now hC ((ad_f8.st (by decide) (by decide)).trans (ad_f8.st (by decide) (by decide))) (ad_ra_hd hr (fun i h1 h2 => by rw [ad_st_r1, ad_u1_ne _ _ (by omega), ad_st_r1, ad_u1_ne _ _ (by omega)]) (fun h hh => by rw [ad_st_r1, ad_u1_ne _ _ (by omega), ad_st_r1, ad_u1_ne _ _ (by omega)]; exact hr.2.1.2.1 h hh) ⟨by rw [ad_st_r1, ad_u1_ne _ _ (by omega), ad_st_r1, ad_u1_eq], by rw [ad_st_r1, ad_u1_eq], by rw [ad_st_r1, ad_u1_ne _ _ (by omega), ad_st_r1, ad_u1_ne _ _ (by omega)]; exact hr.2.1.2.2.2.2⟩ (fun i hi => by
              rw [ad_st_r1, ad_st_r1]; unfold ad_u1; repeat' split
              all_goals first | (constructor <;> omega) | exact hr.2.2.2.2.2 i hi)) (ad_wA_hd hw hw.2.2.2.2.2.2.1 hw.2.2.2.2.2.2.2.2.2.2.2 ⟨by omega, by omega, hw.2.2.2.2.2.2.2.1.2.2⟩), (ad_f8.st (by decide) (by decide)).trans (ad_f8.st (by decide) (by decide))⟩)
      · show ad_R _ _ _ _ 33 _ _ _
        refine ad_aload_n dX8_kind_33 rfl ?_
        refine ad_bipush dX8_kind_34 rfl ?_
        refine ad_cv1q rfl cl_X8_51 dX8_kind_36 (c_X8_noC hC (by decide)) (by omega) (by show _ < 1; omega) (Nat.le_of_ble_eq_true rfl) (fun x36 s36 q36 => ?_)
        obtain ⟨rfl, c36, f36⟩ := q36
        exact ad_reti dX8_kind_39 rfl (by
          have e : ad_m_kind C k f = ad_no C 6 := by
            unfold ad_m_kind
            (repeat' split) <;> first | with_reducible rfl | contradiction | (exfalso; omega) | rfl | (exfalso; simp_all; omega) | (simp_all; done)
          rw [e]
          exact ⟨rfl, c36, (f36.mono (by decide) (by decide))⟩)
    · show ad_R _ _ _ _ 20 _ _ _
      refine ad_aload_n dX8_kind_20 rfl ?_
      refine ad_bipush dX8_kind_21 rfl ?_
      refine ad_cv1q rfl cl_X8_51 dX8_kind_23 (c_X8_noC hC (by decide)) (by omega) (by show _ < 1; omega) (Nat.le_of_ble_eq_true rfl) (fun x23 s23 q23 => ?_)
      obtain ⟨rfl, c23, f23⟩ := q23
      exact ad_reti dX8_kind_26 rfl (by
        have e : ad_m_kind C k f = ad_no C 4 := by
          unfold ad_m_kind
          (repeat' split) <;> first | with_reducible rfl | contradiction | (exfalso; omega) | rfl | (exfalso; simp_all; omega) | (simp_all; done)
        rw [e]
        exact ⟨rfl, c23, (f23.mono (by decide) (by decide))⟩)
  · show ad_R _ _ _ _ 9 _ _ _
    refine ad_aload_n dX8_kind_9 rfl ?_
    refine ad_bipush dX8_kind_10 rfl ?_
    refine ad_cv1q rfl cl_X8_51 dX8_kind_12 (c_X8_noC hC (by decide)) (by omega) (by show _ < 1; omega) (Nat.le_of_ble_eq_true rfl) (fun x12 s12 q12 => ?_)
    obtain ⟨rfl, c12, f12⟩ := q12
    exact ad_reti dX8_kind_15 rfl (by
      have e : ad_m_kind C k f = ad_no C 2 := by
        unfold ad_m_kind
        (repeat' split) <;> first | with_reducible rfl | contradiction | (exfalso; omega) | rfl | (exfalso; simp_all; omega) | (simp_all; done)
      rw [e]
      exact ⟨rfl, c12, (f12.mono (by decide) (by decide))⟩)
theorem c_X8_bound {g : ad_G} {d : Nat} {σ : ad_Mem} {C : ad_C7} {n : Int} (hn : ad_rng n) (hC : ad_c8 σ C) (h16d : 16 ≤ d) : ad_Q g mX8_bound d [ad_rf g 8 0, ad_iv n] σ (fun x m => ad_an8 σ x m (ad_m_bound C n)) := by
  have hC0 := hC
  obtain ⟨a1, a2, a3, a4, a5, a6⟩ := hC0
  have hr := a1.1
  have hw := a1.2
  refine ad_M1 (k := 1) rfl (by simp [Value.category]) rfl (Nat.le_of_ble_eq_true rfl) ?_
  simp only [List.map_cons, List.map_nil, List.replicate, List.cons_append, List.nil_append]
  refine ad_iload_n dX8_bound_0 rfl ?_
  refine ad_if_ge 11 dX8_bound_1 (by decide) (by omega) (fun h1 => ?_) (fun h1 => ?_)
  · skip
    refine ad_iload_n dX8_bound_11 rfl ?_
    refine ad_bipush dX8_bound_12 rfl ?_
    refine ad_icmp_le 24 dX8_bound_14 (by decide) (by omega) (by omega) (fun h14 => ?_) (fun h14 => ?_)
    · skip
      refine ad_aload_n dX8_bound_24 rfl ?_
      refine gf_X8_9 rfl dX8_bound_25 ?_
      refine ad_sipush dX8_bound_28 rfl ?_
      refine ad_ialj (507) dX8_bound_31 (by decide) ⟨by decide, by decide⟩ (by omega) (by show _ < 520; omega) (hr.2.1.2.2.2.2) ?_
      refine ad_istore_n dX8_bound_32 (by decide) rfl (by dsimp only [ad_set]) ?_
      refine ad_aload_n dX8_bound_33 rfl ?_
      refine gf_X8_9 rfl dX8_bound_34 ?_
      refine ad_sipush dX8_bound_37 rfl ?_
      refine ad_iload_n dX8_bound_40 rfl ?_
      refine ad_iasj (507) dX8_bound_41 (by decide) ⟨by decide, by decide⟩ (by omega) (by show _ < 520; omega) ?_
      refine ad_iload_n dX8_bound_42 rfl ?_
      exact ad_reti dX8_bound_43 rfl (by
        have e : ad_m_bound C n = (ad_aN (ad_cA C), ad_sA C (ad_hd (ad_cA C) (ad_aE (ad_cA C)) (ad_aK (ad_cA C)) (ad_aF (ad_cA C)) n)) := by
          unfold ad_m_bound
          (repeat' split) <;> first | with_reducible rfl | contradiction | (exfalso; omega) | rfl | (exfalso; simp_all; omega) | (simp_all; done)
        rw [e]
        exact ⟨rfl, ad_c8_now hC (ad_f8.st (by decide) (by decide)) (ad_ra_hd hr (fun i h1 h2 => by rw [ad_st_r1, ad_u1_ne _ _ (by omega)]) (fun h hh => by rw [ad_st_r1, ad_u1_ne _ _ (by omega)]; exact hr.2.1.2.1 h hh) ⟨by rw [ad_st_r1, ad_u1_ne _ _ (by omega)]; exact hr.2.1.2.2.1, by rw [ad_st_r1, ad_u1_ne _ _ (by omega)]; exact hr.2.1.2.2.2.1, by rw [ad_st_r1, ad_u1_eq]⟩ (fun i hi => by
            rw [ad_st_r1]; unfold ad_u1; repeat' split
            all_goals first | (constructor <;> omega) | exact hr.2.2.2.2.2 i hi)) (ad_wA_hd hw hw.2.2.2.2.2.2.1 hw.2.2.2.2.2.2.2.2.2.2.2 ⟨hw.2.2.2.2.2.2.2.1.1, hw.2.2.2.2.2.2.2.1.2.1, by omega⟩), ad_f8.st (by decide) (by decide)⟩)
    · show ad_R _ _ _ _ 17 _ _ _
      refine ad_aload_n dX8_bound_17 rfl ?_
      refine ad_bipush dX8_bound_18 rfl ?_
      refine ad_cv1q rfl cl_X8_51 dX8_bound_20 (c_X8_noC hC (by decide)) (by omega) (by show _ < 1; omega) (Nat.le_of_ble_eq_true rfl) (fun x20 s20 q20 => ?_)
      obtain ⟨rfl, c20, f20⟩ := q20
      exact ad_reti dX8_bound_23 rfl (by
        have e : ad_m_bound C n = ad_no C 6 := by
          unfold ad_m_bound
          (repeat' split) <;> first | with_reducible rfl | contradiction | (exfalso; omega) | rfl | (exfalso; simp_all; omega) | (simp_all; done)
        rw [e]
        exact ⟨rfl, c20, (f20.mono (by decide) (by decide))⟩)
  · show ad_R _ _ _ _ 4 _ _ _
    refine ad_aload_n dX8_bound_4 rfl ?_
    refine ad_bipush dX8_bound_5 rfl ?_
    refine ad_cv1q rfl cl_X8_51 dX8_bound_7 (c_X8_noC hC (by decide)) (by omega) (by show _ < 1; omega) (Nat.le_of_ble_eq_true rfl) (fun x7 s7 q7 => ?_)
    obtain ⟨rfl, c7, f7⟩ := q7
    exact ad_reti dX8_bound_10 rfl (by
      have e : ad_m_bound C n = ad_no C 4 := by
        unfold ad_m_bound
        (repeat' split) <;> first | with_reducible rfl | contradiction | (exfalso; omega) | rfl | (exfalso; simp_all; omega) | (simp_all; done)
      rw [e]
      exact ⟨rfl, c7, (f7.mono (by decide) (by decide))⟩)
theorem c_X8_heads {g : ad_G} {d : Nat} {σ : ad_Mem} {C : ad_C7} {h v : Int} (hh : ad_rng h) (hv : ad_rng v) (hC : ad_c8 σ C) (h16d : 16 ≤ d) : ad_Q g mX8_heads d [ad_rf g 8 0, ad_iv h, ad_iv v] σ (fun x m => ad_an8 σ x m (ad_m_heads C h v)) := by
  have hC0 := hC
  obtain ⟨a1, a2, a3, a4, a5, a6⟩ := hC0
  have hr := a1.1
  have hw := a1.2
  refine ad_M1 (k := 1) rfl (by simp [Value.category]) rfl (Nat.le_of_ble_eq_true rfl) ?_
  simp only [List.map_cons, List.map_nil, List.replicate, List.cons_append, List.nil_append]
  refine ad_iload_n dX8_heads_0 rfl ?_
  refine ad_iconst dX8_heads_1 ?_
  refine ad_iconst dX8_heads_2 ?_
  refine ad_cs3f rfl cl_X8_55 dX8_heads_3 (c_X8_isIn (by omega) (by omega) (by omega)) (by omega) (Nat.le_of_ble_eq_true rfl) ?_
  refine ad_ifp_eq 22 dX8_heads_6 (by decide) (fun h6 => ?_) (fun h6 => ?_)
  · skip
    refine ad_aload_n dX8_heads_22 rfl ?_
    refine ad_iconst dX8_heads_23 ?_
    refine ad_cv1q rfl cl_X8_51 dX8_heads_24 (c_X8_noC hC (by decide)) (by omega) (by show _ < 1; omega) (Nat.le_of_ble_eq_true rfl) (fun x24 s24 q24 => ?_)
    obtain ⟨rfl, c24, f24⟩ := q24
    exact ad_reti dX8_heads_27 rfl (by
      have e : ad_m_heads C h v = ad_no C 1 := by
        unfold ad_m_heads
        (repeat' split) <;> first | with_reducible rfl | contradiction | (exfalso; omega) | rfl | (exfalso; simp_all; omega) | (simp_all; done)
      rw [e]
      exact ⟨rfl, c24, (f24.mono (by decide) (by decide))⟩)
  · show ad_R _ _ _ _ 9 _ _ _
    refine ad_iload_n dX8_heads_9 rfl ?_
    refine ad_iconst dX8_heads_10 ?_
    refine ad_icmp_eq 28 dX8_heads_11 (by decide) (by omega) (by omega) (fun h11 => ?_) (fun h11 => ?_)
    · skip
      refine ad_aload_n dX8_heads_28 rfl ?_
      refine gf_X8_9 rfl dX8_heads_29 ?_
      refine ad_sipush dX8_heads_32 rfl ?_
      refine ad_iload_n dX8_heads_35 rfl ?_
      refine ad_iadd dX8_heads_36 ?_
      refine ad_ialj (501 + h.toNat) dX8_heads_37 (by decide) ⟨by decide, by decide⟩ (by omega) (by show _ < 520; omega) (hr.2.1.2.1 _ (by omega)) ?_
      refine ad_istore_n dX8_heads_38 (by decide) rfl (by dsimp only [ad_set]) ?_
      refine ad_aload_n dX8_heads_39 rfl ?_
      refine gf_X8_9 rfl dX8_heads_40 ?_
      refine ad_sipush dX8_heads_43 rfl ?_
      refine ad_iload_n dX8_heads_46 rfl ?_
      refine ad_iadd dX8_heads_47 ?_
      refine ad_iload_n dX8_heads_48 rfl ?_
      refine ad_iconst dX8_heads_49 ?_
      refine ad_icmp_ne 58 dX8_heads_50 (by decide) (by omega) (by omega) (fun h50 => ?_) (fun h50 => ?_)
      · skip
        refine ad_iload_n dX8_heads_58 rfl ?_
        refine ad_iasj (501 + h.toNat) dX8_heads_59 (by decide) ⟨by decide, by decide⟩ (by omega) (by show _ < 520; omega) ?_
        refine ad_iload_n dX8_heads_60 rfl ?_
        exact ad_reti dX8_heads_61 rfl (by
          have e : ad_m_heads C h v = (ad_lk (ad_aE (ad_cA C) h.toNat), ad_sA C (ad_hd (ad_cA C) (ad_eh (ad_aE (ad_cA C)) h v) (ad_aK (ad_cA C)) (ad_aF (ad_cA C)) (ad_aN (ad_cA C)))) := by
            unfold ad_m_heads
            (repeat' split) <;> first | with_reducible rfl | contradiction | (exfalso; omega) | rfl | (exfalso; simp_all; omega) | (simp_all; done)
          rw [e]
          refine ⟨rfl, ad_c8_now hC (ad_f8.st (by decide) (by decide)) (ad_ra_hd hr (fun i h1 h2 => by rw [ad_st_r1, ad_u1_ne _ _ (by omega)]) (fun q hq => by
              rw [ad_st_r1]
              unfold ad_eh
              by_cases hqh : q = h.toNat
              · rw [if_pos hqh, hqh, ad_u1_eq]; unfold ad_lk; split <;> omega
              · rw [if_neg hqh, ad_u1_ne _ _ (by omega)]; exact hr.2.1.2.1 q hq) ⟨by rw [ad_st_r1, ad_u1_ne _ _ (by omega)]; exact hr.2.1.2.2.1, by rw [ad_st_r1, ad_u1_ne _ _ (by omega)]; exact hr.2.1.2.2.2.1, by rw [ad_st_r1, ad_u1_ne _ _ (by omega)]; exact hr.2.1.2.2.2.2⟩ (fun i hi => by
              rw [ad_st_r1]; unfold ad_u1; repeat' split
              all_goals first | (constructor <;> omega) | exact hr.2.2.2.2.2 i hi)) (ad_wA_hd hw (fun q hq => ?_) (fun q hq => by unfold ad_eh; rw [if_neg (by omega)]; exact hw.2.2.2.2.2.2.2.2.2.2.2 q hq) hw.2.2.2.2.2.2.2.1), ad_f8.st (by decide) (by decide)⟩
          unfold ad_eh
          by_cases hqh : q = h.toNat
          · rw [if_pos hqh]
            exact ⟨by omega, fun z => absurd (by omega) z⟩
          · rw [if_neg hqh]; exact hw.2.2.2.2.2.2.1 q hq)
      · show ad_R _ _ _ _ 53 _ _ _
        refine ad_bipush dX8_heads_53 rfl ?_
        refine ad_goto 59 dX8_heads_55 (by decide) ?_
        refine ad_iasj (501 + h.toNat) dX8_heads_59 (by decide) ⟨by decide, by decide⟩ (by omega) (by show _ < 520; omega) ?_
        refine ad_iload_n dX8_heads_60 rfl ?_
        exact ad_reti dX8_heads_61 rfl (by
          have e : ad_m_heads C h v = (ad_lk (ad_aE (ad_cA C) h.toNat), ad_sA C (ad_hd (ad_cA C) (ad_eh (ad_aE (ad_cA C)) h v) (ad_aK (ad_cA C)) (ad_aF (ad_cA C)) (ad_aN (ad_cA C)))) := by
            unfold ad_m_heads
            (repeat' split) <;> first | with_reducible rfl | contradiction | (exfalso; omega) | rfl | (exfalso; simp_all; omega) | (simp_all; done)
          rw [e]
          refine ⟨rfl, ad_c8_now hC (ad_f8.st (by decide) (by decide)) (ad_ra_hd hr (fun i h1 h2 => by rw [ad_st_r1, ad_u1_ne _ _ (by omega)]) (fun q hq => by
              rw [ad_st_r1]
              unfold ad_eh
              by_cases hqh : q = h.toNat
              · rw [if_pos hqh, hqh, ad_u1_eq]; unfold ad_lk; split <;> omega
              · rw [if_neg hqh, ad_u1_ne _ _ (by omega)]; exact hr.2.1.2.1 q hq) ⟨by rw [ad_st_r1, ad_u1_ne _ _ (by omega)]; exact hr.2.1.2.2.1, by rw [ad_st_r1, ad_u1_ne _ _ (by omega)]; exact hr.2.1.2.2.2.1, by rw [ad_st_r1, ad_u1_ne _ _ (by omega)]; exact hr.2.1.2.2.2.2⟩ (fun i hi => by
              rw [ad_st_r1]; unfold ad_u1; repeat' split
              all_goals first | (constructor <;> omega) | exact hr.2.2.2.2.2 i hi)) (ad_wA_hd hw (fun q hq => ?_) (fun q hq => by unfold ad_eh; rw [if_neg (by omega)]; exact hw.2.2.2.2.2.2.2.2.2.2.2 q hq) hw.2.2.2.2.2.2.2.1), ad_f8.st (by decide) (by decide)⟩
          unfold ad_eh
          by_cases hqh : q = h.toNat
          · rw [if_pos hqh]
            exact ⟨by omega, fun z => absurd (by omega) z⟩
          · rw [if_neg hqh]; exact hw.2.2.2.2.2.2.1 q hq)
    · show ad_R _ _ _ _ 14 _ _ _
      refine ad_aload_n dX8_heads_14 rfl ?_
      refine ad_iload_n dX8_heads_15 rfl ?_
      refine ad_cv1f rfl cl_X8_59 dX8_heads_16 (c_X8_isThere hr (by omega) (by omega)) (by omega) (by show _ < 1; omega) (Nat.le_of_ble_eq_true rfl) ?_
      refine ad_ifp_ne 28 dX8_heads_19 (by decide) (fun h19 => ?_) (fun h19 => ?_)
      · skip
        refine ad_aload_n dX8_heads_28 rfl ?_
        refine gf_X8_9 rfl dX8_heads_29 ?_
        refine ad_sipush dX8_heads_32 rfl ?_
        refine ad_iload_n dX8_heads_35 rfl ?_
        refine ad_iadd dX8_heads_36 ?_
        refine ad_ialj (501 + h.toNat) dX8_heads_37 (by decide) ⟨by decide, by decide⟩ (by omega) (by show _ < 520; omega) (hr.2.1.2.1 _ (by omega)) ?_
        refine ad_istore_n dX8_heads_38 (by decide) rfl (by dsimp only [ad_set]) ?_
        refine ad_aload_n dX8_heads_39 rfl ?_
        refine gf_X8_9 rfl dX8_heads_40 ?_
        refine ad_sipush dX8_heads_43 rfl ?_
        refine ad_iload_n dX8_heads_46 rfl ?_
        refine ad_iadd dX8_heads_47 ?_
        refine ad_iload_n dX8_heads_48 rfl ?_
        refine ad_iconst dX8_heads_49 ?_
        refine ad_icmp_ne 58 dX8_heads_50 (by decide) (by omega) (by omega) (fun h50 => ?_) (fun h50 => ?_)
        · skip
          refine ad_iload_n dX8_heads_58 rfl ?_
          refine ad_iasj (501 + h.toNat) dX8_heads_59 (by decide) ⟨by decide, by decide⟩ (by omega) (by show _ < 520; omega) ?_
          refine ad_iload_n dX8_heads_60 rfl ?_
          exact ad_reti dX8_heads_61 rfl (by
            have e : ad_m_heads C h v = (ad_lk (ad_aE (ad_cA C) h.toNat), ad_sA C (ad_hd (ad_cA C) (ad_eh (ad_aE (ad_cA C)) h v) (ad_aK (ad_cA C)) (ad_aF (ad_cA C)) (ad_aN (ad_cA C)))) := by
              unfold ad_m_heads
              (repeat' split) <;> first | with_reducible rfl | contradiction | (exfalso; omega) | rfl | (exfalso; simp_all; omega) | (simp_all; done)
            rw [e]
            refine ⟨rfl, ad_c8_now hC (ad_f8.st (by decide) (by decide)) (ad_ra_hd hr (fun i h1 h2 => by rw [ad_st_r1, ad_u1_ne _ _ (by omega)]) (fun q hq => by
                rw [ad_st_r1]
                unfold ad_eh
                by_cases hqh : q = h.toNat
                · rw [if_pos hqh, hqh, ad_u1_eq]; unfold ad_lk; split <;> omega
                · rw [if_neg hqh, ad_u1_ne _ _ (by omega)]; exact hr.2.1.2.1 q hq) ⟨by rw [ad_st_r1, ad_u1_ne _ _ (by omega)]; exact hr.2.1.2.2.1, by rw [ad_st_r1, ad_u1_ne _ _ (by omega)]; exact hr.2.1.2.2.2.1, by rw [ad_st_r1, ad_u1_ne _ _ (by omega)]; exact hr.2.1.2.2.2.2⟩ (fun i hi => by
                rw [ad_st_r1]; unfold ad_u1; repeat' split
                all_goals first | (constructor <;> omega) | exact hr.2.2.2.2.2 i hi)) (ad_wA_hd hw (fun q hq => ?_) (fun q hq => by unfold ad_eh; rw [if_neg (by omega)]; exact hw.2.2.2.2.2.2.2.2.2.2.2 q hq) hw.2.2.2.2.2.2.2.1), ad_f8.st (by decide) (by decide)⟩
            unfold ad_eh
            by_cases hqh : q = h.toNat
            · rw [if_pos hqh]
              have h19v := h19
              have hv10 := hr.H _ h19v.2
              exact ⟨by omega, fun _ => ⟨by omega, h19v.2⟩⟩
            · rw [if_neg hqh]; exact hw.2.2.2.2.2.2.1 q hq)
        · show ad_R _ _ _ _ 53 _ _ _
          refine ad_bipush dX8_heads_53 rfl ?_
          refine ad_goto 59 dX8_heads_55 (by decide) ?_
          refine ad_iasj (501 + h.toNat) dX8_heads_59 (by decide) ⟨by decide, by decide⟩ (by omega) (by show _ < 520; omega) ?_
          refine ad_iload_n dX8_heads_60 rfl ?_
          exact ad_reti dX8_heads_61 rfl (by
            have e : ad_m_heads C h v = (ad_lk (ad_aE (ad_cA C) h.toNat), ad_sA C (ad_hd (ad_cA C) (ad_eh (ad_aE (ad_cA C)) h v) (ad_aK (ad_cA C)) (ad_aF (ad_cA C)) (ad_aN (ad_cA C)))) := by
              unfold ad_m_heads
              (repeat' split) <;> first | with_reducible rfl | contradiction | (exfalso; omega) | rfl | (exfalso; simp_all; omega) | (simp_all; done)
            rw [e]
            refine ⟨rfl, ad_c8_now hC (ad_f8.st (by decide) (by decide)) (ad_ra_hd hr (fun i h1 h2 => by rw [ad_st_r1, ad_u1_ne _ _ (by omega)]) (fun q hq => by
                rw [ad_st_r1]
                unfold ad_eh
                by_cases hqh : q = h.toNat
                · rw [if_pos hqh, hqh, ad_u1_eq]; unfold ad_lk; split <;> omega
                · rw [if_neg hqh, ad_u1_ne _ _ (by omega)]; exact hr.2.1.2.1 q hq) ⟨by rw [ad_st_r1, ad_u1_ne _ _ (by omega)]; exact hr.2.1.2.2.1, by rw [ad_st_r1, ad_u1_ne _ _ (by omega)]; exact hr.2.1.2.2.2.1, by rw [ad_st_r1, ad_u1_ne _ _ (by omega)]; exact hr.2.1.2.2.2.2⟩ (fun i hi => by
                rw [ad_st_r1]; unfold ad_u1; repeat' split
                all_goals first | (constructor <;> omega) | exact hr.2.2.2.2.2 i hi)) (ad_wA_hd hw (fun q hq => ?_) (fun q hq => by unfold ad_eh; rw [if_neg (by omega)]; exact hw.2.2.2.2.2.2.2.2.2.2.2 q hq) hw.2.2.2.2.2.2.2.1), ad_f8.st (by decide) (by decide)⟩
            unfold ad_eh
            by_cases hqh : q = h.toNat
            · rw [if_pos hqh]
              have h19v := h19
              have hv10 := hr.H _ h19v.2
              exact ⟨by omega, fun _ => ⟨by omega, h19v.2⟩⟩
            · rw [if_neg hqh]; exact hw.2.2.2.2.2.2.1 q hq)
      · show ad_R _ _ _ _ 22 _ _ _
        refine ad_aload_n dX8_heads_22 rfl ?_
        refine ad_iconst dX8_heads_23 ?_
        refine ad_cv1q rfl cl_X8_51 dX8_heads_24 (c_X8_noC hC (by decide)) (by omega) (by show _ < 1; omega) (Nat.le_of_ble_eq_true rfl) (fun x24 s24 q24 => ?_)
        obtain ⟨rfl, c24, f24⟩ := q24
        exact ad_reti dX8_heads_27 rfl (by
          have e : ad_m_heads C h v = ad_no C 1 := by
            unfold ad_m_heads
            (repeat' split) <;> first | with_reducible rfl | contradiction | (exfalso; omega) | rfl | (exfalso; simp_all; omega) | (simp_all; done)
          rw [e]
          exact ⟨rfl, c24, (f24.mono (by decide) (by decide))⟩)
