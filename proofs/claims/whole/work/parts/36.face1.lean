/-! ===== letter, row, clear, kind, bound, heads, count ===== -/
theorem ad_c7_num {σ m : ad_Mem} {C : ad_C7} (h : ad_c7 σ C) {b : Nat} (hb : 33 ≤ b ∧ b ≤ 35) (hf : ad_fr (ad_Tn b) σ m) (hw : ad_nw m b) (h33 : ∀ x ∈ ad_nl m 33, 0 ≤ x ∧ x ≤ 255) (h35 : ∀ x ∈ ad_nl m 35, 0 ≤ x ∧ x ≤ 99) : ad_c7 m (ad_sR (ad_sS C (ad_nl m 33)) (ad_nl m 35)) := by
  obtain ⟨a1, a2, a3, a4, a5, a6, a7, a8, a9⟩ := h
  have e1 : ∀ s, s < 3 → ∀ k i, ad_Ts s k i → m k i = σ k i := fun s hs k i hk => hf k i (fun z => by unfold ad_Tn at z; unfold ad_Ts at hk; omega)
  have en : ∀ i, i = 33 ∨ i = 34 ∨ i = 35 → ad_nw σ i → ad_nw m i := fun i hi hn => by
    by_cases hib : i = b
    · rw [hib]; exact hw
    · exact ad_nw_congr (hf _ _ (fun z => by unfold ad_Tn at z; omega)) (hf _ _ (fun z => by unfold ad_Tn at z; omega)) hn
  have e7 : ∀ k i, k ≠ 2 → k ≠ 12 → m k i = σ k i := fun k i h2 h12 => hf k i (fun z => by unfold ad_Tn at z; omega)
  exact ⟨⟨ad_rC_congr a1.2 (e1 0 (by decide)) a1.1, a1.2⟩, by rw [e7 7 0 (by decide) (by decide)]; exact a2, fun q => ⟨ad_rC_congr (a3 q).2 (e1 1 (by decide)) (a3 q).1, (a3 q).2⟩, ⟨ad_rK_congr (e1 1 (by decide)) a4.1, ad_rK_congr (e1 2 (by decide)) a4.2⟩, ⟨en 33 (by simp) a5.1, en 34 (by simp) a5.2.1, en 35 (by simp) a5.2.2⟩, ⟨ad_dr_congr (e7 _ _ (by decide) (by decide)) (e7 _ _ (by decide) (by decide)) a6.1, ad_dr_congr (e7 _ _ (by decide) (by decide)) (e7 _ _ (by decide) (by decide)) a6.2⟩, ⟨rfl, h33⟩, ⟨rfl, h35⟩, fun i hi => by rw [e7 20 0 (by decide) (by decide)]; exact a9 i hi⟩
theorem ad_c7_signs {σ m : ad_Mem} {C : ad_C7} {S : List Int} (h : ad_c7 σ C) (hf : ad_fr (ad_Tn 33) σ m) (hw : ad_nw m 33) (hn : ad_nl m 33 = S) (hS : ∀ x ∈ S, 0 ≤ x ∧ x ≤ 255) : ad_c7 m (ad_sS C S) := by
  have e : ad_nl m 35 = ad_cR C := by
    rw [← h.2.2.2.2.2.2.2.1.1]
    exact ad_nl_congr (hf _ _ (fun z => by unfold ad_Tn at z; omega)) (hf _ _ (fun z => by unfold ad_Tn at z; omega))
  have := ad_c7_num h (by decide) hf hw (by rw [hn]; exact hS) (by rw [e]; exact h.2.2.2.2.2.2.2.1.2)
  rw [hn, e] at this
  exact this
theorem ad_c7_row {σ m : ad_Mem} {C : ad_C7} {S : List Int} (h : ad_c7 σ C) (hf : ad_fr (ad_Tn 35) σ m) (hw : ad_nw m 35) (hn : ad_nl m 35 = S) (hS : ∀ x ∈ S, 0 ≤ x ∧ x ≤ 99) : ad_c7 m (ad_sR C S) := by
  have e : ad_nl m 33 = ad_cS C := by
    rw [← h.2.2.2.2.2.2.1.1]
    exact ad_nl_congr (hf _ _ (fun z => by unfold ad_Tn at z; omega)) (hf _ _ (fun z => by unfold ad_Tn at z; omega))
  have := ad_c7_num h (by decide) hf hw (by rw [e]; exact h.2.2.2.2.2.2.1.2) (by rw [hn]; exact hS)
  rw [hn, e] at this
  exact this
theorem ad_c7_spell {σ m : ad_Mem} {C : ad_C7} (h : ad_c7 σ C) (hf : ad_fr (ad_Tn 34) σ m) (hw : ad_nw m 34) : ad_c7 m C := by
  have e : ad_nl m 33 = ad_cS C := by
    rw [← h.2.2.2.2.2.2.1.1]
    exact ad_nl_congr (hf _ _ (fun z => by unfold ad_Tn at z; omega)) (hf _ _ (fun z => by unfold ad_Tn at z; omega))
  have e2 : ad_nl m 35 = ad_cR C := by
    rw [← h.2.2.2.2.2.2.2.1.1]
    exact ad_nl_congr (hf _ _ (fun z => by unfold ad_Tn at z; omega)) (hf _ _ (fun z => by unfold ad_Tn at z; omega))
  have := ad_c7_num h (by decide) hf hw (by rw [e]; exact h.2.2.2.2.2.2.1.2) (by rw [e2]; exact h.2.2.2.2.2.2.2.1.2)
  rw [e2, e] at this
  exact this
theorem ad_Tn_f7 {b : Nat} {σ m : ad_Mem} (h : ad_fr (ad_Tn b) σ m) : ad_fr ad_f7 σ m := h.mono (fun k i z => by unfold ad_Tn at z; unfold ad_f7; omega)
theorem ad_Ts_fr7 {s : Nat} {σ m : ad_Mem} (h : ad_fr (ad_Ts s) σ m) : ad_fr ad_f7 σ m := h.mono (fun k i z => ad_Ts_f7 z)
theorem ad_TP_fr7 {σ m : ad_Mem} (h : ad_fr ad_TP σ m) : ad_fr ad_f7 σ m := h.mono (fun k i z => by unfold ad_TP at z; unfold ad_f7; omega)
theorem ad_c7_sz {σ : ad_Mem} {C : ad_C7} (h : ad_c7 σ C) : σ 2 33 1 = ((ad_cS C).length : Int) ∧ (ad_cS C).length ≤ 96 ∧ σ 2 35 1 = ((ad_cR C).length : Int) ∧ (ad_cR C).length ≤ 12 := by
  obtain ⟨a1, a2, a3, a4, a5, a6, a7, a8, a9⟩ := h
  have h1 := ad_nl_len σ 33
  have h2 := ad_nl_len σ 35
  rw [a7.1] at h1
  rw [a8.1] at h2
  have n1 := a5.1
  have n2 := a5.2.2
  have l1 : (ad_len 12 33 : Int) = 96 := rfl
  have l2 : (ad_len 12 35 : Int) = 12 := rfl
  have := n1.1
  have := n1.2.1
  have := n2.1
  have := n2.2.1
  omega
def ad_m_letter (C : ad_C7) (c : Int) : Int × ad_C7 := if c < 0 then ad_no C 4 else if 255 < c ∨ 96 ≤ (ad_cS C).length then ad_no C 6 else ((ad_cS C).length + 1, ad_sS C (ad_cS C ++ [c]))
def ad_m_row (C : ad_C7) (c : Int) : Int × ad_C7 := if c < 0 then ad_no C 4 else if 99 < c ∨ 12 ≤ (ad_cR C).length then ad_no C 6 else ((ad_cR C).length + 1, ad_sR C (ad_cR C ++ [c]))
def ad_m_clear (C : ad_C7) : Int × ad_C7 := ((ad_cR C).length, ad_sR C [])
theorem ad_mem_snoc {l : List Int} {x lo hi : Int} (h : ∀ y ∈ l, lo ≤ y ∧ y ≤ hi) (hx : lo ≤ x ∧ x ≤ hi) : ∀ y ∈ l ++ [x], lo ≤ y ∧ y ≤ hi := fun y hy => by
  rcases List.mem_append.mp hy with h1 | h1
  · exact h y h1
  · rw [List.mem_singleton.mp h1]; exact hx
theorem c_X7_letter {g : ad_G} {d : Nat} {σ : ad_Mem} {C : ad_C7} {c : Int} (hC : ad_c7 σ C) (hc : ad_rng c) (h1d : 1 ≤ d) : ad_Q g mX7_letter d [ad_rf g 7 0, ad_iv c] σ (fun x m => ad_an7 σ x m (ad_m_letter C c)) := by
  have hC0 := hC
  obtain ⟨a1, a2, a3, a4, a5, a6, a7, a8, a9⟩ := hC0
  obtain ⟨z1, z2, z3, z4⟩ := ad_c7_sz hC
  have l1 : (ad_len 12 33 : Int) = 96 := rfl
  have l2 : (ad_len 12 35 : Int) = 12 := rfl
  refine ad_M1 (k := 0) rfl (by simp [Value.category]) rfl (Nat.le_of_ble_eq_true rfl) ?_
  simp only [List.map_cons, List.map_nil, List.replicate, List.cons_append, List.nil_append]
  refine ad_iload_n dX7_letter_0 rfl ?_
  refine ad_if_ge 11 dX7_letter_1 (by decide) (by omega) (fun h1 => ?_) (fun h1 => ?_)
  · skip
    refine ad_iload_n dX7_letter_11 rfl ?_
    refine ad_sipush dX7_letter_12 rfl ?_
    refine ad_icmp_gt 31 dX7_letter_15 (by decide) (by omega) (by omega) (fun h15 => ?_) (fun h15 => ?_)
    · skip
      refine ad_aload_n dX7_letter_31 rfl ?_
      refine ad_bipush dX7_letter_32 rfl ?_
      refine ad_cv1q rfl cl_X7_67 dX7_letter_34 (c_X7_refuse hC (by decide)) (by omega) (by show _ < 1; omega) (Nat.le_of_ble_eq_true rfl) (fun x34 s34 q34 => ?_)
      obtain ⟨rfl, c34, f34⟩ := q34
      exact ad_reti dX7_letter_37 rfl (by
        have e : ad_m_letter C c = ad_no C 6 := by
          unfold ad_m_letter
          (repeat' split) <;> first | rfl | contradiction | (exfalso; omega) | (exfalso; simp_all; omega) | (simp_all; done)
        rw [e]
        exact ⟨rfl, c34, f34⟩)
    · show ad_R _ _ _ _ 18 _ _ _
      refine ad_aload_n dX7_letter_18 rfl ?_
      refine gf_X7_39 rfl dX7_letter_19 ?_
      refine gf_X7_71 rfl dX7_letter_22 ?_
      refine ad_cv0f rfl cl_X7_74 dX7_letter_25 (c_X2_isFull (by omega) a5.1) (by omega) (by show _ < 36; omega) (Nat.le_of_ble_eq_true rfl) ?_
      refine ad_ifp_eq 38 dX7_letter_28 (by decide) (fun h28 => ?_) (fun h28 => ?_)
      · skip
        refine ad_aload_n dX7_letter_38 rfl ?_
        refine gf_X7_39 rfl dX7_letter_39 ?_
        refine gf_X7_71 rfl dX7_letter_42 ?_
        refine ad_iload_n dX7_letter_45 rfl ?_
        refine ad_cv1v rfl cl_X7_78 dX7_letter_46 (c_X2_add (by omega) a5.1 (by omega)) (by omega) (by show _ < 36; omega) (Nat.le_of_ble_eq_true rfl) (fun s46 q46 => ?_)
        obtain ⟨b1, b2, b3, b4⟩ := ad_add_nl a5.1 (by omega) (by omega) q46
        refine ad_aload_n dX7_letter_49 rfl ?_
        refine gf_X7_39 rfl dX7_letter_50 ?_
        refine gf_X7_71 rfl dX7_letter_53 ?_
        refine gf_X7_81 rfl (by omega) dX7_letter_56 ?_
        exact ad_reti dX7_letter_59 rfl (by
          have e : ad_m_letter C c = (((ad_cS C).length : Int) + 1, ad_sS C (ad_cS C ++ [c])) := by
            unfold ad_m_letter
            (repeat' split) <;> first | rfl | contradiction | (exfalso; omega) | (exfalso; simp_all; omega) | (simp_all; done)
          rw [e]
          exact ⟨by rw [b4, z1], ad_c7_signs hC b3 b2 (by rw [b1, a7.1]) (ad_mem_snoc a7.2 ⟨by omega, by omega⟩), ad_Tn_f7 b3⟩)
      · show ad_R _ _ _ _ 31 _ _ _
        refine ad_aload_n dX7_letter_31 rfl ?_
        refine ad_bipush dX7_letter_32 rfl ?_
        refine ad_cv1q rfl cl_X7_67 dX7_letter_34 (c_X7_refuse hC (by decide)) (by omega) (by show _ < 1; omega) (Nat.le_of_ble_eq_true rfl) (fun x34 s34 q34 => ?_)
        obtain ⟨rfl, c34, f34⟩ := q34
        exact ad_reti dX7_letter_37 rfl (by
          have e : ad_m_letter C c = ad_no C 6 := by
            unfold ad_m_letter
            (repeat' split) <;> first | rfl | contradiction | (exfalso; omega) | (exfalso; simp_all; omega) | (simp_all; done)
          rw [e]
          exact ⟨rfl, c34, f34⟩)
  · show ad_R _ _ _ _ 4 _ _ _
    refine ad_aload_n dX7_letter_4 rfl ?_
    refine ad_bipush dX7_letter_5 rfl ?_
    refine ad_cv1q rfl cl_X7_67 dX7_letter_7 (c_X7_refuse hC (by decide)) (by omega) (by show _ < 1; omega) (Nat.le_of_ble_eq_true rfl) (fun x7 s7 q7 => ?_)
    obtain ⟨rfl, c7, f7⟩ := q7
    exact ad_reti dX7_letter_10 rfl (by
      have e : ad_m_letter C c = ad_no C 4 := by
        unfold ad_m_letter
        (repeat' split) <;> first | rfl | contradiction | (exfalso; omega) | (exfalso; simp_all; omega) | (simp_all; done)
      rw [e]
      exact ⟨rfl, c7, f7⟩)
theorem c_X7_row {g : ad_G} {d : Nat} {σ : ad_Mem} {C : ad_C7} {c : Int} (hC : ad_c7 σ C) (hc : ad_rng c) (h1d : 1 ≤ d) : ad_Q g mX7_row d [ad_rf g 7 0, ad_iv c] σ (fun x m => ad_an7 σ x m (ad_m_row C c)) := by
  have hC0 := hC
  obtain ⟨a1, a2, a3, a4, a5, a6, a7, a8, a9⟩ := hC0
  obtain ⟨z1, z2, z3, z4⟩ := ad_c7_sz hC
  have l1 : (ad_len 12 33 : Int) = 96 := rfl
  have l2 : (ad_len 12 35 : Int) = 12 := rfl
  refine ad_M1 (k := 0) rfl (by simp [Value.category]) rfl (Nat.le_of_ble_eq_true rfl) ?_
  simp only [List.map_cons, List.map_nil, List.replicate, List.cons_append, List.nil_append]
  refine ad_iload_n dX7_row_0 rfl ?_
  refine ad_if_ge 11 dX7_row_1 (by decide) (by omega) (fun h1 => ?_) (fun h1 => ?_)
  · skip
    refine ad_iload_n dX7_row_11 rfl ?_
    refine ad_bipush dX7_row_12 rfl ?_
    refine ad_icmp_gt 27 dX7_row_14 (by decide) (by omega) (by omega) (fun h14 => ?_) (fun h14 => ?_)
    · skip
      refine ad_aload_n dX7_row_27 rfl ?_
      refine ad_bipush dX7_row_28 rfl ?_
      refine ad_cv1q rfl cl_X7_67 dX7_row_30 (c_X7_refuse hC (by decide)) (by omega) (by show _ < 1; omega) (Nat.le_of_ble_eq_true rfl) (fun x30 s30 q30 => ?_)
      obtain ⟨rfl, c30, f30⟩ := q30
      exact ad_reti dX7_row_33 rfl (by
        have e : ad_m_row C c = ad_no C 6 := by
          unfold ad_m_row
          (repeat' split) <;> first | rfl | contradiction | (exfalso; omega) | (exfalso; simp_all; omega) | (simp_all; done)
        rw [e]
        exact ⟨rfl, c30, f30⟩)
    · show ad_R _ _ _ _ 17 _ _ _
      refine ad_aload_n dX7_row_17 rfl ?_
      refine gf_X7_48 rfl dX7_row_18 ?_
      refine ad_cv0f rfl cl_X7_74 dX7_row_21 (c_X2_isFull (by omega) a5.2.2) (by omega) (by show _ < 36; omega) (Nat.le_of_ble_eq_true rfl) ?_
      refine ad_ifp_eq 34 dX7_row_24 (by decide) (fun h24 => ?_) (fun h24 => ?_)
      · skip
        refine ad_aload_n dX7_row_34 rfl ?_
        refine gf_X7_48 rfl dX7_row_35 ?_
        refine ad_iload_n dX7_row_38 rfl ?_
        refine ad_cv1v rfl cl_X7_78 dX7_row_39 (c_X2_add (by omega) a5.2.2 (by omega)) (by omega) (by show _ < 36; omega) (Nat.le_of_ble_eq_true rfl) (fun s39 q39 => ?_)
        obtain ⟨b1, b2, b3, b4⟩ := ad_add_nl a5.2.2 (by omega) (by omega) q39
        refine ad_aload_n dX7_row_42 rfl ?_
        refine gf_X7_48 rfl dX7_row_43 ?_
        refine gf_X7_81 rfl (by omega) dX7_row_46 ?_
        exact ad_reti dX7_row_49 rfl (by
          have e : ad_m_row C c = (((ad_cR C).length : Int) + 1, ad_sR C (ad_cR C ++ [c])) := by
            unfold ad_m_row
            (repeat' split) <;> first | rfl | contradiction | (exfalso; omega) | (exfalso; simp_all; omega) | (simp_all; done)
          rw [e]
          exact ⟨by rw [b4, z3], ad_c7_row hC b3 b2 (by rw [b1, a8.1]) (ad_mem_snoc a8.2 ⟨by omega, by omega⟩), ad_Tn_f7 b3⟩)
      · show ad_R _ _ _ _ 27 _ _ _
        refine ad_aload_n dX7_row_27 rfl ?_
        refine ad_bipush dX7_row_28 rfl ?_
        refine ad_cv1q rfl cl_X7_67 dX7_row_30 (c_X7_refuse hC (by decide)) (by omega) (by show _ < 1; omega) (Nat.le_of_ble_eq_true rfl) (fun x30 s30 q30 => ?_)
        obtain ⟨rfl, c30, f30⟩ := q30
        exact ad_reti dX7_row_33 rfl (by
          have e : ad_m_row C c = ad_no C 6 := by
            unfold ad_m_row
            (repeat' split) <;> first | rfl | contradiction | (exfalso; omega) | (exfalso; simp_all; omega) | (simp_all; done)
          rw [e]
          exact ⟨rfl, c30, f30⟩)
  · show ad_R _ _ _ _ 4 _ _ _
    refine ad_aload_n dX7_row_4 rfl ?_
    refine ad_bipush dX7_row_5 rfl ?_
    refine ad_cv1q rfl cl_X7_67 dX7_row_7 (c_X7_refuse hC (by decide)) (by omega) (by show _ < 1; omega) (Nat.le_of_ble_eq_true rfl) (fun x7 s7 q7 => ?_)
    obtain ⟨rfl, c7, f7⟩ := q7
    exact ad_reti dX7_row_10 rfl (by
      have e : ad_m_row C c = ad_no C 4 := by
        unfold ad_m_row
        (repeat' split) <;> first | rfl | contradiction | (exfalso; omega) | (exfalso; simp_all; omega) | (simp_all; done)
      rw [e]
      exact ⟨rfl, c7, f7⟩)
theorem c_X7_clear {g : ad_G} {d : Nat} {σ : ad_Mem} {C : ad_C7} (hC : ad_c7 σ C) (h1d : 1 ≤ d) : ad_Q g mX7_clear d [ad_rf g 7 0] σ (fun x m => ad_an7 σ x m (ad_m_clear C)) := by
  have hC0 := hC
  obtain ⟨a1, a2, a3, a4, a5, a6, a7, a8, a9⟩ := hC0
  obtain ⟨z1, z2, z3, z4⟩ := ad_c7_sz hC
  have l1 : (ad_len 12 33 : Int) = 96 := rfl
  have l2 : (ad_len 12 35 : Int) = 12 := rfl
  refine ad_M1 (k := 1) rfl (by simp [Value.category]) rfl (Nat.le_of_ble_eq_true rfl) ?_
  simp only [List.map_cons, List.map_nil, List.replicate, List.cons_append, List.nil_append]
  refine ad_aload_n dX7_clear_0 rfl ?_
  refine gf_X7_48 rfl dX7_clear_1 ?_
  refine gf_X7_81 rfl (by omega) dX7_clear_4 ?_
  refine ad_istore_n dX7_clear_7 (by decide) rfl (by dsimp only [ad_set]) ?_
  refine ad_aload_n dX7_clear_8 rfl ?_
  refine gf_X7_48 rfl dX7_clear_9 ?_
  refine ad_cv0v rfl cl_X7_106 dX7_clear_12 (c_X2_empty (by omega)) (by omega) (by show _ < 36; omega) (Nat.le_of_ble_eq_true rfl) (fun s12 q12 => ?_)
  obtain ⟨b1, b2, b3, b4⟩ := ad_emp_nl a5.2.2 q12
  refine ad_iload_n dX7_clear_15 rfl ?_
  exact ad_reti dX7_clear_16 rfl (⟨by rw [z3]; rfl, ad_c7_row hC b3 b2 b1 (by simp), ad_Tn_f7 b3⟩)
