/-! ===== kind, bound, heads, count ===== -/
/-- the same versions, other heads and repacker -/
def ad_hd (A : ad_Ar) (E : Nat → Int) (K F N : Int) : ad_Ar := ad_mk (ad_aC A) (ad_aH A) (ad_aL A) (ad_aP A) (ad_aQ A) (ad_aG A) (ad_aB A) (ad_aT A) E K F N
theorem ad_wA_hd {A : ad_Ar} (hw : ad_wA A) {E : Nat → Int} {K F N : Int} (hE : ∀ h, h < 4 → -1 ≤ E h ∧ (E h ≠ -1 → E h < 10 ∧ ad_aH A (E h).toNat = true)) (hE4 : ∀ h, 4 ≤ h → E h = -1) (hK : (0 ≤ K ∧ K ≤ 5) ∧ (0 ≤ F ∧ F ≤ 9) ∧ (0 ≤ N ∧ N ≤ 8)) : ad_wA (ad_hd A E K F N) := by
  obtain ⟨w1, w2, w3, w4, w5, w6, w7, w8, w9a, w9b, w9c, w9d⟩ := hw
  exact ⟨w1, w2, w3, w4, w5, w6, hE, hK, w9a, w9b, w9c, hE4⟩
theorem ad_rC_hd {σ m : ad_Mem} {s : Nat} {A : ad_Ar} (hr : ad_rC σ s A) {E : Nat → Int} {K F N : Int} (hf : ∀ k i, k ≠ 4 → k ≠ 19 → m k i = σ k i) (h3 : m 4 s 3 = σ 4 s 3) (h4 : m 4 s 4 = σ 4 s 4) (h5 : m 4 s 5 = K ∧ m 4 s 6 = F ∧ m 4 s 7 = N) (hE : ∀ h, h < 4 → m 19 s h = E h) : ad_rC m s (ad_hd A E K F N) := by
  obtain ⟨r1, r2, r3, r4, r5, r6, r7, r8⟩ := hr
  have e : ∀ k i, k ≠ 4 ∧ k ≠ 19 → m k i = σ k i := fun k i h => hf k i h.1 h.2
  refine ⟨h3.trans r1, h4.trans r2, h5, hE, fun v hv => ⟨ad_nw_congr (e _ _ (by decide)) (e _ _ (by decide)) (r5 v hv).1, ad_dw_congr (e _ _ (by decide)) (e _ _ (by decide)) (e _ _ (by decide)) (r5 v hv).2⟩, fun v hv => ?_, fun v hv => ?_, ad_nw_congr (e _ _ (by decide)) (e _ _ (by decide)) r8⟩
  · rw [ad_nl_congr (e _ _ (by decide)) (e _ _ (by decide)), e 6 _ (by decide), ad_ds_congr (e _ _ (by decide)) (e _ _ (by decide)) (e _ _ (by decide))]
    exact r6 v hv
  · rw [e 6 _ (by decide)]
    exact r7 v hv
def ad_m_kind (C : ad_C7) (k f : Int) : Int × ad_C7 := if k < 0 ∨ 6 ≤ k then ad_no C 2 else if f < 0 then ad_no C 4 else if 9 < f then ad_no C 6 else (10 * ad_aK (ad_cA C) + ad_aF (ad_cA C), ad_sA C (ad_hd (ad_cA C) (ad_aE (ad_cA C)) k f (ad_aN (ad_cA C))))
def ad_m_bound (C : ad_C7) (n : Int) : Int × ad_C7 := if n < 0 then ad_no C 4 else if 8 < n then ad_no C 6 else (ad_aN (ad_cA C), ad_sA C (ad_hd (ad_cA C) (ad_aE (ad_cA C)) (ad_aK (ad_cA C)) (ad_aF (ad_cA C)) n))
def ad_lk (v : Int) : Int := if v = -1 then -9 else v
def ad_eh (E : Nat → Int) (h v : Int) : Nat → Int := fun i => if i = h.toNat then v else E i
def ad_m_heads (C : ad_C7) (h v : Int) : Int × ad_C7 := if ¬ (0 ≤ h ∧ h < 4) ∨ (v ≠ -1 ∧ ¬ (0 ≤ v ∧ ad_aH (ad_cA C) v.toNat = true)) then ad_no C 1 else (ad_lk (ad_aE (ad_cA C) h.toNat), ad_sA C (ad_hd (ad_cA C) (ad_eh (ad_aE (ad_cA C)) h v) (ad_aK (ad_cA C)) (ad_aF (ad_cA C)) (ad_aN (ad_cA C))))
def ad_m_count (C : ad_C7) (w : Int) : Int × ad_C7 := (if w = 0 then (ad_aC (ad_cA C) : Int) else if w = 1 then (ad_bits (ad_aH (ad_cA C)) : Int) else if w = 2 then ad_all (ad_cA C) else if w = 3 then ad_deep (ad_cA C) else if w = 4 then (ad_bits (ad_whl (ad_cA C)) : Int) else if w = 5 then ad_aN (ad_cA C) else if w = 6 then ((ad_cR C).length : Int) else if w = 7 then ((ad_cS C).length : Int) else if 11 ≤ w ∧ w ≤ 16 then ad_cF C (w - 10).toNat else -9, C)
theorem c_X7_kind {g : ad_G} {d : Nat} {σ : ad_Mem} {C : ad_C7} {k f : Int} (hC : ad_c7 σ C) (hk : ad_rng k) (hf : ad_rng f) (h1d : 1 ≤ d) : ad_Q g mX7_kind d [ad_rf g 7 0, ad_iv k, ad_iv f] σ (fun x m => ad_an7 σ x m (ad_m_kind C k f)) := by
  have hC0 := hC
  obtain ⟨a1, a2, a3, a4, a5, a6, a7, a8, a9⟩ := hC0
  obtain ⟨z1, z2, z3, z4⟩ := ad_c7_sz hC
  obtain ⟨r1, r2, r3, r4, r5, r6, r7, r8⟩ := a1.1
  obtain ⟨w1, w2, w3, w4, w5, w6, w7, w8, w9⟩ := a1.2
  refine ad_M1 (k := 1) rfl (by simp [Value.category]) rfl (Nat.le_of_ble_eq_true rfl) ?_
  simp only [List.map_cons, List.map_nil, List.replicate, List.cons_append, List.nil_append]
  refine ad_iload_n dX7_kind_0 rfl ?_
  refine ad_if_lt 10 dX7_kind_1 (by decide) (by omega) (fun h1 => ?_) (fun h1 => ?_)
  · skip
    refine ad_aload_n dX7_kind_10 rfl ?_
    refine ad_bipush dX7_kind_11 rfl ?_
    refine ad_cv1q rfl cl_X7_67 dX7_kind_13 (c_X7_refuse hC (by decide)) (by omega) (by show _ < 1; omega) (Nat.le_of_ble_eq_true rfl) (fun x13 s13 q13 => ?_)
    obtain ⟨rfl, c13, f13⟩ := q13
    exact ad_reti dX7_kind_16 rfl (by
      have e : ad_m_kind C k f = ad_no C 2 := by
        unfold ad_m_kind
        (repeat' split) <;> first | with_reducible rfl | contradiction | (exfalso; omega) | rfl | (exfalso; simp_all; omega) | (simp_all; done)
      rw [e]
      exact ⟨rfl, c13, f13⟩)
  · show ad_R _ _ _ _ 4 _ _ _
    refine ad_iload_n dX7_kind_4 rfl ?_
    refine ad_bipush dX7_kind_5 rfl ?_
    refine ad_icmp_lt 17 dX7_kind_7 (by decide) (by omega) (by omega) (fun h7 => ?_) (fun h7 => ?_)
    · skip
      refine ad_iload_n dX7_kind_17 rfl ?_
      refine ad_if_ge 28 dX7_kind_18 (by decide) (by omega) (fun h18 => ?_) (fun h18 => ?_)
      · skip
        refine ad_iload_n dX7_kind_28 rfl ?_
        refine ad_bipush dX7_kind_29 rfl ?_
        refine ad_icmp_le 41 dX7_kind_31 (by decide) (by omega) (by omega) (fun h31 => ?_) (fun h31 => ?_)
        · skip
          refine ad_bipush dX7_kind_41 rfl ?_
          refine ad_aload_n dX7_kind_43 rfl ?_
          refine gf_X7_10 rfl dX7_kind_44 ?_
          refine gf_X7_142 rfl (by omega) dX7_kind_47 ?_
          refine ad_imul dX7_kind_50 ?_
          refine ad_aload_n dX7_kind_51 rfl ?_
          refine gf_X7_10 rfl dX7_kind_52 ?_
          refine gf_X7_145 rfl (by omega) dX7_kind_55 ?_
          refine ad_iadd dX7_kind_58 ?_
          refine ad_istore_n dX7_kind_59 (by decide) rfl (by dsimp only [ad_set]) ?_
          refine ad_aload_n dX7_kind_60 rfl ?_
          refine gf_X7_10 rfl dX7_kind_61 ?_
          refine ad_iload_n dX7_kind_64 rfl ?_
          refine pf_X7_142 rfl (by omega) dX7_kind_65 ?_
          refine ad_aload_n dX7_kind_68 rfl ?_
          refine gf_X7_10 rfl dX7_kind_69 ?_
          refine ad_iload_n dX7_kind_72 rfl ?_
          refine pf_X7_145 rfl (by omega) dX7_kind_73 ?_
          refine ad_iload_n dX7_kind_76 rfl ?_
          exact ad_reti dX7_kind_77 rfl (by
            have e : ad_m_kind C k f = (10 * ad_aK (ad_cA C) + ad_aF (ad_cA C), ad_sA C (ad_hd (ad_cA C) (ad_aE (ad_cA C)) k f (ad_aN (ad_cA C)))) := by
              unfold ad_m_kind
              (repeat' split) <;> first | with_reducible rfl | contradiction | (exfalso; omega) | rfl | (exfalso; simp_all; omega) | (simp_all; done)
            rw [e]
            exact ⟨by rw [r3.1, r3.2.1], ad_c7_now hC ((ad_fr.st (Or.inl ⟨rfl, rfl⟩)).trans (ad_fr.st (Or.inl ⟨rfl, rfl⟩))) (ad_rC_hd a1.1 (fun k i h1 h2 => by funext z; simp [ad_st, h1]) (by simp [ad_st]) (by simp [ad_st]) ⟨by simp [ad_st], by simp [ad_st], by simp [ad_st]; exact r3.2.2⟩ (fun h hh => by simp [ad_st]; exact r4 h hh)) (ad_wA_hd a1.2 w7 w9.2.2.2 ⟨⟨by omega, by omega⟩, ⟨by omega, by omega⟩, w8.2.2⟩), (ad_f7_st (by decide)).trans (ad_f7_st (by decide))⟩)
        · show ad_R _ _ _ _ 34 _ _ _
          refine ad_aload_n dX7_kind_34 rfl ?_
          refine ad_bipush dX7_kind_35 rfl ?_
          refine ad_cv1q rfl cl_X7_67 dX7_kind_37 (c_X7_refuse hC (by decide)) (by omega) (by show _ < 1; omega) (Nat.le_of_ble_eq_true rfl) (fun x37 s37 q37 => ?_)
          obtain ⟨rfl, c37, f37⟩ := q37
          exact ad_reti dX7_kind_40 rfl (by
            have e : ad_m_kind C k f = ad_no C 6 := by
              unfold ad_m_kind
              (repeat' split) <;> first | with_reducible rfl | contradiction | (exfalso; omega) | rfl | (exfalso; simp_all; omega) | (simp_all; done)
            rw [e]
            exact ⟨rfl, c37, f37⟩)
      · show ad_R _ _ _ _ 21 _ _ _
        refine ad_aload_n dX7_kind_21 rfl ?_
        refine ad_bipush dX7_kind_22 rfl ?_
        refine ad_cv1q rfl cl_X7_67 dX7_kind_24 (c_X7_refuse hC (by decide)) (by omega) (by show _ < 1; omega) (Nat.le_of_ble_eq_true rfl) (fun x24 s24 q24 => ?_)
        obtain ⟨rfl, c24, f24⟩ := q24
        exact ad_reti dX7_kind_27 rfl (by
          have e : ad_m_kind C k f = ad_no C 4 := by
            unfold ad_m_kind
            (repeat' split) <;> first | with_reducible rfl | contradiction | (exfalso; omega) | rfl | (exfalso; simp_all; omega) | (simp_all; done)
          rw [e]
          exact ⟨rfl, c24, f24⟩)
    · show ad_R _ _ _ _ 10 _ _ _
      refine ad_aload_n dX7_kind_10 rfl ?_
      refine ad_bipush dX7_kind_11 rfl ?_
      refine ad_cv1q rfl cl_X7_67 dX7_kind_13 (c_X7_refuse hC (by decide)) (by omega) (by show _ < 1; omega) (Nat.le_of_ble_eq_true rfl) (fun x13 s13 q13 => ?_)
      obtain ⟨rfl, c13, f13⟩ := q13
      exact ad_reti dX7_kind_16 rfl (by
        have e : ad_m_kind C k f = ad_no C 2 := by
          unfold ad_m_kind
          (repeat' split) <;> first | with_reducible rfl | contradiction | (exfalso; omega) | rfl | (exfalso; simp_all; omega) | (simp_all; done)
        rw [e]
        exact ⟨rfl, c13, f13⟩)
theorem c_X7_bound {g : ad_G} {d : Nat} {σ : ad_Mem} {C : ad_C7} {n : Int} (hC : ad_c7 σ C) (hn : ad_rng n) (h1d : 1 ≤ d) : ad_Q g mX7_bound d [ad_rf g 7 0, ad_iv n] σ (fun x m => ad_an7 σ x m (ad_m_bound C n)) := by
  have hC0 := hC
  obtain ⟨a1, a2, a3, a4, a5, a6, a7, a8, a9⟩ := hC0
  obtain ⟨z1, z2, z3, z4⟩ := ad_c7_sz hC
  obtain ⟨r1, r2, r3, r4, r5, r6, r7, r8⟩ := a1.1
  obtain ⟨w1, w2, w3, w4, w5, w6, w7, w8, w9⟩ := a1.2
  refine ad_M1 (k := 1) rfl (by simp [Value.category]) rfl (Nat.le_of_ble_eq_true rfl) ?_
  simp only [List.map_cons, List.map_nil, List.replicate, List.cons_append, List.nil_append]
  refine ad_iload_n dX7_bound_0 rfl ?_
  refine ad_if_ge 11 dX7_bound_1 (by decide) (by omega) (fun h1 => ?_) (fun h1 => ?_)
  · skip
    refine ad_iload_n dX7_bound_11 rfl ?_
    refine ad_bipush dX7_bound_12 rfl ?_
    refine ad_icmp_le 24 dX7_bound_14 (by decide) (by omega) (by omega) (fun h14 => ?_) (fun h14 => ?_)
    · skip
      refine ad_aload_n dX7_bound_24 rfl ?_
      refine gf_X7_10 rfl dX7_bound_25 ?_
      refine gf_X7_148 rfl (by omega) dX7_bound_28 ?_
      refine ad_istore_n dX7_bound_31 (by decide) rfl (by dsimp only [ad_set]) ?_
      refine ad_aload_n dX7_bound_32 rfl ?_
      refine gf_X7_10 rfl dX7_bound_33 ?_
      refine ad_iload_n dX7_bound_36 rfl ?_
      refine pf_X7_148 rfl (by omega) dX7_bound_37 ?_
      refine ad_iload_n dX7_bound_40 rfl ?_
      exact ad_reti dX7_bound_41 rfl (by
        have e : ad_m_bound C n = (ad_aN (ad_cA C), ad_sA C (ad_hd (ad_cA C) (ad_aE (ad_cA C)) (ad_aK (ad_cA C)) (ad_aF (ad_cA C)) n)) := by
          unfold ad_m_bound
          (repeat' split) <;> first | with_reducible rfl | contradiction | (exfalso; omega) | rfl | (exfalso; simp_all; omega) | (simp_all; done)
        rw [e]
        exact ⟨by rw [r3.2.2], ad_c7_now hC (ad_fr.st (Or.inl ⟨rfl, rfl⟩)) (ad_rC_hd a1.1 (fun k i h1 h2 => by funext z; simp [ad_st, h1]) (by simp [ad_st]) (by simp [ad_st]) ⟨by simp [ad_st]; exact r3.1, by simp [ad_st]; exact r3.2.1, by simp [ad_st]⟩ (fun h hh => by simp [ad_st]; exact r4 h hh)) (ad_wA_hd a1.2 w7 w9.2.2.2 ⟨w8.1, w8.2.1, ⟨by omega, by omega⟩⟩), ad_f7_st (by decide)⟩)
    · show ad_R _ _ _ _ 17 _ _ _
      refine ad_aload_n dX7_bound_17 rfl ?_
      refine ad_bipush dX7_bound_18 rfl ?_
      refine ad_cv1q rfl cl_X7_67 dX7_bound_20 (c_X7_refuse hC (by decide)) (by omega) (by show _ < 1; omega) (Nat.le_of_ble_eq_true rfl) (fun x20 s20 q20 => ?_)
      obtain ⟨rfl, c20, f20⟩ := q20
      exact ad_reti dX7_bound_23 rfl (by
        have e : ad_m_bound C n = ad_no C 6 := by
          unfold ad_m_bound
          (repeat' split) <;> first | with_reducible rfl | contradiction | (exfalso; omega) | rfl | (exfalso; simp_all; omega) | (simp_all; done)
        rw [e]
        exact ⟨rfl, c20, f20⟩)
  · show ad_R _ _ _ _ 4 _ _ _
    refine ad_aload_n dX7_bound_4 rfl ?_
    refine ad_bipush dX7_bound_5 rfl ?_
    refine ad_cv1q rfl cl_X7_67 dX7_bound_7 (c_X7_refuse hC (by decide)) (by omega) (by show _ < 1; omega) (Nat.le_of_ble_eq_true rfl) (fun x7 s7 q7 => ?_)
    obtain ⟨rfl, c7, f7⟩ := q7
    exact ad_reti dX7_bound_10 rfl (by
      have e : ad_m_bound C n = ad_no C 4 := by
        unfold ad_m_bound
        (repeat' split) <;> first | with_reducible rfl | contradiction | (exfalso; omega) | rfl | (exfalso; simp_all; omega) | (simp_all; done)
      rw [e]
      exact ⟨rfl, c7, f7⟩)
theorem c_X7_heads {g : ad_G} {d : Nat} {σ : ad_Mem} {C : ad_C7} {h v : Int} (hC : ad_c7 σ C) (hh : ad_rng h) (hv : ad_rng v) (h1d : 1 ≤ d) : ad_Q g mX7_heads d [ad_rf g 7 0, ad_iv h, ad_iv v] σ (fun x m => ad_an7 σ x m (ad_m_heads C h v)) := by
  have hC0 := hC
  obtain ⟨a1, a2, a3, a4, a5, a6, a7, a8, a9⟩ := hC0
  obtain ⟨z1, z2, z3, z4⟩ := ad_c7_sz hC
  obtain ⟨r1, r2, r3, r4, r5, r6, r7, r8⟩ := a1.1
  obtain ⟨w1, w2, w3, w4, w5, w6, w7, w8, w9⟩ := a1.2
  refine ad_M1 (k := 1) rfl (by simp [Value.category]) rfl (Nat.le_of_ble_eq_true rfl) ?_
  simp only [List.map_cons, List.map_nil, List.replicate, List.cons_append, List.nil_append]
  refine ad_iload_n dX7_heads_0 rfl ?_
  refine ad_cs1f rfl cl_X7_133 dX7_heads_1 (c_X7_isHead hh) (by omega) (Nat.le_of_ble_eq_true rfl) ?_
  refine ad_ifp_eq 23 dX7_heads_4 (by decide) (fun h4 => ?_) (fun h4 => ?_)
  · skip
    refine ad_aload_n dX7_heads_23 rfl ?_
    refine ad_iconst dX7_heads_24 ?_
    refine ad_cv1q rfl cl_X7_67 dX7_heads_25 (c_X7_refuse hC (by decide)) (by omega) (by show _ < 1; omega) (Nat.le_of_ble_eq_true rfl) (fun x25 s25 q25 => ?_)
    obtain ⟨rfl, c25, f25⟩ := q25
    exact ad_reti dX7_heads_28 rfl (by
      have e : ad_m_heads C h v = ad_no C 1 := by
        unfold ad_m_heads
        (repeat' split) <;> first | with_reducible rfl | contradiction | (exfalso; omega) | rfl | (exfalso; simp_all; omega) | (simp_all; done)
      rw [e]
      exact ⟨rfl, c25, f25⟩)
  · show ad_R _ _ _ _ 7 _ _ _
    refine ad_iload_n dX7_heads_7 rfl ?_
    refine ad_iconst dX7_heads_8 ?_
    refine ad_icmp_eq 29 dX7_heads_9 (by decide) hv (by decide) (fun h9 => ?_) (fun h9 => ?_)
    · skip
      refine ad_aload_n dX7_heads_29 rfl ?_
      refine gf_X7_10 rfl dX7_heads_30 ?_
      refine gf_X7_136 rfl (by omega) dX7_heads_33 ?_
      refine ad_iload_n dX7_heads_36 rfl ?_
      refine ad_iald dX7_heads_37 (by show _ < 3; omega) ⟨by decide, by decide⟩ (by omega) (by show _ < ((4 : Nat) : Int); omega) ?_
      refine ad_istore_n dX7_heads_38 (by decide) rfl (by dsimp only [ad_set]) ?_
      refine ad_aload_n dX7_heads_39 rfl ?_
      refine gf_X7_10 rfl dX7_heads_40 ?_
      refine gf_X7_136 rfl (by omega) dX7_heads_43 ?_
      refine ad_iload_n dX7_heads_46 rfl ?_
      refine ad_iload_n dX7_heads_47 rfl ?_
      refine ad_iast dX7_heads_48 (by show _ < 3; omega) ⟨by decide, by decide⟩ (by omega) (by show _ < ((4 : Nat) : Int); omega) ?_
      refine ad_iload_n dX7_heads_49 rfl ?_
      refine ad_cs1f rfl cl_X7_139 dX7_heads_50 (c_X7_orLacking (by rw [r4 _ (by omega)]; have := (w7 h.toNat (by omega)); by_cases hz : ad_aE (ad_cA C) h.toNat = -1 <;> omega)) (by omega) (Nat.le_of_ble_eq_true rfl) ?_
      exact ad_reti dX7_heads_53 rfl (by
        have e : ad_m_heads C h v = (ad_lk (ad_aE (ad_cA C) h.toNat), ad_sA C (ad_hd (ad_cA C) (ad_eh (ad_aE (ad_cA C)) h v) (ad_aK (ad_cA C)) (ad_aF (ad_cA C)) (ad_aN (ad_cA C)))) := by
          unfold ad_m_heads
          (repeat' split) <;> first | with_reducible rfl | contradiction | (exfalso; omega) | rfl | (exfalso; simp_all; omega) | (simp_all; done)
        rw [e]
        exact ⟨by rw [r4 _ (by omega)]; rfl, ad_c7_now hC (ad_fr.st (Or.inr (Or.inl ⟨rfl, rfl⟩))) (ad_rC_hd a1.1 (fun k i h1 h2 => by funext z; simp [ad_st, h2]) (by simp [ad_st]) (by simp [ad_st]) ⟨by simp [ad_st]; exact r3.1, by simp [ad_st]; exact r3.2.1, by simp [ad_st]; exact r3.2.2⟩ (fun i hi => by
          simp only [ad_st_at, ad_eh]
          by_cases hz : i = h.toNat
          · rw [if_pos ⟨trivial, trivial, hz⟩, if_pos hz]
          · rw [if_neg (fun q => hz q.2.2), if_neg hz, r4 i hi])) (ad_wA_hd a1.2 (fun i hi => by
          unfold ad_eh
          by_cases hz : i = h.toNat
          · rw [if_pos hz]
            exact ⟨by omega, fun q => absurd (by omega) q⟩
          · rw [if_neg hz]; exact w7 i hi) (fun i hi => by
          unfold ad_eh
          rw [if_neg (by omega)]; exact w9.2.2.2 i hi) w8), ad_f7_st (by decide)⟩)
    · show ad_R _ _ _ _ 12 _ _ _
      refine ad_aload_n dX7_heads_12 rfl ?_
      refine gf_X7_10 rfl dX7_heads_13 ?_
      refine ad_iload_n dX7_heads_16 rfl ?_
      refine ad_cv1f rfl cl_X7_109 dX7_heads_17 (c_X4_holds (by decide) a1.1 a1.2 hv) (by omega) (by show _ < 3; omega) (Nat.le_of_ble_eq_true rfl) ?_
      refine ad_ifp_ne 29 dX7_heads_20 (by decide) (fun h20 => ?_) (fun h20 => ?_)
      · skip
        refine ad_aload_n dX7_heads_29 rfl ?_
        refine gf_X7_10 rfl dX7_heads_30 ?_
        refine gf_X7_136 rfl (by omega) dX7_heads_33 ?_
        refine ad_iload_n dX7_heads_36 rfl ?_
        refine ad_iald dX7_heads_37 (by show _ < 3; omega) ⟨by decide, by decide⟩ (by omega) (by show _ < ((4 : Nat) : Int); omega) ?_
        refine ad_istore_n dX7_heads_38 (by decide) rfl (by dsimp only [ad_set]) ?_
        refine ad_aload_n dX7_heads_39 rfl ?_
        refine gf_X7_10 rfl dX7_heads_40 ?_
        refine gf_X7_136 rfl (by omega) dX7_heads_43 ?_
        refine ad_iload_n dX7_heads_46 rfl ?_
        refine ad_iload_n dX7_heads_47 rfl ?_
        refine ad_iast dX7_heads_48 (by show _ < 3; omega) ⟨by decide, by decide⟩ (by omega) (by show _ < ((4 : Nat) : Int); omega) ?_
        refine ad_iload_n dX7_heads_49 rfl ?_
        refine ad_cs1f rfl cl_X7_139 dX7_heads_50 (c_X7_orLacking (by rw [r4 _ (by omega)]; have := (w7 h.toNat (by omega)); by_cases hz : ad_aE (ad_cA C) h.toNat = -1 <;> omega)) (by omega) (Nat.le_of_ble_eq_true rfl) ?_
        exact ad_reti dX7_heads_53 rfl (by
          have e : ad_m_heads C h v = (ad_lk (ad_aE (ad_cA C) h.toNat), ad_sA C (ad_hd (ad_cA C) (ad_eh (ad_aE (ad_cA C)) h v) (ad_aK (ad_cA C)) (ad_aF (ad_cA C)) (ad_aN (ad_cA C)))) := by
            unfold ad_m_heads
            (repeat' split) <;> first | with_reducible rfl | contradiction | (exfalso; omega) | rfl | (exfalso; simp_all; omega) | (simp_all; done)
          rw [e]
          exact ⟨by rw [r4 _ (by omega)]; rfl, ad_c7_now hC (ad_fr.st (Or.inr (Or.inl ⟨rfl, rfl⟩))) (ad_rC_hd a1.1 (fun k i h1 h2 => by funext z; simp [ad_st, h2]) (by simp [ad_st]) (by simp [ad_st]) ⟨by simp [ad_st]; exact r3.1, by simp [ad_st]; exact r3.2.1, by simp [ad_st]; exact r3.2.2⟩ (fun i hi => by
            simp only [ad_st_at, ad_eh]
            by_cases hz : i = h.toNat
            · rw [if_pos ⟨trivial, trivial, hz⟩, if_pos hz]
            · rw [if_neg (fun q => hz q.2.2), if_neg hz, r4 i hi])) (ad_wA_hd a1.2 (fun i hi => by
            unfold ad_eh
            by_cases hz : i = h.toNat
            · rw [if_pos hz]
              have hb := w2 v.toNat h20.2
              exact ⟨by omega, fun q => ⟨by omega, h20.2⟩⟩
            · rw [if_neg hz]; exact w7 i hi) (fun i hi => by
            unfold ad_eh
            rw [if_neg (by omega)]; exact w9.2.2.2 i hi) w8), ad_f7_st (by decide)⟩)
      · show ad_R _ _ _ _ 23 _ _ _
        refine ad_aload_n dX7_heads_23 rfl ?_
        refine ad_iconst dX7_heads_24 ?_
        refine ad_cv1q rfl cl_X7_67 dX7_heads_25 (c_X7_refuse hC (by decide)) (by omega) (by show _ < 1; omega) (Nat.le_of_ble_eq_true rfl) (fun x25 s25 q25 => ?_)
        obtain ⟨rfl, c25, f25⟩ := q25
        exact ad_reti dX7_heads_28 rfl (by
          have e : ad_m_heads C h v = ad_no C 1 := by
            unfold ad_m_heads
            (repeat' split) <;> first | with_reducible rfl | contradiction | (exfalso; omega) | rfl | (exfalso; simp_all; omega) | (simp_all; done)
          rw [e]
          exact ⟨rfl, c25, f25⟩)
theorem c_X7_count {g : ad_G} {d : Nat} {σ : ad_Mem} {C : ad_C7} {w : Int} (hC : ad_c7 σ C) (hw : ad_rng w) (h5d : 5 ≤ d) : ad_Q g mX7_count d [ad_rf g 7 0, ad_iv w] σ (fun x m => ad_an7 σ x m (ad_m_count C w)) := by
  have hC0 := hC
  obtain ⟨a1, a2, a3, a4, a5, a6, a7, a8, a9⟩ := hC0
  obtain ⟨z1, z2, z3, z4⟩ := ad_c7_sz hC
  obtain ⟨r1, r2, r3, r4, r5, r6, r7, r8⟩ := a1.1
  obtain ⟨w1, w2, w3, w4, w5, w6, w7, w8, w9⟩ := a1.2
  refine ad_M1 (k := 0) rfl (by simp [Value.category]) rfl (Nat.le_of_ble_eq_true rfl) ?_
  simp only [List.map_cons, List.map_nil, List.replicate, List.cons_append, List.nil_append]
  refine ad_iload_n dX7_count_0 rfl ?_
  by_cases hs1_0 : w = 0
  · refine ad_table dX7_count_1 (by omega) 48 (by rw [hs1_0]; rfl) ?_
    refine ad_aload_n dX7_count_48 rfl ?_
    refine gf_X7_10 rfl dX7_count_49 ?_
    refine gf_X7_224 rfl (by omega) dX7_count_52 ?_
    exact ad_reti dX7_count_55 rfl (by
      have e : ad_m_count C w = ((ad_aC (ad_cA C) : Int), C) := by
        unfold ad_m_count
        (repeat' split) <;> first | with_reducible rfl | contradiction | (exfalso; omega) | rfl | (exfalso; simp_all; omega) | (simp_all; done)
      rw [e]
      exact ⟨by rw [r1], hC, ad_fr.refl⟩)
  by_cases hs1_1 : w = 1
  · refine ad_table dX7_count_1 (by omega) 56 (by rw [hs1_1]; rfl) ?_
    refine ad_aload_n dX7_count_56 rfl ?_
    refine gf_X7_10 rfl dX7_count_57 ?_
    refine gf_X7_233 rfl (by omega) dX7_count_60 ?_
    exact ad_reti dX7_count_63 rfl (by
      have e : ad_m_count C w = ((ad_bits (ad_aH (ad_cA C)) : Int), C) := by
        unfold ad_m_count
        (repeat' split) <;> first | with_reducible rfl | contradiction | (exfalso; omega) | rfl | (exfalso; simp_all; omega) | (simp_all; done)
      rw [e]
      exact ⟨by rw [r2], hC, ad_fr.refl⟩)
  by_cases hs1_2 : w = 2
  · refine ad_table dX7_count_1 (by omega) 64 (by rw [hs1_2]; rfl) ?_
    refine ad_aload_n dX7_count_64 rfl ?_
    refine gf_X7_10 rfl dX7_count_65 ?_
    refine ad_cv0f rfl cl_X7_162 dX7_count_68 (c_X4_costOfAll (by decide) a1.1 a1.2 (by omega)) (by omega) (by show _ < 3; omega) (Nat.le_of_ble_eq_true rfl) ?_
    exact ad_reti dX7_count_71 rfl (by
      have e : ad_m_count C w = (ad_all (ad_cA C), C) := by
        unfold ad_m_count
        (repeat' split) <;> first | with_reducible rfl | contradiction | (exfalso; omega) | rfl | (exfalso; simp_all; omega) | (simp_all; done)
      rw [e]
      exact ⟨rfl, hC, ad_fr.refl⟩)
  by_cases hs1_3 : w = 3
  · refine ad_table dX7_count_1 (by omega) 72 (by rw [hs1_3]; rfl) ?_
    refine ad_aload_n dX7_count_72 rfl ?_
    refine gf_X7_10 rfl dX7_count_73 ?_
    refine ad_cv0f rfl cl_X7_283 dX7_count_76 (c_X4_greatestDepth (by decide) a1.1 a1.2 (by omega)) (by omega) (by show _ < 3; omega) (Nat.le_of_ble_eq_true rfl) ?_
    exact ad_reti dX7_count_79 rfl (by
      have e : ad_m_count C w = (ad_deep (ad_cA C), C) := by
        unfold ad_m_count
        (repeat' split) <;> first | with_reducible rfl | contradiction | (exfalso; omega) | rfl | (exfalso; simp_all; omega) | (simp_all; done)
      rw [e]
      exact ⟨rfl, hC, ad_fr.refl⟩)
  by_cases hs1_4 : w = 4
  · refine ad_table dX7_count_1 (by omega) 80 (by rw [hs1_4]; rfl) ?_
    refine ad_aload_n dX7_count_80 rfl ?_
    refine gf_X7_10 rfl dX7_count_81 ?_
    refine ad_cv0f rfl cl_X7_285 dX7_count_84 (c_X4_wholes (by decide) a1.1 a1.2 (by omega)) (by omega) (by show _ < 3; omega) (Nat.le_of_ble_eq_true rfl) ?_
    exact ad_reti dX7_count_87 rfl (by
      have e : ad_m_count C w = ((ad_bits (ad_whl (ad_cA C)) : Int), C) := by
        unfold ad_m_count
        (repeat' split) <;> first | with_reducible rfl | contradiction | (exfalso; omega) | rfl | (exfalso; simp_all; omega) | (simp_all; done)
      rw [e]
      exact ⟨rfl, hC, ad_fr.refl⟩)
  by_cases hs1_5 : w = 5
  · refine ad_table dX7_count_1 (by omega) 88 (by rw [hs1_5]; rfl) ?_
    refine ad_aload_n dX7_count_88 rfl ?_
    refine gf_X7_10 rfl dX7_count_89 ?_
    refine gf_X7_148 rfl (by omega) dX7_count_92 ?_
    exact ad_reti dX7_count_95 rfl (by
      have e : ad_m_count C w = (ad_aN (ad_cA C), C) := by
        unfold ad_m_count
        (repeat' split) <;> first | with_reducible rfl | contradiction | (exfalso; omega) | rfl | (exfalso; simp_all; omega) | (simp_all; done)
      rw [e]
      exact ⟨by rw [r3.2.2], hC, ad_fr.refl⟩)
  by_cases hs1_6 : w = 6
  · refine ad_table dX7_count_1 (by omega) 96 (by rw [hs1_6]; rfl) ?_
    refine ad_aload_n dX7_count_96 rfl ?_
    refine gf_X7_48 rfl dX7_count_97 ?_
    refine gf_X7_81 rfl (by omega) dX7_count_100 ?_
    exact ad_reti dX7_count_103 rfl (by
      have e : ad_m_count C w = (((ad_cR C).length : Int), C) := by
        unfold ad_m_count
        (repeat' split) <;> first | with_reducible rfl | contradiction | (exfalso; omega) | rfl | (exfalso; simp_all; omega) | (simp_all; done)
      rw [e]
      exact ⟨by rw [z3], hC, ad_fr.refl⟩)
  by_cases hs1_7 : w = 7
  · refine ad_table dX7_count_1 (by omega) 104 (by rw [hs1_7]; rfl) ?_
    refine ad_aload_n dX7_count_104 rfl ?_
    refine gf_X7_39 rfl dX7_count_105 ?_
    refine gf_X7_71 rfl dX7_count_108 ?_
    refine gf_X7_81 rfl (by omega) dX7_count_111 ?_
    exact ad_reti dX7_count_114 rfl (by
      have e : ad_m_count C w = (((ad_cS C).length : Int), C) := by
        unfold ad_m_count
        (repeat' split) <;> first | with_reducible rfl | contradiction | (exfalso; omega) | rfl | (exfalso; simp_all; omega) | (simp_all; done)
      rw [e]
      exact ⟨by rw [z1], hC, ad_fr.refl⟩)
  refine ad_table dX7_count_1 (by omega) 115 (by rw [if_pos (by omega)]; rfl) ?_
  refine ad_iload_n dX7_count_115 rfl ?_
  refine ad_bipush dX7_count_116 rfl ?_
  refine ad_icmp_lt 139 dX7_count_118 (by decide) (by omega) (by omega) (fun h118 => ?_) (fun h118 => ?_)
  · skip
    refine ad_bipush dX7_count_139 rfl ?_
    exact ad_reti dX7_count_141 rfl (by
      have e : ad_m_count C w = (-9, C) := by
        unfold ad_m_count
        (repeat' split) <;> first | with_reducible rfl | contradiction | (exfalso; omega) | rfl | (exfalso; simp_all; omega) | (simp_all; done)
      rw [e]
      exact ⟨rfl, hC, ad_fr.refl⟩)
  · show ad_R _ _ _ _ 121 _ _ _
    refine ad_iload_n dX7_count_121 rfl ?_
    refine ad_bipush dX7_count_122 rfl ?_
    refine ad_icmp_gt 139 dX7_count_124 (by decide) (by omega) (by omega) (fun h124 => ?_) (fun h124 => ?_)
    · skip
      refine ad_bipush dX7_count_139 rfl ?_
      exact ad_reti dX7_count_141 rfl (by
        have e : ad_m_count C w = (-9, C) := by
          unfold ad_m_count
          (repeat' split) <;> first | with_reducible rfl | contradiction | (exfalso; omega) | rfl | (exfalso; simp_all; omega) | (simp_all; done)
        rw [e]
        exact ⟨rfl, hC, ad_fr.refl⟩)
    · show ad_R _ _ _ _ 127 _ _ _
      refine ad_aload_n dX7_count_127 rfl ?_
      refine gf_X7_59 rfl dX7_count_128 ?_
      refine ad_iload_n dX7_count_131 rfl ?_
      refine ad_bipush dX7_count_132 rfl ?_
      refine ad_isub dX7_count_134 ?_
      refine ad_iald dX7_count_135 (by show _ < 1; omega) ⟨by decide, by decide⟩ (by omega) (by show _ < ((7 : Nat) : Int); omega) ?_
      refine ad_goto 141 dX7_count_136 (by decide) ?_
      exact ad_reti dX7_count_141 rfl (by
        have e : ad_m_count C w = (ad_cF C (w - 10).toNat, C) := by
          unfold ad_m_count
          (repeat' split) <;> first | with_reducible rfl | contradiction | (exfalso; omega) | rfl | (exfalso; simp_all; omega) | (simp_all; done)
        rw [e]
        exact ⟨by rw [a9 _ (by omega)], hC, ad_fr.refl⟩)
