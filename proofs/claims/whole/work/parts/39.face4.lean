/-! ===== repack, repacked, image, on, reached, step, delta, judge ===== -/
theorem ad_lrn {σ m : ad_Mem} {s : Nat} (q : m 3 0 5 = (s : Int) + 1 ∧ (∀ q, q < 100 → m 16 0 q = 0) ∧ (∀ k i, k ≠ 16 → k ≠ 3 → m k i = σ k i) ∧ (∀ q, q ≠ 5 → m 3 0 q = σ 3 0 q)) : ad_fr ad_TP σ m ∧ (∀ A, ad_wA A → ad_cch m A) ∧ (ad_dr σ 30 → ad_dr m 30) := by
  refine ⟨fun k i h => q.2.2.1 k i (fun z => h (Or.inl (by omega))) (fun z => h (Or.inl (by omega))), fun A hw u v hu hv => Or.inl (q.2.1 _ ?_), fun h => ad_dr_congr (q.2.2.1 _ _ (by decide) (by decide)) (q.2.2.1 _ _ (by decide) (by decide)) h⟩
  have := hw.1
  have := hw.2.1 u hu
  have := hw.2.1 v hv
  omega
def ad_rp (A : ad_Ar) : ad_Ar := ad_rpk A (ad_aK A) (ad_aF A) (ad_aN A)
theorem ad_wA_rp {A : ad_Ar} (hw : ad_wA A) : ad_wA (ad_rp A) := ad_wA_rpk hw hw.2.2.2.2.2.2.2.1.2.1.1 hw.2.2.2.2.2.2.2.1.2.2
/-- what the plan's numbers are behind a make -/
theorem ad_pS_all {m : ad_Mem} {s : Nat} {A : ad_Ar} (hw : ad_wA A) {k f b : Int} (hf : 0 ≤ f) (hb : 0 ≤ b ∧ b ≤ 8) (h : ad_pS m s A k f b (ad_ordL A k) (ad_ordL A k).length) : m 3 0 10 = ad_all (ad_rpk A k f b) ∧ m 3 0 11 = ad_deep (ad_rpk A k f b) ∧ m 3 0 12 = (ad_pp (ad_whl (ad_rpk A k f b)) 10 : Nat) := by
  obtain ⟨h1, h2, h3⟩ := ad_pln_all hw (k := k) hf hb
  exact ⟨h.2.2.2.2.2.2.2.1.1.trans h1, h.2.2.2.2.2.2.2.1.2.1.trans h2, h.2.2.2.2.2.2.2.1.2.2.trans h3⟩
theorem ad_pS_bs {m : ad_Mem} {s : Nat} {A : ad_Ar} (hw : ad_wA A) {k f b : Int} (hf : 0 ≤ f) (hb : 0 ≤ b ∧ b ≤ 8) (h : ad_pS m s A k f b (ad_ordL A k) (ad_ordL A k).length) : (∀ u, u < 10 → m 14 0 u = (ad_pln A k f b).1 u) ∧ (∀ u, u < 10 → 0 ≤ (ad_pln A k f b).1 u ∧ (ad_pln A k f b).1 u ≤ 11) ∧ (∀ v, ad_aH A v = true → 0 ≤ (ad_pln A k f b).1 v ∧ ((ad_pln A k f b).1 v < 10 → ad_aH A ((ad_pln A k f b).1 v).toNat = true ∧ ((ad_pln A k f b).1 v).toNat ≠ v)) := by
  refine ⟨h.2.2.2.2.2.1, fun u _ => (ad_pl_rng hw hb ad_ordL_in hf (ad_ordL A k).length (Nat.le_refl _)).1 u, fun v hv => ?_⟩
  have := ad_pln_facts hw (k := k) hf hb hv
  exact ⟨this.1, fun q => ⟨(this.2.2.2.1 q).1, (this.2.2.2.1 q).2.1⟩⟩
theorem ad_c7_pS {σ m : ad_Mem} {C : ad_C7} (h : ad_c7 σ C) {k f b : Int} {l : List Nat} {i s : Nat} {A : ad_Ar} (hf : ad_fr ad_TP σ m) (hp : ad_pS m s A k f b l i) : ad_c7 m C := ad_c7_plan h hf hp.2.2.2.2.2.2.2.2.2
def ad_m_repack (C : ad_C7) : Int × ad_C7 := (ad_all (ad_rp (ad_cA C)), ad_sA C (ad_rp (ad_cA C)))
def ad_m_repacked (C : ad_C7) (w : Int) : Int × ad_C7 := if w < 0 ∨ 2 < w then ad_no C 2 else if w = 0 then (ad_all (ad_rp (ad_cA C)), C) else if w = 1 then (ad_deep (ad_rp (ad_cA C)), C) else ((ad_pp (ad_whl (ad_rp (ad_cA C))) 10 : Nat), C)
def ad_m_image (C : ad_C7) : Int × ad_C7 := ((ad_pp (ad_aH (ad_cA C)) 10 : Nat), ad_sT C (ad_cA C))
def ad_m_on (C : ad_C7) : Int × ad_C7 := if ad_ck C = true then ((ad_pp (ad_aH (ad_cT C)) 10 : Nat), ad_sA C (ad_cT C)) else ad_no C 3
def ad_m_reached (C : ad_C7) (w : Int) : Int × ad_C7 := if w < 0 ∨ 2 < w then ad_no C 2 else if w = 2 then (ad_cts (ad_cA C), C) else if w = 0 then ((ad_bits (ad_live (ad_cA C)) : Nat), C) else ((ad_bits (ad_gn (ad_cA C)) : Nat), C)
def ad_m_step (C : ad_C7) (v i w : Int) : Int × ad_C7 :=
  if ¬ (0 ≤ v ∧ ad_aH (ad_cA C) v.toNat = true) then ad_no C 1
  else if ad_aB (ad_cA C) v.toNat = -1 ∨ i < 0 ∨ (ad_aT (ad_cA C) v.toNat).length ≤ i then ad_no C 1
  else if w < 0 ∨ 1 < w then ad_no C 2
  else (if w = 0 then ((ad_aT (ad_cA C) v.toNat).getD i.toNat (0, 0)).1 else ((ad_aT (ad_cA C) v.toNat).getD i.toNat (0, 0)).2, C)
def ad_m_delta (C : ad_C7) (a b w : Int) : Int × ad_C7 :=
  if ¬ (0 ≤ a ∧ ad_aH (ad_cA C) a.toNat = true) ∨ ¬ (0 ≤ b ∧ ad_aH (ad_cA C) b.toNat = true) then ad_no C 1
  else if w < 0 ∨ 2 < w then ad_no C 2
  else if w = 0 then (ad_c2 (ad_cA C) a.toNat b.toNat, C)
  else if w = 1 then ((ad_dl (ad_aL (ad_cA C) a.toNat) (ad_aL (ad_cA C) b.toNat)).length, C)
  else (ad_nc (ad_dl (ad_aL (ad_cA C) a.toNat) (ad_aL (ad_cA C) b.toNat)), C)
def ad_m_judge (C : ad_C7) (v : Int) : Int × ad_C7 :=
  if ¬ (0 ≤ v ∧ ad_aH (ad_cA C) v.toNat = true) then ad_no C 1
  else (if ad_cR C = ad_aL (ad_cA C) v.toNat then -9 else (ad_cpl (ad_cR C) (ad_aL (ad_cA C) v.toNat) : Nat), ad_sR C [])
theorem ad_dw_at {σ : ad_Mem} {j : Nat} {l : List (Int × Int)} {i : Int} (h : ad_ds σ j = l) (hs : σ 0 j 2 = l.length) (hi : 0 ≤ i ∧ i < l.length) : l.getD i.toNat (0, 0) = (σ 10 j i.toNat, σ 11 j i.toNat) := by
  rw [List.getD_eq_getElem?_getD, ← h, ad_ds_at σ j i.toNat (by omega)]
  rfl
theorem ad_dw_c2 {σ : ad_Mem} {j : Nat} {l : List (Int × Int)} (hw : ad_dw σ j) (h : ad_ds σ j = l) : 1 + σ 0 j 2 + σ 0 j 3 = ad_dc l := by
  have h1 := ad_dw_len hw h
  have h2 := hw.2.2.1
  rw [h] at h2
  unfold ad_dc
  omega
theorem ad_cpl_full {l m : List Int} (h1 : ad_cpl l m = l.length) (h2 : ad_cpl l m = m.length) : l = m := (ad_cpl_all l m (by omega)).mp h1
theorem ad_cpl_self (l : List Int) : ad_cpl l l = l.length := (ad_cpl_all l l rfl).mpr rfl
theorem ad_c7_X1 {σ m : ad_Mem} {C : ad_C7} {T : ad_Ar} (h : ad_c7 σ C) (hf : ad_fr (ad_Ts 1) σ m) (hr : ad_rC m 1 T) (hw : ad_wA T) : ad_c7 (ad_st m 7 0 9 1) (ad_sT C T) := by
  obtain ⟨a1, a2, a3, a4, a5, a6, a7, a8, a9⟩ := h
  have e : ∀ k i, k ≠ 7 → ¬ ad_Ts 1 k i → ad_st m 7 0 9 1 k i = σ k i := fun k i hk h => by rw [← hf k i h]; funext c; simp [ad_st, hk]
  have e1 : ∀ k i, ad_Ts 1 k i → ad_st m 7 0 9 1 k i = m k i := fun k i hk => by
    have : k ≠ 7 := fun z => by unfold ad_Ts at hk; omega
    funext c; simp [ad_st, this]
  have ns : ∀ s, s ≠ 1 → s < 3 → ∀ k i, ad_Ts s k i → ad_st m 7 0 9 1 k i = σ k i := fun s h1 h3 k i hk => e k i (fun z => by unfold ad_Ts at hk; omega) (fun z => by unfold ad_Ts at z hk; omega)
  have nn : ∀ k i, k = 2 ∨ k = 12 → 33 ≤ i → ad_st m 7 0 9 1 k i = σ k i := fun k i hk hi => e k i (by omega) (fun z => by unfold ad_Ts at z; omega)
  have nd : ∀ k i, 30 ≤ i → k = 0 ∨ k = 10 ∨ k = 11 → ad_st m 7 0 9 1 k i = σ k i := fun k i hi hk => e k i (by omega) (fun z => by unfold ad_Ts at z; omega)
  have hr1 := ad_rC_congr hw e1 hr
  refine ⟨⟨ad_rC_congr a1.2 (ns 0 (by decide) (by decide)) a1.1, a1.2⟩, by show ad_st m 7 0 9 1 7 0 9 = 1; simp [ad_st], fun q => ⟨hr1, hw⟩, ⟨hr1.K, ad_rK_congr (ns 2 (by decide) (by decide)) a4.2⟩, ⟨ad_nw_congr (nn _ _ (by simp) (by decide)) (nn _ _ (by simp) (by decide)) a5.1, ad_nw_congr (nn _ _ (by simp) (by decide)) (nn _ _ (by simp) (by decide)) a5.2.1, ad_nw_congr (nn _ _ (by simp) (by decide)) (nn _ _ (by simp) (by decide)) a5.2.2⟩, ⟨ad_dr_congr (nd _ _ (by decide) (by simp)) (nd _ _ (by decide) (by simp)) a6.1, ad_dr_congr (nd _ _ (by decide) (by simp)) (nd _ _ (by decide) (by simp)) a6.2⟩, ⟨?_, a7.2⟩, ⟨?_, a8.2⟩, fun i hi => by rw [e 20 0 (by decide) (fun z => by unfold ad_Ts at z; omega)]; exact a9 i hi⟩
  · rw [ad_nl_congr (nn _ _ (by simp) (by decide)) (nn _ _ (by simp) (by decide))]; exact a7.1
  · rw [ad_nl_congr (nn _ _ (by simp) (by decide)) (nn _ _ (by simp) (by decide))]; exact a8.1
theorem c_X7_repack {g : ad_G} {d : Nat} {σ : ad_Mem} {C : ad_C7} (hC : ad_c7 σ C) (h6d : 6 ≤ d) : ad_Q g mX7_repack d [ad_rf g 7 0] σ (fun x m => ad_an7 σ x m (ad_m_repack C)) := by
  have hC0 := hC
  obtain ⟨a1, a2, a3, a4, a5, a6, a7, a8, a9⟩ := hC0
  obtain ⟨z1, z2, z3, z4⟩ := ad_c7_sz hC
  obtain ⟨r1, r2, r3, r4, r5, r6, r7, r8⟩ := a1.1
  obtain ⟨w1, w2, w3, w4, w5, w6, w7, w8, w9⟩ := a1.2
  refine ad_M1 (k := 0) rfl (by simp [Value.category]) rfl (Nat.le_of_ble_eq_true rfl) ?_
  simp only [List.map_cons, List.map_nil, List.replicate, List.cons_append, List.nil_append]
  refine ad_aload_n dX7_repack_0 rfl ?_
  refine gf_X7_25 rfl dX7_repack_1 ?_
  refine ad_aload_n dX7_repack_4 rfl ?_
  refine gf_X7_10 rfl dX7_repack_5 ?_
  refine ad_cv1v rfl cl_X7_151 dX7_repack_8 (c_X3_learn (s := 0) (by decide)) (by omega) (by show _ < 1; omega) (Nat.le_of_ble_eq_true rfl) (fun s8 q8 => ?_)
  obtain ⟨L1, L2, L3⟩ := ad_lrn q8
  have L4 := ad_c7_plan hC L1 (L3 a6.1)
  have L5 := L4.1.1
  have L6 := L5.2.2.1
  refine ad_aload_n dX7_repack_11 rfl ?_
  refine gf_X7_25 rfl dX7_repack_12 ?_
  refine ad_aload_n dX7_repack_15 rfl ?_
  refine gf_X7_10 rfl dX7_repack_16 ?_
  refine gf_X7_142 rfl (by omega) dX7_repack_19 ?_
  rw [L6.1]
  refine ad_aload_n dX7_repack_22 rfl ?_
  refine gf_X7_10 rfl dX7_repack_23 ?_
  refine gf_X7_145 rfl (by omega) dX7_repack_26 ?_
  rw [L6.2.1]
  refine ad_aload_n dX7_repack_29 rfl ?_
  refine gf_X7_10 rfl dX7_repack_30 ?_
  refine gf_X7_148 rfl (by omega) dX7_repack_33 ?_
  rw [L6.2.2]
  refine ad_cv3v rfl cl_X7_154 dX7_repack_36 (c_X3_make (s := 0) (by decide) L5 a1.2 (by omega) q8.1 w8.1 w8.2.1 w8.2.2 (L2 _ a1.2) (L3 a6.1)) (by omega) (by show _ < 1; omega) (Nat.le_of_ble_eq_true rfl) (fun s36 q36 => ?_)
  obtain ⟨M1, M2, M3⟩ := ad_pS_all a1.2 w8.2.1.1 w8.2.2 q36.1
  have M4 := ad_c7_pS L4 q36.2 q36.1
  obtain ⟨N1, N2, N3⟩ := ad_pS_bs a1.2 w8.2.1.1 w8.2.2 q36.1
  refine ad_aload_n dX7_repack_39 rfl ?_
  refine gf_X7_10 rfl dX7_repack_40 ?_
  refine ad_aload_n dX7_repack_43 rfl ?_
  refine gf_X7_25 rfl dX7_repack_44 ?_
  refine ad_cv1v rfl cl_X7_158 dX7_repack_47 (c_X4_storeBy (s := 0) (bs := (ad_pln (ad_cA C) (ad_aK (ad_cA C)) (ad_aF (ad_cA C)) (ad_aN (ad_cA C))).1) (by decide) M4.1.1 a1.2 (by omega) N1 N2 N3) (by omega) (by show _ < 3; omega) (Nat.le_of_ble_eq_true rfl) (fun s47 q47 => ?_)
  have R1 := ad_c7_now M4 q47.2 q47.1 (ad_wA_rp a1.2)
  refine ad_aload_n dX7_repack_50 rfl ?_
  refine gf_X7_10 rfl dX7_repack_51 ?_
  refine ad_cv0f rfl cl_X7_162 dX7_repack_54 (c_X4_costOfAll (by decide) R1.1.1 R1.1.2 (by omega)) (by omega) (by show _ < 3; omega) (Nat.le_of_ble_eq_true rfl) ?_
  exact ad_reti dX7_repack_57 rfl (⟨rfl, R1, (ad_TP_fr7 L1).trans ((ad_TP_fr7 q36.2).trans (ad_Ts_fr7 q47.2))⟩)
theorem c_X7_repacked {g : ad_G} {d : Nat} {σ : ad_Mem} {C : ad_C7} {w : Int} (hC : ad_c7 σ C) (hw : ad_rng w) (h6d : 6 ≤ d) : ad_Q g mX7_repacked d [ad_rf g 7 0, ad_iv w] σ (fun x m => ad_an7 σ x m (ad_m_repacked C w)) := by
  have hC0 := hC
  obtain ⟨a1, a2, a3, a4, a5, a6, a7, a8, a9⟩ := hC0
  obtain ⟨z1, z2, z3, z4⟩ := ad_c7_sz hC
  obtain ⟨r1, r2, r3, r4, r5, r6, r7, r8⟩ := a1.1
  obtain ⟨w1, w2, w3, w4, w5, w6, w7, w8, w9⟩ := a1.2
  refine ad_M1 (k := 0) rfl (by simp [Value.category]) rfl (Nat.le_of_ble_eq_true rfl) ?_
  simp only [List.map_cons, List.map_nil, List.replicate, List.cons_append, List.nil_append]
  refine ad_iload_n dX7_repacked_0 rfl ?_
  refine ad_if_lt 9 dX7_repacked_1 (by decide) (by omega) (fun h1 => ?_) (fun h1 => ?_)
  · skip
    refine ad_aload_n dX7_repacked_9 rfl ?_
    refine ad_bipush dX7_repacked_10 rfl ?_
    refine ad_cv1q rfl cl_X7_67 dX7_repacked_12 (c_X7_refuse hC (by decide)) (by omega) (by show _ < 1; omega) (Nat.le_of_ble_eq_true rfl) (fun x12 s12 q12 => ?_)
    obtain ⟨rfl, c12, f12⟩ := q12
    exact ad_reti dX7_repacked_15 rfl (by
      have e : ad_m_repacked C w = ad_no C 2 := by
        unfold ad_m_repacked
        (repeat' split) <;> first | with_reducible rfl | contradiction | (exfalso; omega) | rfl | (exfalso; simp_all; omega) | (simp_all; done)
      rw [e]
      exact ⟨rfl, c12, f12⟩)
  · show ad_R _ _ _ _ 4 _ _ _
    refine ad_iload_n dX7_repacked_4 rfl ?_
    refine ad_iconst dX7_repacked_5 ?_
    refine ad_icmp_le 16 dX7_repacked_6 (by decide) (by omega) (by omega) (fun h6 => ?_) (fun h6 => ?_)
    · skip
      refine ad_aload_n dX7_repacked_16 rfl ?_
      refine gf_X7_25 rfl dX7_repacked_17 ?_
      refine ad_aload_n dX7_repacked_20 rfl ?_
      refine gf_X7_10 rfl dX7_repacked_21 ?_
      refine ad_cv1v rfl cl_X7_151 dX7_repacked_24 (c_X3_learn (s := 0) (by decide)) (by omega) (by show _ < 1; omega) (Nat.le_of_ble_eq_true rfl) (fun s24 q24 => ?_)
      obtain ⟨L1, L2, L3⟩ := ad_lrn q24
      have L4 := ad_c7_plan hC L1 (L3 a6.1)
      have L5 := L4.1.1
      have L6 := L5.2.2.1
      refine ad_aload_n dX7_repacked_27 rfl ?_
      refine gf_X7_25 rfl dX7_repacked_28 ?_
      refine ad_aload_n dX7_repacked_31 rfl ?_
      refine gf_X7_10 rfl dX7_repacked_32 ?_
      refine gf_X7_142 rfl (by omega) dX7_repacked_35 ?_
      rw [L6.1]
      refine ad_aload_n dX7_repacked_38 rfl ?_
      refine gf_X7_10 rfl dX7_repacked_39 ?_
      refine gf_X7_145 rfl (by omega) dX7_repacked_42 ?_
      rw [L6.2.1]
      refine ad_aload_n dX7_repacked_45 rfl ?_
      refine gf_X7_10 rfl dX7_repacked_46 ?_
      refine gf_X7_148 rfl (by omega) dX7_repacked_49 ?_
      rw [L6.2.2]
      refine ad_cv3v rfl cl_X7_154 dX7_repacked_52 (c_X3_make (s := 0) (by decide) L5 a1.2 (by omega) q24.1 w8.1 w8.2.1 w8.2.2 (L2 _ a1.2) (L3 a6.1)) (by omega) (by show _ < 1; omega) (Nat.le_of_ble_eq_true rfl) (fun s52 q52 => ?_)
      obtain ⟨M1, M2, M3⟩ := ad_pS_all a1.2 w8.2.1.1 w8.2.2 q52.1
      have M4 := ad_c7_pS L4 q52.2 q52.1
      refine ad_iload_n dX7_repacked_55 rfl ?_
      refine ad_if_ne 67 dX7_repacked_56 (by decide) (by omega) (fun h56 => ?_) (fun h56 => ?_)
      · skip
        refine ad_iload_n dX7_repacked_67 rfl ?_
        refine ad_iconst dX7_repacked_68 ?_
        refine ad_icmp_ne 82 dX7_repacked_69 (by decide) (by omega) (by omega) (fun h69 => ?_) (fun h69 => ?_)
        · skip
          refine ad_aload_n dX7_repacked_82 rfl ?_
          refine gf_X7_25 rfl dX7_repacked_83 ?_
          refine gf_X7_220 rfl dX7_repacked_86 ?_
          exact ad_reti dX7_repacked_89 rfl (by
            have e : ad_m_repacked C w = (((ad_pp (ad_whl (ad_rp (ad_cA C))) 10 : Nat) : Int), C) := by
              unfold ad_m_repacked
              (repeat' split) <;> first | with_reducible rfl | contradiction | (exfalso; omega) | rfl | (exfalso; simp_all; omega) | (simp_all; done)
            rw [e]
            exact ⟨by rw [M3]; rfl, M4, (ad_TP_fr7 L1).trans (ad_TP_fr7 q52.2)⟩)
        · show ad_R _ _ _ _ 72 _ _ _
          refine ad_aload_n dX7_repacked_72 rfl ?_
          refine gf_X7_25 rfl dX7_repacked_73 ?_
          refine gf_X7_217 rfl dX7_repacked_76 ?_
          refine ad_goto 89 dX7_repacked_79 (by decide) ?_
          exact ad_reti dX7_repacked_89 rfl (by
            have e : ad_m_repacked C w = (ad_deep (ad_rp (ad_cA C)), C) := by
              unfold ad_m_repacked
              (repeat' split) <;> first | with_reducible rfl | contradiction | (exfalso; omega) | rfl | (exfalso; simp_all; omega) | (simp_all; done)
            rw [e]
            exact ⟨by rw [M2]; rfl, M4, (ad_TP_fr7 L1).trans (ad_TP_fr7 q52.2)⟩)
      · show ad_R _ _ _ _ 59 _ _ _
        refine ad_aload_n dX7_repacked_59 rfl ?_
        refine gf_X7_25 rfl dX7_repacked_60 ?_
        refine gf_X7_215 rfl dX7_repacked_63 ?_
        exact ad_reti dX7_repacked_66 rfl (by
          have e : ad_m_repacked C w = (ad_all (ad_rp (ad_cA C)), C) := by
            unfold ad_m_repacked
            (repeat' split) <;> first | with_reducible rfl | contradiction | (exfalso; omega) | rfl | (exfalso; simp_all; omega) | (simp_all; done)
          rw [e]
          exact ⟨by rw [M1]; rfl, M4, (ad_TP_fr7 L1).trans (ad_TP_fr7 q52.2)⟩)
    · show ad_R _ _ _ _ 9 _ _ _
      refine ad_aload_n dX7_repacked_9 rfl ?_
      refine ad_bipush dX7_repacked_10 rfl ?_
      refine ad_cv1q rfl cl_X7_67 dX7_repacked_12 (c_X7_refuse hC (by decide)) (by omega) (by show _ < 1; omega) (Nat.le_of_ble_eq_true rfl) (fun x12 s12 q12 => ?_)
      obtain ⟨rfl, c12, f12⟩ := q12
      exact ad_reti dX7_repacked_15 rfl (by
        have e : ad_m_repacked C w = ad_no C 2 := by
          unfold ad_m_repacked
          (repeat' split) <;> first | with_reducible rfl | contradiction | (exfalso; omega) | rfl | (exfalso; simp_all; omega) | (simp_all; done)
        rw [e]
        exact ⟨rfl, c12, f12⟩)
theorem c_X7_image {g : ad_G} {d : Nat} {σ : ad_Mem} {C : ad_C7} (hC : ad_c7 σ C) (h6d : 6 ≤ d) : ad_Q g mX7_image d [ad_rf g 7 0] σ (fun x m => ad_an7 σ x m (ad_m_image C)) := by
  have hC0 := hC
  obtain ⟨a1, a2, a3, a4, a5, a6, a7, a8, a9⟩ := hC0
  obtain ⟨z1, z2, z3, z4⟩ := ad_c7_sz hC
  obtain ⟨r1, r2, r3, r4, r5, r6, r7, r8⟩ := a1.1
  obtain ⟨w1, w2, w3, w4, w5, w6, w7, w8, w9⟩ := a1.2
  refine ad_M1 (k := 0) rfl (by simp [Value.category]) rfl (Nat.le_of_ble_eq_true rfl) ?_
  simp only [List.map_cons, List.map_nil, List.replicate, List.cons_append, List.nil_append]
  refine ad_aload_n dX7_image_0 rfl ?_
  refine gf_X7_16 rfl dX7_image_1 ?_
  refine ad_aload_n dX7_image_4 rfl ?_
  refine gf_X7_10 rfl dX7_image_5 ?_
  refine ad_cv1v rfl cl_X7_89 dX7_image_8 (c_X4_copyFrom (by decide) (by decide) (by decide) a1.1 a1.2 a4.1 (by omega)) (by omega) (by show _ < 3; omega) (Nat.le_of_ble_eq_true rfl) (fun s8 q8 => ?_)
  have T1 := ad_c7_X1 hC q8.2 q8.1 a1.2
  refine ad_aload_n dX7_image_11 rfl ?_
  refine ad_iconst dX7_image_12 ?_
  refine pf_X7_63 rfl (by first | exact Or.inl rfl | exact Or.inr rfl) dX7_image_13 ?_
  refine ad_aload_n dX7_image_16 rfl ?_
  refine gf_X7_10 rfl dX7_image_17 ?_
  refine gf_X7_233 rfl (by omega) dX7_image_20 ?_
  rw [T1.1.1.2.1]
  change ad_R _ _ _ _ _ _ [ad_iv ((ad_bits (ad_aH (ad_cA C)) : Nat) : Int)] _
  refine ad_cs1f rfl cl_X7_254 dX7_image_23 (c_bitCount (ad_bits_lt _)) (by omega) (Nat.le_of_ble_eq_true rfl) ?_
  exact ad_reti dX7_image_26 rfl (⟨by rw [ad_ones_bits]; rfl, T1, (ad_Ts_fr7 q8.2).trans (ad_f7_st (by decide))⟩)
theorem c_X7_on {g : ad_G} {d : Nat} {σ : ad_Mem} {C : ad_C7} (hC : ad_c7 σ C) (h6d : 6 ≤ d) : ad_Q g mX7_on d [ad_rf g 7 0] σ (fun x m => ad_an7 σ x m (ad_m_on C)) := by
  have hC0 := hC
  obtain ⟨a1, a2, a3, a4, a5, a6, a7, a8, a9⟩ := hC0
  obtain ⟨z1, z2, z3, z4⟩ := ad_c7_sz hC
  obtain ⟨r1, r2, r3, r4, r5, r6, r7, r8⟩ := a1.1
  obtain ⟨w1, w2, w3, w4, w5, w6, w7, w8, w9⟩ := a1.2
  refine ad_M1 (k := 0) rfl (by simp [Value.category]) rfl (Nat.le_of_ble_eq_true rfl) ?_
  simp only [List.map_cons, List.map_nil, List.replicate, List.cons_append, List.nil_append]
  refine ad_aload_n dX7_on_0 rfl ?_
  refine gf_X7_63 rfl dX7_on_1 ?_
  rw [a2]
  refine ad_if_ne 14 dX7_on_4 (by decide) (by by_cases hz : ad_ck C = true <;> simp only [hz, if_true, if_false, ad_rng] <;> decide) (fun h4 => ?_) (fun h4 => ?_)
  · skip
    have hk : ad_ck C = true := by
      by_cases hz : ad_ck C = true
      · exact hz
      · rw [if_neg hz] at h4; omega
    refine ad_aload_n dX7_on_14 rfl ?_
    refine gf_X7_10 rfl dX7_on_15 ?_
    refine ad_aload_n dX7_on_18 rfl ?_
    refine gf_X7_16 rfl dX7_on_19 ?_
    refine ad_cv1v rfl cl_X7_89 dX7_on_22 (c_X4_copyFrom (by decide) (by decide) (by decide) (a3 hk).1 (a3 hk).2 a1.1.K (by omega)) (by omega) (by show _ < 3; omega) (Nat.le_of_ble_eq_true rfl) (fun s22 q22 => ?_)
    have T1 := ad_c7_now hC q22.2 q22.1 (a3 hk).2
    refine ad_aload_n dX7_on_25 rfl ?_
    refine gf_X7_10 rfl dX7_on_26 ?_
    refine gf_X7_233 rfl (by omega) dX7_on_29 ?_
    rw [T1.1.1.2.1]
    change ad_R _ _ _ _ _ _ [ad_iv ((ad_bits (ad_aH (ad_cT C)) : Nat) : Int)] _
    refine ad_cs1f rfl cl_X7_254 dX7_on_32 (c_bitCount (ad_bits_lt _)) (by omega) (Nat.le_of_ble_eq_true rfl) ?_
    exact ad_reti dX7_on_35 rfl (by
      have e : ad_m_on C = (((ad_pp (ad_aH (ad_cT C)) 10 : Nat) : Int), ad_sA C (ad_cT C)) := by
        unfold ad_m_on
        (repeat' split) <;> first | with_reducible rfl | contradiction | (exfalso; omega) | rfl | (exfalso; simp_all; omega) | (simp_all; done)
      rw [e]
      exact ⟨by rw [ad_ones_bits], T1, ad_Ts_fr7 q22.2⟩)
  · show ad_R _ _ _ _ 7 _ _ _
    have hk : ¬ ad_ck C = true := fun hz => by rw [if_pos hz] at h4; omega
    refine ad_aload_n dX7_on_7 rfl ?_
    refine ad_bipush dX7_on_8 rfl ?_
    refine ad_cv1q rfl cl_X7_67 dX7_on_10 (c_X7_refuse hC (by decide)) (by omega) (by show _ < 1; omega) (Nat.le_of_ble_eq_true rfl) (fun x10 s10 q10 => ?_)
    obtain ⟨rfl, c10, f10⟩ := q10
    exact ad_reti dX7_on_13 rfl (by
      have e : ad_m_on C = ad_no C 3 := by
        unfold ad_m_on
        (repeat' split) <;> first | with_reducible rfl | contradiction | (exfalso; omega) | rfl | (exfalso; simp_all; omega) | (simp_all; done)
      rw [e]
      exact ⟨rfl, c10, f10⟩)
theorem c_X7_reached {g : ad_G} {d : Nat} {σ : ad_Mem} {C : ad_C7} {w : Int} (hC : ad_c7 σ C) (hw : ad_rng w) (h6d : 6 ≤ d) : ad_Q g mX7_reached d [ad_rf g 7 0, ad_iv w] σ (fun x m => ad_an7 σ x m (ad_m_reached C w)) := by
  have hC0 := hC
  obtain ⟨a1, a2, a3, a4, a5, a6, a7, a8, a9⟩ := hC0
  obtain ⟨z1, z2, z3, z4⟩ := ad_c7_sz hC
  obtain ⟨r1, r2, r3, r4, r5, r6, r7, r8⟩ := a1.1
  obtain ⟨w1, w2, w3, w4, w5, w6, w7, w8, w9⟩ := a1.2
  refine ad_M1 (k := 1) rfl (by simp [Value.category]) rfl (Nat.le_of_ble_eq_true rfl) ?_
  simp only [List.map_cons, List.map_nil, List.replicate, List.cons_append, List.nil_append]
  refine ad_iload_n dX7_reached_0 rfl ?_
  refine ad_if_lt 9 dX7_reached_1 (by decide) (by omega) (fun h1 => ?_) (fun h1 => ?_)
  · skip
    refine ad_aload_n dX7_reached_9 rfl ?_
    refine ad_bipush dX7_reached_10 rfl ?_
    refine ad_cv1q rfl cl_X7_67 dX7_reached_12 (c_X7_refuse hC (by decide)) (by omega) (by show _ < 1; omega) (Nat.le_of_ble_eq_true rfl) (fun x12 s12 q12 => ?_)
    obtain ⟨rfl, c12, f12⟩ := q12
    exact ad_reti dX7_reached_15 rfl (by
      have e : ad_m_reached C w = ad_no C 2 := by
        unfold ad_m_reached
        (repeat' split) <;> first | with_reducible rfl | contradiction | (exfalso; omega) | rfl | (exfalso; simp_all; omega) | (simp_all; done)
      rw [e]
      exact ⟨rfl, c12, f12⟩)
  · show ad_R _ _ _ _ 4 _ _ _
    refine ad_iload_n dX7_reached_4 rfl ?_
    refine ad_iconst dX7_reached_5 ?_
    refine ad_icmp_le 16 dX7_reached_6 (by decide) (by omega) (by omega) (fun h6 => ?_) (fun h6 => ?_)
    · skip
      refine ad_iload_n dX7_reached_16 rfl ?_
      refine ad_iconst dX7_reached_17 ?_
      refine ad_icmp_ne 29 dX7_reached_18 (by decide) (by omega) (by omega) (fun h18 => ?_) (fun h18 => ?_)
      · skip
        refine ad_aload_n dX7_reached_29 rfl ?_
        refine gf_X7_10 rfl dX7_reached_30 ?_
        refine ad_cv0f rfl cl_X7_230 dX7_reached_33 (c_X4_reachedFromHeads (by decide) a1.1 a1.2 (by omega)) (by omega) (by show _ < 3; omega) (Nat.le_of_ble_eq_true rfl) ?_
        refine ad_aload_n dX7_reached_36 rfl ?_
        refine gf_X7_10 rfl dX7_reached_37 ?_
        refine gf_X7_233 rfl (by omega) dX7_reached_40 ?_
        refine ad_iand dX7_reached_43 ?_
        rw [r2, ad_and_bits, show (fun w => ad_an (ad_hdF (ad_cA C)) 4 w && ad_aH (ad_cA C) w) = ad_live (ad_cA C) from rfl]
        refine ad_istore_n dX7_reached_44 (by decide) rfl (by dsimp only [ad_set]) ?_
        refine ad_iload_n dX7_reached_45 rfl ?_
        refine ad_if_ne 53 dX7_reached_46 (by decide) (by omega) (fun h46 => ?_) (fun h46 => ?_)
        · skip
          refine ad_aload_n dX7_reached_53 rfl ?_
          refine gf_X7_10 rfl dX7_reached_54 ?_
          refine gf_X7_233 rfl (by omega) dX7_reached_57 ?_
          refine ad_iload_n dX7_reached_60 rfl ?_
          refine ad_iconst dX7_reached_61 ?_
          refine ad_ixor dX7_reached_62 ?_
          refine ad_iand dX7_reached_63 ?_
          exact ad_reti dX7_reached_64 rfl (by
            have e : ad_m_reached C w = (((ad_bits (ad_gn (ad_cA C)) : Nat) : Int), C) := by
              unfold ad_m_reached
              (repeat' split) <;> first | with_reducible rfl | contradiction | (exfalso; omega) | rfl | (exfalso; simp_all; omega) | (simp_all; done)
            rw [e]
            exact ⟨by rw [r2, ad_not_bits]; rfl, hC, ad_fr.refl⟩)
        · show ad_R _ _ _ _ 49 _ _ _
          refine ad_iload_n dX7_reached_49 rfl ?_
          refine ad_goto 64 dX7_reached_50 (by decide) ?_
          exact ad_reti dX7_reached_64 rfl (by
            have e : ad_m_reached C w = (((ad_bits (ad_live (ad_cA C)) : Nat) : Int), C) := by
              unfold ad_m_reached
              (repeat' split) <;> first | with_reducible rfl | contradiction | (exfalso; omega) | rfl | (exfalso; simp_all; omega) | (simp_all; done)
            rw [e]
            exact ⟨rfl, hC, ad_fr.refl⟩)
      · show ad_R _ _ _ _ 21 _ _ _
        refine ad_aload_n dX7_reached_21 rfl ?_
        refine gf_X7_10 rfl dX7_reached_22 ?_
        refine ad_cv0f rfl cl_X7_227 dX7_reached_25 (c_X4_contents (by decide) a1.1 a1.2 (by omega)) (by omega) (by show _ < 3; omega) (Nat.le_of_ble_eq_true rfl) ?_
        exact ad_reti dX7_reached_28 rfl (by
          have e : ad_m_reached C w = (ad_cts (ad_cA C), C) := by
            unfold ad_m_reached
            (repeat' split) <;> first | with_reducible rfl | contradiction | (exfalso; omega) | rfl | (exfalso; simp_all; omega) | (simp_all; done)
          rw [e]
          exact ⟨rfl, hC, ad_fr.refl⟩)
    · show ad_R _ _ _ _ 9 _ _ _
      refine ad_aload_n dX7_reached_9 rfl ?_
      refine ad_bipush dX7_reached_10 rfl ?_
      refine ad_cv1q rfl cl_X7_67 dX7_reached_12 (c_X7_refuse hC (by decide)) (by omega) (by show _ < 1; omega) (Nat.le_of_ble_eq_true rfl) (fun x12 s12 q12 => ?_)
      obtain ⟨rfl, c12, f12⟩ := q12
      exact ad_reti dX7_reached_15 rfl (by
        have e : ad_m_reached C w = ad_no C 2 := by
          unfold ad_m_reached
          (repeat' split) <;> first | with_reducible rfl | contradiction | (exfalso; omega) | rfl | (exfalso; simp_all; omega) | (simp_all; done)
        rw [e]
        exact ⟨rfl, c12, f12⟩)
theorem c_X7_step {g : ad_G} {d : Nat} {σ : ad_Mem} {C : ad_C7} {v i w : Int} (hC : ad_c7 σ C) (hv : ad_rng v) (hi : ad_rng i) (hw : ad_rng w) (h6d : 6 ≤ d) : ad_Q g mX7_step d [ad_rf g 7 0, ad_iv v, ad_iv i, ad_iv w] σ (fun x m => ad_an7 σ x m (ad_m_step C v i w)) := by
  have hC0 := hC
  obtain ⟨a1, a2, a3, a4, a5, a6, a7, a8, a9⟩ := hC0
  obtain ⟨z1, z2, z3, z4⟩ := ad_c7_sz hC
  obtain ⟨r1, r2, r3, r4, r5, r6, r7, r8⟩ := a1.1
  obtain ⟨w1, w2, w3, w4, w5, w6, w7, w8, w9⟩ := a1.2
  refine ad_M1 (k := 1) rfl (by simp [Value.category]) rfl (Nat.le_of_ble_eq_true rfl) ?_
  simp only [List.map_cons, List.map_nil, List.replicate, List.cons_append, List.nil_append]
  refine ad_aload_n dX7_step_0 rfl ?_
  refine gf_X7_10 rfl dX7_step_1 ?_
  refine ad_iload_n dX7_step_4 rfl ?_
  refine ad_cv1f rfl cl_X7_109 dX7_step_5 (c_X4_holds (by decide) a1.1 a1.2 hv) (by omega) (by show _ < 3; omega) (Nat.le_of_ble_eq_true rfl) ?_
  refine ad_ifp_ne 17 dX7_step_8 (by decide) (fun h8 => ?_) (fun h8 => ?_)
  · skip
    have hv10 := w2 _ h8.2
    have hB := (r6 _ h8.2).2.2.1
    have hbr := w5 _ h8.2
    have hbg : -1 ≤ ad_aB (ad_cA C) v.toNat ∧ ad_aB (ad_cA C) v.toNat < 10 := by
      by_cases hz : ad_aB (ad_cA C) v.toNat = -1
      · omega
      · have := (hbr.2 hz).1; omega
    have hsz := ad_sz a1.1 a1.2 h8.2
    have hl := (w3 v.toNat h8.2).1
    have hds : ad_aB (ad_cA C) v.toNat ≠ -1 → σ 0 (10 * 0 + v.toNat) 2 = (ad_aT (ad_cA C) v.toNat).length := fun q => ad_dw_len (r5 _ (by omega)).2 ((r6 _ h8.2).2.2.2 q)
    have hdr := (r5 v.toNat (by omega)).2.1
    have hdr2 := (r5 v.toNat (by omega)).2.2.1
    refine ad_aload_n dX7_step_17 rfl ?_
    refine gf_X7_10 rfl dX7_step_18 ?_
    refine gf_X7_113 rfl (by omega) dX7_step_21 ?_
    refine ad_iload_n dX7_step_24 rfl ?_
    refine ad_aald dX7_step_25 (by omega) (by omega) (by omega) ?_
    refine ad_astore dX7_step_26 (by decide) rfl (by dsimp only [ad_set]) ?_
    refine ad_aload dX7_step_28 rfl ?_
    refine ad_cv0f rfl cl_X7_168 dX7_step_30 (c_X6_isWhole (by omega) (by rw [hB]; omega)) (by omega) (by show _ < 30; omega) (Nat.le_of_ble_eq_true rfl) ?_
    rw [hB]
    refine ad_ifp_ne 52 dX7_step_33 (by decide) (fun h33 => ?_) (fun h33 => ?_)
    · skip
      refine ad_aload_n dX7_step_52 rfl ?_
      refine ad_iconst dX7_step_53 ?_
      refine ad_cv1q rfl cl_X7_67 dX7_step_54 (c_X7_refuse hC (by decide)) (by omega) (by show _ < 1; omega) (Nat.le_of_ble_eq_true rfl) (fun x54 s54 q54 => ?_)
      obtain ⟨rfl, c54, f54⟩ := q54
      exact ad_reti dX7_step_57 rfl (by
        have e : ad_m_step C v i w = ad_no C 1 := by
          unfold ad_m_step
          (repeat' split) <;> first | with_reducible rfl | contradiction | (exfalso; omega) | rfl | (exfalso; simp_all; omega) | (simp_all; done)
        rw [e]
        exact ⟨rfl, c54, f54⟩)
    · show ad_R _ _ _ _ 36 _ _ _
      have hd2 := hds h33
      refine ad_iload_n dX7_step_36 rfl ?_
      refine ad_if_lt 52 dX7_step_37 (by decide) (by omega) (fun h37 => ?_) (fun h37 => ?_)
      · skip
        refine ad_aload_n dX7_step_52 rfl ?_
        refine ad_iconst dX7_step_53 ?_
        refine ad_cv1q rfl cl_X7_67 dX7_step_54 (c_X7_refuse hC (by decide)) (by omega) (by show _ < 1; omega) (Nat.le_of_ble_eq_true rfl) (fun x54 s54 q54 => ?_)
        obtain ⟨rfl, c54, f54⟩ := q54
        exact ad_reti dX7_step_57 rfl (by
          have e : ad_m_step C v i w = ad_no C 1 := by
            unfold ad_m_step
            (repeat' split) <;> first | with_reducible rfl | contradiction | (exfalso; omega) | rfl | (exfalso; simp_all; omega) | (simp_all; done)
          rw [e]
          exact ⟨rfl, c54, f54⟩)
      · show ad_R _ _ _ _ 40 _ _ _
        refine ad_iload_n dX7_step_40 rfl ?_
        refine ad_aload dX7_step_41 rfl ?_
        refine gf_X7_198 rfl (by omega) dX7_step_43 ?_
        refine gf_X7_201 rfl (by omega) dX7_step_46 ?_
        refine ad_icmp_lt 58 dX7_step_49 (by decide) (by omega) (by omega) (fun h49 => ?_) (fun h49 => ?_)
        · skip
          refine ad_iload_n dX7_step_58 rfl ?_
          refine ad_if_lt 67 dX7_step_59 (by decide) (by omega) (fun h59 => ?_) (fun h59 => ?_)
          · skip
            refine ad_aload_n dX7_step_67 rfl ?_
            refine ad_bipush dX7_step_68 rfl ?_
            refine ad_cv1q rfl cl_X7_67 dX7_step_70 (c_X7_refuse hC (by decide)) (by omega) (by show _ < 1; omega) (Nat.le_of_ble_eq_true rfl) (fun x70 s70 q70 => ?_)
            obtain ⟨rfl, c70, f70⟩ := q70
            exact ad_reti dX7_step_73 rfl (by
              have e : ad_m_step C v i w = ad_no C 2 := by
                unfold ad_m_step
                (repeat' split) <;> first | with_reducible rfl | contradiction | (exfalso; omega) | rfl | (exfalso; simp_all; omega) | (simp_all; done)
              rw [e]
              exact ⟨rfl, c70, f70⟩)
          · show ad_R _ _ _ _ 62 _ _ _
            refine ad_iload_n dX7_step_62 rfl ?_
            refine ad_iconst dX7_step_63 ?_
            refine ad_icmp_le 74 dX7_step_64 (by decide) (by omega) (by omega) (fun h64 => ?_) (fun h64 => ?_)
            · skip
              refine ad_iload_n dX7_step_74 rfl ?_
              refine ad_if_ne 91 dX7_step_75 (by decide) (by omega) (fun h75 => ?_) (fun h75 => ?_)
              · skip
                refine ad_aload dX7_step_91 rfl ?_
                refine gf_X7_198 rfl (by omega) dX7_step_93 ?_
                refine gf_X7_205 rfl (by omega) dX7_step_96 ?_
                refine ad_iload_n dX7_step_99 rfl ?_
                refine ad_iald dX7_step_100 (by show _ < 32; omega) ⟨by decide, by decide⟩ (by omega) (by show _ < ((12 : Nat) : Int); omega) ?_
                exact ad_reti dX7_step_101 rfl (by
                  have e : ad_m_step C v i w = (if w = 0 then ((ad_aT (ad_cA C) v.toNat).getD i.toNat (0, 0)).1 else ((ad_aT (ad_cA C) v.toNat).getD i.toNat (0, 0)).2, C) := by
                    unfold ad_m_step
                    (repeat' split) <;> first | with_reducible rfl | contradiction | (exfalso; omega) | rfl | (exfalso; simp_all; omega) | (simp_all; done)
                  rw [e]
                  exact ⟨by rw [ad_dw_at ((r6 _ h8.2).2.2.2 h33) hd2 ⟨by omega, by omega⟩, if_neg (by omega)], hC, ad_fr.refl⟩)
              · show ad_R _ _ _ _ 78 _ _ _
                refine ad_aload dX7_step_78 rfl ?_
                refine gf_X7_198 rfl (by omega) dX7_step_80 ?_
                refine gf_X7_202 rfl (by omega) dX7_step_83 ?_
                refine ad_iload_n dX7_step_86 rfl ?_
                refine ad_iald dX7_step_87 (by show _ < 32; omega) ⟨by decide, by decide⟩ (by omega) (by show _ < ((12 : Nat) : Int); omega) ?_
                refine ad_goto 101 dX7_step_88 (by decide) ?_
                exact ad_reti dX7_step_101 rfl (by
                  have e : ad_m_step C v i w = (if w = 0 then ((ad_aT (ad_cA C) v.toNat).getD i.toNat (0, 0)).1 else ((ad_aT (ad_cA C) v.toNat).getD i.toNat (0, 0)).2, C) := by
                    unfold ad_m_step
                    (repeat' split) <;> first | with_reducible rfl | contradiction | (exfalso; omega) | rfl | (exfalso; simp_all; omega) | (simp_all; done)
                  rw [e]
                  exact ⟨by rw [ad_dw_at ((r6 _ h8.2).2.2.2 h33) hd2 ⟨by omega, by omega⟩, if_pos (by omega)], hC, ad_fr.refl⟩)
            · show ad_R _ _ _ _ 67 _ _ _
              refine ad_aload_n dX7_step_67 rfl ?_
              refine ad_bipush dX7_step_68 rfl ?_
              refine ad_cv1q rfl cl_X7_67 dX7_step_70 (c_X7_refuse hC (by decide)) (by omega) (by show _ < 1; omega) (Nat.le_of_ble_eq_true rfl) (fun x70 s70 q70 => ?_)
              obtain ⟨rfl, c70, f70⟩ := q70
              exact ad_reti dX7_step_73 rfl (by
                have e : ad_m_step C v i w = ad_no C 2 := by
                  unfold ad_m_step
                  (repeat' split) <;> first | with_reducible rfl | contradiction | (exfalso; omega) | rfl | (exfalso; simp_all; omega) | (simp_all; done)
                rw [e]
                exact ⟨rfl, c70, f70⟩)
        · show ad_R _ _ _ _ 52 _ _ _
          refine ad_aload_n dX7_step_52 rfl ?_
          refine ad_iconst dX7_step_53 ?_
          refine ad_cv1q rfl cl_X7_67 dX7_step_54 (c_X7_refuse hC (by decide)) (by omega) (by show _ < 1; omega) (Nat.le_of_ble_eq_true rfl) (fun x54 s54 q54 => ?_)
          obtain ⟨rfl, c54, f54⟩ := q54
          exact ad_reti dX7_step_57 rfl (by
            have e : ad_m_step C v i w = ad_no C 1 := by
              unfold ad_m_step
              (repeat' split) <;> first | with_reducible rfl | contradiction | (exfalso; omega) | rfl | (exfalso; simp_all; omega) | (simp_all; done)
            rw [e]
            exact ⟨rfl, c54, f54⟩)
  · show ad_R _ _ _ _ 11 _ _ _
    refine ad_aload_n dX7_step_11 rfl ?_
    refine ad_iconst dX7_step_12 ?_
    refine ad_cv1q rfl cl_X7_67 dX7_step_13 (c_X7_refuse hC (by decide)) (by omega) (by show _ < 1; omega) (Nat.le_of_ble_eq_true rfl) (fun x13 s13 q13 => ?_)
    obtain ⟨rfl, c13, f13⟩ := q13
    exact ad_reti dX7_step_16 rfl (by
      have e : ad_m_step C v i w = ad_no C 1 := by
        unfold ad_m_step
        (repeat' split) <;> first | with_reducible rfl | contradiction | (exfalso; omega) | rfl | (exfalso; simp_all; omega) | (simp_all; done)
      rw [e]
      exact ⟨rfl, c13, f13⟩)
theorem c_X7_delta {g : ad_G} {d : Nat} {σ : ad_Mem} {C : ad_C7} {a b w : Int} (hC : ad_c7 σ C) (ha : ad_rng a) (hb : ad_rng b) (hw : ad_rng w) (h6d : 6 ≤ d) : ad_Q g mX7_delta d [ad_rf g 7 0, ad_iv a, ad_iv b, ad_iv w] σ (fun x m => ad_an7 σ x m (ad_m_delta C a b w)) := by
  have hC0 := hC
  obtain ⟨a1, a2, a3, a4, a5, a6, a7, a8, a9⟩ := hC0
  obtain ⟨z1, z2, z3, z4⟩ := ad_c7_sz hC
  obtain ⟨r1, r2, r3, r4, r5, r6, r7, r8⟩ := a1.1
  obtain ⟨w1, w2, w3, w4, w5, w6, w7, w8, w9⟩ := a1.2
  refine ad_M1 (k := 0) rfl (by simp [Value.category]) rfl (Nat.le_of_ble_eq_true rfl) ?_
  simp only [List.map_cons, List.map_nil, List.replicate, List.cons_append, List.nil_append]
  refine ad_aload_n dX7_delta_0 rfl ?_
  refine gf_X7_10 rfl dX7_delta_1 ?_
  refine ad_iload_n dX7_delta_4 rfl ?_
  refine ad_cv1f rfl cl_X7_109 dX7_delta_5 (c_X4_holds (by decide) a1.1 a1.2 ha) (by omega) (by show _ < 3; omega) (Nat.le_of_ble_eq_true rfl) ?_
  refine ad_ifp_eq 22 dX7_delta_8 (by decide) (fun h8 => ?_) (fun h8 => ?_)
  · skip
    refine ad_aload_n dX7_delta_22 rfl ?_
    refine ad_iconst dX7_delta_23 ?_
    refine ad_cv1q rfl cl_X7_67 dX7_delta_24 (c_X7_refuse hC (by decide)) (by omega) (by show _ < 1; omega) (Nat.le_of_ble_eq_true rfl) (fun x24 s24 q24 => ?_)
    obtain ⟨rfl, c24, f24⟩ := q24
    exact ad_reti dX7_delta_27 rfl (by
      have e : ad_m_delta C a b w = ad_no C 1 := by
        unfold ad_m_delta
        (repeat' split) <;> first | with_reducible rfl | contradiction | (exfalso; omega) | rfl | (exfalso; simp_all; omega) | (simp_all; done)
      rw [e]
      exact ⟨rfl, c24, f24⟩)
  · show ad_R _ _ _ _ 11 _ _ _
    refine ad_aload_n dX7_delta_11 rfl ?_
    refine gf_X7_10 rfl dX7_delta_12 ?_
    refine ad_iload_n dX7_delta_15 rfl ?_
    refine ad_cv1f rfl cl_X7_109 dX7_delta_16 (c_X4_holds (by decide) a1.1 a1.2 hb) (by omega) (by show _ < 3; omega) (Nat.le_of_ble_eq_true rfl) ?_
    refine ad_ifp_ne 28 dX7_delta_19 (by decide) (fun h19 => ?_) (fun h19 => ?_)
    · skip
      refine ad_iload_n dX7_delta_28 rfl ?_
      refine ad_if_lt 37 dX7_delta_29 (by decide) (by omega) (fun h29 => ?_) (fun h29 => ?_)
      · skip
        refine ad_aload_n dX7_delta_37 rfl ?_
        refine ad_bipush dX7_delta_38 rfl ?_
        refine ad_cv1q rfl cl_X7_67 dX7_delta_40 (c_X7_refuse hC (by decide)) (by omega) (by show _ < 1; omega) (Nat.le_of_ble_eq_true rfl) (fun x40 s40 q40 => ?_)
        obtain ⟨rfl, c40, f40⟩ := q40
        exact ad_reti dX7_delta_43 rfl (by
          have e : ad_m_delta C a b w = ad_no C 2 := by
            unfold ad_m_delta
            (repeat' split) <;> first | with_reducible rfl | contradiction | (exfalso; omega) | rfl | (exfalso; simp_all; omega) | (simp_all; done)
          rw [e]
          exact ⟨rfl, c40, f40⟩)
      · show ad_R _ _ _ _ 32 _ _ _
        refine ad_iload_n dX7_delta_32 rfl ?_
        refine ad_iconst dX7_delta_33 ?_
        refine ad_icmp_le 44 dX7_delta_34 (by decide) (by omega) (by omega) (fun h34 => ?_) (fun h34 => ?_)
        · skip
          have ha10 := w2 _ h8.2
          have hb10 := w2 _ h19.2
          refine ad_aload_n dX7_delta_44 rfl ?_
          refine gf_X7_32 rfl dX7_delta_45 ?_
          refine ad_aload_n dX7_delta_48 rfl ?_
          refine gf_X7_10 rfl dX7_delta_49 ?_
          refine gf_X7_113 rfl (by omega) dX7_delta_52 ?_
          refine ad_iload_n dX7_delta_55 rfl ?_
          refine ad_aald dX7_delta_56 (by omega) (by omega) (by omega) ?_
          refine gf_X7_117 rfl (by omega) dX7_delta_57 ?_
          refine ad_aload_n dX7_delta_60 rfl ?_
          refine gf_X7_10 rfl dX7_delta_61 ?_
          refine gf_X7_113 rfl (by omega) dX7_delta_64 ?_
          refine ad_iload_n dX7_delta_67 rfl ?_
          refine ad_aald dX7_delta_68 (by omega) (by omega) (by omega) ?_
          refine gf_X7_117 rfl (by omega) dX7_delta_69 ?_
          refine ad_cv2v rfl cl_X7_208 dX7_delta_72 (c_X0_make (by omega) (by omega) (by omega) (by omega) (r5 _ (by omega)).1 (r5 _ (by omega)).1 (by rw [ad_sz a1.1 a1.2 h19.2]; have := (w3 _ h19.2).1; omega) a6.2) (by omega) (by show _ < 32; omega) (Nat.le_of_ble_eq_true rfl) (fun s72 q72 => ?_)
          obtain ⟨t1, t2, t3⟩ := q72
          rw [(r6 _ h8.2).1, (r6 _ h19.2).1] at t2
          have D1 : ad_c7 s72 C := by
            have ev : ∀ k i, ¬ ad_Td 31 k i → s72 k i = σ k i := t1
            refine ad_c7_same hC (t1.mono (fun k i z => by unfold ad_Td at z; unfold ad_TX; omega)) (fun k i hk => ev k i (fun z => by unfold ad_Ts at hk; unfold ad_Td at z; omega)) (ad_rK_congr (fun k i hk => ev k i (fun z => by unfold ad_Ts at hk; unfold ad_Td at z; omega)) a4.2) (ad_dr_congr (ev _ _ (fun z => by unfold ad_Td at z; omega)) (ev _ _ (fun z => by unfold ad_Td at z; omega)) a6.1) t3.2.2.2
          have D2 : ad_fr ad_f7 σ s72 := t1.mono (fun k i z => by unfold ad_Td at z; unfold ad_f7; omega)
          refine ad_iload_n dX7_delta_75 rfl ?_
          refine ad_if_ne 87 dX7_delta_76 (by decide) (by omega) (fun h76 => ?_) (fun h76 => ?_)
          · skip
            refine ad_iload_n dX7_delta_87 rfl ?_
            refine ad_iconst dX7_delta_88 ?_
            refine ad_icmp_ne 102 dX7_delta_89 (by decide) (by omega) (by omega) (fun h89 => ?_) (fun h89 => ?_)
            · skip
              refine ad_aload_n dX7_delta_102 rfl ?_
              refine gf_X7_32 rfl dX7_delta_103 ?_
              refine gf_X7_212 rfl (by omega) dX7_delta_106 ?_
              exact ad_reti dX7_delta_109 rfl (by
                have e : ad_m_delta C a b w = (ad_nc (ad_dl (ad_aL (ad_cA C) a.toNat) (ad_aL (ad_cA C) b.toNat)), C) := by
                  unfold ad_m_delta
                  (repeat' split) <;> first | with_reducible rfl | contradiction | (exfalso; omega) | rfl | (exfalso; simp_all; omega) | (simp_all; done)
                rw [e]
                exact ⟨by rw [t3.2.2.1, t2], D1, D2⟩)
            · show ad_R _ _ _ _ 92 _ _ _
              refine ad_aload_n dX7_delta_92 rfl ?_
              refine gf_X7_32 rfl dX7_delta_93 ?_
              refine gf_X7_201 rfl (by omega) dX7_delta_96 ?_
              refine ad_goto 109 dX7_delta_99 (by decide) ?_
              exact ad_reti dX7_delta_109 rfl (by
                have e : ad_m_delta C a b w = (((ad_dl (ad_aL (ad_cA C) a.toNat) (ad_aL (ad_cA C) b.toNat)).length : Int), C) := by
                  unfold ad_m_delta
                  (repeat' split) <;> first | with_reducible rfl | contradiction | (exfalso; omega) | rfl | (exfalso; simp_all; omega) | (simp_all; done)
                rw [e]
                exact ⟨by rw [ad_dw_len t3 t2], D1, D2⟩)
          · show ad_R _ _ _ _ 79 _ _ _
            refine ad_aload_n dX7_delta_79 rfl ?_
            refine gf_X7_32 rfl dX7_delta_80 ?_
            refine ad_cv0f rfl cl_X7_211 dX7_delta_83 (c_X0_cost (by omega)) (by omega) (by show _ < 32; omega) (Nat.le_of_ble_eq_true rfl) ?_
            exact ad_reti dX7_delta_86 rfl (by
              have e : ad_m_delta C a b w = (ad_c2 (ad_cA C) a.toNat b.toNat, C) := by
                unfold ad_m_delta
                (repeat' split) <;> first | with_reducible rfl | contradiction | (exfalso; omega) | rfl | (exfalso; simp_all; omega) | (simp_all; done)
              rw [e]
              exact ⟨by rw [ad_dw_c2 t3 t2]; rfl, D1, D2⟩)
        · show ad_R _ _ _ _ 37 _ _ _
          refine ad_aload_n dX7_delta_37 rfl ?_
          refine ad_bipush dX7_delta_38 rfl ?_
          refine ad_cv1q rfl cl_X7_67 dX7_delta_40 (c_X7_refuse hC (by decide)) (by omega) (by show _ < 1; omega) (Nat.le_of_ble_eq_true rfl) (fun x40 s40 q40 => ?_)
          obtain ⟨rfl, c40, f40⟩ := q40
          exact ad_reti dX7_delta_43 rfl (by
            have e : ad_m_delta C a b w = ad_no C 2 := by
              unfold ad_m_delta
              (repeat' split) <;> first | with_reducible rfl | contradiction | (exfalso; omega) | rfl | (exfalso; simp_all; omega) | (simp_all; done)
            rw [e]
            exact ⟨rfl, c40, f40⟩)
    · show ad_R _ _ _ _ 22 _ _ _
      refine ad_aload_n dX7_delta_22 rfl ?_
      refine ad_iconst dX7_delta_23 ?_
      refine ad_cv1q rfl cl_X7_67 dX7_delta_24 (c_X7_refuse hC (by decide)) (by omega) (by show _ < 1; omega) (Nat.le_of_ble_eq_true rfl) (fun x24 s24 q24 => ?_)
      obtain ⟨rfl, c24, f24⟩ := q24
      exact ad_reti dX7_delta_27 rfl (by
        have e : ad_m_delta C a b w = ad_no C 1 := by
          unfold ad_m_delta
          (repeat' split) <;> first | with_reducible rfl | contradiction | (exfalso; omega) | rfl | (exfalso; simp_all; omega) | (simp_all; done)
        rw [e]
        exact ⟨rfl, c24, f24⟩)
theorem c_X7_judge {g : ad_G} {d : Nat} {σ : ad_Mem} {C : ad_C7} {v : Int} (hC : ad_c7 σ C) (hv : ad_rng v) (h6d : 6 ≤ d) : ad_Q g mX7_judge d [ad_rf g 7 0, ad_iv v] σ (fun x m => ad_an7 σ x m (ad_m_judge C v)) := by
  have hC0 := hC
  obtain ⟨a1, a2, a3, a4, a5, a6, a7, a8, a9⟩ := hC0
  obtain ⟨z1, z2, z3, z4⟩ := ad_c7_sz hC
  obtain ⟨r1, r2, r3, r4, r5, r6, r7, r8⟩ := a1.1
  obtain ⟨w1, w2, w3, w4, w5, w6, w7, w8, w9⟩ := a1.2
  refine ad_M1 (k := 3) rfl (by simp [Value.category]) rfl (Nat.le_of_ble_eq_true rfl) ?_
  simp only [List.map_cons, List.map_nil, List.replicate, List.cons_append, List.nil_append]
  refine ad_aload_n dX7_judge_0 rfl ?_
  refine gf_X7_10 rfl dX7_judge_1 ?_
  refine ad_iload_n dX7_judge_4 rfl ?_
  refine ad_cv1f rfl cl_X7_109 dX7_judge_5 (c_X4_holds (by decide) a1.1 a1.2 hv) (by omega) (by show _ < 3; omega) (Nat.le_of_ble_eq_true rfl) ?_
  refine ad_ifp_ne 17 dX7_judge_8 (by decide) (fun h8 => ?_) (fun h8 => ?_)
  · skip
    have hv10 := w2 _ h8.2
    have hB := (r6 _ h8.2).2.2.1
    have hbr := w5 _ h8.2
    have hbg : -1 ≤ ad_aB (ad_cA C) v.toNat ∧ ad_aB (ad_cA C) v.toNat < 10 := by
      by_cases hz : ad_aB (ad_cA C) v.toNat = -1
      · omega
      · have := (hbr.2 hz).1; omega
    have hsz := ad_sz a1.1 a1.2 h8.2
    have hl := (w3 v.toNat h8.2).1
    refine ad_aload_n dX7_judge_17 rfl ?_
    refine gf_X7_10 rfl dX7_judge_18 ?_
    refine gf_X7_113 rfl (by omega) dX7_judge_21 ?_
    refine ad_iload_n dX7_judge_24 rfl ?_
    refine ad_aald dX7_judge_25 (by omega) (by omega) (by omega) ?_
    refine gf_X7_117 rfl (by omega) dX7_judge_26 ?_
    refine ad_astore_n dX7_judge_29 (by decide) rfl (by dsimp only [ad_set]) ?_
    refine ad_aload_n dX7_judge_30 rfl ?_
    refine gf_X7_48 rfl dX7_judge_31 ?_
    refine ad_iconst dX7_judge_34 ?_
    refine ad_aload_n dX7_judge_35 rfl ?_
    refine ad_iconst dX7_judge_36 ?_
    refine ad_cv3f rfl cl_X7_273 dX7_judge_37 (c_X2_alikeFrom (by omega) (by omega) a5.2.2 (r5 _ (by omega)).1 (by omega) (by omega)) (by omega) (by show _ < 36; omega) (Nat.le_of_ble_eq_true rfl) ?_
    rw [show (0 : Int).toNat = 0 from rfl, List.drop_zero, List.drop_zero, (r6 _ h8.2).1, a8.1]
    have hcl := ad_cpl_le (ad_cR C) (ad_aL (ad_cA C) v.toNat)
    refine ad_istore_n dX7_judge_40 (by decide) rfl (by dsimp only [ad_set]) ?_
    refine ad_iload_n dX7_judge_41 rfl ?_
    refine ad_aload_n dX7_judge_42 rfl ?_
    refine gf_X7_48 rfl dX7_judge_43 ?_
    refine gf_X7_81 rfl (by omega) dX7_judge_46 ?_
    rw [z3]
    refine ad_icmp_ne 64 dX7_judge_49 (by decide) (by omega) (by omega) (fun h49 => ?_) (fun h49 => ?_)
    · skip
      refine ad_iconst dX7_judge_64 ?_
      refine ad_istore dX7_judge_65 (by decide) rfl (by dsimp only [ad_set]) ?_
      refine ad_aload_n dX7_judge_67 rfl ?_
      refine gf_X7_48 rfl dX7_judge_68 ?_
      refine ad_cv0v rfl cl_X7_106 dX7_judge_71 (c_X2_empty (by omega)) (by omega) (by show _ < 36; omega) (Nat.le_of_ble_eq_true rfl) (fun s71 q71 => ?_)
      obtain ⟨b1, b2, b3, b4⟩ := ad_emp_nl a5.2.2 q71
      refine ad_iload dX7_judge_74 rfl ?_
      refine ad_if_eq 84 dX7_judge_76 (by decide) (by omega) (fun h76 => ?_) (fun h76 => ?_)
      · skip
        refine ad_iload_n dX7_judge_84 rfl ?_
        exact ad_reti dX7_judge_85 rfl (by
          have e : ad_m_judge C v = (if ad_cR C = ad_aL (ad_cA C) v.toNat then -9 else ((ad_cpl (ad_cR C) (ad_aL (ad_cA C) v.toNat) : Nat) : Int), ad_sR C []) := by
            unfold ad_m_judge
            (repeat' split) <;> first | with_reducible rfl | contradiction | (exfalso; omega) | rfl | (exfalso; simp_all; omega) | (simp_all; done)
          rw [e]
          exact ⟨by rw [if_neg (fun q => by rw [q, ad_cpl_self] at h49; rw [q] at z3; omega)], ad_c7_row hC b3 b2 b1 (by simp), ad_Tn_f7 b3⟩)
      · show ad_R _ _ _ _ 79 _ _ _
        refine ad_bipush dX7_judge_79 rfl ?_
        refine ad_goto 85 dX7_judge_81 (by decide) ?_
        exact ad_reti dX7_judge_85 rfl (by exfalso; omega)
    · show ad_R _ _ _ _ 52 _ _ _
      refine ad_iload_n dX7_judge_52 rfl ?_
      refine ad_aload_n dX7_judge_53 rfl ?_
      refine gf_X7_81 rfl (by omega) dX7_judge_54 ?_
      rw [hsz]
      refine ad_icmp_ne 64 dX7_judge_57 (by decide) (by omega) (by omega) (fun h57 => ?_) (fun h57 => ?_)
      · skip
        refine ad_iconst dX7_judge_64 ?_
        refine ad_istore dX7_judge_65 (by decide) rfl (by dsimp only [ad_set]) ?_
        refine ad_aload_n dX7_judge_67 rfl ?_
        refine gf_X7_48 rfl dX7_judge_68 ?_
        refine ad_cv0v rfl cl_X7_106 dX7_judge_71 (c_X2_empty (by omega)) (by omega) (by show _ < 36; omega) (Nat.le_of_ble_eq_true rfl) (fun s71 q71 => ?_)
        obtain ⟨b1, b2, b3, b4⟩ := ad_emp_nl a5.2.2 q71
        refine ad_iload dX7_judge_74 rfl ?_
        refine ad_if_eq 84 dX7_judge_76 (by decide) (by omega) (fun h76 => ?_) (fun h76 => ?_)
        · skip
          refine ad_iload_n dX7_judge_84 rfl ?_
          exact ad_reti dX7_judge_85 rfl (by
            have e : ad_m_judge C v = (if ad_cR C = ad_aL (ad_cA C) v.toNat then -9 else ((ad_cpl (ad_cR C) (ad_aL (ad_cA C) v.toNat) : Nat) : Int), ad_sR C []) := by
              unfold ad_m_judge
              (repeat' split) <;> first | with_reducible rfl | contradiction | (exfalso; omega) | rfl | (exfalso; simp_all; omega) | (simp_all; done)
            rw [e]
            exact ⟨by rw [if_neg (fun q => by rw [q, ad_cpl_self] at h57; rw [q] at z3; omega)], ad_c7_row hC b3 b2 b1 (by simp), ad_Tn_f7 b3⟩)
        · show ad_R _ _ _ _ 79 _ _ _
          refine ad_bipush dX7_judge_79 rfl ?_
          refine ad_goto 85 dX7_judge_81 (by decide) ?_
          exact ad_reti dX7_judge_85 rfl (by exfalso; omega)
      · show ad_R _ _ _ _ 60 _ _ _
        refine ad_iconst dX7_judge_60 ?_
        refine ad_goto 65 dX7_judge_61 (by decide) ?_
        refine ad_istore dX7_judge_65 (by decide) rfl (by dsimp only [ad_set]) ?_
        refine ad_aload_n dX7_judge_67 rfl ?_
        refine gf_X7_48 rfl dX7_judge_68 ?_
        refine ad_cv0v rfl cl_X7_106 dX7_judge_71 (c_X2_empty (by omega)) (by omega) (by show _ < 36; omega) (Nat.le_of_ble_eq_true rfl) (fun s71 q71 => ?_)
        obtain ⟨b1, b2, b3, b4⟩ := ad_emp_nl a5.2.2 q71
        refine ad_iload dX7_judge_74 rfl ?_
        refine ad_if_eq 84 dX7_judge_76 (by decide) (by omega) (fun h76 => ?_) (fun h76 => ?_)
        · skip
          refine ad_iload_n dX7_judge_84 rfl ?_
          exact ad_reti dX7_judge_85 rfl (by exfalso; omega)
        · show ad_R _ _ _ _ 79 _ _ _
          refine ad_bipush dX7_judge_79 rfl ?_
          refine ad_goto 85 dX7_judge_81 (by decide) ?_
          exact ad_reti dX7_judge_85 rfl (by
            have e : ad_m_judge C v = (if ad_cR C = ad_aL (ad_cA C) v.toNat then -9 else ((ad_cpl (ad_cR C) (ad_aL (ad_cA C) v.toNat) : Nat) : Int), ad_sR C []) := by
              unfold ad_m_judge
              (repeat' split) <;> first | with_reducible rfl | contradiction | (exfalso; omega) | rfl | (exfalso; simp_all; omega) | (simp_all; done)
            rw [e]
            exact ⟨by rw [if_pos (ad_cpl_full (by omega) (by omega))], ad_c7_row hC b3 b2 b1 (by simp), ad_Tn_f7 b3⟩)
  · show ad_R _ _ _ _ 11 _ _ _
    refine ad_aload_n dX7_judge_11 rfl ?_
    refine ad_iconst dX7_judge_12 ?_
    refine ad_cv1q rfl cl_X7_67 dX7_judge_13 (c_X7_refuse hC (by decide)) (by omega) (by show _ < 1; omega) (Nat.le_of_ble_eq_true rfl) (fun x13 s13 q13 => ?_)
    obtain ⟨rfl, c13, f13⟩ := q13
    exact ad_reti dX7_judge_16 rfl (by
      have e : ad_m_judge C v = ad_no C 1 := by
        unfold ad_m_judge
        (repeat' split) <;> first | with_reducible rfl | contradiction | (exfalso; omega) | rfl | (exfalso; simp_all; omega) | (simp_all; done)
      rw [e]
      exact ⟨rfl, c13, f13⟩)
