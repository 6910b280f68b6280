/-! ===== the reference: public methods 2 ===== -/
theorem ad_gD_any {l : List Int} {i : Nat} (h : i < l.length) (x : Int) {y : Int} : l.getD i y = l.getD i x := by
  rw [List.getD_eq_getElem?_getD, List.getD_eq_getElem?_getD, List.getElem?_eq_getElem h]; rfl
theorem c_X8_count {g : ad_G} {d : Nat} {σ : ad_Mem} {C : ad_C7} {w : Int} (hww : ad_rng w) (hC : ad_c8 σ C) (h16d : 16 ≤ d) : ad_Q g mX8_count d [ad_rf g 8 0, ad_iv w] σ (fun x m => ad_an8 σ x m (ad_m_count C w)) := by
  have hC0 := hC
  obtain ⟨a1, a2, a3, a4, a5, a6⟩ := hC0
  have hr := a1.1
  have hw := a1.2
  refine ad_M1 (k := 0) rfl (by simp [Value.category]) rfl (Nat.le_of_ble_eq_true rfl) ?_
  simp only [List.map_cons, List.map_nil, List.replicate, List.cons_append, List.nil_append]
  refine ad_iload_n dX8_count_0 rfl ?_
  refine ad_bipush dX8_count_1 rfl ?_
  refine ad_bipush dX8_count_3 rfl ?_
  refine ad_cs3f rfl cl_X8_55 dX8_count_5 (c_X8_isIn (by omega) (by omega) (by omega)) (by omega) (Nat.le_of_ble_eq_true rfl) ?_
  refine ad_ifp_eq 21 dX8_count_8 (by decide) (fun h8 => ?_) (fun h8 => ?_)
  · skip
    refine ad_iload_n dX8_count_21 rfl ?_
    by_cases hs22_0 : w = 0
    · refine ad_table dX8_count_22 (by omega) 68 (by rw [hs22_0]; rfl) ?_
      refine ad_aload_n dX8_count_68 rfl ?_
      refine gf_X8_9 rfl dX8_count_69 ?_
      refine ad_sipush dX8_count_72 rfl ?_
      refine ad_ialj (500) dX8_count_75 (by decide) ⟨by decide, by decide⟩ (by omega) (by show _ < 520; omega) (hr.2.1.1) ?_
      exact ad_reti dX8_count_76 rfl (by
        have e : ad_m_count C w = ((ad_aC (ad_cA C) : Int), C) := by
          unfold ad_m_count
          (repeat' split) <;> first | with_reducible rfl | contradiction | (exfalso; omega) | rfl | (exfalso; simp_all; omega) | (simp_all; done)
        rw [e]
        exact ⟨rfl, hC, ad_f8.refl⟩)
    by_cases hs22_1 : w = 1
    · refine ad_table dX8_count_22 (by omega) 77 (by rw [hs22_1]; rfl) ?_
      refine ad_aload_n dX8_count_77 rfl ?_
      refine ad_cv0f rfl cl_X8_142 dX8_count_78 (c_X8_there hr (by omega)) (by omega) (by show _ < 1; omega) (Nat.le_of_ble_eq_true rfl) ?_
      exact ad_reti dX8_count_81 rfl (by
        have e : ad_m_count C w = ((ad_bits (ad_aH (ad_cA C)) : Int), C) := by
          unfold ad_m_count
          (repeat' split) <;> first | with_reducible rfl | contradiction | (exfalso; omega) | rfl | (exfalso; simp_all; omega) | (simp_all; done)
        rw [e]
        exact ⟨rfl, hC, ad_f8.refl⟩)
    by_cases hs22_2 : w = 2
    · refine ad_table dX8_count_22 (by omega) 82 (by rw [hs22_2]; rfl) ?_
      refine ad_aload_n dX8_count_82 rfl ?_
      refine ad_cv0q rfl cl_X8_112 dX8_count_83 (c_X8_cost hr hw (by omega)) (by omega) (by show _ < 1; omega) (Nat.le_of_ble_eq_true rfl) (fun x83 s83 q83 => ?_)
      obtain ⟨rfl, f83, g83⟩ := q83
      exact ad_reti dX8_count_86 rfl (by
        have e : ad_m_count C w = (ad_all (ad_cA C), C) := by
          unfold ad_m_count
          (repeat' split) <;> first | with_reducible rfl | contradiction | (exfalso; omega) | rfl | (exfalso; simp_all; omega) | (simp_all; done)
        rw [e]
        exact ⟨rfl, ad_c8_fr hC (f83.mono (by decide) (by decide)), (f83.mono (by decide) (by decide))⟩)
    by_cases hs22_3 : w = 3
    · refine ad_table dX8_count_22 (by omega) 87 (by rw [hs22_3]; rfl) ?_
      refine ad_aload_n dX8_count_87 rfl ?_
      refine ad_cv0f rfl cl_X8_182 dX8_count_88 (c_X8_deepest hr hw (by omega)) (by omega) (by show _ < 1; omega) (Nat.le_of_ble_eq_true rfl) ?_
      exact ad_reti dX8_count_91 rfl (by
        have e : ad_m_count C w = (ad_deep (ad_cA C), C) := by
          unfold ad_m_count
          (repeat' split) <;> first | with_reducible rfl | contradiction | (exfalso; omega) | rfl | (exfalso; simp_all; omega) | (simp_all; done)
        rw [e]
        exact ⟨rfl, hC, ad_f8.refl⟩)
    by_cases hs22_4 : w = 4
    · refine ad_table dX8_count_22 (by omega) 92 (by rw [hs22_4]; rfl) ?_
      refine ad_aload_n dX8_count_92 rfl ?_
      refine ad_cv0f rfl cl_X8_185 dX8_count_93 (c_X8_wholes hr hw (by omega)) (by omega) (by show _ < 1; omega) (Nat.le_of_ble_eq_true rfl) ?_
      exact ad_reti dX8_count_96 rfl (by
        have e : ad_m_count C w = ((ad_bits (ad_whl (ad_cA C)) : Int), C) := by
          unfold ad_m_count
          (repeat' split) <;> first | with_reducible rfl | contradiction | (exfalso; omega) | rfl | (exfalso; simp_all; omega) | (simp_all; done)
        rw [e]
        exact ⟨rfl, hC, ad_f8.refl⟩)
    by_cases hs22_5 : w = 5
    · refine ad_table dX8_count_22 (by omega) 97 (by rw [hs22_5]; rfl) ?_
      refine ad_aload_n dX8_count_97 rfl ?_
      refine gf_X8_9 rfl dX8_count_98 ?_
      refine ad_sipush dX8_count_101 rfl ?_
      refine ad_ialj (507) dX8_count_104 (by decide) ⟨by decide, by decide⟩ (by omega) (by show _ < 520; omega) (hr.2.1.2.2.2.2) ?_
      exact ad_reti dX8_count_105 rfl (by
        have e : ad_m_count C w = (ad_aN (ad_cA C), C) := by
          unfold ad_m_count
          (repeat' split) <;> first | with_reducible rfl | contradiction | (exfalso; omega) | rfl | (exfalso; simp_all; omega) | (simp_all; done)
        rw [e]
        exact ⟨rfl, hC, ad_f8.refl⟩)
    by_cases hs22_6 : w = 6
    · refine ad_table dX8_count_22 (by omega) 106 (by rw [hs22_6]; rfl) ?_
      refine ad_aload_n dX8_count_106 rfl ?_
      refine gf_X8_212 rfl dX8_count_107 ?_
      rw [a5.1]
      exact ad_reti dX8_count_110 rfl (by
        have e : ad_m_count C w = (((ad_cR C).length : Int), C) := by
          unfold ad_m_count
          (repeat' split) <;> first | with_reducible rfl | contradiction | (exfalso; omega) | rfl | (exfalso; simp_all; omega) | (simp_all; done)
        rw [e]
        exact ⟨rfl, hC, ad_f8.refl⟩)
    by_cases hs22_7 : w = 7
    · refine ad_table dX8_count_22 (by omega) 111 (by rw [hs22_7]; rfl) ?_
      refine ad_aload_n dX8_count_111 rfl ?_
      refine gf_X8_154 rfl dX8_count_112 ?_
      rw [a4.1]
      exact ad_reti dX8_count_115 rfl (by
        have e : ad_m_count C w = (((ad_cS C).length : Int), C) := by
          unfold ad_m_count
          (repeat' split) <;> first | with_reducible rfl | contradiction | (exfalso; omega) | rfl | (exfalso; simp_all; omega) | (simp_all; done)
        rw [e]
        exact ⟨rfl, hC, ad_f8.refl⟩)
    refine ad_table dX8_count_22 (by omega) 116 (by rw [if_pos (by omega)]; rfl) ?_
    refine ad_bipush dX8_count_116 rfl ?_
    exact ad_reti dX8_count_118 rfl (by
      have e : ad_m_count C w = (-9, C) := by
        unfold ad_m_count
        (repeat' split) <;> first | with_reducible rfl | contradiction | (exfalso; omega) | rfl | (exfalso; simp_all; omega) | (simp_all; done)
      rw [e]
      exact ⟨rfl, hC, ad_f8.refl⟩)
  · show ad_R _ _ _ _ 11 _ _ _
    refine ad_aload_n dX8_count_11 rfl ?_
    refine gf_X8_22 rfl dX8_count_12 ?_
    refine ad_iload_n dX8_count_15 rfl ?_
    refine ad_bipush dX8_count_16 rfl ?_
    refine ad_isub dX8_count_18 ?_
    refine ad_ialj ((w - 10).toNat) dX8_count_19 (by decide) ⟨by decide, by decide⟩ (by omega) (by show _ < 8; omega) (a6 _ (by omega) (by omega)) ?_
    exact ad_reti dX8_count_20 rfl (by
      have e : ad_m_count C w = (ad_cF C (w - 10).toNat, C) := by
        unfold ad_m_count
        (repeat' split) <;> first | with_reducible rfl | contradiction | (exfalso; omega) | rfl | (exfalso; simp_all; omega) | (simp_all; done)
      rw [e]
      exact ⟨rfl, hC, ad_f8.refl⟩)
theorem c_X8_repack {g : ad_G} {d : Nat} {σ : ad_Mem} {C : ad_C7}  (hC : ad_c8 σ C) (h16d : 16 ≤ d) : ad_Q g mX8_repack d [ad_rf g 8 0] σ (fun x m => ad_an8 σ x m (ad_m_repack C)) := by
  have hC0 := hC
  obtain ⟨a1, a2, a3, a4, a5, a6⟩ := hC0
  have hr := a1.1
  have hw := a1.2
  refine ad_M1 (k := 0) rfl (by simp [Value.category]) rfl (Nat.le_of_ble_eq_true rfl) ?_
  simp only [List.map_cons, List.map_nil, List.replicate, List.cons_append, List.nil_append]
  refine ad_aload_n dX8_repack_0 rfl ?_
  refine ad_cv0q rfl cl_X8_133 dX8_repack_1 (c_X8_repacks hr hw (by omega)) (by omega) (by show _ < 1; omega) (Nat.le_of_ble_eq_true rfl) (fun x1 s1 q1 => ?_)
  obtain ⟨rfl, b1, b2, b3⟩ := q1
  exact ad_reti dX8_repack_4 rfl (⟨rfl, ad_c8_now hC (b3.mono (by decide) (by decide)) b1 (ad_wA_rp hw), (b3.mono (by decide) (by decide))⟩)
theorem c_X8_repacked {g : ad_G} {d : Nat} {σ : ad_Mem} {C : ad_C7} {w : Int} (hww : ad_rng w) (hC : ad_c8 σ C) (h16d : 16 ≤ d) : ad_Q g mX8_repacked d [ad_rf g 8 0, ad_iv w] σ (fun x m => ad_an8 σ x m (ad_m_repacked C w)) := by
  have hC0 := hC
  obtain ⟨a1, a2, a3, a4, a5, a6⟩ := hC0
  have hr := a1.1
  have hw := a1.2
  refine ad_M1 (k := 2) rfl (by simp [Value.category]) rfl (Nat.le_of_ble_eq_true rfl) ?_
  simp only [List.map_cons, List.map_nil, List.replicate, List.cons_append, List.nil_append]
  refine ad_iload_n dX8_repacked_0 rfl ?_
  refine ad_iconst dX8_repacked_1 ?_
  refine ad_iconst dX8_repacked_2 ?_
  refine ad_cs3f rfl cl_X8_55 dX8_repacked_3 (c_X8_isIn (by omega) (by omega) (by omega)) (by omega) (Nat.le_of_ble_eq_true rfl) ?_
  refine ad_ifp_ne 16 dX8_repacked_6 (by decide) (fun h6 => ?_) (fun h6 => ?_)
  · skip
    refine ad_aload_n dX8_repacked_16 rfl ?_
    refine gf_X8_9 rfl dX8_repacked_17 ?_
    refine ad_aload_n dX8_repacked_20 rfl ?_
    refine gf_X8_16 rfl dX8_repacked_21 ?_
    refine ad_cs2v rfl cl_X8_176 dX8_repacked_24 (c_X8_copies (k1 := 21) (k2 := 23) (by decide) (by decide) (by decide)) (by omega) (Nat.le_of_ble_eq_true rfl) (fun s24 q24 => ?_)
    obtain ⟨e1, f1⟩ := q24
    have hr1 : ad_ra (s24 21 0) (ad_cA C) := ad_ra_congr (fun i _ => congrFun (f1.1 21 0 (by decide) (by decide)) i) hr
    refine ad_aload_n dX8_repacked_27 rfl ?_
    refine ad_cv0q rfl cl_X8_133 dX8_repacked_28 (c_X8_repacks hr1 hw (by omega)) (by omega) (by show _ < 1; omega) (Nat.le_of_ble_eq_true rfl) (fun x28 s28 q28 => ?_)
    obtain ⟨rfl, b1, b2, b3⟩ := q28
    refine ad_istore_n dX8_repacked_31 (by decide) rfl (by dsimp only [ad_set]) ?_
    refine ad_iload_n dX8_repacked_32 rfl ?_
    refine ad_if_ne 40 dX8_repacked_33 (by decide) (by omega) (fun h33 => ?_) (fun h33 => ?_)
    · skip
      refine ad_iload_n dX8_repacked_40 rfl ?_
      refine ad_iconst dX8_repacked_41 ?_
      refine ad_icmp_ne 52 dX8_repacked_42 (by decide) (by omega) (by omega) (fun h42 => ?_) (fun h42 => ?_)
      · skip
        refine ad_aload_n dX8_repacked_52 rfl ?_
        refine ad_cv0f rfl cl_X8_185 dX8_repacked_53 (c_X8_wholes b1 (ad_wA_rp hw) (by omega)) (by omega) (by show _ < 1; omega) (Nat.le_of_ble_eq_true rfl) ?_
        refine ad_cs1f rfl cl_X8_148 dX8_repacked_56 (c_X8_ones (ad_bits_lt _)) (by omega) (Nat.le_of_ble_eq_true rfl) ?_
        rw [ad_ones_bits]
        refine ad_istore_n dX8_repacked_59 (by decide) rfl (by dsimp only [ad_set]) ?_
        refine ad_aload_n dX8_repacked_60 rfl ?_
        refine gf_X8_16 rfl dX8_repacked_61 ?_
        refine ad_aload_n dX8_repacked_64 rfl ?_
        refine gf_X8_9 rfl dX8_repacked_65 ?_
        refine ad_cs2v rfl cl_X8_176 dX8_repacked_68 (c_X8_copies (k1 := 23) (k2 := 21) (by decide) (by decide) (by decide)) (by omega) (Nat.le_of_ble_eq_true rfl) (fun s68 q68 => ?_)
        obtain ⟨e3, f3⟩ := q68
        have hb : ad_f8 [21, 23, 24, 28, 29, 30, 31, 32, 33] [15, 16, 17, 18, 19] σ s68 := (f1.mono (by decide) (by decide)).trans ((b3.mono (by decide) (by decide)).trans (f3.mono (by decide) (by decide)))
        have hr3 : ad_ra (s68 21 0) (ad_cA C) := ad_ra_congr (fun i hi => by rw [e3, if_pos hi, b3.1 23 0 (by decide) (by decide), e1, if_pos hi]) hr
        have hC3 : ad_c8 s68 C := ad_c8_now hC hb hr3 hw
        refine ad_iload_n dX8_repacked_71 rfl ?_
        exact ad_reti dX8_repacked_72 rfl (by
          have e : ad_m_repacked C w = (((ad_pp (ad_whl (ad_rp (ad_cA C))) 10 : Nat) : Int), C) := by
            unfold ad_m_repacked
            (repeat' split) <;> first | with_reducible rfl | contradiction | (exfalso; omega) | rfl | (exfalso; simp_all; omega) | (simp_all; done)
          rw [e]
          exact ⟨rfl, hC3, (hb.mono (by decide) (by decide))⟩)
      · show ad_R _ _ _ _ 45 _ _ _
        refine ad_aload_n dX8_repacked_45 rfl ?_
        refine ad_cv0f rfl cl_X8_182 dX8_repacked_46 (c_X8_deepest b1 (ad_wA_rp hw) (by omega)) (by omega) (by show _ < 1; omega) (Nat.le_of_ble_eq_true rfl) ?_
        refine ad_goto 59 dX8_repacked_49 (by decide) ?_
        refine ad_istore_n dX8_repacked_59 (by decide) rfl (by dsimp only [ad_set]) ?_
        refine ad_aload_n dX8_repacked_60 rfl ?_
        refine gf_X8_16 rfl dX8_repacked_61 ?_
        refine ad_aload_n dX8_repacked_64 rfl ?_
        refine gf_X8_9 rfl dX8_repacked_65 ?_
        refine ad_cs2v rfl cl_X8_176 dX8_repacked_68 (c_X8_copies (k1 := 23) (k2 := 21) (by decide) (by decide) (by decide)) (by omega) (Nat.le_of_ble_eq_true rfl) (fun s68 q68 => ?_)
        obtain ⟨e3, f3⟩ := q68
        have hb : ad_f8 [21, 23, 24, 28, 29, 30, 31, 32, 33] [15, 16, 17, 18, 19] σ s68 := (f1.mono (by decide) (by decide)).trans ((b3.mono (by decide) (by decide)).trans (f3.mono (by decide) (by decide)))
        have hr3 : ad_ra (s68 21 0) (ad_cA C) := ad_ra_congr (fun i hi => by rw [e3, if_pos hi, b3.1 23 0 (by decide) (by decide), e1, if_pos hi]) hr
        have hC3 : ad_c8 s68 C := ad_c8_now hC hb hr3 hw
        refine ad_iload_n dX8_repacked_71 rfl ?_
        exact ad_reti dX8_repacked_72 rfl (by
          have e : ad_m_repacked C w = (ad_deep (ad_rp (ad_cA C)), C) := by
            unfold ad_m_repacked
            (repeat' split) <;> first | with_reducible rfl | contradiction | (exfalso; omega) | rfl | (exfalso; simp_all; omega) | (simp_all; done)
          rw [e]
          exact ⟨rfl, hC3, (hb.mono (by decide) (by decide))⟩)
    · show ad_R _ _ _ _ 36 _ _ _
      refine ad_iload_n dX8_repacked_36 rfl ?_
      refine ad_goto 59 dX8_repacked_37 (by decide) ?_
      refine ad_istore_n dX8_repacked_59 (by decide) rfl (by dsimp only [ad_set]) ?_
      refine ad_aload_n dX8_repacked_60 rfl ?_
      refine gf_X8_16 rfl dX8_repacked_61 ?_
      refine ad_aload_n dX8_repacked_64 rfl ?_
      refine gf_X8_9 rfl dX8_repacked_65 ?_
      refine ad_cs2v rfl cl_X8_176 dX8_repacked_68 (c_X8_copies (k1 := 23) (k2 := 21) (by decide) (by decide) (by decide)) (by omega) (Nat.le_of_ble_eq_true rfl) (fun s68 q68 => ?_)
      obtain ⟨e3, f3⟩ := q68
      have hb : ad_f8 [21, 23, 24, 28, 29, 30, 31, 32, 33] [15, 16, 17, 18, 19] σ s68 := (f1.mono (by decide) (by decide)).trans ((b3.mono (by decide) (by decide)).trans (f3.mono (by decide) (by decide)))
      have hr3 : ad_ra (s68 21 0) (ad_cA C) := ad_ra_congr (fun i hi => by rw [e3, if_pos hi, b3.1 23 0 (by decide) (by decide), e1, if_pos hi]) hr
      have hC3 : ad_c8 s68 C := ad_c8_now hC hb hr3 hw
      refine ad_iload_n dX8_repacked_71 rfl ?_
      exact ad_reti dX8_repacked_72 rfl (by
        have e : ad_m_repacked C w = (ad_all (ad_rp (ad_cA C)), C) := by
          unfold ad_m_repacked
          (repeat' split) <;> first | with_reducible rfl | contradiction | (exfalso; omega) | rfl | (exfalso; simp_all; omega) | (simp_all; done)
        rw [e]
        exact ⟨rfl, hC3, (hb.mono (by decide) (by decide))⟩)
  · show ad_R _ _ _ _ 9 _ _ _
    refine ad_aload_n dX8_repacked_9 rfl ?_
    refine ad_bipush dX8_repacked_10 rfl ?_
    refine ad_cv1q rfl cl_X8_51 dX8_repacked_12 (c_X8_noC hC (by decide)) (by omega) (by show _ < 1; omega) (Nat.le_of_ble_eq_true rfl) (fun x12 s12 q12 => ?_)
    obtain ⟨rfl, c12, f12⟩ := q12
    exact ad_reti dX8_repacked_15 rfl (by
      have e : ad_m_repacked C w = ad_no C 2 := by
        unfold ad_m_repacked
        (repeat' split) <;> first | with_reducible rfl | contradiction | (exfalso; omega) | rfl | (exfalso; simp_all; omega) | (simp_all; done)
      rw [e]
      exact ⟨rfl, c12, (f12.mono (by decide) (by decide))⟩)
theorem c_X8_image {g : ad_G} {d : Nat} {σ : ad_Mem} {C : ad_C7}  (hC : ad_c8 σ C) (h16d : 16 ≤ d) : ad_Q g mX8_image d [ad_rf g 8 0] σ (fun x m => ad_an8 σ x m (ad_m_image C)) := by
  have hC0 := hC
  obtain ⟨a1, a2, a3, a4, a5, a6⟩ := hC0
  have hr := a1.1
  have hw := a1.2
  refine ad_M1 (k := 0) rfl (by simp [Value.category]) rfl (Nat.le_of_ble_eq_true rfl) ?_
  simp only [List.map_cons, List.map_nil, List.replicate, List.cons_append, List.nil_append]
  refine ad_aload_n dX8_image_0 rfl ?_
  refine ad_iconst dX8_image_1 ?_
  refine pf_X8_230 rfl (by first | exact Or.inl rfl | exact Or.inr rfl) dX8_image_2 ?_
  refine ad_aload_n dX8_image_5 rfl ?_
  refine gf_X8_9 rfl dX8_image_6 ?_
  refine ad_aload_n dX8_image_9 rfl ?_
  refine gf_X8_13 rfl dX8_image_10 ?_
  refine ad_cs2v rfl cl_X8_176 dX8_image_13 (c_X8_copies (k1 := 21) (k2 := 22) (by decide) (by decide) (by decide)) (by omega) (Nat.le_of_ble_eq_true rfl) (fun s13 q13 => ?_)
  obtain ⟨e1, f1⟩ := q13
  have f2 : ad_f8 [22] [20] σ s13 := (ad_f8.sj (by decide)).trans (f1.mono (by decide) (by decide))
  have hr1 : ad_ra (s13 21 0) (ad_cA C) := ad_ra_congr (fun i _ => congrFun (f2.1 21 0 (by decide) (by decide)) i) hr
  refine ad_aload_n dX8_image_16 rfl ?_
  refine ad_cv0f rfl cl_X8_142 dX8_image_17 (c_X8_there hr1 (by omega)) (by omega) (by show _ < 1; omega) (Nat.le_of_ble_eq_true rfl) ?_
  refine ad_cs1f rfl cl_X8_148 dX8_image_20 (c_X8_ones (ad_bits_lt _)) (by omega) (Nat.le_of_ble_eq_true rfl) ?_
  rw [ad_ones_bits]
  exact ad_reti dX8_image_23 rfl (by
      refine ⟨rfl, ⟨⟨hr1, hw⟩, ?_, fun _ => ⟨ad_ra_congr (fun i hi => by rw [e1, if_pos hi, ad_st_ne _ _ (by decide)]) hr, hw⟩, ?_, ?_, fun i h1 h2 => by rw [f2.1 25 0 (by decide) (by decide)]; exact a6 i h1 h2⟩, (f2.mono (by decide) (by decide))⟩
      · rw [f1.2 0 20 (by decide), ad_st_r1, ad_u1_eq]; rfl
      · rw [f2.2 0 13 (by decide), f2.1 26 0 (by decide) (by decide)]; exact a4
      · rw [f2.2 0 14 (by decide), f2.1 27 0 (by decide) (by decide)]; exact a5)
theorem c_X8_on {g : ad_G} {d : Nat} {σ : ad_Mem} {C : ad_C7}  (hC : ad_c8 σ C) (h16d : 16 ≤ d) : ad_Q g mX8_on d [ad_rf g 8 0] σ (fun x m => ad_an8 σ x m (ad_m_on C)) := by
  have hC0 := hC
  obtain ⟨a1, a2, a3, a4, a5, a6⟩ := hC0
  have hr := a1.1
  have hw := a1.2
  refine ad_M1 (k := 0) rfl (by simp [Value.category]) rfl (Nat.le_of_ble_eq_true rfl) ?_
  simp only [List.map_cons, List.map_nil, List.replicate, List.cons_append, List.nil_append]
  refine ad_aload_n dX8_on_0 rfl ?_
  refine gf_X8_230 rfl dX8_on_1 ?_
  rw [a2]
  refine ad_if_ne 14 dX8_on_4 (by decide) (by split <;> decide) (fun h4 => ?_) (fun h4 => ?_)
  · skip
    have hck : ad_ck C = true := Decidable.byContradiction (fun z => by rw [if_neg z] at h4; exact h4 rfl)
    refine ad_aload_n dX8_on_14 rfl ?_
    refine gf_X8_13 rfl dX8_on_15 ?_
    refine ad_aload_n dX8_on_18 rfl ?_
    refine gf_X8_9 rfl dX8_on_19 ?_
    refine ad_cs2v rfl cl_X8_176 dX8_on_22 (c_X8_copies (k1 := 22) (k2 := 21) (by decide) (by decide) (by decide)) (by omega) (Nat.le_of_ble_eq_true rfl) (fun s22 q22 => ?_)
    obtain ⟨e1, f1⟩ := q22
    have hr1 : ad_ra (s22 21 0) (ad_cT C) := ad_ra_congr (fun i hi => by rw [e1, if_pos hi]) (a3 hck).1
    refine ad_aload_n dX8_on_25 rfl ?_
    refine ad_cv0f rfl cl_X8_142 dX8_on_26 (c_X8_there hr1 (by omega)) (by omega) (by show _ < 1; omega) (Nat.le_of_ble_eq_true rfl) ?_
    refine ad_cs1f rfl cl_X8_148 dX8_on_29 (c_X8_ones (ad_bits_lt _)) (by omega) (Nat.le_of_ble_eq_true rfl) ?_
    rw [ad_ones_bits]
    exact ad_reti dX8_on_32 rfl (by
      have e : ad_m_on C = (((ad_pp (ad_aH (ad_cT C)) 10 : Nat) : Int), ad_sA C (ad_cT C)) := by
        unfold ad_m_on
        (repeat' split) <;> first | with_reducible rfl | contradiction | (exfalso; omega) | rfl | (exfalso; simp_all; omega) | (simp_all; done)
      rw [e]
      exact ⟨rfl, ad_c8_now hC (f1.mono (by decide) (by decide)) hr1 (a3 hck).2, (f1.mono (by decide) (by decide))⟩)
  · show ad_R _ _ _ _ 7 _ _ _
    have hck : ¬ ad_ck C = true := fun z => by rw [if_pos z] at h4; exact absurd h4 (by decide)
    refine ad_aload_n dX8_on_7 rfl ?_
    refine ad_bipush dX8_on_8 rfl ?_
    refine ad_cv1q rfl cl_X8_51 dX8_on_10 (c_X8_noC hC (by decide)) (by omega) (by show _ < 1; omega) (Nat.le_of_ble_eq_true rfl) (fun x10 s10 q10 => ?_)
    obtain ⟨rfl, c10, f10⟩ := q10
    exact ad_reti dX8_on_13 rfl (by
      have e : ad_m_on C = ad_no C 3 := by
        unfold ad_m_on
        (repeat' split) <;> first | with_reducible rfl | contradiction | (exfalso; omega) | rfl | (exfalso; simp_all; omega) | (simp_all; done)
      rw [e]
      exact ⟨rfl, c10, (f10.mono (by decide) (by decide))⟩)
theorem c_X8_spelt {g : ad_G} {d : Nat} {σ : ad_Mem} {C : ad_C7} {v i : Int} (hv : ad_rng v) (hi : ad_rng i) (hC : ad_c8 σ C) (h16d : 16 ≤ d) : ad_Q g mX8_spelt d [ad_rf g 8 0, ad_iv v, ad_iv i] σ (fun x m => ad_an8 σ x m (ad_m_spelt C v i)) := by
  have hC0 := hC
  obtain ⟨a1, a2, a3, a4, a5, a6⟩ := hC0
  have hr := a1.1
  have hw := a1.2
  refine ad_M1 (k := 0) rfl (by simp [Value.category]) rfl (Nat.le_of_ble_eq_true rfl) ?_
  simp only [List.map_cons, List.map_nil, List.replicate, List.cons_append, List.nil_append]
  refine ad_aload_n dX8_spelt_0 rfl ?_
  refine ad_iload_n dX8_spelt_1 rfl ?_
  refine ad_cv1f rfl cl_X8_59 dX8_spelt_2 (c_X8_isThere hr (by omega) (by omega)) (by omega) (by show _ < 1; omega) (Nat.le_of_ble_eq_true rfl) ?_
  refine ad_ifp_ne 14 dX8_spelt_5 (by decide) (fun h5 => ?_) (fun h5 => ?_)
  · skip
    obtain ⟨vn, rfl⟩ : ∃ zz : Nat, v = (zz : Int) := ⟨v.toNat, by omega⟩
    have vH : ad_aH (ad_cA C) vn = true := h5.2
    have vl := hr.1.2 vn vH
    have v10 : vn < 10 := by have := hr.1.1; omega
    refine ad_aload_n dX8_spelt_14 rfl ?_
    refine ad_cv0v rfl cl_X8_84 dX8_spelt_15 (c_X8_restores hr hw (by omega)) (by omega) (by show _ < 1; omega) (Nat.le_of_ble_eq_true rfl) (fun s15 q15 => ?_)
    obtain ⟨f15, g15⟩ := q15
    have hC15 := ad_c8_fr hC (f15.mono (by decide) (by decide))
    have hr15 := hC15.1.1
    refine ad_iload_n dX8_spelt_18 rfl ?_
    refine ad_iconst dX8_spelt_19 ?_
    refine ad_aload_n dX8_spelt_20 rfl ?_
    refine gf_X8_34 rfl dX8_spelt_21 ?_
    refine ad_iload_n dX8_spelt_24 rfl ?_
    refine ad_ialj (vn) dX8_spelt_25 (by decide) ⟨by decide, by decide⟩ (by omega) (by show _ < 10; omega) (((g15.1 vn v10).trans (if_pos vH))) ?_
    refine ad_iconst dX8_spelt_26 ?_
    refine ad_isub dX8_spelt_27 ?_
    refine ad_cs3f rfl cl_X8_55 dX8_spelt_28 (c_X8_isIn (by omega) (by omega) (by omega)) (by omega) (Nat.le_of_ble_eq_true rfl) ?_
    refine ad_ifp_eq 48 dX8_spelt_31 (by decide) (fun h31 => ?_) (fun h31 => ?_)
    · skip
      refine ad_aload_n dX8_spelt_48 rfl ?_
      refine ad_iconst dX8_spelt_49 ?_
      refine ad_cv1q rfl cl_X8_51 dX8_spelt_50 (c_X8_noC hC15 (by decide)) (by omega) (by show _ < 1; omega) (Nat.le_of_ble_eq_true rfl) (fun x50 s50 q50 => ?_)
      obtain ⟨rfl, c50, f50⟩ := q50
      exact ad_reti dX8_spelt_53 rfl (by
        have e : ad_m_spelt C (vn : Int) i = ad_no C 1 := by
          unfold ad_m_spelt
          rw [if_pos (Or.inr (by show i < 0 ∨ ((ad_aL (ad_cA C) vn).length : Int) ≤ i; omega))]
        rw [e]
        exact ⟨rfl, c50, (ad_f8_2 f15 f50 (by decide) (by decide) (by decide) (by decide))⟩)
    · show ad_R _ _ _ _ 34 _ _ _
      refine ad_aload_n dX8_spelt_34 rfl ?_
      refine gf_X8_31 rfl dX8_spelt_35 ?_
      refine ad_bipush dX8_spelt_38 rfl ?_
      refine ad_iload_n dX8_spelt_40 rfl ?_
      refine ad_imul dX8_spelt_41 ?_
      refine ad_iload_n dX8_spelt_42 rfl ?_
      refine ad_iadd dX8_spelt_43 ?_
      refine ad_ialj (12 * vn + i.toNat) dX8_spelt_44 (by decide) ⟨by decide, by decide⟩ (by omega) (by show _ < 120; omega) ((g15.2 vn v10 vH).2 _ (by omega)) ?_
      refine ad_goto 53 dX8_spelt_45 (by decide) ?_
      exact ad_reti dX8_spelt_53 rfl (by
        have e : ad_m_spelt C (vn : Int) i = ((ad_aL (ad_cA C) (vn : Int).toNat).getD i.toNat (-1), C) := by
          unfold ad_m_spelt
          (repeat' split) <;> first | with_reducible rfl | contradiction | (exfalso; omega) | rfl | (exfalso; simp_all; omega) | (simp_all; done)
        rw [e]
        exact ⟨by rw [ad_gD_any (show i.toNat < (ad_aL (ad_cA C) (vn : Int).toNat).length by rw [Int.toNat_natCast]; omega) 0]; rfl, hC15, (f15.mono (by decide) (by decide))⟩)
  · show ad_R _ _ _ _ 8 _ _ _
    refine ad_aload_n dX8_spelt_8 rfl ?_
    refine ad_iconst dX8_spelt_9 ?_
    refine ad_cv1q rfl cl_X8_51 dX8_spelt_10 (c_X8_noC hC (by decide)) (by omega) (by show _ < 1; omega) (Nat.le_of_ble_eq_true rfl) (fun x10 s10 q10 => ?_)
    obtain ⟨rfl, c10, f10⟩ := q10
    exact ad_reti dX8_spelt_13 rfl (by
      have e : ad_m_spelt C v i = ad_no C 1 := by
        unfold ad_m_spelt
        (repeat' split) <;> first | with_reducible rfl | contradiction | (exfalso; omega) | rfl | (exfalso; simp_all; omega) | (simp_all; done)
      rw [e]
      exact ⟨rfl, c10, (f10.mono (by decide) (by decide))⟩)
theorem c_X8_step {g : ad_G} {d : Nat} {σ : ad_Mem} {C : ad_C7} {v i w : Int} (hv : ad_rng v) (hi : ad_rng i) (hww : ad_rng w) (hC : ad_c8 σ C) (h16d : 16 ≤ d) : ad_Q g mX8_step d [ad_rf g 8 0, ad_iv v, ad_iv i, ad_iv w] σ (fun x m => ad_an8 σ x m (ad_m_step C v i w)) := by
  have hC0 := hC
  obtain ⟨a1, a2, a3, a4, a5, a6⟩ := hC0
  have hr := a1.1
  have hw := a1.2
  refine ad_M1 (k := 0) rfl (by simp [Value.category]) rfl (Nat.le_of_ble_eq_true rfl) ?_
  simp only [List.map_cons, List.map_nil, List.replicate, List.cons_append, List.nil_append]
  refine ad_aload_n dX8_step_0 rfl ?_
  refine ad_iload_n dX8_step_1 rfl ?_
  refine ad_cv1f rfl cl_X8_59 dX8_step_2 (c_X8_isThere hr (by omega) (by omega)) (by omega) (by show _ < 1; omega) (Nat.le_of_ble_eq_true rfl) ?_
  refine ad_ifp_eq 46 dX8_step_5 (by decide) (fun h5 => ?_) (fun h5 => ?_)
  · skip
    refine ad_aload_n dX8_step_46 rfl ?_
    refine ad_iconst dX8_step_47 ?_
    refine ad_cv1q rfl cl_X8_51 dX8_step_48 (c_X8_noC hC (by decide)) (by omega) (by show _ < 1; omega) (Nat.le_of_ble_eq_true rfl) (fun x48 s48 q48 => ?_)
    obtain ⟨rfl, c48, f48⟩ := q48
    exact ad_reti dX8_step_51 rfl (by
      have e : ad_m_step C v i w = ad_no C 1 := by
        unfold ad_m_step
        (repeat' split) <;> first | with_reducible rfl | contradiction | (exfalso; omega) | rfl | (exfalso; simp_all; omega) | (simp_all; done)
      rw [e]
      exact ⟨rfl, c48, (f48.mono (by decide) (by decide))⟩)
  · show ad_R _ _ _ _ 8 _ _ _
    obtain ⟨vn, rfl⟩ : ∃ zz : Nat, v = (zz : Int) := ⟨v.toNat, by omega⟩
    have vH : ad_aH (ad_cA C) vn = true := h5.2
    have vl := hr.1.2 vn vH
    have v10 : vn < 10 := by have := hr.1.1; omega
    have hvv := hr.2.2.2.2.1 vn vH
    have vBr := ad_B_rng hw vH
    have vlk := ad_lk_no vBr.1
    have vlkr := ad_lk_rng (v := ad_aB (ad_cA C) vn) (by omega)
    refine ad_aload_n dX8_step_8 rfl ?_
    refine gf_X8_9 rfl dX8_step_9 ?_
    refine ad_bipush dX8_step_12 rfl ?_
    refine ad_iload_n dX8_step_14 rfl ?_
    refine ad_imul dX8_step_15 ?_
    refine ad_iconst dX8_step_16 ?_
    refine ad_iadd dX8_step_17 ?_
    refine ad_ialj (50 * vn + 4) dX8_step_18 (by decide) ⟨by decide, by decide⟩ (by omega) (by show _ < 520; omega) (hvv.2.1) ?_
    refine ad_bipush dX8_step_19 rfl ?_
    refine ad_icmp_eq 46 dX8_step_21 (by decide) (by omega) (by omega) (fun h21 => ?_) (fun h21 => ?_)
    · skip
      refine ad_aload_n dX8_step_46 rfl ?_
      refine ad_iconst dX8_step_47 ?_
      refine ad_cv1q rfl cl_X8_51 dX8_step_48 (c_X8_noC hC (by decide)) (by omega) (by show _ < 1; omega) (Nat.le_of_ble_eq_true rfl) (fun x48 s48 q48 => ?_)
      obtain ⟨rfl, c48, f48⟩ := q48
      exact ad_reti dX8_step_51 rfl (by
        have e : ad_m_step C (vn : Int) i w = ad_no C 1 := by
          unfold ad_m_step
          rw [if_neg (fun z => z h5), if_pos (show ad_aB (ad_cA C) (vn : Int).toNat = -1 ∨ i < 0 ∨ ((ad_aT (ad_cA C) (vn : Int).toNat).length : Int) ≤ i from Or.inl (vlk.mp h21))]
        rw [e]
        exact ⟨rfl, c48, (f48.mono (by decide) (by decide))⟩)
    · show ad_R _ _ _ _ 24 _ _ _
      have vB : ad_aB (ad_cA C) vn ≠ -1 := fun z => h21 (vlk.mpr z)
      have hv4 := hvv.2.2.2 vB
      refine ad_iload_n dX8_step_24 rfl ?_
      refine ad_iconst dX8_step_25 ?_
      refine ad_aload_n dX8_step_26 rfl ?_
      refine gf_X8_9 rfl dX8_step_27 ?_
      refine ad_bipush dX8_step_30 rfl ?_
      refine ad_iload_n dX8_step_32 rfl ?_
      refine ad_imul dX8_step_33 ?_
      refine ad_bipush dX8_step_34 rfl ?_
      refine ad_iadd dX8_step_36 ?_
      refine ad_ialj (50 * vn + 18) dX8_step_37 (by decide) ⟨by decide, by decide⟩ (by omega) (by show _ < 520; omega) (hv4.1) ?_
      refine ad_iconst dX8_step_38 ?_
      refine ad_isub dX8_step_39 ?_
      refine ad_cs3f rfl cl_X8_55 dX8_step_40 (c_X8_isIn (by omega) (by omega) (by omega)) (by omega) (Nat.le_of_ble_eq_true rfl) ?_
      refine ad_ifp_ne 52 dX8_step_43 (by decide) (fun h43 => ?_) (fun h43 => ?_)
      · skip
        refine ad_iload_n dX8_step_52 rfl ?_
        refine ad_iconst dX8_step_53 ?_
        refine ad_iconst dX8_step_54 ?_
        refine ad_cs3f rfl cl_X8_55 dX8_step_55 (c_X8_isIn (by omega) (by omega) (by omega)) (by omega) (Nat.le_of_ble_eq_true rfl) ?_
        refine ad_ifp_eq 82 dX8_step_58 (by decide) (fun h58 => ?_) (fun h58 => ?_)
        · skip
          refine ad_aload_n dX8_step_82 rfl ?_
          refine ad_bipush dX8_step_83 rfl ?_
          refine ad_cv1q rfl cl_X8_51 dX8_step_85 (c_X8_noC hC (by decide)) (by omega) (by show _ < 1; omega) (Nat.le_of_ble_eq_true rfl) (fun x85 s85 q85 => ?_)
          obtain ⟨rfl, c85, f85⟩ := q85
          exact ad_reti dX8_step_88 rfl (by
            have e : ad_m_step C (vn : Int) i w = ad_no C 2 := by
              unfold ad_m_step
              rw [if_neg (fun z => z h5), if_neg (fun z => z.elim (fun z => vB z) (fun z => by have z : i < 0 ∨ ((ad_aT (ad_cA C) vn).length : Int) ≤ i := z; omega)), if_pos (by omega)]
            rw [e]
            exact ⟨rfl, c85, (f85.mono (by decide) (by decide))⟩)
        · show ad_R _ _ _ _ 61 _ _ _
          have hst : σ 21 0 (50 * vn + 20 + 2 * i.toNat + w.toNat) = if w = 0 then ((ad_aT (ad_cA C) vn).getD i.toNat (0, 0)).1 else ((ad_aT (ad_cA C) vn).getD i.toNat (0, 0)).2 := by
            have hz := hv4.2 i.toNat (by omega)
            by_cases hw0 : w = 0
            · rw [if_pos hw0, hw0]; exact hz.1
            · rw [if_neg hw0, show w.toNat = 1 by omega]; exact hz.2
          refine ad_aload_n dX8_step_61 rfl ?_
          refine gf_X8_9 rfl dX8_step_62 ?_
          refine ad_bipush dX8_step_65 rfl ?_
          refine ad_iload_n dX8_step_67 rfl ?_
          refine ad_imul dX8_step_68 ?_
          refine ad_bipush dX8_step_69 rfl ?_
          refine ad_iadd dX8_step_71 ?_
          refine ad_iconst dX8_step_72 ?_
          refine ad_iload_n dX8_step_73 rfl ?_
          refine ad_imul dX8_step_74 ?_
          refine ad_iadd dX8_step_75 ?_
          refine ad_iload_n dX8_step_76 rfl ?_
          refine ad_iadd dX8_step_77 ?_
          refine ad_ialj (50 * vn + 20 + 2 * i.toNat + w.toNat) dX8_step_78 (by decide) ⟨by decide, by decide⟩ (by omega) (by show _ < 520; omega) (hst) ?_
          refine ad_goto 88 dX8_step_79 (by decide) ?_
          exact ad_reti dX8_step_88 rfl (by
            have e : ad_m_step C (vn : Int) i w = (if w = 0 then ((ad_aT (ad_cA C) vn).getD i.toNat (0, 0)).1 else ((ad_aT (ad_cA C) vn).getD i.toNat (0, 0)).2, C) := by
              unfold ad_m_step
              rw [if_neg (fun z => z h5), if_neg (fun z => z.elim (fun z => vB z) (fun z => by have z : i < 0 ∨ ((ad_aT (ad_cA C) vn).length : Int) ≤ i := z; omega)), if_neg (by omega)]
              rfl
            rw [e]
            exact ⟨rfl, hC, ad_f8.refl⟩)
      · show ad_R _ _ _ _ 46 _ _ _
        refine ad_aload_n dX8_step_46 rfl ?_
        refine ad_iconst dX8_step_47 ?_
        refine ad_cv1q rfl cl_X8_51 dX8_step_48 (c_X8_noC hC (by decide)) (by omega) (by show _ < 1; omega) (Nat.le_of_ble_eq_true rfl) (fun x48 s48 q48 => ?_)
        obtain ⟨rfl, c48, f48⟩ := q48
        exact ad_reti dX8_step_51 rfl (by
          have e : ad_m_step C (vn : Int) i w = ad_no C 1 := by
            unfold ad_m_step
            rw [if_neg (fun z => z h5), if_pos (show ad_aB (ad_cA C) (vn : Int).toNat = -1 ∨ i < 0 ∨ ((ad_aT (ad_cA C) (vn : Int).toNat).length : Int) ≤ i from Or.inr (by show i < 0 ∨ ((ad_aT (ad_cA C) vn).length : Int) ≤ i; omega))]
          rw [e]
          exact ⟨rfl, c48, (f48.mono (by decide) (by decide))⟩)
theorem c_X8_deltaF {g : ad_G} {d : Nat} {σ : ad_Mem} {C : ad_C7} {a b w : Int} (ha : ad_rng a) (hb0 : ad_rng b) (hww : ad_rng w) (hC : ad_c8 σ C) (h16d : 16 ≤ d) : ad_Q g mX8_delta_ d [ad_rf g 8 0, ad_iv a, ad_iv b, ad_iv w] σ (fun x m => ad_an8 σ x m (ad_m_delta C a b w)) := by
  have hC0 := hC
  obtain ⟨a1, a2, a3, a4, a5, a6⟩ := hC0
  have hr := a1.1
  have hw := a1.2
  refine ad_M1 (k := 1) rfl (by simp [Value.category]) rfl (Nat.le_of_ble_eq_true rfl) ?_
  simp only [List.map_cons, List.map_nil, List.replicate, List.cons_append, List.nil_append]
  refine ad_aload_n dX8_delta__0 rfl ?_
  refine ad_iload_n dX8_delta__1 rfl ?_
  refine ad_cv1f rfl cl_X8_59 dX8_delta__2 (c_X8_isThere hr (by omega) (by omega)) (by omega) (by show _ < 1; omega) (Nat.le_of_ble_eq_true rfl) ?_
  refine ad_ifp_eq 16 dX8_delta__5 (by decide) (fun h5 => ?_) (fun h5 => ?_)
  · skip
    refine ad_aload_n dX8_delta__16 rfl ?_
    refine ad_iconst dX8_delta__17 ?_
    refine ad_cv1q rfl cl_X8_51 dX8_delta__18 (c_X8_noC hC (by decide)) (by omega) (by show _ < 1; omega) (Nat.le_of_ble_eq_true rfl) (fun x18 s18 q18 => ?_)
    obtain ⟨rfl, c18, f18⟩ := q18
    exact ad_reti dX8_delta__21 rfl (by
      have e : ad_m_delta C a b w = ad_no C 1 := by
        unfold ad_m_delta
        (repeat' split) <;> first | with_reducible rfl | contradiction | (exfalso; omega) | rfl | (exfalso; simp_all; omega) | (simp_all; done)
      rw [e]
      exact ⟨rfl, c18, (f18.mono (by decide) (by decide))⟩)
  · show ad_R _ _ _ _ 8 _ _ _
    refine ad_aload_n dX8_delta__8 rfl ?_
    refine ad_iload_n dX8_delta__9 rfl ?_
    refine ad_cv1f rfl cl_X8_59 dX8_delta__10 (c_X8_isThere hr (by omega) (by omega)) (by omega) (by show _ < 1; omega) (Nat.le_of_ble_eq_true rfl) ?_
    refine ad_ifp_ne 22 dX8_delta__13 (by decide) (fun h13 => ?_) (fun h13 => ?_)
    · skip
      refine ad_iload_n dX8_delta__22 rfl ?_
      refine ad_iconst dX8_delta__23 ?_
      refine ad_iconst dX8_delta__24 ?_
      refine ad_cs3f rfl cl_X8_55 dX8_delta__25 (c_X8_isIn (by omega) (by omega) (by omega)) (by omega) (Nat.le_of_ble_eq_true rfl) ?_
      refine ad_ifp_ne 38 dX8_delta__28 (by decide) (fun h28 => ?_) (fun h28 => ?_)
      · skip
        obtain ⟨an, rfl⟩ : ∃ zz : Nat, a = (zz : Int) := ⟨a.toNat, by omega⟩
        have aH : ad_aH (ad_cA C) an = true := h5.2
        have al := hr.1.2 an aH
        have a10 : an < 10 := by have := hr.1.1; omega
        obtain ⟨bn, rfl⟩ : ∃ zz : Nat, b = (zz : Int) := ⟨b.toNat, by omega⟩
        have bH : ad_aH (ad_cA C) bn = true := h13.2
        have bl := hr.1.2 bn bH
        have b10 : bn < 10 := by have := hr.1.1; omega
        have aX := (hw.2.2.1 an aH).1
        have bX := (hw.2.2.1 bn bH).1
        refine ad_aload_n dX8_delta__38 rfl ?_
        refine ad_cv0v rfl cl_X8_84 dX8_delta__39 (c_X8_restores hr hw (by omega)) (by omega) (by show _ < 1; omega) (Nat.le_of_ble_eq_true rfl) (fun s39 q39 => ?_)
        obtain ⟨f39, g39⟩ := q39
        have hC39 := ad_c8_fr hC (f39.mono (by decide) (by decide))
        have hr39 := hC39.1.1
        refine ad_aload_n dX8_delta__42 rfl ?_
        refine ad_iload_n dX8_delta__43 rfl ?_
        refine ad_iload_n dX8_delta__44 rfl ?_
        refine ad_cv2q rfl cl_X8_106 dX8_delta__45 (c_X8_delta a10 b10 al.2.1 bl.2.1 ((g39.1 an a10).trans (if_pos aH)) ((g39.1 bn b10).trans (if_pos bH)) (g39.2 an a10 aH).2 (g39.2 bn b10 bH).2 (fun x hx => by have := aX.2.2 x hx; omega) (fun x hx => by have := bX.2.2 x hx; omega) (by omega)) (by omega) (by show _ < 1; omega) (Nat.le_of_ble_eq_true rfl) (fun x45 s45 q45 => ?_)
        obtain ⟨rfl, hsp, f45⟩ := q45
        have hb : ad_f8 [23, 24, 28, 29, 30, 31, 32, 33] [15, 16, 17, 18, 19] σ s45 := (f39.mono (by decide) (by decide)).trans (f45.mono (by decide) (by decide))
        have hC3 := ad_c8_fr hC hb
        refine ad_istore dX8_delta__48 (by decide) rfl (by dsimp only [ad_set]) ?_
        refine ad_iload_n dX8_delta__50 rfl ?_
        refine ad_if_ne 59 dX8_delta__51 (by decide) (by omega) (fun h51 => ?_) (fun h51 => ?_)
        · skip
          refine ad_iload_n dX8_delta__59 rfl ?_
          refine ad_iconst dX8_delta__60 ?_
          refine ad_icmp_ne 71 dX8_delta__61 (by decide) (by omega) (by omega) (fun h61 => ?_) (fun h61 => ?_)
          · skip
            refine ad_aload_n dX8_delta__71 rfl ?_
            refine gf_X8_77 rfl dX8_delta__72 ?_
            rw [hsp.2.1]
            exact ad_reti dX8_delta__75 rfl (by
              have e : ad_m_delta C (an : Int) (bn : Int) w = (ad_nc (ad_dl (ad_aL (ad_cA C) an) (ad_aL (ad_cA C) bn)), C) := by
                unfold ad_m_delta
                rw [if_neg (fun z => z.elim (fun z => z h5) (fun z => z h13)), if_neg (by omega), if_neg (by omega), if_neg (by omega)]
                rfl
              rw [e]
              exact ⟨rfl, hC3, (hb.mono (by decide) (by decide))⟩)
          · show ad_R _ _ _ _ 64 _ _ _
            refine ad_aload_n dX8_delta__64 rfl ?_
            refine gf_X8_73 rfl dX8_delta__65 ?_
            rw [hsp.1]
            refine ad_goto 75 dX8_delta__68 (by decide) ?_
            exact ad_reti dX8_delta__75 rfl (by
              have e : ad_m_delta C (an : Int) (bn : Int) w = (((ad_dl (ad_aL (ad_cA C) an) (ad_aL (ad_cA C) bn)).length : Int), C) := by
                unfold ad_m_delta
                rw [if_neg (fun z => z.elim (fun z => z h5) (fun z => z h13)), if_neg (by omega), if_neg (by omega), if_pos (by omega)]
                rfl
              rw [e]
              exact ⟨rfl, hC3, (hb.mono (by decide) (by decide))⟩)
        · show ad_R _ _ _ _ 54 _ _ _
          refine ad_iload dX8_delta__54 rfl ?_
          refine ad_goto 75 dX8_delta__56 (by decide) ?_
          exact ad_reti dX8_delta__75 rfl (by
            have e : ad_m_delta C (an : Int) (bn : Int) w = (ad_c2 (ad_cA C) an bn, C) := by
              unfold ad_m_delta
              rw [if_neg (fun z => z.elim (fun z => z h5) (fun z => z h13)), if_neg (by omega), if_pos (by omega)]
              rfl
            rw [e]
            exact ⟨rfl, hC3, (hb.mono (by decide) (by decide))⟩)
      · show ad_R _ _ _ _ 31 _ _ _
        refine ad_aload_n dX8_delta__31 rfl ?_
        refine ad_bipush dX8_delta__32 rfl ?_
        refine ad_cv1q rfl cl_X8_51 dX8_delta__34 (c_X8_noC hC (by decide)) (by omega) (by show _ < 1; omega) (Nat.le_of_ble_eq_true rfl) (fun x34 s34 q34 => ?_)
        obtain ⟨rfl, c34, f34⟩ := q34
        exact ad_reti dX8_delta__37 rfl (by
          have e : ad_m_delta C a b w = ad_no C 2 := by
            unfold ad_m_delta
            (repeat' split) <;> first | with_reducible rfl | contradiction | (exfalso; omega) | rfl | (exfalso; simp_all; omega) | (simp_all; done)
          rw [e]
          exact ⟨rfl, c34, (f34.mono (by decide) (by decide))⟩)
    · show ad_R _ _ _ _ 16 _ _ _
      refine ad_aload_n dX8_delta__16 rfl ?_
      refine ad_iconst dX8_delta__17 ?_
      refine ad_cv1q rfl cl_X8_51 dX8_delta__18 (c_X8_noC hC (by decide)) (by omega) (by show _ < 1; omega) (Nat.le_of_ble_eq_true rfl) (fun x18 s18 q18 => ?_)
      obtain ⟨rfl, c18, f18⟩ := q18
      exact ad_reti dX8_delta__21 rfl (by
        have e : ad_m_delta C a b w = ad_no C 1 := by
          unfold ad_m_delta
          (repeat' split) <;> first | with_reducible rfl | contradiction | (exfalso; omega) | rfl | (exfalso; simp_all; omega) | (simp_all; done)
        rw [e]
        exact ⟨rfl, c18, (f18.mono (by decide) (by decide))⟩)
theorem c_X8_version {g : ad_G} {d : Nat} {σ : ad_Mem} {C : ad_C7} {v w : Int} (hv : ad_rng v) (hww : ad_rng w) (hC : ad_c8 σ C) (h16d : 16 ≤ d) : ad_Q g mX8_version d [ad_rf g 8 0, ad_iv v, ad_iv w] σ (fun x m => ad_an8 σ x m (ad_m_version C v w)) := by
  have hC0 := hC
  obtain ⟨a1, a2, a3, a4, a5, a6⟩ := hC0
  have hr := a1.1
  have hw := a1.2
  refine ad_M1 (k := 1) rfl (by simp [Value.category]) rfl (Nat.le_of_ble_eq_true rfl) ?_
  simp only [List.map_cons, List.map_nil, List.replicate, List.cons_append, List.nil_append]
  refine ad_aload_n dX8_version_0 rfl ?_
  refine ad_iload_n dX8_version_1 rfl ?_
  refine ad_cv1f rfl cl_X8_59 dX8_version_2 (c_X8_isThere hr (by omega) (by omega)) (by omega) (by show _ < 1; omega) (Nat.le_of_ble_eq_true rfl) ?_
  refine ad_ifp_ne 14 dX8_version_5 (by decide) (fun h5 => ?_) (fun h5 => ?_)
  · skip
    obtain ⟨vn, rfl⟩ : ∃ zz : Nat, v = (zz : Int) := ⟨v.toNat, by omega⟩
    have vH : ad_aH (ad_cA C) vn = true := h5.2
    have vl := hr.1.2 vn vH
    have v10 : vn < 10 := by have := hr.1.1; omega
    refine ad_iload_n dX8_version_14 rfl ?_
    refine ad_iconst dX8_version_15 ?_
    refine ad_bipush dX8_version_16 rfl ?_
    refine ad_cs3f rfl cl_X8_55 dX8_version_18 (c_X8_isIn (by omega) (by omega) (by omega)) (by omega) (Nat.le_of_ble_eq_true rfl) ?_
    refine ad_ifp_ne 31 dX8_version_21 (by decide) (fun h21 => ?_) (fun h21 => ?_)
    · skip
      refine ad_aload_n dX8_version_31 rfl ?_
      refine ad_cv0v rfl cl_X8_84 dX8_version_32 (c_X8_restores hr hw (by omega)) (by omega) (by show _ < 1; omega) (Nat.le_of_ble_eq_true rfl) (fun s32 q32 => ?_)
      obtain ⟨f31, g31⟩ := q32
      have hC31 := ad_c8_fr hC (f31.mono (by decide) (by decide))
      have hr31 := hC31.1.1
      have hvv := hr31.2.2.2.2.1 vn vH
      have hvp := hr31.2.2.2.1 vn vl.1
      have vBr := ad_B_rng hw vH
      have vlk := ad_lk_no vBr.1
      have vlkr := ad_lk_rng (v := ad_aB (ad_cA C) vn) (by omega)
      refine ad_bipush dX8_version_35 rfl ?_
      refine ad_iload_n dX8_version_37 rfl ?_
      refine ad_imul dX8_version_38 ?_
      refine ad_istore_n dX8_version_39 (by decide) rfl (by dsimp only [ad_set]) ?_
      refine ad_iload_n dX8_version_40 rfl ?_
      by_cases hs41_0 : w = 0
      · refine ad_table dX8_version_41 (by omega) 88 (by rw [hs41_0]; rfl) ?_
        refine ad_aload_n dX8_version_88 rfl ?_
        refine gf_X8_34 rfl dX8_version_89 ?_
        refine ad_iload_n dX8_version_92 rfl ?_
        refine ad_ialj (vn) dX8_version_93 (by decide) ⟨by decide, by decide⟩ (by omega) (by show _ < 10; omega) (((g31.1 vn v10).trans (if_pos vH))) ?_
        exact ad_reti dX8_version_94 rfl (by
          have e : ad_m_version C (vn : Int) w = (((ad_aL (ad_cA C) vn).length : Int), C) := by
            unfold ad_m_version
            rw [if_neg (fun z => z h5), if_pos (by omega)]
            rfl
          rw [e]
          exact ⟨rfl, hC31, (f31.mono (by decide) (by decide))⟩)
      by_cases hs41_1 : w = 1
      · refine ad_table dX8_version_41 (by omega) 95 (by rw [hs41_1]; rfl) ?_
        refine ad_aload_n dX8_version_95 rfl ?_
        refine gf_X8_9 rfl dX8_version_96 ?_
        refine ad_iload_n dX8_version_99 rfl ?_
        refine ad_iconst dX8_version_100 ?_
        refine ad_iadd dX8_version_101 ?_
        refine ad_iload_n dX8_version_102 rfl ?_
        refine ad_iadd dX8_version_103 ?_
        refine ad_iconst dX8_version_104 ?_
        refine ad_isub dX8_version_105 ?_
        refine ad_ialj (50 * vn + 2) dX8_version_106 (by decide) ⟨by decide, by decide⟩ (by omega) (by show _ < 520; omega) (hvp.1) ?_
        exact ad_reti dX8_version_107 rfl (by
          have e : ad_m_version C (vn : Int) w = (ad_lk (ad_aP (ad_cA C) vn), C) := by
            unfold ad_m_version
            rw [if_neg (fun z => z h5), if_neg (by omega), if_pos (by omega)]
            rfl
          rw [e]
          exact ⟨rfl, hC31, (f31.mono (by decide) (by decide))⟩)
      by_cases hs41_2 : w = 2
      · refine ad_table dX8_version_41 (by omega) 95 (by rw [hs41_2]; rfl) ?_
        refine ad_aload_n dX8_version_95 rfl ?_
        refine gf_X8_9 rfl dX8_version_96 ?_
        refine ad_iload_n dX8_version_99 rfl ?_
        refine ad_iconst dX8_version_100 ?_
        refine ad_iadd dX8_version_101 ?_
        refine ad_iload_n dX8_version_102 rfl ?_
        refine ad_iadd dX8_version_103 ?_
        refine ad_iconst dX8_version_104 ?_
        refine ad_isub dX8_version_105 ?_
        refine ad_ialj (50 * vn + 3) dX8_version_106 (by decide) ⟨by decide, by decide⟩ (by omega) (by show _ < 520; omega) (hvp.2) ?_
        exact ad_reti dX8_version_107 rfl (by
          have e : ad_m_version C (vn : Int) w = (ad_lk (ad_aQ (ad_cA C) vn), C) := by
            unfold ad_m_version
            rw [if_neg (fun z => z h5), if_neg (by omega), if_neg (by omega), if_pos (by omega)]
            rfl
          rw [e]
          exact ⟨rfl, hC31, (f31.mono (by decide) (by decide))⟩)
      by_cases hs41_3 : w = 3
      · refine ad_table dX8_version_41 (by omega) 108 (by rw [hs41_3]; rfl) ?_
        refine ad_aload_n dX8_version_108 rfl ?_
        refine gf_X8_9 rfl dX8_version_109 ?_
        refine ad_iload_n dX8_version_112 rfl ?_
        refine ad_iconst dX8_version_113 ?_
        refine ad_iadd dX8_version_114 ?_
        refine ad_ialj (50 * vn + 4) dX8_version_115 (by decide) ⟨by decide, by decide⟩ (by omega) (by show _ < 520; omega) (hvv.2.1) ?_
        exact ad_reti dX8_version_116 rfl (by
          have e : ad_m_version C (vn : Int) w = (ad_lk (ad_aB (ad_cA C) vn), C) := by
            unfold ad_m_version
            rw [if_neg (fun z => z h5), if_neg (by omega), if_neg (by omega), if_neg (by omega), if_pos (by omega)]
            rfl
          rw [e]
          exact ⟨rfl, hC31, (f31.mono (by decide) (by decide))⟩)
      by_cases hs41_4 : w = 4
      · refine ad_table dX8_version_41 (by omega) 117 (by rw [hs41_4]; rfl) ?_
        refine ad_aload_n dX8_version_117 rfl ?_
        refine ad_iload_n dX8_version_118 rfl ?_
        refine ad_cv1f rfl cl_X8_89 dX8_version_119 (c_X8_depth hr31 hw 8 vn (d - 1) vH (ad_dep_d hw vH).1 (by omega)) (by omega) (by show _ < 1; omega) (Nat.le_of_ble_eq_true rfl) ?_
        exact ad_reti dX8_version_122 rfl (by
          have e : ad_m_version C (vn : Int) w = (((ad_dep (ad_cA C) vn : Nat) : Int), C) := by
            unfold ad_m_version
            rw [if_neg (fun z => z h5), if_neg (by omega), if_neg (by omega), if_neg (by omega), if_neg (by omega), if_pos (by omega)]
            rfl
          rw [e]
          exact ⟨rfl, hC31, (f31.mono (by decide) (by decide))⟩)
      by_cases hs41_5 : w = 5
      · refine ad_table dX8_version_41 (by omega) 123 (by rw [hs41_5]; rfl) ?_
        refine ad_aload_n dX8_version_123 rfl ?_
        refine ad_iload_n dX8_version_124 rfl ?_
        refine ad_cv1f rfl cl_X8_86 dX8_version_125 (c_X8_costOf hr31 hw vH ((g31.1 vn v10).trans (if_pos vH))) (by omega) (by show _ < 1; omega) (Nat.le_of_ble_eq_true rfl) ?_
        exact ad_reti dX8_version_128 rfl (by
          have e : ad_m_version C (vn : Int) w = (ad_cst (ad_cA C) vn, C) := by
            unfold ad_m_version
            rw [if_neg (fun z => z h5), if_neg (by omega), if_neg (by omega), if_neg (by omega), if_neg (by omega), if_neg (by omega), if_pos (by omega)]
            rfl
          rw [e]
          exact ⟨rfl, hC31, (f31.mono (by decide) (by decide))⟩)
      by_cases hs41_6 : w = 6
      · refine ad_table dX8_version_41 (by omega) 129 (by rw [hs41_6]; rfl) ?_
        refine ad_aload_n dX8_version_129 rfl ?_
        refine gf_X8_9 rfl dX8_version_130 ?_
        refine ad_iload_n dX8_version_133 rfl ?_
        refine ad_iconst dX8_version_134 ?_
        refine ad_iadd dX8_version_135 ?_
        refine ad_ialj (50 * vn + 1) dX8_version_136 (by decide) ⟨by decide, by decide⟩ (by omega) (by show _ < 520; omega) (hvv.1) ?_
        exact ad_reti dX8_version_137 rfl (by
          have e : ad_m_version C (vn : Int) w = (ad_aG (ad_cA C) vn, C) := by
            unfold ad_m_version
            rw [if_neg (fun z => z h5), if_neg (by omega), if_neg (by omega), if_neg (by omega), if_neg (by omega), if_neg (by omega), if_neg (by omega), if_pos (by omega)]
            rfl
          rw [e]
          exact ⟨rfl, hC31, (f31.mono (by decide) (by decide))⟩)
      by_cases hs41_7 : w = 7
      · refine ad_table dX8_version_41 (by omega) 138 (by rw [hs41_7]; rfl) ?_
        refine ad_aload_n dX8_version_138 rfl ?_
        refine ad_iload_n dX8_version_139 rfl ?_
        refine ad_cv1f rfl cl_X8_179 dX8_version_140 (c_X8_isSound hr31 hw vH g31 (by omega)) (by omega) (by show _ < 1; omega) (Nat.le_of_ble_eq_true rfl) ?_
        refine ad_ifp_eq 150 dX8_version_143 (by decide) (fun h143 => ?_) (fun h143 => ?_)
        · skip
          refine ad_iconst dX8_version_150 ?_
          exact ad_reti dX8_version_151 rfl (by
            have e : ad_m_version C (vn : Int) w = (0, C) := by
              unfold ad_m_version
              rw [if_neg (fun z => z h5), if_neg (by omega), if_neg (by omega), if_neg (by omega), if_neg (by omega), if_neg (by omega), if_neg (by omega), if_neg (by omega), if_pos (by omega)]
              show ((if ad_hs (ad_aL (ad_cA C) vn) = ad_aG (ad_cA C) vn then 1 else 0 : Int), C) = _
              rw [if_neg h143]
            rw [e]
            exact ⟨rfl, hC31, (f31.mono (by decide) (by decide))⟩)
        · show ad_R _ _ _ _ 146 _ _ _
          refine ad_iconst dX8_version_146 ?_
          refine ad_goto 151 dX8_version_147 (by decide) ?_
          exact ad_reti dX8_version_151 rfl (by
            have e : ad_m_version C (vn : Int) w = (1, C) := by
              unfold ad_m_version
              rw [if_neg (fun z => z h5), if_neg (by omega), if_neg (by omega), if_neg (by omega), if_neg (by omega), if_neg (by omega), if_neg (by omega), if_neg (by omega), if_pos (by omega)]
              show ((if ad_hs (ad_aL (ad_cA C) vn) = ad_aG (ad_cA C) vn then 1 else 0 : Int), C) = _
              rw [if_pos h143]
            rw [e]
            exact ⟨rfl, hC31, (f31.mono (by decide) (by decide))⟩)
      refine ad_table dX8_version_41 (by omega) 152 (by rw [if_pos (by omega)]; rfl) ?_
      refine ad_aload_n dX8_version_152 rfl ?_
      refine gf_X8_9 rfl dX8_version_153 ?_
      refine ad_iload_n dX8_version_156 rfl ?_
      refine ad_iconst dX8_version_157 ?_
      refine ad_iadd dX8_version_158 ?_
      refine ad_ialj (50 * vn + 4) dX8_version_159 (by decide) ⟨by decide, by decide⟩ (by omega) (by show _ < 520; omega) (hvv.2.1) ?_
      refine ad_bipush dX8_version_160 rfl ?_
      refine ad_icmp_ne 169 dX8_version_162 (by decide) (by omega) (by omega) (fun h162 => ?_) (fun h162 => ?_)
      · skip
        refine ad_aload_n dX8_version_169 rfl ?_
        refine gf_X8_9 rfl dX8_version_170 ?_
        refine ad_iload_n dX8_version_173 rfl ?_
        refine ad_bipush dX8_version_174 rfl ?_
        refine ad_iadd dX8_version_176 ?_
        refine ad_ialj (50 * vn + 18) dX8_version_177 (by decide) ⟨by decide, by decide⟩ (by omega) (by show _ < 520; omega) ((hvv.2.2.2 (fun z => h162 (vlk.mpr z))).1) ?_
        exact ad_reti dX8_version_178 rfl (by
          have e : ad_m_version C (vn : Int) w = (((ad_aT (ad_cA C) vn).length : Int), C) := by
            unfold ad_m_version
            rw [if_neg (fun z => z h5), if_neg (by omega), if_neg (by omega), if_neg (by omega), if_neg (by omega), if_neg (by omega), if_neg (by omega), if_neg (by omega), if_neg (by omega), if_pos (by omega)]
            show ((if ad_aB (ad_cA C) vn = -1 then 0 else ((ad_aT (ad_cA C) vn).length : Int)), C) = _
            rw [if_neg (fun z => h162 (vlk.mpr z))]
          rw [e]
          exact ⟨rfl, hC31, (f31.mono (by decide) (by decide))⟩)
      · show ad_R _ _ _ _ 165 _ _ _
        refine ad_iconst dX8_version_165 ?_
        refine ad_goto 178 dX8_version_166 (by decide) ?_
        exact ad_reti dX8_version_178 rfl (by
          have e : ad_m_version C (vn : Int) w = (0, C) := by
            unfold ad_m_version
            rw [if_neg (fun z => z h5), if_neg (by omega), if_neg (by omega), if_neg (by omega), if_neg (by omega), if_neg (by omega), if_neg (by omega), if_neg (by omega), if_neg (by omega), if_pos (by omega)]
            show ((if ad_aB (ad_cA C) vn = -1 then 0 else ((ad_aT (ad_cA C) vn).length : Int)), C) = _
            rw [if_pos (vlk.mp (Decidable.not_not.mp h162))]
          rw [e]
          exact ⟨rfl, hC31, (f31.mono (by decide) (by decide))⟩)
    · show ad_R _ _ _ _ 24 _ _ _
      refine ad_aload_n dX8_version_24 rfl ?_
      refine ad_bipush dX8_version_25 rfl ?_
      refine ad_cv1q rfl cl_X8_51 dX8_version_27 (c_X8_noC hC (by decide)) (by omega) (by show _ < 1; omega) (Nat.le_of_ble_eq_true rfl) (fun x27 s27 q27 => ?_)
      obtain ⟨rfl, c27, f27⟩ := q27
      exact ad_reti dX8_version_30 rfl (by
        have e : ad_m_version C (vn : Int) w = ad_no C 2 := by
          unfold ad_m_version
          rw [if_neg (fun z => z h5), if_neg (by omega), if_neg (by omega), if_neg (by omega), if_neg (by omega), if_neg (by omega), if_neg (by omega), if_neg (by omega), if_neg (by omega), if_neg (by omega)]
        rw [e]
        exact ⟨rfl, c27, (f27.mono (by decide) (by decide))⟩)
  · show ad_R _ _ _ _ 8 _ _ _
    refine ad_aload_n dX8_version_8 rfl ?_
    refine ad_iconst dX8_version_9 ?_
    refine ad_cv1q rfl cl_X8_51 dX8_version_10 (c_X8_noC hC (by decide)) (by omega) (by show _ < 1; omega) (Nat.le_of_ble_eq_true rfl) (fun x10 s10 q10 => ?_)
    obtain ⟨rfl, c10, f10⟩ := q10
    exact ad_reti dX8_version_13 rfl (by
      have e : ad_m_version C v w = ad_no C 1 := by
        unfold ad_m_version
        (repeat' split) <;> first | with_reducible rfl | contradiction | (exfalso; omega) | rfl | (exfalso; simp_all; omega) | (simp_all; done)
      rw [e]
      exact ⟨rfl, c10, (f10.mono (by decide) (by decide))⟩)
