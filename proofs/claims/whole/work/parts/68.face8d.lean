/-! ===== the reference: damaged, edited, merged, judged ===== -/
theorem c_X8_damages {g : ad_G} {d : Nat} {σ : ad_Mem} {C : ad_C7} {v p y : Int} (hv : ad_rng v) (hp : ad_rng p) (hy : ad_rng y) (hC : ad_c8 σ C) (h16d : 16 ≤ d) : ad_Q g mX8_damages d [ad_rf g 8 0, ad_iv v, ad_iv p, ad_iv y] σ (fun x m => ad_an8 σ x m (ad_m_damages C v p y)) := by
  have hC0 := hC
  obtain ⟨a1, a2, a3, a4, a5, a6⟩ := hC0
  have hr := a1.1
  have hw := a1.2
  refine ad_M1 (k := 1) rfl (by simp [Value.category]) rfl (Nat.le_of_ble_eq_true rfl) ?_
  simp only [List.map_cons, List.map_nil, List.replicate, List.cons_append, List.nil_append]
  refine ad_aload_n dX8_damages_0 rfl ?_
  refine ad_iload_n dX8_damages_1 rfl ?_
  refine ad_cv1f rfl cl_X8_59 dX8_damages_2 (c_X8_isThere hr (by omega) (by omega)) (by omega) (by show _ < 1; omega) (Nat.le_of_ble_eq_true rfl) ?_
  refine ad_ifp_ne 14 dX8_damages_5 (by decide) (fun h5 => ?_) (fun h5 => ?_)
  · skip
    obtain ⟨vn, rfl⟩ : ∃ zz : Nat, v = (zz : Int) := ⟨v.toNat, by omega⟩
    have vH : ad_aH (ad_cA C) vn = true := h5.2
    have vl := hr.1.2 vn vH
    have v10 : vn < 10 := by have := hr.1.1; omega
    have hvv := hr.2.2.2.2.1 vn vH
    have vBr := ad_B_rng hw vH
    have vlk := ad_lk_no vBr.1
    have vlkr := ad_lk_rng (v := ad_aB (ad_cA C) vn) (by omega)
    have vX := (hw.2.2.1 vn vH).1
    refine ad_aload_n dX8_damages_14 rfl ?_
    refine gf_X8_9 rfl dX8_damages_15 ?_
    refine ad_bipush dX8_damages_18 rfl ?_
    refine ad_iload_n dX8_damages_20 rfl ?_
    refine ad_imul dX8_damages_21 ?_
    refine ad_iconst dX8_damages_22 ?_
    refine ad_iadd dX8_damages_23 ?_
    refine ad_ialj (50 * vn + 4) dX8_damages_24 (by decide) ⟨by decide, by decide⟩ (by omega) (by show _ < 520; omega) (hvv.2.1) ?_
    refine ad_bipush dX8_damages_25 rfl ?_
    refine ad_icmp_eq 37 dX8_damages_27 (by decide) (by omega) (by omega) (fun h27 => ?_) (fun h27 => ?_)
    · skip
      have vB : ad_aB (ad_cA C) vn = -1 := vlk.mp h27
      have hv3 := hvv.2.2.1 vB
      refine ad_iload_n dX8_damages_37 rfl ?_
      refine ad_iconst dX8_damages_38 ?_
      refine ad_aload_n dX8_damages_39 rfl ?_
      refine gf_X8_9 rfl dX8_damages_40 ?_
      refine ad_bipush dX8_damages_43 rfl ?_
      refine ad_iload_n dX8_damages_45 rfl ?_
      refine ad_imul dX8_damages_46 ?_
      refine ad_iconst dX8_damages_47 ?_
      refine ad_iadd dX8_damages_48 ?_
      refine ad_ialj (50 * vn + 5) dX8_damages_49 (by decide) ⟨by decide, by decide⟩ (by omega) (by show _ < 520; omega) (hv3.1) ?_
      refine ad_iconst dX8_damages_50 ?_
      refine ad_isub dX8_damages_51 ?_
      refine ad_cs3f rfl cl_X8_55 dX8_damages_52 (c_X8_isIn (by omega) (by omega) (by omega)) (by omega) (Nat.le_of_ble_eq_true rfl) ?_
      refine ad_ifp_ne 64 dX8_damages_55 (by decide) (fun h55 => ?_) (fun h55 => ?_)
      · skip
        refine ad_iload_n dX8_damages_64 rfl ?_
        refine ad_iconst dX8_damages_65 ?_
        refine ad_bipush dX8_damages_66 rfl ?_
        refine ad_cs3f rfl cl_X8_55 dX8_damages_68 (c_X8_isIn (by omega) (by omega) (by omega)) (by omega) (Nat.le_of_ble_eq_true rfl) ?_
        refine ad_ifp_ne 81 dX8_damages_71 (by decide) (fun h71 => ?_) (fun h71 => ?_)
        · skip
          refine ad_aload_n dX8_damages_81 rfl ?_
          refine gf_X8_9 rfl dX8_damages_82 ?_
          refine ad_bipush dX8_damages_85 rfl ?_
          refine ad_iload_n dX8_damages_87 rfl ?_
          refine ad_imul dX8_damages_88 ?_
          refine ad_bipush dX8_damages_89 rfl ?_
          refine ad_iadd dX8_damages_91 ?_
          refine ad_iload_n dX8_damages_92 rfl ?_
          refine ad_iadd dX8_damages_93 ?_
          refine ad_ialj (50 * vn + 6 + p.toNat) dX8_damages_94 (by decide) ⟨by decide, by decide⟩ (by omega) (by show _ < 520; omega) (hv3.2 _ (by omega)) ?_
          refine ad_istore dX8_damages_95 (by decide) rfl (by dsimp only [ad_set]) ?_
          refine ad_aload_n dX8_damages_97 rfl ?_
          refine gf_X8_9 rfl dX8_damages_98 ?_
          refine ad_bipush dX8_damages_101 rfl ?_
          refine ad_iload_n dX8_damages_103 rfl ?_
          refine ad_imul dX8_damages_104 ?_
          refine ad_bipush dX8_damages_105 rfl ?_
          refine ad_iadd dX8_damages_107 ?_
          refine ad_iload_n dX8_damages_108 rfl ?_
          refine ad_iadd dX8_damages_109 ?_
          refine ad_iload_n dX8_damages_110 rfl ?_
          refine ad_iasj (50 * vn + 6 + p.toNat) dX8_damages_111 (by decide) ⟨by decide, by decide⟩ (by omega) (by show _ < 520; omega) ?_
          refine ad_iload dX8_damages_112 rfl ?_
          exact ad_reti dX8_damages_114 rfl (by
            have e : ad_m_damages C (vn : Int) p y = ((ad_aL (ad_cA C) vn).getD p.toNat (-1), ad_sA C (ad_dmg (ad_cA C) vn p.toNat y)) := by
              unfold ad_m_damages
              rw [if_neg (fun z => z h5), if_neg (fun z => z vB), if_neg (show ¬ (p < 0 ∨ ((ad_aL (ad_cA C) (vn : Int).toNat).length : Int) ≤ p) by rw [Int.toNat_natCast]; omega), if_neg (by omega)]; rfl
            rw [e, ad_gD_any (y := -1) (show p.toNat < (ad_aL (ad_cA C) vn).length by omega) 0]
            have hL1 : ad_aL (ad_dmg (ad_cA C) vn p.toNat y) vn = (ad_aL (ad_cA C) vn).set p.toNat y := (ad_L1_whole hw.S vH vB).trans (if_pos rfl)
            refine ⟨rfl, ad_c8_now hC (ad_f8.st (by decide) (by decide)) (ad_ra_set vn v10 hr ⟨Nat.le_refl _, hr.1.1⟩ (fun u hu _ => hu) (by rw [ad_st_r1, ad_u1_ne _ _ (by omega)]; exact hr.2.1.1) (fun c _ _ h => by rw [ad_st_r1, ad_u1_ne _ _ (by omega)]) (fun c h1 h2 => ?_) (fun u hu => ⟨rfl, rfl, rfl, rfl, rfl, rfl⟩) (fun u hu hH => ⟨?_, fun hB => (ad_L1_whole hw.S hH hB).trans (if_neg hu)⟩) ⟨rfl, rfl, rfl, rfl⟩ (by rw [ad_st_r1, ad_u1_ne _ _ (by omega)]; exact hr.2.2.1 vn v10) (fun _ => by rw [ad_st_r1, ad_u1_ne _ _ (by omega), ad_u1_ne _ _ (by omega)]; exact hr.2.2.2.1 vn vl.1) (fun _ => ⟨vl.1, by rw [hL1, List.length_set]; exact vl.2.1, vl.2.2, by rw [ad_st_r1, ad_u1_ne _ _ (by omega)]; exact hvv.1, by rw [ad_st_r1, ad_u1_ne _ _ (by omega)]; exact hvv.2.1, fun _ => ⟨by rw [ad_st_r1, ad_u1_ne _ _ (by omega), hL1, List.length_set]; exact hv3.1, fun j hj => ?_⟩, fun z => absurd vB z⟩)) (ad_wA_dmg hw (by omega)), ad_f8.st (by decide) (by decide)⟩
            · rw [ad_st_r1]; unfold ad_u1; split
              · constructor <;> omega
              · exact hr.2.2.2.2.2 c (by omega)
            · have h1 := (ad_L1_ok hw (v := vn) (p := p.toNat) (x := y) (by omega) _ u hH (Nat.le_refl _)).1
              have h2 : (ad_aL (ad_dmg (ad_cA C) vn p.toNat y) u).length = (ad_aL (ad_cA C) u).length := h1
              rw [h2]; exact (hr.1.2 u hH).2.1
            · rw [hL1, List.length_set] at hj
              rw [hL1, ad_st_r1]
              by_cases hjp : j = p.toNat
              · subst hjp; rw [ad_u1_eq, List.getD_eq_getElem?_getD, List.getElem?_set_self hj]; rfl
              · rw [ad_u1_ne _ _ (by omega), hv3.2 j hj, List.getD_eq_getElem?_getD, List.getD_eq_getElem?_getD, List.getElem?_set_ne (fun z => hjp z.symm)])
        · show ad_R _ _ _ _ 74 _ _ _
          refine ad_aload_n dX8_damages_74 rfl ?_
          refine ad_bipush dX8_damages_75 rfl ?_
          refine ad_cv1q rfl cl_X8_51 dX8_damages_77 (c_X8_noC hC (by decide)) (by omega) (by show _ < 1; omega) (Nat.le_of_ble_eq_true rfl) (fun x77 s77 q77 => ?_)
          obtain ⟨rfl, c77, f77⟩ := q77
          exact ad_reti dX8_damages_80 rfl (by
            have e : ad_m_damages C (vn : Int) p y = ad_no C 2 := by
              unfold ad_m_damages
              rw [if_neg (fun z => z h5), if_neg (fun z => z vB), if_neg (show ¬ (p < 0 ∨ ((ad_aL (ad_cA C) (vn : Int).toNat).length : Int) ≤ p) by rw [Int.toNat_natCast]; omega), if_pos (by omega)]
            rw [e]
            exact ⟨rfl, c77, (f77.mono (by decide) (by decide))⟩)
      · show ad_R _ _ _ _ 58 _ _ _
        refine ad_aload_n dX8_damages_58 rfl ?_
        refine ad_iconst dX8_damages_59 ?_
        refine ad_cv1q rfl cl_X8_51 dX8_damages_60 (c_X8_noC hC (by decide)) (by omega) (by show _ < 1; omega) (Nat.le_of_ble_eq_true rfl) (fun x60 s60 q60 => ?_)
        obtain ⟨rfl, c60, f60⟩ := q60
        exact ad_reti dX8_damages_63 rfl (by
          have e : ad_m_damages C (vn : Int) p y = ad_no C 1 := by
            unfold ad_m_damages
            rw [if_neg (fun z => z h5), if_neg (fun z => z vB), if_pos (show p < 0 ∨ ((ad_aL (ad_cA C) (vn : Int).toNat).length : Int) ≤ p by rw [Int.toNat_natCast]; omega)]
          rw [e]
          exact ⟨rfl, c60, (f60.mono (by decide) (by decide))⟩)
    · show ad_R _ _ _ _ 30 _ _ _
      refine ad_aload_n dX8_damages_30 rfl ?_
      refine ad_bipush dX8_damages_31 rfl ?_
      refine ad_cv1q rfl cl_X8_51 dX8_damages_33 (c_X8_noC hC (by decide)) (by omega) (by show _ < 1; omega) (Nat.le_of_ble_eq_true rfl) (fun x33 s33 q33 => ?_)
      obtain ⟨rfl, c33, f33⟩ := q33
      exact ad_reti dX8_damages_36 rfl (by
        have e : ad_m_damages C (vn : Int) p y = ad_no C 3 := by
          unfold ad_m_damages
          rw [if_neg (fun z => z h5), if_pos (show ad_aB (ad_cA C) (vn : Int).toNat ≠ -1 from fun z => h27 (vlk.mpr z))]
        rw [e]
        exact ⟨rfl, c33, (f33.mono (by decide) (by decide))⟩)
  · show ad_R _ _ _ _ 8 _ _ _
    refine ad_aload_n dX8_damages_8 rfl ?_
    refine ad_iconst dX8_damages_9 ?_
    refine ad_cv1q rfl cl_X8_51 dX8_damages_10 (c_X8_noC hC (by decide)) (by omega) (by show _ < 1; omega) (Nat.le_of_ble_eq_true rfl) (fun x10 s10 q10 => ?_)
    obtain ⟨rfl, c10, f10⟩ := q10
    exact ad_reti dX8_damages_13 rfl (by
      have e : ad_m_damages C v p y = ad_no C 1 := by
        unfold ad_m_damages
        (repeat' split) <;> first | with_reducible rfl | contradiction | (exfalso; omega) | rfl | (exfalso; simp_all; omega) | (simp_all; done)
      rw [e]
      exact ⟨rfl, c10, (f10.mono (by decide) (by decide))⟩)
theorem c_X8_edits {g : ad_G} {d : Nat} {σ : ad_Mem} {C : ad_C7} {v p y : Int} (hv : ad_rng v) (hp : ad_rng p) (hy : ad_rng y) (hC : ad_c8 σ C) (h16d : 16 ≤ d) : ad_Q g mX8_edits d [ad_rf g 8 0, ad_iv v, ad_iv p, ad_iv y] σ (fun x m => ad_an8 σ x m (ad_m_edits C v p y)) := by
  have hC0 := hC
  obtain ⟨a1, a2, a3, a4, a5, a6⟩ := hC0
  have hr := a1.1
  have hw := a1.2
  refine ad_M1 (k := 1) rfl (by simp [Value.category]) rfl (Nat.le_of_ble_eq_true rfl) ?_
  simp only [List.map_cons, List.map_nil, List.replicate, List.cons_append, List.nil_append]
  refine ad_aload_n dX8_edits_0 rfl ?_
  refine ad_iload_n dX8_edits_1 rfl ?_
  refine ad_cv1f rfl cl_X8_59 dX8_edits_2 (c_X8_isThere hr (by omega) (by omega)) (by omega) (by show _ < 1; omega) (Nat.le_of_ble_eq_true rfl) ?_
  refine ad_ifp_ne 14 dX8_edits_5 (by decide) (fun h5 => ?_) (fun h5 => ?_)
  · skip
    obtain ⟨vn, rfl⟩ : ∃ zz : Nat, v = (zz : Int) := ⟨v.toNat, by omega⟩
    have vH : ad_aH (ad_cA C) vn = true := h5.2
    have vl := hr.1.2 vn vH
    have v10 : vn < 10 := by have := hr.1.1; omega
    have vX := (hw.2.2.1 vn vH).1
    have hc10 := hr.1.1
    refine ad_aload_n dX8_edits_14 rfl ?_
    refine ad_cv0v rfl cl_X8_84 dX8_edits_15 (c_X8_restores hr hw (by omega)) (by omega) (by show _ < 1; omega) (Nat.le_of_ble_eq_true rfl) (fun s15 q15 => ?_)
    obtain ⟨f15, g15⟩ := q15
    have hC15 := ad_c8_fr hC (f15.mono (by decide) (by decide))
    have hr15 := hC15.1.1
    refine ad_aload_n dX8_edits_18 rfl ?_
    refine gf_X8_34 rfl dX8_edits_19 ?_
    refine ad_iload_n dX8_edits_22 rfl ?_
    refine ad_ialj (vn) dX8_edits_23 (by decide) ⟨by decide, by decide⟩ (by omega) (by show _ < 10; omega) (((g15.1 vn v10).trans (if_pos vH))) ?_
    refine ad_istore dX8_edits_24 (by decide) rfl (by dsimp only [ad_set]) ?_
    refine ad_iload_n dX8_edits_26 rfl ?_
    refine ad_iconst dX8_edits_27 ?_
    refine ad_iload dX8_edits_28 rfl ?_
    refine ad_cs3f rfl cl_X8_55 dX8_edits_30 (c_X8_isIn (by omega) (by omega) (by omega)) (by omega) (Nat.le_of_ble_eq_true rfl) ?_
    refine ad_ifp_ne 42 dX8_edits_33 (by decide) (fun h33 => ?_) (fun h33 => ?_)
    · skip
      refine ad_iload_n dX8_edits_42 rfl ?_
      refine ad_iconst dX8_edits_43 ?_
      refine ad_bipush dX8_edits_44 rfl ?_
      refine ad_cs3f rfl cl_X8_55 dX8_edits_46 (c_X8_isIn (by omega) (by omega) (by omega)) (by omega) (Nat.le_of_ble_eq_true rfl) ?_
      refine ad_ifp_ne 59 dX8_edits_49 (by decide) (fun h49 => ?_) (fun h49 => ?_)
      · skip
        refine ad_iload_n dX8_edits_59 rfl ?_
        refine ad_bipush dX8_edits_60 rfl ?_
        refine ad_icmp_ne 84 dX8_edits_62 (by decide) (by omega) (by omega) (fun h62 => ?_) (fun h62 => ?_)
        · skip
          refine ad_iload_n dX8_edits_84 rfl ?_
          refine ad_bipush dX8_edits_85 rfl ?_
          refine ad_icmp_ne 96 dX8_edits_87 (by decide) (by omega) (by omega) (fun h87 => ?_) (fun h87 => ?_)
          · skip
            refine ad_aload_n dX8_edits_96 rfl ?_
            refine gf_X8_9 rfl dX8_edits_97 ?_
            refine ad_sipush dX8_edits_100 rfl ?_
            refine ad_ialj (500) dX8_edits_103 (by decide) ⟨by decide, by decide⟩ (by omega) (by show _ < 520; omega) (hr15.2.1.1) ?_
            refine ad_bipush dX8_edits_104 rfl ?_
            refine ad_icmp_ne 116 dX8_edits_106 (by decide) (by omega) (by omega) (fun h106 => ?_) (fun h106 => ?_)
            · skip
              obtain ⟨pn, rfl⟩ : ∃ pn : Nat, p = (pn : Int) := ⟨p.toNat, by omega⟩
              refine ad_aload_n dX8_edits_116 rfl ?_
              refine ad_iload_n dX8_edits_117 rfl ?_
              refine ad_iload_n dX8_edits_118 rfl ?_
              refine ad_iload_n dX8_edits_119 rfl ?_
              refine ad_cv3q rfl cl_X8_129 dX8_edits_120 (c_X8_edited hr15 hw (v := vn) (pp := pn) (y := y) (by omega) vH (by omega) (by omega) (by omega) (by omega) (by omega)) (by omega) (by show _ < 1; omega) (Nat.le_of_ble_eq_true rfl) (fun x120 s120 q120 => ?_)
              obtain ⟨rfl, f120, r120⟩ := q120
              exact ad_reti dX8_edits_123 rfl (by
                have e : ad_m_edits C (vn : Int) (pn : Int) y = ((ad_aC (ad_cA C) : Int), ad_sA C (ad_add (ad_cA C) (ad_edl (ad_aL (ad_cA C) vn) pn y) (vn : Int) (-1))) := by
                  unfold ad_m_edits
                  rw [if_neg (fun z => z h5), if_neg (show ¬ ((pn : Int) < 0 ∨ ((ad_aL (ad_cA C) (vn : Int).toNat).length : Int) < (pn : Int)) by rw [Int.toNat_natCast]; omega), if_neg (show ¬ (y < 0 ∨ 8 < y) by omega), if_neg (show ¬ (y = 8 ∧ ((ad_aL (ad_cA C) (vn : Int).toNat).length = 1 ∨ (pn : Int) = ((ad_aL (ad_cA C) (vn : Int).toNat).length : Int))) by rw [Int.toNat_natCast]; omega), if_neg (by omega)]; rfl
                rw [e]
                exact ⟨rfl, ad_c8_now hC15 (f120.mono (by decide) (by decide)) r120 (ad_wA_add hw (by omega) (ad_edl_ok vX (by omega) (by omega) (by omega) (by omega)) (by omega) (by omega)), (ad_f8_2 f15 f120 (by decide) (by decide) (by decide) (by decide))⟩)
            · show ad_R _ _ _ _ 109 _ _ _
              refine ad_aload_n dX8_edits_109 rfl ?_
              refine ad_bipush dX8_edits_110 rfl ?_
              refine ad_cv1q rfl cl_X8_51 dX8_edits_112 (c_X8_noC hC15 (by decide)) (by omega) (by show _ < 1; omega) (Nat.le_of_ble_eq_true rfl) (fun x112 s112 q112 => ?_)
              obtain ⟨rfl, c112, f112⟩ := q112
              exact ad_reti dX8_edits_115 rfl (by
                have e : ad_m_edits C (vn : Int) p y = ad_no C 6 := by
                  unfold ad_m_edits
                  rw [if_neg (fun z => z h5), if_neg (show ¬ (p < 0 ∨ ((ad_aL (ad_cA C) (vn : Int).toNat).length : Int) < p) by rw [Int.toNat_natCast]; omega), if_neg (show ¬ (y < 0 ∨ 8 < y) by omega), if_neg (show ¬ (y = 8 ∧ ((ad_aL (ad_cA C) (vn : Int).toNat).length = 1 ∨ p = ((ad_aL (ad_cA C) (vn : Int).toNat).length : Int))) by rw [Int.toNat_natCast]; omega), if_pos (by omega)]
                rw [e]
                exact ⟨rfl, c112, (ad_f8_2 f15 f112 (by decide) (by decide) (by decide) (by decide))⟩)
          · show ad_R _ _ _ _ 90 _ _ _
            refine ad_iload_n dX8_edits_90 rfl ?_
            refine ad_bipush dX8_edits_91 rfl ?_
            refine ad_icmp_lt 109 dX8_edits_93 (by decide) (by omega) (by omega) (fun h93 => ?_) (fun h93 => ?_)
            · skip
              refine ad_aload_n dX8_edits_109 rfl ?_
              refine ad_bipush dX8_edits_110 rfl ?_
              refine ad_cv1q rfl cl_X8_51 dX8_edits_112 (c_X8_noC hC15 (by decide)) (by omega) (by show _ < 1; omega) (Nat.le_of_ble_eq_true rfl) (fun x112 s112 q112 => ?_)
              obtain ⟨rfl, c112, f112⟩ := q112
              exact ad_reti dX8_edits_115 rfl (by
                have e : ad_m_edits C (vn : Int) p y = ad_no C 6 := by
                  unfold ad_m_edits
                  rw [if_neg (fun z => z h5), if_neg (show ¬ (p < 0 ∨ ((ad_aL (ad_cA C) (vn : Int).toNat).length : Int) < p) by rw [Int.toNat_natCast]; omega), if_neg (show ¬ (y < 0 ∨ 8 < y) by omega), if_neg (show ¬ (y = 8 ∧ ((ad_aL (ad_cA C) (vn : Int).toNat).length = 1 ∨ p = ((ad_aL (ad_cA C) (vn : Int).toNat).length : Int))) by rw [Int.toNat_natCast]; omega), if_pos (by omega)]
                rw [e]
                exact ⟨rfl, c112, (ad_f8_2 f15 f112 (by decide) (by decide) (by decide) (by decide))⟩)
            · show ad_R _ _ _ _ 96 _ _ _
              refine ad_aload_n dX8_edits_96 rfl ?_
              refine gf_X8_9 rfl dX8_edits_97 ?_
              refine ad_sipush dX8_edits_100 rfl ?_
              refine ad_ialj (500) dX8_edits_103 (by decide) ⟨by decide, by decide⟩ (by omega) (by show _ < 520; omega) (hr15.2.1.1) ?_
              refine ad_bipush dX8_edits_104 rfl ?_
              refine ad_icmp_ne 116 dX8_edits_106 (by decide) (by omega) (by omega) (fun h106 => ?_) (fun h106 => ?_)
              · skip
                obtain ⟨pn, rfl⟩ : ∃ pn : Nat, p = (pn : Int) := ⟨p.toNat, by omega⟩
                refine ad_aload_n dX8_edits_116 rfl ?_
                refine ad_iload_n dX8_edits_117 rfl ?_
                refine ad_iload_n dX8_edits_118 rfl ?_
                refine ad_iload_n dX8_edits_119 rfl ?_
                refine ad_cv3q rfl cl_X8_129 dX8_edits_120 (c_X8_edited hr15 hw (v := vn) (pp := pn) (y := y) (by omega) vH (by omega) (by omega) (by omega) (by omega) (by omega)) (by omega) (by show _ < 1; omega) (Nat.le_of_ble_eq_true rfl) (fun x120 s120 q120 => ?_)
                obtain ⟨rfl, f120, r120⟩ := q120
                exact ad_reti dX8_edits_123 rfl (by
                  have e : ad_m_edits C (vn : Int) (pn : Int) y = ((ad_aC (ad_cA C) : Int), ad_sA C (ad_add (ad_cA C) (ad_edl (ad_aL (ad_cA C) vn) pn y) (vn : Int) (-1))) := by
                    unfold ad_m_edits
                    rw [if_neg (fun z => z h5), if_neg (show ¬ ((pn : Int) < 0 ∨ ((ad_aL (ad_cA C) (vn : Int).toNat).length : Int) < (pn : Int)) by rw [Int.toNat_natCast]; omega), if_neg (show ¬ (y < 0 ∨ 8 < y) by omega), if_neg (show ¬ (y = 8 ∧ ((ad_aL (ad_cA C) (vn : Int).toNat).length = 1 ∨ (pn : Int) = ((ad_aL (ad_cA C) (vn : Int).toNat).length : Int))) by rw [Int.toNat_natCast]; omega), if_neg (by omega)]; rfl
                  rw [e]
                  exact ⟨rfl, ad_c8_now hC15 (f120.mono (by decide) (by decide)) r120 (ad_wA_add hw (by omega) (ad_edl_ok vX (by omega) (by omega) (by omega) (by omega)) (by omega) (by omega)), (ad_f8_2 f15 f120 (by decide) (by decide) (by decide) (by decide))⟩)
              · show ad_R _ _ _ _ 109 _ _ _
                refine ad_aload_n dX8_edits_109 rfl ?_
                refine ad_bipush dX8_edits_110 rfl ?_
                refine ad_cv1q rfl cl_X8_51 dX8_edits_112 (c_X8_noC hC15 (by decide)) (by omega) (by show _ < 1; omega) (Nat.le_of_ble_eq_true rfl) (fun x112 s112 q112 => ?_)
                obtain ⟨rfl, c112, f112⟩ := q112
                exact ad_reti dX8_edits_115 rfl (by
                  have e : ad_m_edits C (vn : Int) p y = ad_no C 6 := by
                    unfold ad_m_edits
                    rw [if_neg (fun z => z h5), if_neg (show ¬ (p < 0 ∨ ((ad_aL (ad_cA C) (vn : Int).toNat).length : Int) < p) by rw [Int.toNat_natCast]; omega), if_neg (show ¬ (y < 0 ∨ 8 < y) by omega), if_neg (show ¬ (y = 8 ∧ ((ad_aL (ad_cA C) (vn : Int).toNat).length = 1 ∨ p = ((ad_aL (ad_cA C) (vn : Int).toNat).length : Int))) by rw [Int.toNat_natCast]; omega), if_pos (by omega)]
                  rw [e]
                  exact ⟨rfl, c112, (ad_f8_2 f15 f112 (by decide) (by decide) (by decide) (by decide))⟩)
        · show ad_R _ _ _ _ 65 _ _ _
          refine ad_iload dX8_edits_65 rfl ?_
          refine ad_iconst dX8_edits_67 ?_
          refine ad_icmp_eq 77 dX8_edits_68 (by decide) (by omega) (by omega) (fun h68 => ?_) (fun h68 => ?_)
          · skip
            refine ad_aload_n dX8_edits_77 rfl ?_
            refine ad_bipush dX8_edits_78 rfl ?_
            refine ad_cv1q rfl cl_X8_51 dX8_edits_80 (c_X8_noC hC15 (by decide)) (by omega) (by show _ < 1; omega) (Nat.le_of_ble_eq_true rfl) (fun x80 s80 q80 => ?_)
            obtain ⟨rfl, c80, f80⟩ := q80
            exact ad_reti dX8_edits_83 rfl (by
              have e : ad_m_edits C (vn : Int) p y = ad_no C 3 := by
                unfold ad_m_edits
                rw [if_neg (fun z => z h5), if_neg (show ¬ (p < 0 ∨ ((ad_aL (ad_cA C) (vn : Int).toNat).length : Int) < p) by rw [Int.toNat_natCast]; omega), if_neg (show ¬ (y < 0 ∨ 8 < y) by omega), if_pos (show y = 8 ∧ ((ad_aL (ad_cA C) (vn : Int).toNat).length = 1 ∨ p = ((ad_aL (ad_cA C) (vn : Int).toNat).length : Int)) by rw [Int.toNat_natCast]; omega)]
              rw [e]
              exact ⟨rfl, c80, (ad_f8_2 f15 f80 (by decide) (by decide) (by decide) (by decide))⟩)
          · show ad_R _ _ _ _ 71 _ _ _
            refine ad_iload_n dX8_edits_71 rfl ?_
            refine ad_iload dX8_edits_72 rfl ?_
            refine ad_icmp_ne 84 dX8_edits_74 (by decide) (by omega) (by omega) (fun h74 => ?_) (fun h74 => ?_)
            · skip
              refine ad_iload_n dX8_edits_84 rfl ?_
              refine ad_bipush dX8_edits_85 rfl ?_
              refine ad_icmp_ne 96 dX8_edits_87 (by decide) (by omega) (by omega) (fun h87 => ?_) (fun h87 => ?_)
              · skip
                refine ad_aload_n dX8_edits_96 rfl ?_
                refine gf_X8_9 rfl dX8_edits_97 ?_
                refine ad_sipush dX8_edits_100 rfl ?_
                refine ad_ialj (500) dX8_edits_103 (by decide) ⟨by decide, by decide⟩ (by omega) (by show _ < 520; omega) (hr15.2.1.1) ?_
                refine ad_bipush dX8_edits_104 rfl ?_
                refine ad_icmp_ne 116 dX8_edits_106 (by decide) (by omega) (by omega) (fun h106 => ?_) (fun h106 => ?_)
                · skip
                  obtain ⟨pn, rfl⟩ : ∃ pn : Nat, p = (pn : Int) := ⟨p.toNat, by omega⟩
                  refine ad_aload_n dX8_edits_116 rfl ?_
                  refine ad_iload_n dX8_edits_117 rfl ?_
                  refine ad_iload_n dX8_edits_118 rfl ?_
                  refine ad_iload_n dX8_edits_119 rfl ?_
                  refine ad_cv3q rfl cl_X8_129 dX8_edits_120 (c_X8_edited hr15 hw (v := vn) (pp := pn) (y := y) (by omega) vH (by omega) (by omega) (by omega) (by omega) (by omega)) (by omega) (by show _ < 1; omega) (Nat.le_of_ble_eq_true rfl) (fun x120 s120 q120 => ?_)
                  obtain ⟨rfl, f120, r120⟩ := q120
                  exact ad_reti dX8_edits_123 rfl (by
                    have e : ad_m_edits C (vn : Int) (pn : Int) y = ((ad_aC (ad_cA C) : Int), ad_sA C (ad_add (ad_cA C) (ad_edl (ad_aL (ad_cA C) vn) pn y) (vn : Int) (-1))) := by
                      unfold ad_m_edits
                      rw [if_neg (fun z => z h5), if_neg (show ¬ ((pn : Int) < 0 ∨ ((ad_aL (ad_cA C) (vn : Int).toNat).length : Int) < (pn : Int)) by rw [Int.toNat_natCast]; omega), if_neg (show ¬ (y < 0 ∨ 8 < y) by omega), if_neg (show ¬ (y = 8 ∧ ((ad_aL (ad_cA C) (vn : Int).toNat).length = 1 ∨ (pn : Int) = ((ad_aL (ad_cA C) (vn : Int).toNat).length : Int))) by rw [Int.toNat_natCast]; omega), if_neg (by omega)]; rfl
                    rw [e]
                    exact ⟨rfl, ad_c8_now hC15 (f120.mono (by decide) (by decide)) r120 (ad_wA_add hw (by omega) (ad_edl_ok vX (by omega) (by omega) (by omega) (by omega)) (by omega) (by omega)), (ad_f8_2 f15 f120 (by decide) (by decide) (by decide) (by decide))⟩)
                · show ad_R _ _ _ _ 109 _ _ _
                  refine ad_aload_n dX8_edits_109 rfl ?_
                  refine ad_bipush dX8_edits_110 rfl ?_
                  refine ad_cv1q rfl cl_X8_51 dX8_edits_112 (c_X8_noC hC15 (by decide)) (by omega) (by show _ < 1; omega) (Nat.le_of_ble_eq_true rfl) (fun x112 s112 q112 => ?_)
                  obtain ⟨rfl, c112, f112⟩ := q112
                  exact ad_reti dX8_edits_115 rfl (by
                    have e : ad_m_edits C (vn : Int) p y = ad_no C 6 := by
                      unfold ad_m_edits
                      rw [if_neg (fun z => z h5), if_neg (show ¬ (p < 0 ∨ ((ad_aL (ad_cA C) (vn : Int).toNat).length : Int) < p) by rw [Int.toNat_natCast]; omega), if_neg (show ¬ (y < 0 ∨ 8 < y) by omega), if_neg (show ¬ (y = 8 ∧ ((ad_aL (ad_cA C) (vn : Int).toNat).length = 1 ∨ p = ((ad_aL (ad_cA C) (vn : Int).toNat).length : Int))) by rw [Int.toNat_natCast]; omega), if_pos (by omega)]
                    rw [e]
                    exact ⟨rfl, c112, (ad_f8_2 f15 f112 (by decide) (by decide) (by decide) (by decide))⟩)
              · show ad_R _ _ _ _ 90 _ _ _
                refine ad_iload_n dX8_edits_90 rfl ?_
                refine ad_bipush dX8_edits_91 rfl ?_
                refine ad_icmp_lt 109 dX8_edits_93 (by decide) (by omega) (by omega) (fun h93 => ?_) (fun h93 => ?_)
                · skip
                  refine ad_aload_n dX8_edits_109 rfl ?_
                  refine ad_bipush dX8_edits_110 rfl ?_
                  refine ad_cv1q rfl cl_X8_51 dX8_edits_112 (c_X8_noC hC15 (by decide)) (by omega) (by show _ < 1; omega) (Nat.le_of_ble_eq_true rfl) (fun x112 s112 q112 => ?_)
                  obtain ⟨rfl, c112, f112⟩ := q112
                  exact ad_reti dX8_edits_115 rfl (by
                    have e : ad_m_edits C (vn : Int) p y = ad_no C 6 := by
                      unfold ad_m_edits
                      rw [if_neg (fun z => z h5), if_neg (show ¬ (p < 0 ∨ ((ad_aL (ad_cA C) (vn : Int).toNat).length : Int) < p) by rw [Int.toNat_natCast]; omega), if_neg (show ¬ (y < 0 ∨ 8 < y) by omega), if_neg (show ¬ (y = 8 ∧ ((ad_aL (ad_cA C) (vn : Int).toNat).length = 1 ∨ p = ((ad_aL (ad_cA C) (vn : Int).toNat).length : Int))) by rw [Int.toNat_natCast]; omega), if_pos (by omega)]
                    rw [e]
                    exact ⟨rfl, c112, (ad_f8_2 f15 f112 (by decide) (by decide) (by decide) (by decide))⟩)
                · show ad_R _ _ _ _ 96 _ _ _
                  refine ad_aload_n dX8_edits_96 rfl ?_
                  refine gf_X8_9 rfl dX8_edits_97 ?_
                  refine ad_sipush dX8_edits_100 rfl ?_
                  refine ad_ialj (500) dX8_edits_103 (by decide) ⟨by decide, by decide⟩ (by omega) (by show _ < 520; omega) (hr15.2.1.1) ?_
                  refine ad_bipush dX8_edits_104 rfl ?_
                  refine ad_icmp_ne 116 dX8_edits_106 (by decide) (by omega) (by omega) (fun h106 => ?_) (fun h106 => ?_)
                  · skip
                    obtain ⟨pn, rfl⟩ : ∃ pn : Nat, p = (pn : Int) := ⟨p.toNat, by omega⟩
                    refine ad_aload_n dX8_edits_116 rfl ?_
                    refine ad_iload_n dX8_edits_117 rfl ?_
                    refine ad_iload_n dX8_edits_118 rfl ?_
                    refine ad_iload_n dX8_edits_119 rfl ?_
                    refine ad_cv3q rfl cl_X8_129 dX8_edits_120 (c_X8_edited hr15 hw (v := vn) (pp := pn) (y := y) (by omega) vH (by omega) (by omega) (by omega) (by omega) (by omega)) (by omega) (by show _ < 1; omega) (Nat.le_of_ble_eq_true rfl) (fun x120 s120 q120 => ?_)
                    obtain ⟨rfl, f120, r120⟩ := q120
                    exact ad_reti dX8_edits_123 rfl (by
                      have e : ad_m_edits C (vn : Int) (pn : Int) y = ((ad_aC (ad_cA C) : Int), ad_sA C (ad_add (ad_cA C) (ad_edl (ad_aL (ad_cA C) vn) pn y) (vn : Int) (-1))) := by
                        unfold ad_m_edits
                        rw [if_neg (fun z => z h5), if_neg (show ¬ ((pn : Int) < 0 ∨ ((ad_aL (ad_cA C) (vn : Int).toNat).length : Int) < (pn : Int)) by rw [Int.toNat_natCast]; omega), if_neg (show ¬ (y < 0 ∨ 8 < y) by omega), if_neg (show ¬ (y = 8 ∧ ((ad_aL (ad_cA C) (vn : Int).toNat).length = 1 ∨ (pn : Int) = ((ad_aL (ad_cA C) (vn : Int).toNat).length : Int))) by rw [Int.toNat_natCast]; omega), if_neg (by omega)]; rfl
                      rw [e]
                      exact ⟨rfl, ad_c8_now hC15 (f120.mono (by decide) (by decide)) r120 (ad_wA_add hw (by omega) (ad_edl_ok vX (by omega) (by omega) (by omega) (by omega)) (by omega) (by omega)), (ad_f8_2 f15 f120 (by decide) (by decide) (by decide) (by decide))⟩)
                  · show ad_R _ _ _ _ 109 _ _ _
                    refine ad_aload_n dX8_edits_109 rfl ?_
                    refine ad_bipush dX8_edits_110 rfl ?_
                    refine ad_cv1q rfl cl_X8_51 dX8_edits_112 (c_X8_noC hC15 (by decide)) (by omega) (by show _ < 1; omega) (Nat.le_of_ble_eq_true rfl) (fun x112 s112 q112 => ?_)
                    obtain ⟨rfl, c112, f112⟩ := q112
                    exact ad_reti dX8_edits_115 rfl (by
                      have e : ad_m_edits C (vn : Int) p y = ad_no C 6 := by
                        unfold ad_m_edits
                        rw [if_neg (fun z => z h5), if_neg (show ¬ (p < 0 ∨ ((ad_aL (ad_cA C) (vn : Int).toNat).length : Int) < p) by rw [Int.toNat_natCast]; omega), if_neg (show ¬ (y < 0 ∨ 8 < y) by omega), if_neg (show ¬ (y = 8 ∧ ((ad_aL (ad_cA C) (vn : Int).toNat).length = 1 ∨ p = ((ad_aL (ad_cA C) (vn : Int).toNat).length : Int))) by rw [Int.toNat_natCast]; omega), if_pos (by omega)]
                      rw [e]
                      exact ⟨rfl, c112, (ad_f8_2 f15 f112 (by decide) (by decide) (by decide) (by decide))⟩)
            · show ad_R _ _ _ _ 77 _ _ _
              refine ad_aload_n dX8_edits_77 rfl ?_
              refine ad_bipush dX8_edits_78 rfl ?_
              refine ad_cv1q rfl cl_X8_51 dX8_edits_80 (c_X8_noC hC15 (by decide)) (by omega) (by show _ < 1; omega) (Nat.le_of_ble_eq_true rfl) (fun x80 s80 q80 => ?_)
              obtain ⟨rfl, c80, f80⟩ := q80
              exact ad_reti dX8_edits_83 rfl (by
                have e : ad_m_edits C (vn : Int) p y = ad_no C 3 := by
                  unfold ad_m_edits
                  rw [if_neg (fun z => z h5), if_neg (show ¬ (p < 0 ∨ ((ad_aL (ad_cA C) (vn : Int).toNat).length : Int) < p) by rw [Int.toNat_natCast]; omega), if_neg (show ¬ (y < 0 ∨ 8 < y) by omega), if_pos (show y = 8 ∧ ((ad_aL (ad_cA C) (vn : Int).toNat).length = 1 ∨ p = ((ad_aL (ad_cA C) (vn : Int).toNat).length : Int)) by rw [Int.toNat_natCast]; omega)]
                rw [e]
                exact ⟨rfl, c80, (ad_f8_2 f15 f80 (by decide) (by decide) (by decide) (by decide))⟩)
      · show ad_R _ _ _ _ 52 _ _ _
        refine ad_aload_n dX8_edits_52 rfl ?_
        refine ad_bipush dX8_edits_53 rfl ?_
        refine ad_cv1q rfl cl_X8_51 dX8_edits_55 (c_X8_noC hC15 (by decide)) (by omega) (by show _ < 1; omega) (Nat.le_of_ble_eq_true rfl) (fun x55 s55 q55 => ?_)
        obtain ⟨rfl, c55, f55⟩ := q55
        exact ad_reti dX8_edits_58 rfl (by
          have e : ad_m_edits C (vn : Int) p y = ad_no C 2 := by
            unfold ad_m_edits
            rw [if_neg (fun z => z h5), if_neg (show ¬ (p < 0 ∨ ((ad_aL (ad_cA C) (vn : Int).toNat).length : Int) < p) by rw [Int.toNat_natCast]; omega), if_pos (by omega)]
          rw [e]
          exact ⟨rfl, c55, (ad_f8_2 f15 f55 (by decide) (by decide) (by decide) (by decide))⟩)
    · show ad_R _ _ _ _ 36 _ _ _
      refine ad_aload_n dX8_edits_36 rfl ?_
      refine ad_iconst dX8_edits_37 ?_
      refine ad_cv1q rfl cl_X8_51 dX8_edits_38 (c_X8_noC hC15 (by decide)) (by omega) (by show _ < 1; omega) (Nat.le_of_ble_eq_true rfl) (fun x38 s38 q38 => ?_)
      obtain ⟨rfl, c38, f38⟩ := q38
      exact ad_reti dX8_edits_41 rfl (by
        have e : ad_m_edits C (vn : Int) p y = ad_no C 1 := by
          unfold ad_m_edits
          rw [if_neg (fun z => z h5), if_pos (show p < 0 ∨ ((ad_aL (ad_cA C) (vn : Int).toNat).length : Int) < p by rw [Int.toNat_natCast]; omega)]
        rw [e]
        exact ⟨rfl, c38, (ad_f8_2 f15 f38 (by decide) (by decide) (by decide) (by decide))⟩)
  · show ad_R _ _ _ _ 8 _ _ _
    refine ad_aload_n dX8_edits_8 rfl ?_
    refine ad_iconst dX8_edits_9 ?_
    refine ad_cv1q rfl cl_X8_51 dX8_edits_10 (c_X8_noC hC (by decide)) (by omega) (by show _ < 1; omega) (Nat.le_of_ble_eq_true rfl) (fun x10 s10 q10 => ?_)
    obtain ⟨rfl, c10, f10⟩ := q10
    exact ad_reti dX8_edits_13 rfl (by
      have e : ad_m_edits C v p y = ad_no C 1 := by
        unfold ad_m_edits
        (repeat' split) <;> first | with_reducible rfl | contradiction | (exfalso; omega) | rfl | (exfalso; simp_all; omega) | (simp_all; done)
      rw [e]
      exact ⟨rfl, c10, (f10.mono (by decide) (by decide))⟩)
theorem c_X8_merges {g : ad_G} {d : Nat} {σ : ad_Mem} {C : ad_C7} {a b : Int} (ha : ad_rng a) (hb : ad_rng b) (hC : ad_c8 σ C) (h16d : 16 ≤ d) : ad_Q g mX8_merges d [ad_rf g 8 0, ad_iv a, ad_iv b] σ (fun x m => ad_an8 σ x m (ad_m_merges C a b)) := by
  have hC0 := hC
  obtain ⟨a1, a2, a3, a4, a5, a6⟩ := hC0
  have hr := a1.1
  have hw := a1.2
  refine ad_M1 (k := 2) rfl (by simp [Value.category]) rfl (Nat.le_of_ble_eq_true rfl) ?_
  simp only [List.map_cons, List.map_nil, List.replicate, List.cons_append, List.nil_append]
  refine ad_aload_n dX8_merges_0 rfl ?_
  refine ad_iload_n dX8_merges_1 rfl ?_
  refine ad_cv1f rfl cl_X8_59 dX8_merges_2 (c_X8_isThere hr (by omega) (by omega)) (by omega) (by show _ < 1; omega) (Nat.le_of_ble_eq_true rfl) ?_
  refine ad_ifp_eq 16 dX8_merges_5 (by decide) (fun h5 => ?_) (fun h5 => ?_)
  · skip
    refine ad_aload_n dX8_merges_16 rfl ?_
    refine ad_iconst dX8_merges_17 ?_
    refine ad_cv1q rfl cl_X8_51 dX8_merges_18 (c_X8_noC hC (by decide)) (by omega) (by show _ < 1; omega) (Nat.le_of_ble_eq_true rfl) (fun x18 s18 q18 => ?_)
    obtain ⟨rfl, c18, f18⟩ := q18
    exact ad_reti dX8_merges_21 rfl (by
      have e : ad_m_merges C a b = ad_no C 1 := by
        unfold ad_m_merges
        (repeat' split) <;> first | with_reducible rfl | contradiction | (exfalso; omega) | rfl | (exfalso; simp_all; omega) | (simp_all; done)
      rw [e]
      exact ⟨rfl, c18, (f18.mono (by decide) (by decide))⟩)
  · show ad_R _ _ _ _ 8 _ _ _
    refine ad_aload_n dX8_merges_8 rfl ?_
    refine ad_iload_n dX8_merges_9 rfl ?_
    refine ad_cv1f rfl cl_X8_59 dX8_merges_10 (c_X8_isThere hr (by omega) (by omega)) (by omega) (by show _ < 1; omega) (Nat.le_of_ble_eq_true rfl) ?_
    refine ad_ifp_ne 22 dX8_merges_13 (by decide) (fun h13 => ?_) (fun h13 => ?_)
    · skip
      obtain ⟨an, rfl⟩ : ∃ zz : Nat, a = (zz : Int) := ⟨a.toNat, by omega⟩
      have aH : ad_aH (ad_cA C) an = true := h5.2
      have al := hr.1.2 an aH
      have a10 : an < 10 := by have := hr.1.1; omega
      obtain ⟨bn, rfl⟩ : ∃ zz : Nat, b = (zz : Int) := ⟨b.toNat, by omega⟩
      have bH : ad_aH (ad_cA C) bn = true := h13.2
      have bl := hr.1.2 bn bH
      have b10 : bn < 10 := by have := hr.1.1; omega
      have hc10 := hr.1.1
      refine ad_iload_n dX8_merges_22 rfl ?_
      refine ad_iload_n dX8_merges_23 rfl ?_
      refine ad_icmp_ne 34 dX8_merges_24 (by decide) (by omega) (by omega) (fun h24 => ?_) (fun h24 => ?_)
      · skip
        refine ad_aload_n dX8_merges_34 rfl ?_
        refine gf_X8_9 rfl dX8_merges_35 ?_
        refine ad_sipush dX8_merges_38 rfl ?_
        refine ad_ialj (500) dX8_merges_41 (by decide) ⟨by decide, by decide⟩ (by omega) (by show _ < 520; omega) (hr.2.1.1) ?_
        refine ad_bipush dX8_merges_42 rfl ?_
        refine ad_icmp_ne 54 dX8_merges_44 (by decide) (by omega) (by omega) (fun h44 => ?_) (fun h44 => ?_)
        · skip
          refine ad_aload_n dX8_merges_54 rfl ?_
          refine ad_cv0v rfl cl_X8_84 dX8_merges_55 (c_X8_restores hr hw (by omega)) (by omega) (by show _ < 1; omega) (Nat.le_of_ble_eq_true rfl) (fun s55 q55 => ?_)
          obtain ⟨f55, g55⟩ := q55
          have hC55 := ad_c8_fr hC (f55.mono (by decide) (by decide))
          have hr55 := hC55.1.1
          have hcc : ad_aC (ad_cA C) < 10 := by have := hr.1.1; omega
          have aX := (hw.2.2.1 an aH).1
          have hl : ∀ (n : Nat) (i : Nat) (m : ad_Mem), (i ≤ (ad_aL (ad_cA C) an).length) → (ad_f8 [21] [] s55 m) → (ad_ra (m 21 0) (ad_nv (ad_cA C) ((ad_aL (ad_cA C) an).take i) 0 (an : Int) (bn : Int))) → ((((ad_aL (ad_cA C) an).length - i : Nat) : Int)).toNat ≤ n → ad_R g mX8_merges d (ad_ZQ mX8_merges (fun x m => ad_an8 σ x m (ad_m_merges C (an : Int) (bn : Int)))) 68 [some (ad_rf g 8 0), some (ad_iv (an : Int)), some (ad_iv (bn : Int)), some (ad_iv (ad_aC (ad_cA C) : Int)), some (ad_iv (i : Int))] [] m := by
            intro n
            induction n with
            | zero =>
              intro i m hi hf hm hn
              refine ad_iload dX8_merges_68 rfl ?_
              refine ad_aload_n dX8_merges_70 rfl ?_
              refine gf_X8_34 rfl dX8_merges_71 ?_
              refine ad_iload_n dX8_merges_74 rfl ?_
              refine ad_ialj (an) dX8_merges_75 (by decide) ⟨by decide, by decide⟩ (by omega) (by show _ < 10; omega) (((congrFun (hf.1 29 0 (by decide) (by decide)) _).trans ((g55.1 an a10).trans (if_pos aH)))) ?_
              refine ad_icmp_ge 102 dX8_merges_76 (by decide) (by omega) (by omega) (fun h76 => ?_) (fun h76 => ?_)
              · skip
                have hm2 := hm
                rw [List.take_of_length_le (by omega)] at hm2
                refine ad_aload_n dX8_merges_102 rfl ?_
                refine ad_iload_n dX8_merges_103 rfl ?_
                refine ad_cv1q rfl cl_X8_126 dX8_merges_104 (c_X8_hashed hw hcc hm2 aX (by omega) (by omega) (by omega)) (by omega) (by show _ < 1; omega) (Nat.le_of_ble_eq_true rfl) (fun x104 s104 q104 => ?_)
                obtain ⟨rfl, f104, r104⟩ := q104
                exact ad_reti dX8_merges_107 rfl (by
                      have e : ad_m_merges C (an : Int) (bn : Int) = ((ad_aC (ad_cA C) : Int), ad_sA C (ad_add (ad_cA C) (ad_aL (ad_cA C) an) (an : Int) (bn : Int))) := by
                        unfold ad_m_merges
                        rw [if_neg (fun z => z.elim (fun z => z h5) (fun z => z h13)), if_neg (by omega), if_neg (by omega)]; rfl
                      rw [e]
                      refine ⟨rfl, ad_c8_now hC55 ((hf.mono (by decide) (by decide)).trans (f104.mono (by decide) (by decide))) r104 (ad_wA_add hw hcc aX (by omega) (by omega)), (f55.mono (by decide) (by decide)).trans ((hf.mono (by decide) (by decide)).trans (f104.mono (by decide) (by decide)))⟩)
              · show ad_R _ _ _ _ 79 _ _ _
                have htl : (ad_aL (ad_cA C) an).take (i + 1) = (ad_aL (ad_cA C) an).take i ++ [(ad_aL (ad_cA C) an).getD i 0] := by rw [List.take_succ, List.getElem?_eq_getElem (by omega), List.getD_eq_getElem?_getD, List.getElem?_eq_getElem (by omega)]; rfl
                have hlr := ad_gD_rng aX.2.2 i
                exfalso; omega
            | succ n ih =>
              intro i m hi hf hm hn
              refine ad_iload dX8_merges_68 rfl ?_
              refine ad_aload_n dX8_merges_70 rfl ?_
              refine gf_X8_34 rfl dX8_merges_71 ?_
              refine ad_iload_n dX8_merges_74 rfl ?_
              refine ad_ialj (an) dX8_merges_75 (by decide) ⟨by decide, by decide⟩ (by omega) (by show _ < 10; omega) (((congrFun (hf.1 29 0 (by decide) (by decide)) _).trans ((g55.1 an a10).trans (if_pos aH)))) ?_
              refine ad_icmp_ge 102 dX8_merges_76 (by decide) (by omega) (by omega) (fun h76 => ?_) (fun h76 => ?_)
              · skip
                have hm2 := hm
                rw [List.take_of_length_le (by omega)] at hm2
                refine ad_aload_n dX8_merges_102 rfl ?_
                refine ad_iload_n dX8_merges_103 rfl ?_
                refine ad_cv1q rfl cl_X8_126 dX8_merges_104 (c_X8_hashed hw hcc hm2 aX (by omega) (by omega) (by omega)) (by omega) (by show _ < 1; omega) (Nat.le_of_ble_eq_true rfl) (fun x104 s104 q104 => ?_)
                obtain ⟨rfl, f104, r104⟩ := q104
                exact ad_reti dX8_merges_107 rfl (by
                      have e : ad_m_merges C (an : Int) (bn : Int) = ((ad_aC (ad_cA C) : Int), ad_sA C (ad_add (ad_cA C) (ad_aL (ad_cA C) an) (an : Int) (bn : Int))) := by
                        unfold ad_m_merges
                        rw [if_neg (fun z => z.elim (fun z => z h5) (fun z => z h13)), if_neg (by omega), if_neg (by omega)]; rfl
                      rw [e]
                      refine ⟨rfl, ad_c8_now hC55 ((hf.mono (by decide) (by decide)).trans (f104.mono (by decide) (by decide))) r104 (ad_wA_add hw hcc aX (by omega) (by omega)), (f55.mono (by decide) (by decide)).trans ((hf.mono (by decide) (by decide)).trans (f104.mono (by decide) (by decide)))⟩)
              · show ad_R _ _ _ _ 79 _ _ _
                have htl : (ad_aL (ad_cA C) an).take (i + 1) = (ad_aL (ad_cA C) an).take i ++ [(ad_aL (ad_cA C) an).getD i 0] := by rw [List.take_succ, List.getElem?_eq_getElem (by omega), List.getD_eq_getElem?_getD, List.getElem?_eq_getElem (by omega)]; rfl
                have hlr := ad_gD_rng aX.2.2 i
                refine ad_aload_n dX8_merges_79 rfl ?_
                refine ad_iload_n dX8_merges_80 rfl ?_
                refine ad_aload_n dX8_merges_81 rfl ?_
                refine gf_X8_31 rfl dX8_merges_82 ?_
                refine ad_bipush dX8_merges_85 rfl ?_
                refine ad_iload_n dX8_merges_87 rfl ?_
                refine ad_imul dX8_merges_88 ?_
                refine ad_iload dX8_merges_89 rfl ?_
                refine ad_iadd dX8_merges_91 ?_
                refine ad_ialj (12 * an + i) dX8_merges_92 (by decide) ⟨by decide, by decide⟩ (by omega) (by show _ < 120; omega) (((congrFun (hf.1 28 0 (by decide) (by decide)) _).trans ((g55.2 an a10 aH).2 i (by omega)))) ?_
                refine ad_cv2v rfl cl_X8_122 dX8_merges_93 (c_X8_adds hcc hm (by rw [List.length_take]; omega) (by constructor <;> omega)) (by omega) (by show _ < 1; omega) (Nat.le_of_ble_eq_true rfl) (fun s93 q93 => ?_)
                refine ad_iinc dX8_merges_96 rfl (by decide) rfl (by dsimp only [ad_set]) ?_
                refine ad_goto 68 dX8_merges_99 (by decide) ?_
                exact ih (i + 1) _ (by omega) (hf.trans q93.1) (by rw [htl]; exact q93.2) (by omega)
          refine ad_aload_n dX8_merges_58 rfl ?_
          refine ad_iload_n dX8_merges_59 rfl ?_
          refine ad_iload_n dX8_merges_60 rfl ?_
          refine ad_cv2q rfl cl_X8_119 dX8_merges_61 ((by
                have hz := c_X8_comes (g := g) (d := d - 1) (p := (an : Int)) (q := (bn : Int)) hcc hr55 (by omega) (by omega)
                rw [ad_lk_ge (by omega), ad_lk_ge (by omega)] at hz
                exact hz)) (by omega) (by show _ < 1; omega) (Nat.le_of_ble_eq_true rfl) (fun x61 s61 q61 => ?_)
          obtain ⟨rfl, f61, r61⟩ := q61
          refine ad_istore_n dX8_merges_64 (by decide) rfl (by dsimp only [ad_set]) ?_
          refine ad_iconst dX8_merges_65 ?_
          refine ad_istore dX8_merges_66 (by decide) rfl (by dsimp only [ad_set]) ?_
          exact hl _ 0 _ (by omega) f61 (by rw [List.take_zero]; exact r61) (Nat.le_refl _)
        · show ad_R _ _ _ _ 47 _ _ _
          refine ad_aload_n dX8_merges_47 rfl ?_
          refine ad_bipush dX8_merges_48 rfl ?_
          refine ad_cv1q rfl cl_X8_51 dX8_merges_50 (c_X8_noC hC (by decide)) (by omega) (by show _ < 1; omega) (Nat.le_of_ble_eq_true rfl) (fun x50 s50 q50 => ?_)
          obtain ⟨rfl, c50, f50⟩ := q50
          exact ad_reti dX8_merges_53 rfl (by
            have e : ad_m_merges C (an : Int) (bn : Int) = ad_no C 6 := by
              unfold ad_m_merges
              rw [if_neg (fun z => z.elim (fun z => z h5) (fun z => z h13)), if_neg (by omega), if_pos (by omega)]
            rw [e]
            exact ⟨rfl, c50, (f50.mono (by decide) (by decide))⟩)
      · show ad_R _ _ _ _ 27 _ _ _
        refine ad_aload_n dX8_merges_27 rfl ?_
        refine ad_bipush dX8_merges_28 rfl ?_
        refine ad_cv1q rfl cl_X8_51 dX8_merges_30 (c_X8_noC hC (by decide)) (by omega) (by show _ < 1; omega) (Nat.le_of_ble_eq_true rfl) (fun x30 s30 q30 => ?_)
        obtain ⟨rfl, c30, f30⟩ := q30
        exact ad_reti dX8_merges_33 rfl (by
          have e : ad_m_merges C (an : Int) (bn : Int) = ad_no C 3 := by
            unfold ad_m_merges
            rw [if_neg (fun z => z.elim (fun z => z h5) (fun z => z h13)), if_pos (by omega)]
          rw [e]
          exact ⟨rfl, c30, (f30.mono (by decide) (by decide))⟩)
    · show ad_R _ _ _ _ 16 _ _ _
      refine ad_aload_n dX8_merges_16 rfl ?_
      refine ad_iconst dX8_merges_17 ?_
      refine ad_cv1q rfl cl_X8_51 dX8_merges_18 (c_X8_noC hC (by decide)) (by omega) (by show _ < 1; omega) (Nat.le_of_ble_eq_true rfl) (fun x18 s18 q18 => ?_)
      obtain ⟨rfl, c18, f18⟩ := q18
      exact ad_reti dX8_merges_21 rfl (by
        have e : ad_m_merges C a b = ad_no C 1 := by
          unfold ad_m_merges
          (repeat' split) <;> first | with_reducible rfl | contradiction | (exfalso; omega) | rfl | (exfalso; simp_all; omega) | (simp_all; done)
        rw [e]
        exact ⟨rfl, c18, (f18.mono (by decide) (by decide))⟩)
/-- the first place from k on that is not so; -9: none -/
def ad_jk (R l : List Int) (k : Nat) : Int := if R.drop k = l.drop k then -9 else ((k + ad_cpl (R.drop k) (l.drop k) : Nat) : Int)
theorem ad_dropD {l : List Int} {k : Nat} (h : k < l.length) : l.drop k = l.getD k 0 :: l.drop (k + 1) := by rw [List.drop_eq_getElem_cons h, List.getD_eq_getElem?_getD, List.getElem?_eq_getElem h]; rfl
theorem ad_jk_end (R l : List Int) : ad_jk R l R.length = if R.length < l.length then (R.length : Int) else -9 := by
  unfold ad_jk
  rw [List.drop_length]
  by_cases h : R.length < l.length
  · rw [if_pos h, if_neg (fun z => by rw [ad_dropD h] at z; cases z), ad_cpl_0l]; rfl
  · rw [if_neg h, if_pos (by rw [List.drop_eq_nil_of_le (by omega)])]
theorem ad_jk_out {R l : List Int} {k : Nat} (hk : k < R.length) (h : l.length ≤ k) : ad_jk R l k = (k : Int) := by
  unfold ad_jk
  rw [ad_dropD hk, List.drop_eq_nil_of_le h, if_neg (by simp), ad_cpl_0r]; rfl
theorem ad_jk_ne {R l : List Int} {k : Nat} (hk : k < R.length) (h : k < l.length) (hn : R.getD k 0 ≠ l.getD k 0) : ad_jk R l k = (k : Int) := by
  unfold ad_jk
  rw [ad_dropD hk, ad_dropD h, if_neg (fun z => hn (List.cons.inj z).1), ad_cpl_n hn]; rfl
theorem ad_jk_eq {R l : List Int} {k : Nat} (hk : k < R.length) (h : k < l.length) (hn : R.getD k 0 = l.getD k 0) : ad_jk R l k = ad_jk R l (k + 1) := by
  unfold ad_jk
  rw [ad_dropD hk, ad_dropD h, ad_cpl_s hn, hn]
  by_cases hz : R.drop (k + 1) = l.drop (k + 1)
  · rw [if_pos (by rw [hz]), if_pos hz]
  · rw [if_neg (fun z => hz (List.cons.inj z).2), if_neg hz]
    congr 1; omega
theorem c_X8_judge {g : ad_G} {d : Nat} {σ : ad_Mem} {C : ad_C7} {v : Int} (hv : ad_rng v) (hC : ad_c8 σ C) (h16d : 16 ≤ d) : ad_Q g mX8_judge d [ad_rf g 8 0, ad_iv v] σ (fun x m => ad_an8 σ x m (ad_m_judge C v)) := by
  have hC0 := hC
  obtain ⟨a1, a2, a3, a4, a5, a6⟩ := hC0
  have hr := a1.1
  have hw := a1.2
  refine ad_M1 (k := 2) rfl (by simp [Value.category]) rfl (Nat.le_of_ble_eq_true rfl) ?_
  simp only [List.map_cons, List.map_nil, List.replicate, List.cons_append, List.nil_append]
  refine ad_aload_n dX8_judge_0 rfl ?_
  refine ad_iload_n dX8_judge_1 rfl ?_
  refine ad_cv1f rfl cl_X8_59 dX8_judge_2 (c_X8_isThere hr (by omega) (by omega)) (by omega) (by show _ < 1; omega) (Nat.le_of_ble_eq_true rfl) ?_
  refine ad_ifp_ne 14 dX8_judge_5 (by decide) (fun h5 => ?_) (fun h5 => ?_)
  · skip
    obtain ⟨vn, rfl⟩ : ∃ zz : Nat, v = (zz : Int) := ⟨v.toNat, by omega⟩
    have vH : ad_aH (ad_cA C) vn = true := h5.2
    have vl := hr.1.2 vn vH
    have v10 : vn < 10 := by have := hr.1.1; omega
    refine ad_aload_n dX8_judge_14 rfl ?_
    refine ad_cv0v rfl cl_X8_84 dX8_judge_15 (c_X8_restores hr hw (by omega)) (by omega) (by show _ < 1; omega) (Nat.le_of_ble_eq_true rfl) (fun s15 q15 => ?_)
    obtain ⟨f15, g15⟩ := q15
    have hC15 := ad_c8_fr hC (f15.mono (by decide) (by decide))
    have hr15 := hC15.1.1
    have vX := (hw.2.2.1 vn vH).1
    have hR5 := hC15.2.2.2.2.1
    have hl : ∀ (n : Nat) (k : Nat) (z : Int), (k ≤ (ad_cR C).length) → (z = ad_jk (ad_cR C) (ad_aL (ad_cA C) vn) k) → (((k : Nat) : Int)).toNat ≤ n → ad_R g mX8_judge d (ad_ZQ mX8_judge (fun x m => ad_an8 σ x m (ad_m_judge C (vn : Int)))) 48 [some (ad_rf g 8 0), some (ad_iv (vn : Int)), some (ad_iv z), some (ad_iv ((k : Int) - 1))] [] s15 := by
      intro n
      induction n with
      | zero =>
        intro k z hk hz hn
        refine ad_iload_n dX8_judge_48 rfl ?_
        refine ad_if_lt 94 dX8_judge_49 (by decide) (by omega) (fun h49 => ?_) (fun h49 => ?_)
        · skip
          refine ad_aload_n dX8_judge_94 rfl ?_
          refine ad_iconst dX8_judge_95 ?_
          refine pf_X8_212 rfl dX8_judge_96 ?_
          refine ad_iload_n dX8_judge_99 rfl ?_
          exact ad_reti dX8_judge_100 rfl (by
                have e : ad_m_judge C (vn : Int) = (ad_jk (ad_cR C) (ad_aL (ad_cA C) vn) 0, ad_sR C []) := by
                  unfold ad_m_judge ad_jk
                  rw [if_neg (fun z => z h5), List.drop_zero, List.drop_zero, Nat.zero_add]; rfl
                rw [e, hz, show k = 0 by omega]
                exact ⟨rfl, ad_c8_R (S := []) hC15 (ad_f8.sj (by decide)) ⟨by rw [ad_st_r1, ad_u1_eq]; rfl, by simp, fun i hi => absurd hi (Nat.not_lt_zero i), fun x hx => by cases hx⟩, ad_f8_2 f15 (ad_f8.sj (ks := []) (js := [14]) (by decide)) (by decide) (by decide) (by decide) (by decide)⟩)
        · show ad_R _ _ _ _ 52 _ _ _
          have hrr := ad_gD_rng hC15.2.2.2.2.1.2.2.2 (k - 1)
          have hll := ad_gD_rng vX.2.2 (k - 1)
          exfalso; omega
      | succ n ih =>
        intro k z hk hz hn
        refine ad_iload_n dX8_judge_48 rfl ?_
        refine ad_if_lt 94 dX8_judge_49 (by decide) (by omega) (fun h49 => ?_) (fun h49 => ?_)
        · skip
          refine ad_aload_n dX8_judge_94 rfl ?_
          refine ad_iconst dX8_judge_95 ?_
          refine pf_X8_212 rfl dX8_judge_96 ?_
          refine ad_iload_n dX8_judge_99 rfl ?_
          exact ad_reti dX8_judge_100 rfl (by
                have e : ad_m_judge C (vn : Int) = (ad_jk (ad_cR C) (ad_aL (ad_cA C) vn) 0, ad_sR C []) := by
                  unfold ad_m_judge ad_jk
                  rw [if_neg (fun z => z h5), List.drop_zero, List.drop_zero, Nat.zero_add]; rfl
                rw [e, hz, show k = 0 by omega]
                exact ⟨rfl, ad_c8_R (S := []) hC15 (ad_f8.sj (by decide)) ⟨by rw [ad_st_r1, ad_u1_eq]; rfl, by simp, fun i hi => absurd hi (Nat.not_lt_zero i), fun x hx => by cases hx⟩, ad_f8_2 f15 (ad_f8.sj (ks := []) (js := [14]) (by decide)) (by decide) (by decide) (by decide) (by decide)⟩)
        · show ad_R _ _ _ _ 52 _ _ _
          have hrr := ad_gD_rng hC15.2.2.2.2.1.2.2.2 (k - 1)
          have hll := ad_gD_rng vX.2.2 (k - 1)
          refine ad_iload_n dX8_judge_52 rfl ?_
          refine ad_aload_n dX8_judge_53 rfl ?_
          refine gf_X8_34 rfl dX8_judge_54 ?_
          refine ad_iload_n dX8_judge_57 rfl ?_
          refine ad_ialj (vn) dX8_judge_58 (by decide) ⟨by decide, by decide⟩ (by omega) (by show _ < 10; omega) (((g15.1 vn v10).trans (if_pos vH))) ?_
          refine ad_icmp_ge 82 dX8_judge_59 (by decide) (by omega) (by omega) (fun h59 => ?_) (fun h59 => ?_)
          · skip
            refine ad_iload_n dX8_judge_82 rfl ?_
            refine ad_goto 87 dX8_judge_83 (by decide) ?_
            refine ad_istore_n dX8_judge_87 (by decide) rfl (by dsimp only [ad_set]) ?_
            refine ad_iinc dX8_judge_88 rfl (by decide) rfl (by dsimp only [ad_set]) ?_
            refine ad_goto 48 dX8_judge_91 (by decide) ?_
            rw [show ((k : Int) - 1) + -1 = ((k - 1 : Nat) : Int) - 1 by omega]
            exact ih (k - 1) _ (by omega) (by rw [← show ((k - 1 : Nat) : Int) = (k : Int) - 1 by omega, ad_jk_out (by omega) (by omega)]) (by omega)
          · show ad_R _ _ _ _ 62 _ _ _
            refine ad_aload_n dX8_judge_62 rfl ?_
            refine gf_X8_28 rfl dX8_judge_63 ?_
            refine ad_iload_n dX8_judge_66 rfl ?_
            refine ad_ialj ((k - 1)) dX8_judge_67 (by decide) ⟨by decide, by decide⟩ (by omega) (by show _ < 12; omega) ((hC15.2.2.2.2.1.2.2.1 (k - 1) (by omega))) ?_
            refine ad_aload_n dX8_judge_68 rfl ?_
            refine gf_X8_31 rfl dX8_judge_69 ?_
            refine ad_bipush dX8_judge_72 rfl ?_
            refine ad_iload_n dX8_judge_74 rfl ?_
            refine ad_imul dX8_judge_75 ?_
            refine ad_iload_n dX8_judge_76 rfl ?_
            refine ad_iadd dX8_judge_77 ?_
            refine ad_ialj (12 * vn + (k - 1)) dX8_judge_78 (by decide) ⟨by decide, by decide⟩ (by omega) (by show _ < 120; omega) ((g15.2 vn v10 vH).2 (k - 1) (by omega)) ?_
            refine ad_icmp_eq 86 dX8_judge_79 (by decide) (by omega) (by omega) (fun h79 => ?_) (fun h79 => ?_)
            · skip
              refine ad_iload_n dX8_judge_86 rfl ?_
              refine ad_istore_n dX8_judge_87 (by decide) rfl (by dsimp only [ad_set]) ?_
              refine ad_iinc dX8_judge_88 rfl (by decide) rfl (by dsimp only [ad_set]) ?_
              refine ad_goto 48 dX8_judge_91 (by decide) ?_
              rw [show ((k : Int) - 1) + -1 = ((k - 1 : Nat) : Int) - 1 by omega]
              exact ih (k - 1) _ (by omega) (by rw [hz, ad_jk_eq (by omega) (by omega) h79, show k - 1 + 1 = k by omega]) (by omega)
            · show ad_R _ _ _ _ 82 _ _ _
              refine ad_iload_n dX8_judge_82 rfl ?_
              refine ad_goto 87 dX8_judge_83 (by decide) ?_
              refine ad_istore_n dX8_judge_87 (by decide) rfl (by dsimp only [ad_set]) ?_
              refine ad_iinc dX8_judge_88 rfl (by decide) rfl (by dsimp only [ad_set]) ?_
              refine ad_goto 48 dX8_judge_91 (by decide) ?_
              rw [show ((k : Int) - 1) + -1 = ((k - 1 : Nat) : Int) - 1 by omega]
              exact ih (k - 1) _ (by omega) (by rw [← show ((k - 1 : Nat) : Int) = (k : Int) - 1 by omega, ad_jk_ne (by omega) (by omega) h79]) (by omega)
    refine ad_aload_n dX8_judge_18 rfl ?_
    refine gf_X8_212 rfl dX8_judge_19 ?_
    rw [hR5.1]
    refine ad_aload_n dX8_judge_22 rfl ?_
    refine gf_X8_34 rfl dX8_judge_23 ?_
    refine ad_iload_n dX8_judge_26 rfl ?_
    refine ad_ialj (vn) dX8_judge_27 (by decide) ⟨by decide, by decide⟩ (by omega) (by show _ < 10; omega) (((g15.1 vn v10).trans (if_pos vH))) ?_
    refine ad_icmp_ge 38 dX8_judge_28 (by decide) (by omega) (by omega) (fun h28 => ?_) (fun h28 => ?_)
    · skip
      refine ad_bipush dX8_judge_38 rfl ?_
      refine ad_istore_n dX8_judge_40 (by decide) rfl (by dsimp only [ad_set]) ?_
      refine ad_aload_n dX8_judge_41 rfl ?_
      refine gf_X8_212 rfl dX8_judge_42 ?_
      rw [hR5.1]
      refine ad_iconst dX8_judge_45 ?_
      refine ad_isub dX8_judge_46 ?_
      refine ad_istore_n dX8_judge_47 (by decide) rfl (by dsimp only [ad_set]) ?_
      exact hl _ _ _ (Nat.le_refl _) (by rw [ad_jk_end, if_neg (by omega)]) (Nat.le_refl _)
    · show ad_R _ _ _ _ 31 _ _ _
      refine ad_aload_n dX8_judge_31 rfl ?_
      refine gf_X8_212 rfl dX8_judge_32 ?_
      rw [hR5.1]
      refine ad_goto 40 dX8_judge_35 (by decide) ?_
      refine ad_istore_n dX8_judge_40 (by decide) rfl (by dsimp only [ad_set]) ?_
      refine ad_aload_n dX8_judge_41 rfl ?_
      refine gf_X8_212 rfl dX8_judge_42 ?_
      rw [hR5.1]
      refine ad_iconst dX8_judge_45 ?_
      refine ad_isub dX8_judge_46 ?_
      refine ad_istore_n dX8_judge_47 (by decide) rfl (by dsimp only [ad_set]) ?_
      exact hl _ _ _ (Nat.le_refl _) (by rw [ad_jk_end, if_pos (by omega)]) (Nat.le_refl _)
  · show ad_R _ _ _ _ 8 _ _ _
    refine ad_aload_n dX8_judge_8 rfl ?_
    refine ad_iconst dX8_judge_9 ?_
    refine ad_cv1q rfl cl_X8_51 dX8_judge_10 (c_X8_noC hC (by decide)) (by omega) (by show _ < 1; omega) (Nat.le_of_ble_eq_true rfl) (fun x10 s10 q10 => ?_)
    obtain ⟨rfl, c10, f10⟩ := q10
    exact ad_reti dX8_judge_13 rfl (by
      have e : ad_m_judge C v = ad_no C 1 := by
        unfold ad_m_judge
        (repeat' split) <;> first | with_reducible rfl | contradiction | (exfalso; omega) | rfl | (exfalso; simp_all; omega) | (simp_all; done)
      rw [e]
      exact ⟨rfl, c10, (f10.mono (by decide) (by decide))⟩)
