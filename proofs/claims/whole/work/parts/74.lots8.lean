/-! ===== the reference: lots ===== -/
theorem ad_pp_bits0 {p : Nat → Bool} : ad_pp p 10 = 0 ↔ ad_bits p = 0 := by
  constructor
  · intro h
    rcases Nat.eq_zero_or_pos (ad_bits p) with h1 | h1
    · exact h1
    · have := ad_pp_bits (p := p) (by omega); omega
  · intro h
    rw [← ad_ones_bits, h]; decide +kernel
theorem c_X8_lots {g : ad_G} {d : Nat} {σ : ad_Mem} {C : ad_C7} {y z0 w : Int} (hy : ad_rng y) (hww : ad_rng w) (hC : ad_c8 σ C) (h16d : 16 ≤ d) : ad_Q g mX8_lots d [ad_rf g 8 0, ad_iv y, ad_iv z0, ad_iv w] σ (fun x m => ad_an8 σ x m (ad_m_lots C y z0 w)) := by
  have hC0 := hC
  obtain ⟨a1, a2, a3, a4, a5, a6⟩ := hC0
  have hr := a1.1
  have hw := a1.2
  refine ad_M1 (k := 6) rfl (by simp [Value.category]) rfl (Nat.le_of_ble_eq_true rfl) ?_
  simp only [List.map_cons, List.map_nil, List.replicate, List.cons_append, List.nil_append]
  refine ad_iload_n dX8_lots_0 rfl ?_
  refine ad_iconst dX8_lots_1 ?_
  refine ad_icmp_ge 12 dX8_lots_2 (by decide) (by omega) (by omega) (fun h2 => ?_) (fun h2 => ?_)
  · skip
    refine ad_iload_n dX8_lots_12 rfl ?_
    refine ad_bipush dX8_lots_13 rfl ?_
    refine ad_icmp_le 25 dX8_lots_15 (by decide) (by omega) (by omega) (fun h15 => ?_) (fun h15 => ?_)
    · skip
      refine ad_iload_n dX8_lots_25 rfl ?_
      refine ad_iconst dX8_lots_26 ?_
      refine ad_iconst dX8_lots_27 ?_
      refine ad_cs3f rfl cl_X8_55 dX8_lots_28 (c_X8_isIn (by omega) (by omega) (by omega)) (by omega) (Nat.le_of_ble_eq_true rfl) ?_
      refine ad_ifp_ne 41 dX8_lots_31 (by decide) (fun h31 => ?_) (fun h31 => ?_)
      · skip
        refine ad_aload_n dX8_lots_41 rfl ?_
        refine ad_iload_n dX8_lots_42 rfl ?_
        refine pf_X8_219 rfl dX8_lots_43 ?_
        refine ad_aload_n dX8_lots_46 rfl ?_
        refine gf_X8_9 rfl dX8_lots_47 ?_
        refine ad_aload_n dX8_lots_50 rfl ?_
        refine gf_X8_16 rfl dX8_lots_51 ?_
        refine ad_cs2v rfl cl_X8_176 dX8_lots_54 (c_X8_copies (k1 := 21) (k2 := 23) (by decide) (by decide) (by decide)) (by omega) (Nat.le_of_ble_eq_true rfl) (fun s54 q54 => ?_)
        obtain ⟨e54, f54⟩ := q54
        have f54b : ad_f8 [21, 23, 28, 29, 30, 31, 32, 33] [17, 18, 19] σ s54 := (ad_f8.sj (by decide)).trans (f54.mono (by decide) (by decide))
        have hl : ∀ (n k : Nat) (sum : Int) (x6 x7 x8 x9 : Option Value) (m : ad_Mem), (k : Int) ≤ y → ad_f8 [21, 23, 28, 29, 30, 31, 32, 33] [17, 18, 19] σ m → (∀ c, c < 520 → m 21 0 c = σ 21 0 c) → (∀ c, c < 520 → m 23 0 c = σ 21 0 c) → m 8 0 17 = ad_zs (ad_cA C) z0 k → sum = ad_sl (ad_cA C) z0 w k → y.toNat - k ≤ n → ad_R g mX8_lots d (ad_ZQ mX8_lots (fun x m => ad_an8 σ x m (ad_m_lots C y z0 w))) 63 [some (ad_rf g 8 0), some (ad_iv y), some (ad_iv z0), some (ad_iv w), some (ad_iv sum), some (ad_iv (k : Int)), x6, x7, x8, x9] [] m := by
          intro n
          induction n with
          | zero =>
            intro k sum x6 x7 x8 x9 m hk hf h21 h23 hz hsum hn
            refine ad_iload dX8_lots_63 rfl ?_
            refine ad_iload_n dX8_lots_65 rfl ?_
            refine ad_icmp_ge 227 dX8_lots_66 (by decide) (by omega) (by omega) (fun h66 => ?_) (fun h66 => ?_)
            · skip
              refine ad_iload dX8_lots_227 rfl ?_
              exact ad_reti dX8_lots_229 rfl (by
                    have hrm : ad_ra (m 21 0) (ad_cA C) := ad_ra_congr h21 hr
                    have e : ad_m_lots C y z0 w = (ad_sl (ad_cA C) z0 w y.toNat, C) := by
                      unfold ad_m_lots
                      rw [if_neg (by omega), if_neg (by omega), if_neg (by omega)]
                    rw [e, hsum, show y.toNat = k by omega]
                    exact ⟨rfl, ad_c8_now hC (hf.mono (by decide) (by decide)) hrm hw, (hf.mono (by decide) (by decide))⟩)
            · show ad_R _ _ _ _ 69 _ _ _
              exfalso; omega
          | succ n ihn =>
            intro k sum x6 x7 x8 x9 m hk hf h21 h23 hz hsum hn
            have hrm : ad_ra (m 21 0) (ad_cA C) := ad_ra_congr h21 hr
            refine ad_iload dX8_lots_63 rfl ?_
            refine ad_iload_n dX8_lots_65 rfl ?_
            refine ad_icmp_ge 227 dX8_lots_66 (by decide) (by omega) (by omega) (fun h66 => ?_) (fun h66 => ?_)
            · skip
              refine ad_iload dX8_lots_227 rfl ?_
              exact ad_reti dX8_lots_229 rfl (by
                    have hrm : ad_ra (m 21 0) (ad_cA C) := ad_ra_congr h21 hr
                    have e : ad_m_lots C y z0 w = (ad_sl (ad_cA C) z0 w y.toNat, C) := by
                      unfold ad_m_lots
                      rw [if_neg (by omega), if_neg (by omega), if_neg (by omega)]
                    rw [e, hsum, show y.toNat = k by omega]
                    exact ⟨rfl, ad_c8_now hC (hf.mono (by decide) (by decide)) hrm hw, (hf.mono (by decide) (by decide))⟩)
            · show ad_R _ _ _ _ 69 _ _ _
              have hky : (k : Int) < y := by omega
              have hrep : ∀ (B : ad_Ar) (zz : Int) (x6 x7 x8 x9 : Option Value) (m : ad_Mem), ad_f8 [21, 23, 28, 29, 30, 31, 32, 33] [17, 18, 19] σ m → (∀ c, c < 520 → m 23 0 c = σ 21 0 c) → ad_ra (m 21 0) B → ad_wA B → m 8 0 17 = zz → (B, zz) = ad_lt 6 (ad_cA C) (ad_zs (ad_cA C) z0 k) → ad_R g mX8_lots d (ad_ZQ mX8_lots (fun x m => ad_an8 σ x m (ad_m_lots C y z0 w))) 183 [some (ad_rf g 8 0), some (ad_iv y), some (ad_iv z0), some (ad_iv w), some (ad_iv sum), some (ad_iv (k : Int)), x6, x7, x8, x9] [] m := by
                intro B zz x6 x7 x8 x9 m hf h23 hB hwB hz hl6
                have hB1 : B = (ad_lt 6 (ad_cA C) (ad_zs (ad_cA C) z0 k)).1 := congrArg Prod.fst hl6
                have hz1 : zz = (ad_lt 6 (ad_cA C) (ad_zs (ad_cA C) z0 k)).2 := congrArg Prod.snd hl6
                refine ad_aload_n dX8_lots_183 rfl ?_
                refine ad_cv0q rfl cl_X8_133 dX8_lots_184 (c_X8_repacks hB hwB (by omega)) (by omega) (by show _ < 1; omega) (Nat.le_of_ble_eq_true rfl) (fun x184 s184 q184 => ?_)
                obtain ⟨rfl, b1, b2, b3⟩ := q184
                refine ad_istore dX8_lots_187 (by decide) rfl (by dsimp only [ad_set]) ?_
                refine ad_iload dX8_lots_189 rfl ?_
                refine ad_iload_n dX8_lots_191 rfl ?_
                refine ad_if_ne 200 dX8_lots_192 (by decide) (by omega) (fun h192 => ?_) (fun h192 => ?_)
                · skip
                  refine ad_aload_n dX8_lots_200 rfl ?_
                  refine ad_cv0f rfl cl_X8_185 dX8_lots_201 (c_X8_wholes b1 (ad_wA_rp hwB) (by omega)) (by omega) (by show _ < 1; omega) (Nat.le_of_ble_eq_true rfl) ?_
                  refine ad_cs1f rfl cl_X8_148 dX8_lots_204 (c_X8_ones (ad_bits_lt _)) (by omega) (Nat.le_of_ble_eq_true rfl) ?_
                  rw [ad_ones_bits]
                  refine ad_iadd dX8_lots_207 ?_
                  refine ad_istore dX8_lots_208 (by decide) rfl (by dsimp only [ad_set]) ?_
                  refine ad_aload_n dX8_lots_210 rfl ?_
                  refine gf_X8_16 rfl dX8_lots_211 ?_
                  refine ad_aload_n dX8_lots_214 rfl ?_
                  refine gf_X8_9 rfl dX8_lots_215 ?_
                  refine ad_cs2v rfl cl_X8_176 dX8_lots_218 (c_X8_copies (k1 := 23) (k2 := 21) (by decide) (by decide) (by decide)) (by omega) (Nat.le_of_ble_eq_true rfl) (fun s218 q218 => ?_)
                  obtain ⟨e218, f218⟩ := q218
                  have h23b : ∀ c, c < 520 → s184 23 0 c = σ 21 0 c := fun c hc => by rw [b3.1 23 0 (by decide) (by decide)]; exact h23 c hc
                  have hnx := ihn (k + 1)
                  refine ad_iinc dX8_lots_221 rfl (by decide) rfl (by dsimp only [ad_set]) ?_
                  refine ad_goto 63 dX8_lots_224 (by decide) ?_
                  exact hnx _ _ _ _ _ _ (by omega) (hf.trans ((b3.mono (by decide) (by decide)).trans (f218.mono (by decide) (by decide)))) (fun c hc => by rw [e218, if_pos hc]; exact h23b c hc) (fun c hc => by rw [f218.1 23 0 (by decide) (by decide)]; exact h23b c hc) (by rw [f218.2 0 17 (by decide), b3.2 0 17 (by decide), hz, hz1]; rfl) (by rw [ad_sl, ← hB1, ← hsum, if_neg (by omega)]) (by omega)
                · show ad_R _ _ _ _ 195 _ _ _
                  refine ad_iload dX8_lots_195 rfl ?_
                  refine ad_goto 207 dX8_lots_197 (by decide) ?_
                  refine ad_iadd dX8_lots_207 ?_
                  refine ad_istore dX8_lots_208 (by decide) rfl (by dsimp only [ad_set]) ?_
                  refine ad_aload_n dX8_lots_210 rfl ?_
                  refine gf_X8_16 rfl dX8_lots_211 ?_
                  refine ad_aload_n dX8_lots_214 rfl ?_
                  refine gf_X8_9 rfl dX8_lots_215 ?_
                  refine ad_cs2v rfl cl_X8_176 dX8_lots_218 (c_X8_copies (k1 := 23) (k2 := 21) (by decide) (by decide) (by decide)) (by omega) (Nat.le_of_ble_eq_true rfl) (fun s218 q218 => ?_)
                  obtain ⟨e218, f218⟩ := q218
                  have h23b : ∀ c, c < 520 → s184 23 0 c = σ 21 0 c := fun c hc => by rw [b3.1 23 0 (by decide) (by decide)]; exact h23 c hc
                  have hnx := ihn (k + 1)
                  refine ad_iinc dX8_lots_221 rfl (by decide) rfl (by dsimp only [ad_set]) ?_
                  refine ad_goto 63 dX8_lots_224 (by decide) ?_
                  exact hnx _ _ _ _ _ _ (by omega) (hf.trans ((b3.mono (by decide) (by decide)).trans (f218.mono (by decide) (by decide)))) (fun c hc => by rw [e218, if_pos hc]; exact h23b c hc) (fun c hc => by rw [f218.1 23 0 (by decide) (by decide)]; exact h23b c hc) (by rw [f218.2 0 17 (by decide), b3.2 0 17 (by decide), hz, hz1]; rfl) (by rw [ad_sl, ← hB1, ← hsum, if_pos (by omega)]) (by omega)
              have hin : ∀ (n2 i : Nat) (B : ad_Ar) (zz : Int) (x7 x8 x9 : Option Value) (m : ad_Mem), i ≤ 6 → ad_f8 [21, 23, 28, 29, 30, 31, 32, 33] [17, 18, 19] σ m → (∀ c, c < 520 → m 23 0 c = σ 21 0 c) → ad_ra (m 21 0) B → ad_wA B → m 8 0 17 = zz → ad_lt (6 - i) B zz = ad_lt 6 (ad_cA C) (ad_zs (ad_cA C) z0 k) → 6 - i ≤ n2 → ad_R g mX8_lots d (ad_ZQ mX8_lots (fun x m => ad_an8 σ x m (ad_m_lots C y z0 w))) 72 [some (ad_rf g 8 0), some (ad_iv y), some (ad_iv z0), some (ad_iv w), some (ad_iv sum), some (ad_iv (k : Int)), some (ad_iv (i : Int)), x7, x8, x9] [] m := by
                intro n2
                induction n2 with
                | zero =>
                  intro i B zz x7 x8 x9 m hi hf h23 hB hwB hz hl6 hn2
                  refine ad_iload dX8_lots_72 rfl ?_
                  refine ad_bipush dX8_lots_74 rfl ?_
                  refine ad_icmp_ge 183 dX8_lots_76 (by decide) (by omega) (by omega) (fun h76 => ?_) (fun h76 => ?_)
                  · skip
                    exact hrep B zz _ _ _ _ m hf h23 hB hwB hz (by
                      rw [← hl6]
                      rw [show 6 - i = 0 by omega]; rfl)
                  · show ad_R _ _ _ _ 79 _ _ _
                    have hBr : ∀ (mm : ad_Mem), mm 21 0 = m 21 0 → ad_ra (mm 21 0) B := fun mm e => by rw [e]; exact hB
                    have hpp10 := ad_pp_le (ad_aH B) 10
                    exfalso; omega
                | succ n2 ihi =>
                  intro i B zz x7 x8 x9 m hi hf h23 hB hwB hz hl6 hn2
                  have hc10 := hB.1.1
                  refine ad_iload dX8_lots_72 rfl ?_
                  refine ad_bipush dX8_lots_74 rfl ?_
                  refine ad_icmp_ge 183 dX8_lots_76 (by decide) (by omega) (by omega) (fun h76 => ?_) (fun h76 => ?_)
                  · skip
                    exact hrep B zz _ _ _ _ m hf h23 hB hwB hz (by
                      rw [← hl6]
                      rw [show 6 - i = 0 by omega]; rfl)
                  · show ad_R _ _ _ _ 79 _ _ _
                    have hBr : ∀ (mm : ad_Mem), mm 21 0 = m 21 0 → ad_ra (mm 21 0) B := fun mm e => by rw [e]; exact hB
                    have hpp10 := ad_pp_le (ad_aH B) 10
                    refine ad_aload_n dX8_lots_79 rfl ?_
                    refine gf_X8_9 rfl dX8_lots_80 ?_
                    refine ad_sipush dX8_lots_83 rfl ?_
                    refine ad_ialj (500) dX8_lots_86 (by decide) ⟨by decide, by decide⟩ (by omega) (by show _ < 520; omega) (hB.2.1.1) ?_
                    refine ad_bipush dX8_lots_87 rfl ?_
                    refine ad_icmp_ge 183 dX8_lots_89 (by decide) (by omega) (by omega) (fun h89 => ?_) (fun h89 => ?_)
                    · skip
                      exact hrep B zz _ _ _ _ m hf h23 hB hwB hz (by
                        rw [← hl6]
                        rw [show 6 - i = 6 - (i + 1) + 1 by omega, ad_lt, if_neg (by omega)])
                    · show ad_R _ _ _ _ 92 _ _ _
                      refine ad_aload_n dX8_lots_92 rfl ?_
                      refine ad_cv0f rfl cl_X8_142 dX8_lots_93 (c_X8_there hB (by omega)) (by omega) (by show _ < 1; omega) (Nat.le_of_ble_eq_true rfl) ?_
                      refine ad_cs1f rfl cl_X8_148 dX8_lots_96 (c_X8_ones (ad_bits_lt _)) (by omega) (Nat.le_of_ble_eq_true rfl) ?_
                      rw [ad_ones_bits]
                      refine ad_istore dX8_lots_99 (by decide) rfl (by dsimp only [ad_set]) ?_
                      refine ad_iload dX8_lots_101 rfl ?_
                      refine ad_if_ne 133 dX8_lots_103 (by decide) (by omega) (fun h103 => ?_) (fun h103 => ?_)
                      · skip
                        have hpos : 0 < ad_pp (ad_aH B) 10 := by omega
                        have hlt : ad_lt (6 - i) B zz = ad_lt (6 - (i + 1)) (ad_lt1 B zz) (ad_nz (ad_nz (ad_nz zz))) := by
                          rw [show 6 - i = 6 - (i + 1) + 1 by omega, ad_lt, if_pos (by omega), if_neg (fun q => by have := ad_pp_bits0.mpr q; omega)]
                        have hbl := ad_bl_rng zz (m := (ad_pp (ad_aH B) 10 : Nat)) (by omega)
                        obtain ⟨k1, hk1⟩ : ∃ k1 : Nat, ad_bl zz (ad_pp (ad_aH B) 10 : Nat) = (k1 : Int) := ⟨(ad_bl zz (ad_pp (ad_aH B) 10 : Nat)).toNat, by omega⟩
                        have hlv : ad_lv1 B zz = ad_nth (ad_aH B) 10 0 k1 := by unfold ad_lv1; rw [hk1, Int.toNat_natCast]
                        have hnv := ad_nth0 (H := ad_aH B) (k := k1) (by omega)
                        rw [← hlv] at hnv
                        have hlB := (hwB.2.2.1 _ hnv.2).1
                        have hbl2 := ad_bl_rng (ad_nz zz) (m := ((ad_aL B (ad_lv1 B zz)).length : Int)) (by omega)
                        have hbl3 := ad_bl_rng (ad_nz (ad_nz zz)) (m := 8) (by omega)
                        obtain ⟨p1, hp1⟩ : ∃ p1 : Nat, ad_bl (ad_nz zz) ((ad_aL B (ad_lv1 B zz)).length : Int) = (p1 : Int) := ⟨(ad_bl (ad_nz zz) ((ad_aL B (ad_lv1 B zz)).length : Int)).toNat, by omega⟩
                        have hl1 : ad_lt1 B zz = ad_add B (ad_edl (ad_aL B (ad_lv1 B zz)) p1 (ad_bl (ad_nz (ad_nz zz)) 8)) (ad_lv1 B zz : Int) (-1) := by unfold ad_lt1; rw [hp1, Int.toNat_natCast]
                        have hvC := (hB.1.2 _ hnv.2).1
                        refine ad_aload_n dX8_lots_133 rfl ?_
                        refine ad_aload_n dX8_lots_134 rfl ?_
                        refine ad_iload dX8_lots_135 rfl ?_
                        refine ad_cv1q rfl cl_X8_224 dX8_lots_137 (c_X8_draw (z := zz) hz (by omega)) (by omega) (by show _ < 1; omega) (Nat.le_of_ble_eq_true rfl) (fun x137 s137 q137 => ?_)
                        obtain ⟨rfl, e137⟩ := q137
                        have f137 : ad_f8 [] [17] m s137 := by rw [e137]; exact ad_f8.sj (by decide)
                        have hB137 := hBr s137 (f137.1 21 0 (by decide) (by decide))
                        rw [hk1]
                        refine ad_cv1f rfl cl_X8_227 dX8_lots_140 (c_X8_nth hB137.2.2.1 hB137.H (by omega) (by omega)) (by omega) (by show _ < 1; omega) (Nat.le_of_ble_eq_true rfl) ?_
                        rw [← hlv]
                        refine ad_istore dX8_lots_143 (by decide) rfl (by dsimp only [ad_set]) ?_
                        refine ad_aload_n dX8_lots_145 rfl ?_
                        refine ad_cv0v rfl cl_X8_84 dX8_lots_146 (c_X8_restores hB137 hwB (by omega)) (by omega) (by show _ < 1; omega) (Nat.le_of_ble_eq_true rfl) (fun s146 q146 => ?_)
                        obtain ⟨f146, g146⟩ := q146
                        have hB146 := hBr s146 ((f146.1 21 0 (by decide) (by decide)).trans (f137.1 21 0 (by decide) (by decide)))
                        refine ad_aload_n dX8_lots_149 rfl ?_
                        refine ad_aload_n dX8_lots_150 rfl ?_
                        refine gf_X8_34 rfl dX8_lots_151 ?_
                        refine ad_iload dX8_lots_154 rfl ?_
                        refine ad_ialj (ad_lv1 B zz) dX8_lots_156 (by decide) ⟨by decide, by decide⟩ (by omega) (by show _ < 10; omega) (((g146.1 _ hnv.1).trans (if_pos hnv.2))) ?_
                        refine ad_cv1q rfl cl_X8_224 dX8_lots_157 (c_X8_draw (z := ad_nz zz) (by rw [f146.2 0 17 (by decide), e137, ad_st_r1, ad_u1_eq]) (by omega)) (by omega) (by show _ < 1; omega) (Nat.le_of_ble_eq_true rfl) (fun x157 s157 q157 => ?_)
                        obtain ⟨rfl, e157⟩ := q157
                        have f157 : ad_f8 [] [17] s146 s157 := by rw [e157]; exact ad_f8.sj (by decide)
                        have hB157 := hBr s157 ((f157.1 21 0 (by decide) (by decide)).trans ((f146.1 21 0 (by decide) (by decide)).trans (f137.1 21 0 (by decide) (by decide))))
                        rw [hp1]
                        refine ad_istore dX8_lots_160 (by decide) rfl (by dsimp only [ad_set]) ?_
                        refine ad_aload_n dX8_lots_162 rfl ?_
                        refine ad_iload dX8_lots_163 rfl ?_
                        refine ad_iload dX8_lots_165 rfl ?_
                        refine ad_aload_n dX8_lots_167 rfl ?_
                        refine ad_bipush dX8_lots_168 rfl ?_
                        refine ad_cv1q rfl cl_X8_224 dX8_lots_170 (c_X8_draw (z := ad_nz (ad_nz zz)) (by rw [e157, ad_st_r1, ad_u1_eq]) (by omega)) (by omega) (by show _ < 1; omega) (Nat.le_of_ble_eq_true rfl) (fun x170 s170 q170 => ?_)
                        obtain ⟨rfl, e170⟩ := q170
                        have f170 : ad_f8 [] [17] s157 s170 := by rw [e170]; exact ad_f8.sj (by decide)
                        have hB170 := hBr s170 ((f170.1 21 0 (by decide) (by decide)).trans ((f157.1 21 0 (by decide) (by decide)).trans ((f146.1 21 0 (by decide) (by decide)).trans (f137.1 21 0 (by decide) (by decide)))))
                        refine ad_cv3q rfl cl_X8_129 dX8_lots_173 (c_X8_edited hB170 hwB (v := ad_lv1 B zz) (pp := p1) (by omega) hnv.2 (by omega) (by omega) (by omega) (by omega) (by omega)) (by omega) (by show _ < 1; omega) (Nat.le_of_ble_eq_true rfl) (fun x173 s173 q173 => ?_)
                        obtain ⟨rfl, f173, r173⟩ := q173
                        refine ad_pop dX8_lots_176 rfl ?_
                        refine ad_iinc dX8_lots_177 rfl (by decide) rfl (by dsimp only [ad_set]) ?_
                        refine ad_goto 72 dX8_lots_180 (by decide) ?_
                        exact ihi (i + 1) (ad_lt1 B zz) (ad_nz (ad_nz (ad_nz zz))) _ _ _ _ (by omega) (hf.trans ((f137.mono (by decide) (by decide)).trans ((f146.mono (by decide) (by decide)).trans ((f157.mono (by decide) (by decide)).trans ((f170.mono (by decide) (by decide)).trans (f173.mono (by decide) (by decide))))))) (fun c hc => by rw [f173.1 23 0 (by decide) (by decide), f170.1 23 0 (by decide) (by decide), f157.1 23 0 (by decide) (by decide), f146.1 23 0 (by decide) (by decide), f137.1 23 0 (by decide) (by decide)]; exact h23 c hc) (by rw [hl1]; exact r173) (by rw [hl1]; exact ad_wA_add hwB (by omega) (ad_edl_ok hlB (by omega) (by omega) (by omega) (by omega)) (by omega) (by omega)) (by rw [f173.2 0 17 (by decide), e170, ad_st_r1, ad_u1_eq]) (by rw [← hlt]; exact hl6) (by omega)
                      · show ad_R _ _ _ _ 106 _ _ _
                        have hlt : ad_lt (6 - i) B zz = ad_lt (6 - (i + 1)) (ad_add B [0] (-1) (-1)) zz := by
                          rw [show 6 - i = 6 - (i + 1) + 1 by omega, ad_lt, if_pos (by omega), if_pos (ad_pp_bits0.mp (by omega))]
                        have h0l : 1 ≤ ([0] : List Int).length ∧ ([0] : List Int).length ≤ 12 ∧ ∀ x ∈ ([0] : List Int), 0 ≤ x ∧ x ≤ 7 := ⟨by decide, by decide, fun x hx => by rw [List.mem_singleton.mp hx]; decide⟩
                        refine ad_aload_n dX8_lots_106 rfl ?_
                        refine ad_bipush dX8_lots_107 rfl ?_
                        refine ad_bipush dX8_lots_109 rfl ?_
                        refine ad_cv2q rfl cl_X8_119 dX8_lots_111 ((by
                              have hz9 := c_X8_comes (g := g) (d := d - 1) (p := -1) (q := -1) (by omega) hB (by omega) (by omega)
                              rw [show ad_lk (-1) = -9 from rfl] at hz9
                              exact hz9)) (by omega) (by show _ < 1; omega) (Nat.le_of_ble_eq_true rfl) (fun x111 s111 q111 => ?_)
                        obtain ⟨rfl, f111, r111⟩ := q111
                        refine ad_istore dX8_lots_114 (by decide) rfl (by dsimp only [ad_set]) ?_
                        refine ad_aload_n dX8_lots_116 rfl ?_
                        refine ad_iload dX8_lots_117 rfl ?_
                        refine ad_iconst dX8_lots_119 ?_
                        refine ad_cv2v rfl cl_X8_122 dX8_lots_120 (c_X8_adds (by omega) r111 (by decide) (by decide)) (by omega) (by show _ < 1; omega) (Nat.le_of_ble_eq_true rfl) (fun s120 q120 => ?_)
                        refine ad_aload_n dX8_lots_123 rfl ?_
                        refine ad_iload dX8_lots_124 rfl ?_
                        refine ad_cv1q rfl cl_X8_126 dX8_lots_126 (c_X8_hashed hwB (by omega) q120.2 h0l (by omega) (by omega) (by omega)) (by omega) (by show _ < 1; omega) (Nat.le_of_ble_eq_true rfl) (fun x126 s126 q126 => ?_)
                        obtain ⟨rfl, f126, r126⟩ := q126
                        refine ad_pop dX8_lots_129 rfl ?_
                        refine ad_goto 177 dX8_lots_130 (by decide) ?_
                        refine ad_iinc dX8_lots_177 rfl (by decide) rfl (by dsimp only [ad_set]) ?_
                        refine ad_goto 72 dX8_lots_180 (by decide) ?_
                        exact ihi (i + 1) (ad_add B [0] (-1) (-1)) zz _ _ _ _ (by omega) (hf.trans ((f111.mono (by decide) (by decide)).trans ((q120.1.mono (by decide) (by decide)).trans (f126.mono (by decide) (by decide))))) (fun c hc => by rw [f126.1 23 0 (by decide) (by decide), q120.1.1 23 0 (by decide) (by decide), f111.1 23 0 (by decide) (by decide)]; exact h23 c hc) r126 (ad_wA_add hwB (by omega) h0l (by omega) (by omega)) (by rw [f126.2 0 17 (by decide), q120.1.2 0 17 (by decide), f111.2 0 17 (by decide)]; exact hz) (by rw [← hlt]; exact hl6) (by omega)
              refine ad_iconst dX8_lots_69 ?_
              refine ad_istore dX8_lots_70 (by decide) rfl (by dsimp only [ad_set]) ?_
              exact hin _ 0 _ _ _ _ _ m (by omega) hf h23 hrm hw hz rfl (Nat.le_refl _)
        refine ad_iconst dX8_lots_57 ?_
        refine ad_istore dX8_lots_58 (by decide) rfl (by dsimp only [ad_set]) ?_
        refine ad_iconst dX8_lots_60 ?_
        refine ad_istore dX8_lots_61 (by decide) rfl (by dsimp only [ad_set]) ?_
        exact hl _ 0 0 _ _ _ _ _ (by omega) f54b (fun c hc => congrFun ((f54.1 21 0 (by decide) (by decide)).trans (ad_st_ne _ _ (by decide))) c) (fun c hc => by rw [e54, if_pos hc, ad_st_ne _ _ (by decide)]) (by rw [f54.2 0 17 (by decide), ad_st_r1, ad_u1_eq]; rfl) rfl (Nat.le_refl _)
      · show ad_R _ _ _ _ 34 _ _ _
        refine ad_aload_n dX8_lots_34 rfl ?_
        refine ad_bipush dX8_lots_35 rfl ?_
        refine ad_cv1q rfl cl_X8_51 dX8_lots_37 (c_X8_noC hC (by decide)) (by omega) (by show _ < 1; omega) (Nat.le_of_ble_eq_true rfl) (fun x37 s37 q37 => ?_)
        obtain ⟨rfl, c37, f37⟩ := q37
        exact ad_reti dX8_lots_40 rfl (by
          have e : ad_m_lots C y z0 w = ad_no C 2 := by
            unfold ad_m_lots
            (repeat' split) <;> first | with_reducible rfl | contradiction | (exfalso; omega) | rfl | (exfalso; simp_all; omega) | (simp_all; done)
          rw [e]
          exact ⟨rfl, c37, (f37.mono (by decide) (by decide))⟩)
    · show ad_R _ _ _ _ 18 _ _ _
      refine ad_aload_n dX8_lots_18 rfl ?_
      refine ad_bipush dX8_lots_19 rfl ?_
      refine ad_cv1q rfl cl_X8_51 dX8_lots_21 (c_X8_noC hC (by decide)) (by omega) (by show _ < 1; omega) (Nat.le_of_ble_eq_true rfl) (fun x21 s21 q21 => ?_)
      obtain ⟨rfl, c21, f21⟩ := q21
      exact ad_reti dX8_lots_24 rfl (by
        have e : ad_m_lots C y z0 w = ad_no C 6 := by
          unfold ad_m_lots
          (repeat' split) <;> first | with_reducible rfl | contradiction | (exfalso; omega) | rfl | (exfalso; simp_all; omega) | (simp_all; done)
        rw [e]
        exact ⟨rfl, c21, (f21.mono (by decide) (by decide))⟩)
  · show ad_R _ _ _ _ 5 _ _ _
    refine ad_aload_n dX8_lots_5 rfl ?_
    refine ad_bipush dX8_lots_6 rfl ?_
    refine ad_cv1q rfl cl_X8_51 dX8_lots_8 (c_X8_noC hC (by decide)) (by omega) (by show _ < 1; omega) (Nat.le_of_ble_eq_true rfl) (fun x8 s8 q8 => ?_)
    obtain ⟨rfl, c8, f8⟩ := q8
    exact ad_reti dX8_lots_11 rfl (by
      have e : ad_m_lots C y z0 w = ad_no C 4 := by
        unfold ad_m_lots
        (repeat' split) <;> first | with_reducible rfl | contradiction | (exfalso; omega) | rfl | (exfalso; simp_all; omega) | (simp_all; done)
      rw [e]
      exact ⟨rfl, c8, (f8.mono (by decide) (by decide))⟩)
