/-! ===== the reference: fetch ===== -/
theorem ad_bits_self {n : Nat} (h : n < 1024) : ad_bits n.testBit = n := (ad_bits_ext (fun i => by
  by_cases hi : i < 10
  · rw [decide_eq_true hi, Bool.true_and]
  · rw [ad_tb10 h (by omega), Bool.and_false])).symm
theorem ad_wn_had {A : ad_Ar} (hw : ad_wA A) (p : Nat → Bool) {w : Nat} (hwC : w < ad_aC A) : ad_wn A p 10 w = ad_an (ad_rsF A p) 10 w := by
  have hp := hw.2.2.2.1
  have hc10 := hw.1
  rw [Bool.eq_iff_iff, ad_an_iff]
  unfold ad_rsF ad_rOf
  constructor
  · intro h
    have h2 := ad_wn_sound hp (R := fun u => ∃ v, p v = true ∧ ad_reach (ad_aP A) (ad_aQ A) v u = true) (fun u w hu hx => by
      obtain ⟨v, h1, h2⟩ := hu
      exact ⟨v, h1, ad_reach_tr hp v v u w (Nat.le_refl _) h2 (ad_reach_par hp hx)⟩) 10 p (fun u hu => ⟨u, hu, ad_reach_self hp u⟩) w h
    obtain ⟨v, h3, h4⟩ := h2
    have hvC : v < ad_aC A := by
      rcases Nat.lt_or_ge v (ad_aC A) with h5 | h5
      · exact h5
      · have h6 := hw.2.2.2.2.2.2.2.2.2.1 v h5
        rw [ad_reach_eq hp, h6.1, h6.2] at h4
        simp at h4; omega
    exact ⟨v, by omega, by rw [h3, Int.toNat_natCast, h4, decide_eq_true (by omega)]; rfl⟩
  · rintro ⟨v, h1, h2⟩
    rw [Bool.and_eq_true, Bool.and_eq_true, decide_eq_true_eq, Int.toNat_natCast] at h2
    exact ad_wn_full hp 10 p v w h2.1 h1 (by omega) h2.2.2
theorem c_X8_fetch {g : ad_G} {d : Nat} {σ : ad_Mem} {C : ad_C7} {h m0 w : Int} (hh : ad_rng h) (hm0 : ad_rng m0) (hww : ad_rng w) (hC : ad_c8 σ C) (h16d : 16 ≤ d) : ad_Q g mX8_fetch d [ad_rf g 8 0, ad_iv h, ad_iv m0, ad_iv w] σ (fun x m => ad_an8 σ x m (ad_m_fetch C h m0 w)) := by
  have hC0 := hC
  obtain ⟨a1, a2, a3, a4, a5, a6⟩ := hC0
  have hr := a1.1
  have hw := a1.2
  refine ad_M1 (k := 8) rfl (by simp [Value.category]) rfl (Nat.le_of_ble_eq_true rfl) ?_
  simp only [List.map_cons, List.map_nil, List.replicate, List.cons_append, List.nil_append]
  refine ad_iload_n dX8_fetch_0 rfl ?_
  refine ad_iconst dX8_fetch_1 ?_
  refine ad_iconst dX8_fetch_2 ?_
  refine ad_cs3f rfl cl_X8_55 dX8_fetch_3 (c_X8_isIn (by omega) (by omega) (by omega)) (by omega) (Nat.le_of_ble_eq_true rfl) ?_
  refine ad_ifp_ne 15 dX8_fetch_6 (by decide) (fun h6 => ?_) (fun h6 => ?_)
  · skip
    refine ad_iload_n dX8_fetch_15 rfl ?_
    refine ad_if_ge 26 dX8_fetch_16 (by decide) (by omega) (fun h16 => ?_) (fun h16 => ?_)
    · skip
      refine ad_iload_n dX8_fetch_26 rfl ?_
      refine ad_sipush dX8_fetch_27 rfl ?_
      refine ad_icmp_le 40 dX8_fetch_30 (by decide) (by omega) (by omega) (fun h30 => ?_) (fun h30 => ?_)
      · skip
        refine ad_iload_n dX8_fetch_40 rfl ?_
        refine ad_iconst dX8_fetch_41 ?_
        refine ad_iconst dX8_fetch_42 ?_
        refine ad_cs3f rfl cl_X8_55 dX8_fetch_43 (c_X8_isIn (by omega) (by omega) (by omega)) (by omega) (Nat.le_of_ble_eq_true rfl) ?_
        refine ad_ifp_ne 56 dX8_fetch_46 (by decide) (fun h46 => ?_) (fun h46 => ?_)
        · skip
          refine ad_aload_n dX8_fetch_56 rfl ?_
          refine ad_cv0v rfl cl_X8_84 dX8_fetch_57 (c_X8_restores hr hw (by omega)) (by omega) (by show _ < 1; omega) (Nat.le_of_ble_eq_true rfl) (fun s57 q57 => ?_)
          obtain ⟨f57, g57⟩ := q57
          have hC57 := ad_c8_fr hC (f57.mono (by decide) (by decide))
          have hr57 := hC57.1.1
          have hE := hw.2.2.2.2.2.2.1 h.toNat (by omega)
          have hEl := hr57.2.1.2.1 h.toNat (by omega)
          have hEr : -1 ≤ ad_aE (ad_cA C) h.toNat ∧ ad_aE (ad_cA C) h.toNat ≤ 9 := by
            by_cases hz : ad_aE (ad_cA C) h.toNat = -1
            · omega
            · have := (hE.2 hz).1; omega
          have hElr := ad_lk_rng (v := ad_aE (ad_cA C) h.toNat) (by omega)
          have hEn := ad_lk_no hEr.1
          have hl : ∀ (n : Nat) (q0 SS KK : Nat → Bool) (v : Nat) (cost many : Int) (x10 x11 : Option Value), (∀ u, SS u = true → ad_aH (ad_cA C) u = true) → ad_m_fetch C h m0 w = ((if w = 0 then ((ad_bits SS : Nat) : Int) else if w = 1 then ad_sm (ad_scH (ad_cA C) SS KK) 10 else ((ad_pp (ad_sw (ad_cA C) SS KK) 10 : Nat) : Int)), C) → v ≤ 10 → cost = ad_sm (ad_scH (ad_cA C) SS KK) v → many = ((ad_pp (ad_sw (ad_cA C) SS KK) v : Nat) : Int) → 10 - v ≤ n → ad_R g mX8_fetch d (ad_ZQ mX8_fetch (fun x m => ad_an8 σ x m (ad_m_fetch C h m0 w))) 153 [some (ad_rf g 8 0), some (ad_iv h), some (ad_iv m0), some (ad_iv w), some (ad_iv ((ad_bits q0 : Nat) : Int)), some (ad_iv ((ad_bits SS : Nat) : Int)), some (ad_iv ((ad_bits KK : Nat) : Int)), some (ad_iv cost), some (ad_iv many), some (ad_iv (v : Int)), x10, x11] [] s57 := by
            intro n q0 SS KK
            induction n with
            | zero =>
              intro v cost many x10 x11 hSS hspec hv hcost hmany hn
              refine ad_iload dX8_fetch_153 rfl ?_
              refine ad_bipush dX8_fetch_155 rfl ?_
              refine ad_icmp_ge 261 dX8_fetch_157 (by decide) (by omega) (by omega) (fun h157 => ?_) (fun h157 => ?_)
              · skip
                refine ad_iload_n dX8_fetch_261 rfl ?_
                refine ad_if_ne 270 dX8_fetch_262 (by decide) (by omega) (fun h262 => ?_) (fun h262 => ?_)
                · skip
                  refine ad_iload_n dX8_fetch_270 rfl ?_
                  refine ad_iconst dX8_fetch_271 ?_
                  refine ad_icmp_ne 280 dX8_fetch_272 (by decide) (by omega) (by omega) (fun h272 => ?_) (fun h272 => ?_)
                  · skip
                    refine ad_iload dX8_fetch_280 rfl ?_
                    exact ad_reti dX8_fetch_282 rfl (by
                          rw [show v = 10 by omega] at hcost hmany
                          have e : ad_m_fetch C h m0 w = ((if w = 0 then ((ad_bits SS : Nat) : Int) else if w = 1 then ad_sm (ad_scH (ad_cA C) SS KK) 10 else ((ad_pp (ad_sw (ad_cA C) SS KK) 10 : Nat) : Int)), C) := hspec
                          rw [e]
                          exact ⟨by rw [if_neg (by omega), if_neg (by omega)]; rw [hmany], hC57, (f57.mono (by decide) (by decide))⟩)
                  · show ad_R _ _ _ _ 275 _ _ _
                    refine ad_iload dX8_fetch_275 rfl ?_
                    refine ad_goto 282 dX8_fetch_277 (by decide) ?_
                    exact ad_reti dX8_fetch_282 rfl (by
                          rw [show v = 10 by omega] at hcost hmany
                          have e : ad_m_fetch C h m0 w = ((if w = 0 then ((ad_bits SS : Nat) : Int) else if w = 1 then ad_sm (ad_scH (ad_cA C) SS KK) 10 else ((ad_pp (ad_sw (ad_cA C) SS KK) 10 : Nat) : Int)), C) := hspec
                          rw [e]
                          exact ⟨by rw [if_neg (by omega), if_pos (by omega)]; rw [hcost], hC57, (f57.mono (by decide) (by decide))⟩)
                · show ad_R _ _ _ _ 265 _ _ _
                  refine ad_iload dX8_fetch_265 rfl ?_
                  refine ad_goto 282 dX8_fetch_267 (by decide) ?_
                  exact ad_reti dX8_fetch_282 rfl (by
                        rw [show v = 10 by omega] at hcost hmany
                        have e : ad_m_fetch C h m0 w = ((if w = 0 then ((ad_bits SS : Nat) : Int) else if w = 1 then ad_sm (ad_scH (ad_cA C) SS KK) 10 else ((ad_pp (ad_sw (ad_cA C) SS KK) 10 : Nat) : Int)), C) := hspec
                        rw [e]
                        exact ⟨by rw [if_pos (by omega)], hC57, (f57.mono (by decide) (by decide))⟩)
              · show ad_R _ _ _ _ 160 _ _ _
                have hsl := ad_bits_lt SS
                have hkl := ad_bits_lt KK
                have htb := ad_tbN SS (v := v) (by omega)
                exfalso; omega
            | succ n ih' =>
              intro v cost many x10 x11 hSS hspec hv hcost hmany hn
              have hc10 := hr57.1.1
              have ih := fun v' cost' many' x10' x11' a b c e => ih' v' cost' many' x10' x11' hSS hspec a b c e
              refine ad_iload dX8_fetch_153 rfl ?_
              refine ad_bipush dX8_fetch_155 rfl ?_
              refine ad_icmp_ge 261 dX8_fetch_157 (by decide) (by omega) (by omega) (fun h157 => ?_) (fun h157 => ?_)
              · skip
                refine ad_iload_n dX8_fetch_261 rfl ?_
                refine ad_if_ne 270 dX8_fetch_262 (by decide) (by omega) (fun h262 => ?_) (fun h262 => ?_)
                · skip
                  refine ad_iload_n dX8_fetch_270 rfl ?_
                  refine ad_iconst dX8_fetch_271 ?_
                  refine ad_icmp_ne 280 dX8_fetch_272 (by decide) (by omega) (by omega) (fun h272 => ?_) (fun h272 => ?_)
                  · skip
                    refine ad_iload dX8_fetch_280 rfl ?_
                    exact ad_reti dX8_fetch_282 rfl (by
                          rw [show v = 10 by omega] at hcost hmany
                          have e : ad_m_fetch C h m0 w = ((if w = 0 then ((ad_bits SS : Nat) : Int) else if w = 1 then ad_sm (ad_scH (ad_cA C) SS KK) 10 else ((ad_pp (ad_sw (ad_cA C) SS KK) 10 : Nat) : Int)), C) := hspec
                          rw [e]
                          exact ⟨by rw [if_neg (by omega), if_neg (by omega)]; rw [hmany], hC57, (f57.mono (by decide) (by decide))⟩)
                  · show ad_R _ _ _ _ 275 _ _ _
                    refine ad_iload dX8_fetch_275 rfl ?_
                    refine ad_goto 282 dX8_fetch_277 (by decide) ?_
                    exact ad_reti dX8_fetch_282 rfl (by
                          rw [show v = 10 by omega] at hcost hmany
                          have e : ad_m_fetch C h m0 w = ((if w = 0 then ((ad_bits SS : Nat) : Int) else if w = 1 then ad_sm (ad_scH (ad_cA C) SS KK) 10 else ((ad_pp (ad_sw (ad_cA C) SS KK) 10 : Nat) : Int)), C) := hspec
                          rw [e]
                          exact ⟨by rw [if_neg (by omega), if_pos (by omega)]; rw [hcost], hC57, (f57.mono (by decide) (by decide))⟩)
                · show ad_R _ _ _ _ 265 _ _ _
                  refine ad_iload dX8_fetch_265 rfl ?_
                  refine ad_goto 282 dX8_fetch_267 (by decide) ?_
                  exact ad_reti dX8_fetch_282 rfl (by
                        rw [show v = 10 by omega] at hcost hmany
                        have e : ad_m_fetch C h m0 w = ((if w = 0 then ((ad_bits SS : Nat) : Int) else if w = 1 then ad_sm (ad_scH (ad_cA C) SS KK) 10 else ((ad_pp (ad_sw (ad_cA C) SS KK) 10 : Nat) : Int)), C) := hspec
                        rw [e]
                        exact ⟨by rw [if_pos (by omega)], hC57, (f57.mono (by decide) (by decide))⟩)
              · show ad_R _ _ _ _ 160 _ _ _
                have hsl := ad_bits_lt SS
                have hkl := ad_bits_lt KK
                have htb := ad_tbN SS (v := v) (by omega)
                refine ad_iload dX8_fetch_160 rfl ?_
                refine ad_iload dX8_fetch_162 rfl ?_
                refine ad_ishr dX8_fetch_164 ?_
                refine ad_iconst dX8_fetch_165 ?_
                refine ad_iand dX8_fetch_166 ?_
                rw [ad_bitI (by omega) (by omega)]
                refine ad_ifp_ne 173 dX8_fetch_167 (by decide) (fun h167 => ?_) (fun h167 => ?_)
                · skip
                  have hSv : SS v = true := htb.mp h167
                  have hH := hSS v hSv
                  have hvv := hr57.2.2.2.2.1 v hH
                  have hBr := ad_B_rng hw hH
                  have hlkr := ad_lk_rng (v := ad_aB (ad_cA C) v) (by omega)
                  have hlkn := ad_lk_no hBr.1
                  have hcst := ad_cst_r8 hw hH
                  have hvl := (hr57.1.2 v hH).2.1
                  refine ad_aload_n dX8_fetch_173 rfl ?_
                  refine gf_X8_9 rfl dX8_fetch_174 ?_
                  refine ad_bipush dX8_fetch_177 rfl ?_
                  refine ad_iload dX8_fetch_179 rfl ?_
                  refine ad_imul dX8_fetch_181 ?_
                  refine ad_iconst dX8_fetch_182 ?_
                  refine ad_iadd dX8_fetch_183 ?_
                  refine ad_ialj (50 * v + 4) dX8_fetch_184 (by decide) ⟨by decide, by decide⟩ (by omega) (by show _ < 520; omega) (hvv.2.1) ?_
                  refine ad_istore dX8_fetch_185 (by decide) rfl (by dsimp only [ad_set]) ?_
                  refine ad_iload dX8_fetch_187 rfl ?_
                  refine ad_bipush dX8_fetch_189 rfl ?_
                  refine ad_icmp_eq 205 dX8_fetch_191 (by decide) (by omega) (by decide) (fun h191 => ?_) (fun h191 => ?_)
                  · skip
                    refine ad_iconst dX8_fetch_205 ?_
                    refine ad_goto 210 dX8_fetch_206 (by decide) ?_
                    refine ad_istore dX8_fetch_210 (by decide) rfl (by dsimp only [ad_set]) ?_
                    refine ad_iload dX8_fetch_212 rfl ?_
                    refine ad_iload dX8_fetch_214 rfl ?_
                    refine ad_if_eq 228 dX8_fetch_216 (by decide) (by omega) (fun h216 => ?_) (fun h216 => ?_)
                    · exfalso; omega
                    · show ad_R _ _ _ _ 219 _ _ _
                      refine ad_aload_n dX8_fetch_219 rfl ?_
                      refine ad_iload dX8_fetch_220 rfl ?_
                      refine ad_cv1f rfl cl_X8_86 dX8_fetch_222 (c_X8_costOf hr57 hw hH ((g57.1 v (by omega)).trans (if_pos hH))) (by omega) (by show _ < 1; omega) (Nat.le_of_ble_eq_true rfl) ?_
                      refine ad_goto 237 dX8_fetch_225 (by decide) ?_
                      refine ad_iadd dX8_fetch_237 ?_
                      refine ad_istore dX8_fetch_238 (by decide) rfl (by dsimp only [ad_set]) ?_
                      refine ad_iload dX8_fetch_240 rfl ?_
                      refine ad_iload dX8_fetch_242 rfl ?_
                      refine ad_if_eq 251 dX8_fetch_244 (by decide) (by omega) (fun h244 => ?_) (fun h244 => ?_)
                      · exfalso; omega
                      · show ad_R _ _ _ _ 247 _ _ _
                        refine ad_iconst dX8_fetch_247 ?_
                        refine ad_goto 252 dX8_fetch_248 (by decide) ?_
                        refine ad_iadd dX8_fetch_252 ?_
                        refine ad_istore dX8_fetch_253 (by decide) rfl (by dsimp only [ad_set]) ?_
                        refine ad_iinc dX8_fetch_255 rfl (by decide) rfl (by dsimp only [ad_set]) ?_
                        refine ad_goto 153 dX8_fetch_258 (by decide) ?_
                        have hno : ¬ ad_sw (ad_cA C) SS KK v = true := by unfold ad_sw; rw [hlkn.mp h191]; simp
                        exact ih (v + 1) _ _ _ _ (by omega) (by rw [ad_sm, ← hcost]; unfold ad_scH; rw [if_pos (by rw [hSv, hH]; rfl), if_neg hno]) (by rw [ad_pp, if_neg hno]; omega) (by omega)
                  · show ad_R _ _ _ _ 194 _ _ _
                    have hBn : ad_aB (ad_cA C) v ≠ -1 := fun z => h191 (hlkn.mpr z)
                    obtain ⟨BB, hBB⟩ : ∃ BB : Nat, ad_aB (ad_cA C) v = (BB : Int) := ⟨(ad_aB (ad_cA C) v).toNat, by omega⟩
                    rw [ad_lk_ge hBn, hBB]
                    have htk := ad_tbN KK (v := BB) (by omega)
                    refine ad_iload dX8_fetch_194 rfl ?_
                    refine ad_iload dX8_fetch_196 rfl ?_
                    refine ad_ishr dX8_fetch_198 ?_
                    refine ad_iconst dX8_fetch_199 ?_
                    refine ad_iand dX8_fetch_200 ?_
                    rw [ad_bitI (by omega) (by omega)]
                    refine ad_iconst dX8_fetch_201 ?_
                    refine ad_icmp_ne_p1 209 dX8_fetch_202 (by decide) (fun h202 => ?_) (fun h202 => ?_)
                    · skip
                      refine ad_iconst dX8_fetch_209 ?_
                      refine ad_istore dX8_fetch_210 (by decide) rfl (by dsimp only [ad_set]) ?_
                      refine ad_iload dX8_fetch_212 rfl ?_
                      refine ad_iload dX8_fetch_214 rfl ?_
                      refine ad_if_eq 228 dX8_fetch_216 (by decide) (by omega) (fun h216 => ?_) (fun h216 => ?_)
                      · skip
                        refine ad_iconst dX8_fetch_228 ?_
                        refine ad_aload_n dX8_fetch_229 rfl ?_
                        refine gf_X8_34 rfl dX8_fetch_230 ?_
                        refine ad_iload dX8_fetch_233 rfl ?_
                        refine ad_ialj (v) dX8_fetch_235 (by decide) ⟨by decide, by decide⟩ (by omega) (by show _ < 10; omega) (((g57.1 v (by omega)).trans (if_pos hH))) ?_
                        refine ad_iadd dX8_fetch_236 ?_
                        refine ad_iadd dX8_fetch_237 ?_
                        refine ad_istore dX8_fetch_238 (by decide) rfl (by dsimp only [ad_set]) ?_
                        refine ad_iload dX8_fetch_240 rfl ?_
                        refine ad_iload dX8_fetch_242 rfl ?_
                        refine ad_if_eq 251 dX8_fetch_244 (by decide) (by omega) (fun h244 => ?_) (fun h244 => ?_)
                        · skip
                          refine ad_iconst dX8_fetch_251 ?_
                          refine ad_iadd dX8_fetch_252 ?_
                          refine ad_istore dX8_fetch_253 (by decide) rfl (by dsimp only [ad_set]) ?_
                          refine ad_iinc dX8_fetch_255 rfl (by decide) rfl (by dsimp only [ad_set]) ?_
                          refine ad_goto 153 dX8_fetch_258 (by decide) ?_
                          have hyes : ad_sw (ad_cA C) SS KK v = true := by
                            unfold ad_sw
                            rw [hSv, hH, decide_eq_true hBn, hBB, Int.toNat_natCast, Bool.eq_false_iff.mpr (fun z => h202 (htk.mpr z))]; rfl
                          exact ih (v + 1) _ _ _ _ (by omega) (by rw [ad_sm, ← hcost]; unfold ad_scH; rw [if_pos (by rw [hSv, hH]; rfl), if_pos hyes]) (by rw [ad_pp, if_pos hyes]; omega) (by omega)
                        · exfalso; omega
                      · exfalso; omega
                    · show ad_R _ _ _ _ 205 _ _ _
                      refine ad_iconst dX8_fetch_205 ?_
                      refine ad_goto 210 dX8_fetch_206 (by decide) ?_
                      refine ad_istore dX8_fetch_210 (by decide) rfl (by dsimp only [ad_set]) ?_
                      refine ad_iload dX8_fetch_212 rfl ?_
                      refine ad_iload dX8_fetch_214 rfl ?_
                      refine ad_if_eq 228 dX8_fetch_216 (by decide) (by omega) (fun h216 => ?_) (fun h216 => ?_)
                      · exfalso; omega
                      · show ad_R _ _ _ _ 219 _ _ _
                        refine ad_aload_n dX8_fetch_219 rfl ?_
                        refine ad_iload dX8_fetch_220 rfl ?_
                        refine ad_cv1f rfl cl_X8_86 dX8_fetch_222 (c_X8_costOf hr57 hw hH ((g57.1 v (by omega)).trans (if_pos hH))) (by omega) (by show _ < 1; omega) (Nat.le_of_ble_eq_true rfl) ?_
                        refine ad_goto 237 dX8_fetch_225 (by decide) ?_
                        refine ad_iadd dX8_fetch_237 ?_
                        refine ad_istore dX8_fetch_238 (by decide) rfl (by dsimp only [ad_set]) ?_
                        refine ad_iload dX8_fetch_240 rfl ?_
                        refine ad_iload dX8_fetch_242 rfl ?_
                        refine ad_if_eq 251 dX8_fetch_244 (by decide) (by omega) (fun h244 => ?_) (fun h244 => ?_)
                        · exfalso; omega
                        · show ad_R _ _ _ _ 247 _ _ _
                          refine ad_iconst dX8_fetch_247 ?_
                          refine ad_goto 252 dX8_fetch_248 (by decide) ?_
                          refine ad_iadd dX8_fetch_252 ?_
                          refine ad_istore dX8_fetch_253 (by decide) rfl (by dsimp only [ad_set]) ?_
                          refine ad_iinc dX8_fetch_255 rfl (by decide) rfl (by dsimp only [ad_set]) ?_
                          refine ad_goto 153 dX8_fetch_258 (by decide) ?_
                          have hno : ¬ ad_sw (ad_cA C) SS KK v = true := by unfold ad_sw; rw [hBB, Int.toNat_natCast, htk.mp h202]; simp
                          exact ih (v + 1) _ _ _ _ (by omega) (by rw [ad_sm, ← hcost]; unfold ad_scH; rw [if_pos (by rw [hSv, hH]; rfl), if_neg hno]) (by rw [ad_pp, if_neg hno]; omega) (by omega)
                · show ad_R _ _ _ _ 170 _ _ _
                  refine ad_goto 255 dX8_fetch_170 (by decide) ?_
                  refine ad_iinc dX8_fetch_255 rfl (by decide) rfl (by dsimp only [ad_set]) ?_
                  refine ad_goto 153 dX8_fetch_258 (by decide) ?_
                  have hSv : ¬ SS v = true := fun z => h167 (htb.mpr z)
                  exact ih (v + 1) _ _ _ _ (by omega) (by rw [ad_sm, ← hcost]; unfold ad_scH; rw [if_neg (by rw [Bool.and_eq_true]; exact fun z => hSv z.1)]; omega) (by rw [ad_pp, if_neg (by unfold ad_sw; simp only [Bool.and_eq_true]; exact fun z => hSv z.1.1.1)]; exact hmany) (by omega)
          have haft : ∀ (i : Int), ad_R g mX8_fetch d (ad_ZQ mX8_fetch (fun x m => ad_an8 σ x m (ad_m_fetch C h m0 w))) 87 [some (ad_rf g 8 0), some (ad_iv h), some (ad_iv m0), some (ad_iv w), some (ad_iv ((ad_bits (ad_wn (ad_cA C) (fun i => m0.toNat.testBit i) 10) : Nat) : Int)), some (ad_iv i), none, none, none, none, none, none] [] s57 := by
            intro i
            refine ad_aload_n dX8_fetch_87 rfl ?_
            refine gf_X8_9 rfl dX8_fetch_88 ?_
            refine ad_sipush dX8_fetch_91 rfl ?_
            refine ad_iload_n dX8_fetch_94 rfl ?_
            refine ad_iadd dX8_fetch_95 ?_
            refine ad_ialj (501 + h.toNat) dX8_fetch_96 (by decide) ⟨by decide, by decide⟩ (by omega) (by show _ < 520; omega) (hEl) ?_
            refine ad_bipush dX8_fetch_97 rfl ?_
            refine ad_icmp_ne 106 dX8_fetch_99 (by decide) (by omega) (by omega) (fun h99 => ?_) (fun h99 => ?_)
            · skip
              have hEz : ad_aE (ad_cA C) h.toNat ≠ -1 := fun z => h99 (hEn.mpr z)
              obtain ⟨EE, hEv⟩ : ∃ EE : Nat, ad_aE (ad_cA C) h.toNat = (EE : Int) := ⟨(ad_aE (ad_cA C) h.toNat).toNat, by omega⟩
              have hEH := (hE.2 hEz).2
              rw [hEv, Int.toNat_natCast] at hEH
              have hEC := (hr57.1.2 EE hEH).1
              have hc10 := hr57.1.1
              refine ad_aload_n dX8_fetch_106 rfl ?_
              refine ad_aload_n dX8_fetch_107 rfl ?_
              refine gf_X8_9 rfl dX8_fetch_108 ?_
              refine ad_sipush dX8_fetch_111 rfl ?_
              refine ad_iload_n dX8_fetch_114 rfl ?_
              refine ad_iadd dX8_fetch_115 ?_
              refine ad_ialj (501 + h.toNat) dX8_fetch_116 (by decide) ⟨by decide, by decide⟩ (by omega) (by show _ < 520; omega) (hEl.trans ((ad_lk_ge hEz).trans hEv)) ?_
              refine ad_cv1f rfl cl_X8_139 dX8_fetch_117 (c_X8_reachedFrom hr57 hw (v := EE) (by omega) (by omega)) (by omega) (by show _ < 1; omega) (Nat.le_of_ble_eq_true rfl) ?_
              refine ad_aload_n dX8_fetch_120 rfl ?_
              refine ad_cv0f rfl cl_X8_142 dX8_fetch_121 (c_X8_there hr57 (by omega)) (by omega) (by show _ < 1; omega) (Nat.le_of_ble_eq_true rfl) ?_
              refine ad_iand dX8_fetch_124 ?_
              rw [ad_and_bits]
              refine ad_iload dX8_fetch_125 rfl ?_
              refine ad_iconst dX8_fetch_127 ?_
              refine ad_ixor dX8_fetch_128 ?_
              refine ad_iand dX8_fetch_129 ?_
              rw [ad_not_bits]
              refine ad_istore dX8_fetch_130 (by decide) rfl (by dsimp only [ad_set]) ?_
              refine ad_iload dX8_fetch_132 rfl ?_
              refine ad_iload dX8_fetch_134 rfl ?_
              refine ad_aload_n dX8_fetch_136 rfl ?_
              refine ad_cv0f rfl cl_X8_142 dX8_fetch_137 (c_X8_there hr57 (by omega)) (by omega) (by show _ < 1; omega) (Nat.le_of_ble_eq_true rfl) ?_
              refine ad_iand dX8_fetch_140 ?_
              rw [ad_and_bits]
              refine ad_ior dX8_fetch_141 ?_
              rw [ad_or_bits]
              refine ad_istore dX8_fetch_142 (by decide) rfl (by dsimp only [ad_set]) ?_
              refine ad_iconst dX8_fetch_144 ?_
              refine ad_istore dX8_fetch_145 (by decide) rfl (by dsimp only [ad_set]) ?_
              refine ad_iconst dX8_fetch_147 ?_
              refine ad_istore dX8_fetch_148 (by decide) rfl (by dsimp only [ad_set]) ?_
              refine ad_iconst dX8_fetch_150 ?_
              refine ad_istore dX8_fetch_151 (by decide) rfl (by dsimp only [ad_set]) ?_
              have hhad : ∀ u, ad_aH (ad_cA C) u = true → ad_wn (ad_cA C) (fun i => m0.toNat.testBit i) 10 u = ad_had (ad_cA C) m0 u := fun u hu => ad_wn_had hw _ (hr57.1.2 u hu).1
              have hS : ∀ u, ((ad_reach (ad_aP (ad_cA C)) (ad_aQ (ad_cA C)) EE u && ad_aH (ad_cA C) u) && !ad_wn (ad_cA C) (fun i => m0.toNat.testBit i) 10 u) = ad_snt (ad_cA C) EE m0 u := fun u => by
                unfold ad_snt
                by_cases hu : ad_aH (ad_cA C) u = true
                · rw [hhad u hu]
                · rw [Bool.eq_false_iff.mpr hu]; simp
              have hK : ∀ u, (ad_snt (ad_cA C) EE m0 u || (ad_wn (ad_cA C) (fun i => m0.toNat.testBit i) 10 u && ad_aH (ad_cA C) u)) = ad_knw (ad_cA C) EE m0 u := fun u => by
                unfold ad_knw
                by_cases hu : ad_aH (ad_cA C) u = true
                · rw [hhad u hu, hu, Bool.and_true, Bool.and_true]
                · have hsn : ad_snt (ad_cA C) EE m0 u = false := by unfold ad_snt; rw [Bool.eq_false_iff.mpr hu, Bool.and_false, Bool.false_and]
                  rw [hsn, Bool.eq_false_iff.mpr hu, Bool.and_false, Bool.and_false]; rfl
              refine hl _ _ _ _ 0 0 0 _ _ (fun u hu => by simp only [Bool.and_eq_true] at hu; exact hu.1.2) ?_ (by omega) rfl rfl (Nat.le_refl _)
              simp only [hS, hK]
              unfold ad_m_fetch
              rw [if_neg (by omega), if_neg (by omega), if_neg (by omega), if_neg (by omega), if_neg hEz, hEv, Int.toNat_natCast]
              repeat' split
              all_goals rfl
            · show ad_R _ _ _ _ 102 _ _ _
              refine ad_iconst dX8_fetch_102 ?_
              refine ad_goto 130 dX8_fetch_103 (by decide) ?_
              rw [show ad_iv 0 = ad_iv ((ad_bits (fun _ => false) : Nat) : Int) by rw [ad_bits_0]; rfl]
              refine ad_istore dX8_fetch_130 (by decide) rfl (by dsimp only [ad_set]) ?_
              refine ad_iload dX8_fetch_132 rfl ?_
              refine ad_iload dX8_fetch_134 rfl ?_
              refine ad_aload_n dX8_fetch_136 rfl ?_
              refine ad_cv0f rfl cl_X8_142 dX8_fetch_137 (c_X8_there hr57 (by omega)) (by omega) (by show _ < 1; omega) (Nat.le_of_ble_eq_true rfl) ?_
              refine ad_iand dX8_fetch_140 ?_
              rw [ad_and_bits]
              refine ad_ior dX8_fetch_141 ?_
              rw [ad_or_bits]
              refine ad_istore dX8_fetch_142 (by decide) rfl (by dsimp only [ad_set]) ?_
              refine ad_iconst dX8_fetch_144 ?_
              refine ad_istore dX8_fetch_145 (by decide) rfl (by dsimp only [ad_set]) ?_
              refine ad_iconst dX8_fetch_147 ?_
              refine ad_istore dX8_fetch_148 (by decide) rfl (by dsimp only [ad_set]) ?_
              refine ad_iconst dX8_fetch_150 ?_
              refine ad_istore dX8_fetch_151 (by decide) rfl (by dsimp only [ad_set]) ?_
              refine hl _ _ _ _ 0 0 0 _ _ (fun u hu => by cases hu) ?_ (by omega) rfl rfl (Nat.le_refl _)
              unfold ad_m_fetch
              rw [if_neg (by omega), if_neg (by omega), if_neg (by omega), if_neg (by omega), if_pos (hEn.mp (Decidable.not_not.mp h99)), ad_bits_0]
              have z1 : ∀ KK n, ad_sm (ad_scH (ad_cA C) (fun _ => false) KK) n = 0 := fun KK n => by
                induction n with
                | zero => rfl
                | succ n ih => rw [ad_sm, ih]; rfl
              have z2 : ∀ KK n, ad_pp (ad_sw (ad_cA C) (fun _ => false) KK) n = 0 := fun KK n => by
                induction n with
                | zero => rfl
                | succ n ih => rw [ad_pp, ih]; rfl
              rw [z1, z2]
              repeat' split
              all_goals rfl
          have hah : ∀ (n i : Nat) (p : Nat → Bool), i ≤ 10 → ad_wn (ad_cA C) p (10 - i) = (ad_wn (ad_cA C) (fun i => m0.toNat.testBit i) 10) → 10 - i ≤ n → ad_R g mX8_fetch d (ad_ZQ mX8_fetch (fun x m => ad_an8 σ x m (ad_m_fetch C h m0 w))) 66 [some (ad_rf g 8 0), some (ad_iv h), some (ad_iv m0), some (ad_iv w), some (ad_iv ((ad_bits p : Nat) : Int)), some (ad_iv (i : Int)), none, none, none, none, none, none] [] s57 := by
            intro n
            induction n with
            | zero =>
              intro i p hi hp hn
              refine ad_iload dX8_fetch_66 rfl ?_
              refine ad_bipush dX8_fetch_68 rfl ?_
              refine ad_icmp_ge 87 dX8_fetch_70 (by decide) (by omega) (by omega) (fun h70 => ?_) (fun h70 => ?_)
              · skip
                rw [show 10 - i = 0 by omega] at hp
                change p = _ at hp
                subst hp
                exact haft _
              · show ad_R _ _ _ _ 73 _ _ _
                exfalso; omega
            | succ n ih =>
              intro i p hi hp hn
              refine ad_iload dX8_fetch_66 rfl ?_
              refine ad_bipush dX8_fetch_68 rfl ?_
              refine ad_icmp_ge 87 dX8_fetch_70 (by decide) (by omega) (by omega) (fun h70 => ?_) (fun h70 => ?_)
              · skip
                rw [show 10 - i = 0 by omega] at hp
                change p = _ at hp
                subst hp
                exact haft _
              · show ad_R _ _ _ _ 73 _ _ _
                refine ad_aload_n dX8_fetch_73 rfl ?_
                refine ad_iload dX8_fetch_74 rfl ?_
                refine ad_cv1f rfl cl_X8_136 dX8_fetch_76 (c_X8_widened hr57 hw p) (by omega) (by show _ < 1; omega) (Nat.le_of_ble_eq_true rfl) ?_
                refine ad_istore dX8_fetch_79 (by decide) rfl (by dsimp only [ad_set]) ?_
                refine ad_iinc dX8_fetch_81 rfl (by decide) rfl (by dsimp only [ad_set]) ?_
                refine ad_goto 66 dX8_fetch_84 (by decide) ?_
                exact ih (i + 1) _ (by omega) (by rw [← hp, show 10 - i = 10 - (i + 1) + 1 by omega]; rfl) (by omega)
          refine ad_iload_n dX8_fetch_60 rfl ?_
          refine ad_istore dX8_fetch_61 (by decide) rfl (by dsimp only [ad_set]) ?_
          have hmb : ad_iv m0 = ad_iv ((ad_bits (fun i => m0.toNat.testBit i) : Nat) : Int) := by rw [show ad_bits (fun i => m0.toNat.testBit i) = m0.toNat from ad_bits_self (by omega)]; congr 2; omega
          refine ad_iconst dX8_fetch_63 ?_
          refine ad_istore dX8_fetch_64 (by decide) rfl (by dsimp only [ad_set]) ?_
          have hzz := hah _ 0 (fun i => m0.toNat.testBit i) (by omega) rfl (Nat.le_refl _)
          rw [← hmb] at hzz
          exact hzz
        · show ad_R _ _ _ _ 49 _ _ _
          refine ad_aload_n dX8_fetch_49 rfl ?_
          refine ad_bipush dX8_fetch_50 rfl ?_
          refine ad_cv1q rfl cl_X8_51 dX8_fetch_52 (c_X8_noC hC (by decide)) (by omega) (by show _ < 1; omega) (Nat.le_of_ble_eq_true rfl) (fun x52 s52 q52 => ?_)
          obtain ⟨rfl, c52, f52⟩ := q52
          exact ad_reti dX8_fetch_55 rfl (by
            have e : ad_m_fetch C h m0 w = ad_no C 2 := by
              unfold ad_m_fetch
              (repeat' split) <;> first | with_reducible rfl | contradiction | (exfalso; omega) | rfl | (exfalso; simp_all; omega) | (simp_all; done)
            rw [e]
            exact ⟨rfl, c52, (f52.mono (by decide) (by decide))⟩)
      · show ad_R _ _ _ _ 33 _ _ _
        refine ad_aload_n dX8_fetch_33 rfl ?_
        refine ad_bipush dX8_fetch_34 rfl ?_
        refine ad_cv1q rfl cl_X8_51 dX8_fetch_36 (c_X8_noC hC (by decide)) (by omega) (by show _ < 1; omega) (Nat.le_of_ble_eq_true rfl) (fun x36 s36 q36 => ?_)
        obtain ⟨rfl, c36, f36⟩ := q36
        exact ad_reti dX8_fetch_39 rfl (by
          have e : ad_m_fetch C h m0 w = ad_no C 6 := by
            unfold ad_m_fetch
            (repeat' split) <;> first | with_reducible rfl | contradiction | (exfalso; omega) | rfl | (exfalso; simp_all; omega) | (simp_all; done)
          rw [e]
          exact ⟨rfl, c36, (f36.mono (by decide) (by decide))⟩)
    · show ad_R _ _ _ _ 19 _ _ _
      refine ad_aload_n dX8_fetch_19 rfl ?_
      refine ad_bipush dX8_fetch_20 rfl ?_
      refine ad_cv1q rfl cl_X8_51 dX8_fetch_22 (c_X8_noC hC (by decide)) (by omega) (by show _ < 1; omega) (Nat.le_of_ble_eq_true rfl) (fun x22 s22 q22 => ?_)
      obtain ⟨rfl, c22, f22⟩ := q22
      exact ad_reti dX8_fetch_25 rfl (by
        have e : ad_m_fetch C h m0 w = ad_no C 4 := by
          unfold ad_m_fetch
          (repeat' split) <;> first | with_reducible rfl | contradiction | (exfalso; omega) | rfl | (exfalso; simp_all; omega) | (simp_all; done)
        rw [e]
        exact ⟨rfl, c22, (f22.mono (by decide) (by decide))⟩)
  · show ad_R _ _ _ _ 9 _ _ _
    refine ad_aload_n dX8_fetch_9 rfl ?_
    refine ad_iconst dX8_fetch_10 ?_
    refine ad_cv1q rfl cl_X8_51 dX8_fetch_11 (c_X8_noC hC (by decide)) (by omega) (by show _ < 1; omega) (Nat.le_of_ble_eq_true rfl) (fun x11 s11 q11 => ?_)
    obtain ⟨rfl, c11, f11⟩ := q11
    exact ad_reti dX8_fetch_14 rfl (by
      have e : ad_m_fetch C h m0 w = ad_no C 1 := by
        unfold ad_m_fetch
        (repeat' split) <;> first | with_reducible rfl | contradiction | (exfalso; omega) | rfl | (exfalso; simp_all; omega) | (simp_all; done)
      rw [e]
      exact ⟨rfl, c11, (f11.mono (by decide) (by decide))⟩)
