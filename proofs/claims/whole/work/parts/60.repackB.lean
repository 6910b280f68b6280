/-! ===== the reference: a repack: bases chosen ===== -/
theorem ad_rpB {g : ad_G} {d : Nat} {σ : ad_Mem} {Z : Nat → List Value → ad_Mem → Prop} {A : ad_Ar} (hw : ad_wA A) (hr : ad_ra (σ 21 0) A) (hrr : ad_rr σ (ad_aH A) (ad_aL A)) (h3d : 3 ≤ d) (hp : ∀ j, j < (ad_ordL A (ad_aK A)).length → σ 31 0 j = ((ad_ordL A (ad_aK A)).getD j 0 : Int)) (kk : ∀ (m : ad_Mem) (y2 : Int) (y3 y4 y5 y6 y7 y8 y9 : Option Value), ad_f8 [30, 32, 33] [18, 19] σ m → (∀ q, q < (ad_ordL A (ad_aK A)).length → m 33 0 ((ad_ordL A (ad_aK A)).getD q 0) = if (ad_pl A (ad_aK A) (ad_aF A) (ad_aN A) (ad_ordL A (ad_aK A)) (ad_ordL A (ad_aK A)).length).1 ((ad_ordL A (ad_aK A)).getD q 0) < 10 then (ad_pl A (ad_aK A) (ad_aF A) (ad_aN A) (ad_ordL A (ad_aK A)) (ad_ordL A (ad_aK A)).length).1 ((ad_ordL A (ad_aK A)).getD q 0) else -9) → ad_R g mX8_repacks d Z 303 [some (ad_rf g 8 0), some (ad_iv ((ad_ordL A (ad_aK A)).length : Int)), some (ad_iv y2), y3, y4, y5, y6, y7, y8, y9] [] m) (x2 x3 x4 x5 x6 x7 x8 x9 : Option Value) : ad_R g mX8_repacks d Z 83 [some (ad_rf g 8 0), some (ad_iv ((ad_ordL A (ad_aK A)).length : Int)), x2, x3, x4, x5, x6, x7, x8, x9] [] σ := by
  have w8 := hw.2.2.2.2.2.2.2.1
  have hl10 := ad_ordL_len A (ad_aK A)
  have hplr := ad_pl_rng hw (k := ad_aK A) (f := ad_aF A) (b := ad_aN A) w8.2.2 (l := (ad_ordL A (ad_aK A))) ad_ordL_in w8.2.1.1
  have hlp : ∀ (n i : Nat) (sv : Int) (x4 x5 x6 x7 x8 x9 : Option Value) (m : ad_Mem), sv = ad_sav (ad_aK A) (ad_aF A) → i ≤ (ad_ordL A (ad_aK A)).length → ad_f8 [30, 32, 33] [18, 19] σ m → (∀ q, q < i → m 32 0 ((ad_ordL A (ad_aK A)).getD q 0) = (ad_pl A (ad_aK A) (ad_aF A) (ad_aN A) (ad_ordL A (ad_aK A)) i).2.1 ((ad_ordL A (ad_aK A)).getD q 0) ∧ m 33 0 ((ad_ordL A (ad_aK A)).getD q 0) = if (ad_pl A (ad_aK A) (ad_aF A) (ad_aN A) (ad_ordL A (ad_aK A)) i).1 ((ad_ordL A (ad_aK A)).getD q 0) < 10 then (ad_pl A (ad_aK A) (ad_aF A) (ad_aN A) (ad_ordL A (ad_aK A)) i).1 ((ad_ordL A (ad_aK A)).getD q 0) else -9) → (ad_ordL A (ad_aK A)).length - i ≤ n → ad_R g mX8_repacks d Z 112 [some (ad_rf g 8 0), some (ad_iv ((ad_ordL A (ad_aK A)).length : Int)), some (ad_iv sv), some (ad_iv (i : Int)), x4, x5, x6, x7, x8, x9] [] m := by
    intro n
    induction n with
    | zero =>
      intro i sv x4 x5 x6 x7 x8 x9 m hsv hi hf hq hn
      refine ad_iload_n dX8_repacks_112 rfl ?_
      refine ad_iload_n dX8_repacks_113 rfl ?_
      refine ad_icmp_ge 303 dX8_repacks_114 (by decide) (by omega) (by omega) (fun h114 => ?_) (fun h114 => ?_)
      · skip
        rw [show i = (ad_ordL A (ad_aK A)).length by omega] at hq
        exact kk m _ _ _ _ _ _ _ _ hf (fun q hqi => (hq q hqi).2)
      · show ad_R _ _ _ _ 117 _ _ _
        exfalso; omega
    | succ n ihn' =>
      intro i sv x4 x5 x6 x7 x8 x9 m hsv hi hf hq hn
      have ihn : ∀ (i' : Nat) (x4 x5 x6 x7 x8 x9 : Option Value) (m : ad_Mem), i' ≤ (ad_ordL A (ad_aK A)).length → ad_f8 [30, 32, 33] [18, 19] σ m → (∀ q, q < i' → m 32 0 ((ad_ordL A (ad_aK A)).getD q 0) = (ad_pl A (ad_aK A) (ad_aF A) (ad_aN A) (ad_ordL A (ad_aK A)) i').2.1 ((ad_ordL A (ad_aK A)).getD q 0) ∧ m 33 0 ((ad_ordL A (ad_aK A)).getD q 0) = if (ad_pl A (ad_aK A) (ad_aF A) (ad_aN A) (ad_ordL A (ad_aK A)) i').1 ((ad_ordL A (ad_aK A)).getD q 0) < 10 then (ad_pl A (ad_aK A) (ad_aF A) (ad_aN A) (ad_ordL A (ad_aK A)) i').1 ((ad_ordL A (ad_aK A)).getD q 0) else -9) → (ad_ordL A (ad_aK A)).length - i' ≤ n → ad_R g mX8_repacks d Z 112 [some (ad_rf g 8 0), some (ad_iv ((ad_ordL A (ad_aK A)).length : Int)), some (ad_iv sv), some (ad_iv (i' : Int)), x4, x5, x6, x7, x8, x9] [] m := fun i' x4 x5 x6 x7 x8 x9 m a b c d => ihn' i' sv x4 x5 x6 x7 x8 x9 m hsv a b c d
      have hr1 : ad_ra (m 21 0) A := ad_ra_congr (fun i _ => congrFun (hf.1 21 0 (by decide) (by decide)) i) hr
      have hrr1 : ad_rr m (ad_aH A) (ad_aL A) := ad_rr_congr (hf.1 28 0 (by decide) (by decide)) (hf.1 29 0 (by decide) (by decide)) hrr
      have hp1 : ∀ j, j < (ad_ordL A (ad_aK A)).length → m 31 0 j = ((ad_ordL A (ad_aK A)).getD j 0 : Int) := fun j hj => (congrFun (hf.1 31 0 (by decide) (by decide)) j).trans (hp j hj)
      have hset : ∀ (best least : Int) (x7 x8 x9 : Option Value) (m : ad_Mem), i < (ad_ordL A (ad_aK A)).length → ad_f8 [30, 32, 33] [18, 19] σ m → (∀ q, q < i → m 32 0 ((ad_ordL A (ad_aK A)).getD q 0) = (ad_pl A (ad_aK A) (ad_aF A) (ad_aN A) (ad_ordL A (ad_aK A)) i).2.1 ((ad_ordL A (ad_aK A)).getD q 0) ∧ m 33 0 ((ad_ordL A (ad_aK A)).getD q 0) = if (ad_pl A (ad_aK A) (ad_aF A) (ad_aN A) (ad_ordL A (ad_aK A)) i).1 ((ad_ordL A (ad_aK A)).getD q 0) < 10 then (ad_pl A (ad_aK A) (ad_aF A) (ad_aN A) (ad_ordL A (ad_aK A)) i).1 ((ad_ordL A (ad_aK A)).getD q 0) else -9) → ((best = -9 ∧ (ad_pk A (ad_aK A) (ad_aF A) (ad_aN A) (ad_ordL A (ad_aK A)) (ad_pl A (ad_aK A) (ad_aF A) (ad_aN A) (ad_ordL A (ad_aK A)) i).2.1 i i) = (-1, 2147483647)) ∨ (best = (ad_pk A (ad_aK A) (ad_aF A) (ad_aN A) (ad_ordL A (ad_aK A)) (ad_pl A (ad_aK A) (ad_aF A) (ad_aN A) (ad_ordL A (ad_aK A)) i).2.1 i i).1 ∧ least = (ad_pk A (ad_aK A) (ad_aF A) (ad_aN A) (ad_ordL A (ad_aK A)) (ad_pl A (ad_aK A) (ad_aF A) (ad_aN A) (ad_ordL A (ad_aK A)) i).2.1 i i).2 ∧ (ad_pk A (ad_aK A) (ad_aF A) (ad_aN A) (ad_ordL A (ad_aK A)) (ad_pl A (ad_aK A) (ad_aF A) (ad_aN A) (ad_ordL A (ad_aK A)) i).2.1 i i).1 ≠ -1)) → ad_R g mX8_repacks d Z 223 [some (ad_rf g 8 0), some (ad_iv ((ad_ordL A (ad_aK A)).length : Int)), some (ad_iv sv), some (ad_iv (i : Int)), some (ad_iv (((ad_ordL A (ad_aK A)).getD i 0 : Nat) : Int)), some (ad_iv best), some (ad_iv least), x7, x8, x9] [] m := by
        intro best least x7 x8 x9 m hi hf hq hrel
        have hr1 : ad_ra (m 21 0) A := ad_ra_congr (fun i _ => congrFun (hf.1 21 0 (by decide) (by decide)) i) hr
        have hrr1 : ad_rr m (ad_aH A) (ad_aL A) := ad_rr_congr (hf.1 28 0 (by decide) (by decide)) (hf.1 29 0 (by decide) (by decide)) hrr
        have hp1 : ∀ j, j < (ad_ordL A (ad_aK A)).length → m 31 0 j = ((ad_ordL A (ad_aK A)).getD j 0 : Int) := fun j hj => (congrFun (hf.1 31 0 (by decide) (by decide)) j).trans (hp j hj)
        have hVm := ad_ordL_in _ (ad_getD_mem (l := (ad_ordL A (ad_aK A))) (i := i) (by omega))
        have hVl := (hr.1.2 _ hVm.2).2.1
        have hVx := (hw.2.2.1 _ hVm.2).1
        have hpki := ad_pk_in A (ad_aK A) (ad_aF A) (ad_aN A) (ad_ordL A (ad_aK A)) (ad_pl A (ad_aK A) (ad_aF A) (ad_aN A) (ad_ordL A (ad_aK A)) i).2.1 i i
        have hbr : ad_rng best := by
          rcases hrel with h1 | h1
          · rw [h1.1]; decide
          · rcases hpki with h2 | ⟨q, q1, q2, q3, q4⟩
            · rw [h2] at h1; exact absurd rfl h1.2.2
            · have := (ad_ordL_in _ (ad_getD_mem (l := (ad_ordL A (ad_aK A))) (i := q) (by omega))).1
              constructor <;> omega
        have hls : best = -9 ∨ (0 ≤ least ∧ least ≤ 25 ∧ 0 ≤ best) := by
          rcases hrel with h1 | h1
          · exact Or.inl h1.1
          · right
            rcases hpki with h2 | ⟨q, q1, q2, q3, q4⟩
            · rw [h2] at h1; exact absurd rfl h1.2.2
            · have := ad_c2_rng hw (u := (ad_ordL A (ad_aK A)).getD q 0) hVm.2
              omega
        have hsr : 1 ≤ ad_sav (ad_aK A) (ad_aF A) ∧ ad_sav (ad_aK A) (ad_aF A) ≤ 10 := by unfold ad_sav; split <;> omega
        refine ad_aload_n dX8_repacks_223 rfl ?_
        refine gf_X8_46 rfl dX8_repacks_224 ?_
        refine ad_iload dX8_repacks_227 rfl ?_
        refine ad_iload dX8_repacks_229 rfl ?_
        refine ad_bipush dX8_repacks_231 rfl ?_
        refine ad_icmp_eq 257 dX8_repacks_233 (by decide) hbr (by decide) (fun h233 => ?_) (fun h233 => ?_)
        · skip
          refine ad_bipush dX8_repacks_257 rfl ?_
          refine ad_iasj ((ad_ordL A (ad_aK A)).getD i 0) dX8_repacks_259 (by decide) ⟨by decide, by decide⟩ (by omega) (by show _ < 10; omega) ?_
          refine ad_aload_n dX8_repacks_260 rfl ?_
          refine gf_X8_43 rfl dX8_repacks_261 ?_
          refine ad_iload dX8_repacks_264 rfl ?_
          refine ad_aload_n dX8_repacks_266 rfl ?_
          refine gf_X8_46 rfl dX8_repacks_267 ?_
          refine ad_iload dX8_repacks_270 rfl ?_
          refine ad_ialj ((ad_ordL A (ad_aK A)).getD i 0) dX8_repacks_272 (by decide) ⟨by decide, by decide⟩ (by omega) (by show _ < 10; omega) (((congrFun (ad_st_r1 _ _ _ _ _) _).trans (ad_u1_eq _ _ _))) ?_
          refine ad_bipush dX8_repacks_273 rfl ?_
          refine ad_icmp_ne 282 dX8_repacks_275 (by decide) (by first | decide | exact hbr) (by decide) (fun h275 => ?_) (fun h275 => ?_)
          · exact absurd rfl h275
          · show ad_R _ _ _ _ 278 _ _ _
            refine ad_iconst dX8_repacks_278 ?_
            refine ad_goto 296 dX8_repacks_279 (by decide) ?_
            refine ad_iasj ((ad_ordL A (ad_aK A)).getD i 0) dX8_repacks_296 (by decide) ⟨by decide, by decide⟩ (by omega) (by show _ < 10; omega) ?_
            refine ad_iinc dX8_repacks_297 rfl (by decide) rfl (by dsimp only [ad_set]) ?_
            refine ad_goto 112 dX8_repacks_300 (by decide) ?_
            have hno : ¬ ((ad_pk A (ad_aK A) (ad_aF A) (ad_aN A) (ad_ordL A (ad_aK A)) (ad_pl A (ad_aK A) (ad_aF A) (ad_aN A) (ad_ordL A (ad_aK A)) i).2.1 i i).1 ≠ -1 ∧ (ad_pk A (ad_aK A) (ad_aF A) (ad_aN A) (ad_ordL A (ad_aK A)) (ad_pl A (ad_aK A) (ad_aF A) (ad_aN A) (ad_ordL A (ad_aK A)) i).2.1 i i).2 ≤ ad_wc A ((ad_ordL A (ad_aK A)).getD i 0) - ad_sav (ad_aK A) (ad_aF A)) := hrel.elim (fun h1 => by rw [h1.2]; exact fun z => z.1 rfl) (fun h1 => by
                exfalso
                rcases hpki with h2 | ⟨q9, q1, q2, q3, q4⟩
                · exact h1.2.2 (congrArg Prod.fst h2)
                · omega)
            have hpl : (ad_pl A (ad_aK A) (ad_aF A) (ad_aN A) (ad_ordL A (ad_aK A)) (i + 1)) = (ad_u1 (ad_pl A (ad_aK A) (ad_aF A) (ad_aN A) (ad_ordL A (ad_aK A)) i).1 ((ad_ordL A (ad_aK A)).getD i 0) 10, ad_u1 (ad_pl A (ad_aK A) (ad_aF A) (ad_aN A) (ad_ordL A (ad_aK A)) i).2.1 ((ad_ordL A (ad_aK A)).getD i 0) 0, (ad_pl A (ad_aK A) (ad_aF A) (ad_aN A) (ad_ordL A (ad_aK A)) i).2.2.1 + ad_wc A ((ad_ordL A (ad_aK A)).getD i 0), max (ad_pl A (ad_aK A) (ad_aF A) (ad_aN A) (ad_ordL A (ad_aK A)) i).2.2.2.1 0, (ad_pl A (ad_aK A) (ad_aF A) (ad_aN A) (ad_ordL A (ad_aK A)) i).2.2.2.2 + 1) := by rw [ad_pl, if_neg hno]
            refine ihn (i + 1) _ _ _ _ _ _ _ (by omega) (hf.trans ((ad_f8.st (by decide) (by decide)).trans (ad_f8.st (by decide) (by decide)))) (fun q hqi => ?_) (by omega)
            rw [hpl, ad_st_r1, ad_st_ne _ _ (by decide), ad_st_ne _ _ (by decide), ad_st_r1]
            by_cases hqe : q = i
            · subst hqe; simp only [ad_u1_eq]; exact ⟨trivial, (if_neg (by decide)).symm⟩
            · have hne : (ad_ordL A (ad_aK A)).getD q 0 ≠ (ad_ordL A (ad_aK A)).getD i 0 := fun z => hqe (ad_getD_inj (ad_ord_nodup 10) (show q < (ad_ordL A (ad_aK A)).length by omega) hi z)
              simp only [ad_u1_ne _ _ hne]
              exact hq q (by omega)
        · show ad_R _ _ _ _ 236 _ _ _
          refine ad_iconst dX8_repacks_236 ?_
          refine ad_aload_n dX8_repacks_237 rfl ?_
          refine gf_X8_34 rfl dX8_repacks_238 ?_
          refine ad_iload dX8_repacks_241 rfl ?_
          refine ad_ialj ((ad_ordL A (ad_aK A)).getD i 0) dX8_repacks_243 (by decide) ⟨by decide, by decide⟩ (by omega) (by show _ < 10; omega) ((by rw [hrr1.1 _ hVm.1, if_pos hVm.2] : m 29 0 ((ad_ordL A (ad_aK A)).getD i 0) = ((ad_aL A ((ad_ordL A (ad_aK A)).getD i 0)).length : Int))) ?_
          refine ad_iadd dX8_repacks_244 ?_
          refine ad_iload dX8_repacks_245 rfl ?_
          refine ad_isub dX8_repacks_247 ?_
          refine ad_iload_n dX8_repacks_248 rfl ?_
          refine ad_icmp_lt 257 dX8_repacks_249 (by decide) (by omega) (by omega) (fun h249 => ?_) (fun h249 => ?_)
          · skip
            refine ad_bipush dX8_repacks_257 rfl ?_
            refine ad_iasj ((ad_ordL A (ad_aK A)).getD i 0) dX8_repacks_259 (by decide) ⟨by decide, by decide⟩ (by omega) (by show _ < 10; omega) ?_
            refine ad_aload_n dX8_repacks_260 rfl ?_
            refine gf_X8_43 rfl dX8_repacks_261 ?_
            refine ad_iload dX8_repacks_264 rfl ?_
            refine ad_aload_n dX8_repacks_266 rfl ?_
            refine gf_X8_46 rfl dX8_repacks_267 ?_
            refine ad_iload dX8_repacks_270 rfl ?_
            refine ad_ialj ((ad_ordL A (ad_aK A)).getD i 0) dX8_repacks_272 (by decide) ⟨by decide, by decide⟩ (by omega) (by show _ < 10; omega) (((congrFun (ad_st_r1 _ _ _ _ _) _).trans (ad_u1_eq _ _ _))) ?_
            refine ad_bipush dX8_repacks_273 rfl ?_
            refine ad_icmp_ne 282 dX8_repacks_275 (by decide) (by first | decide | exact hbr) (by decide) (fun h275 => ?_) (fun h275 => ?_)
            · exact absurd rfl h275
            · show ad_R _ _ _ _ 278 _ _ _
              refine ad_iconst dX8_repacks_278 ?_
              refine ad_goto 296 dX8_repacks_279 (by decide) ?_
              refine ad_iasj ((ad_ordL A (ad_aK A)).getD i 0) dX8_repacks_296 (by decide) ⟨by decide, by decide⟩ (by omega) (by show _ < 10; omega) ?_
              refine ad_iinc dX8_repacks_297 rfl (by decide) rfl (by dsimp only [ad_set]) ?_
              refine ad_goto 112 dX8_repacks_300 (by decide) ?_
              have hno : ¬ ((ad_pk A (ad_aK A) (ad_aF A) (ad_aN A) (ad_ordL A (ad_aK A)) (ad_pl A (ad_aK A) (ad_aF A) (ad_aN A) (ad_ordL A (ad_aK A)) i).2.1 i i).1 ≠ -1 ∧ (ad_pk A (ad_aK A) (ad_aF A) (ad_aN A) (ad_ordL A (ad_aK A)) (ad_pl A (ad_aK A) (ad_aF A) (ad_aN A) (ad_ordL A (ad_aK A)) i).2.1 i i).2 ≤ ad_wc A ((ad_ordL A (ad_aK A)).getD i 0) - ad_sav (ad_aK A) (ad_aF A)) := hrel.elim (fun h1 => by rw [h1.2]; exact fun z => z.1 rfl) (fun h1 z => by have := z.2; unfold ad_wc at this; omega)
              have hpl : (ad_pl A (ad_aK A) (ad_aF A) (ad_aN A) (ad_ordL A (ad_aK A)) (i + 1)) = (ad_u1 (ad_pl A (ad_aK A) (ad_aF A) (ad_aN A) (ad_ordL A (ad_aK A)) i).1 ((ad_ordL A (ad_aK A)).getD i 0) 10, ad_u1 (ad_pl A (ad_aK A) (ad_aF A) (ad_aN A) (ad_ordL A (ad_aK A)) i).2.1 ((ad_ordL A (ad_aK A)).getD i 0) 0, (ad_pl A (ad_aK A) (ad_aF A) (ad_aN A) (ad_ordL A (ad_aK A)) i).2.2.1 + ad_wc A ((ad_ordL A (ad_aK A)).getD i 0), max (ad_pl A (ad_aK A) (ad_aF A) (ad_aN A) (ad_ordL A (ad_aK A)) i).2.2.2.1 0, (ad_pl A (ad_aK A) (ad_aF A) (ad_aN A) (ad_ordL A (ad_aK A)) i).2.2.2.2 + 1) := by rw [ad_pl, if_neg hno]
              refine ihn (i + 1) _ _ _ _ _ _ _ (by omega) (hf.trans ((ad_f8.st (by decide) (by decide)).trans (ad_f8.st (by decide) (by decide)))) (fun q hqi => ?_) (by omega)
              rw [hpl, ad_st_r1, ad_st_ne _ _ (by decide), ad_st_ne _ _ (by decide), ad_st_r1]
              by_cases hqe : q = i
              · subst hqe; simp only [ad_u1_eq]; exact ⟨trivial, (if_neg (by decide)).symm⟩
              · have hne : (ad_ordL A (ad_aK A)).getD q 0 ≠ (ad_ordL A (ad_aK A)).getD i 0 := fun z => hqe (ad_getD_inj (ad_ord_nodup 10) (show q < (ad_ordL A (ad_aK A)).length by omega) hi z)
                simp only [ad_u1_ne _ _ hne]
                exact hq q (by omega)
          · show ad_R _ _ _ _ 252 _ _ _
            refine ad_iload dX8_repacks_252 rfl ?_
            refine ad_goto 259 dX8_repacks_254 (by decide) ?_
            refine ad_iasj ((ad_ordL A (ad_aK A)).getD i 0) dX8_repacks_259 (by decide) ⟨by decide, by decide⟩ (by omega) (by show _ < 10; omega) ?_
            refine ad_aload_n dX8_repacks_260 rfl ?_
            refine gf_X8_43 rfl dX8_repacks_261 ?_
            refine ad_iload dX8_repacks_264 rfl ?_
            refine ad_aload_n dX8_repacks_266 rfl ?_
            refine gf_X8_46 rfl dX8_repacks_267 ?_
            refine ad_iload dX8_repacks_270 rfl ?_
            refine ad_ialj ((ad_ordL A (ad_aK A)).getD i 0) dX8_repacks_272 (by decide) ⟨by decide, by decide⟩ (by omega) (by show _ < 10; omega) (((congrFun (ad_st_r1 _ _ _ _ _) _).trans (ad_u1_eq _ _ _))) ?_
            refine ad_bipush dX8_repacks_273 rfl ?_
            refine ad_icmp_ne 282 dX8_repacks_275 (by decide) (by first | decide | exact hbr) (by decide) (fun h275 => ?_) (fun h275 => ?_)
            · skip
              obtain ⟨W, hW, hWb, hW10, hWd⟩ : ∃ W : Nat, (ad_pk A (ad_aK A) (ad_aF A) (ad_aN A) (ad_ordL A (ad_aK A)) (ad_pl A (ad_aK A) (ad_aF A) (ad_aN A) (ad_ordL A (ad_aK A)) i).2.1 i i).1 = (W : Int) ∧ best = (W : Int) ∧ W < 10 ∧ m 32 0 W = (ad_pl A (ad_aK A) (ad_aF A) (ad_aN A) (ad_ordL A (ad_aK A)) i).2.1 W := by
                rcases hrel with h1 | h1
                · exfalso; omega
                · rcases hpki with h2 | ⟨q, q1, q2, q3, q4⟩
                  · rw [h2] at h1; exact absurd rfl h1.2.2
                  · exact ⟨_, q2, h1.1.trans q2, (ad_ordL_in _ (ad_getD_mem (l := (ad_ordL A (ad_aK A))) (i := q) (by omega))).1, (hq q q1).1⟩
              have hdr := (hplr i (by omega)).2.1 W
              refine ad_aload_n dX8_repacks_282 rfl ?_
              refine gf_X8_43 rfl dX8_repacks_283 ?_
              refine ad_aload_n dX8_repacks_286 rfl ?_
              refine gf_X8_46 rfl dX8_repacks_287 ?_
              refine ad_iload dX8_repacks_290 rfl ?_
              refine ad_ialj ((ad_ordL A (ad_aK A)).getD i 0) dX8_repacks_292 (by decide) ⟨by decide, by decide⟩ (by omega) (by show _ < 10; omega) (((congrFun (ad_st_r1 _ _ _ _ _) _).trans (ad_u1_eq _ _ _))) ?_
              refine ad_ialj (W) dX8_repacks_293 (by decide) ⟨by decide, by decide⟩ hWb (by show _ < 10; omega) (((congrFun (ad_st_ne _ _ (by decide)) W).trans hWd)) ?_
              refine ad_iconst dX8_repacks_294 ?_
              refine ad_iadd dX8_repacks_295 ?_
              refine ad_iasj ((ad_ordL A (ad_aK A)).getD i 0) dX8_repacks_296 (by decide) ⟨by decide, by decide⟩ (by omega) (by show _ < 10; omega) ?_
              refine ad_iinc dX8_repacks_297 rfl (by decide) rfl (by dsimp only [ad_set]) ?_
              refine ad_goto 112 dX8_repacks_300 (by decide) ?_
              have hyes : (ad_pk A (ad_aK A) (ad_aF A) (ad_aN A) (ad_ordL A (ad_aK A)) (ad_pl A (ad_aK A) (ad_aF A) (ad_aN A) (ad_ordL A (ad_aK A)) i).2.1 i i).1 ≠ -1 ∧ (ad_pk A (ad_aK A) (ad_aF A) (ad_aN A) (ad_ordL A (ad_aK A)) (ad_pl A (ad_aK A) (ad_aF A) (ad_aN A) (ad_ordL A (ad_aK A)) i).2.1 i i).2 ≤ ad_wc A ((ad_ordL A (ad_aK A)).getD i 0) - ad_sav (ad_aK A) (ad_aF A) := hrel.elim (fun h1 => by exfalso; omega) (fun h1 => ⟨h1.2.2, by unfold ad_wc; omega⟩)
              have hpl : (ad_pl A (ad_aK A) (ad_aF A) (ad_aN A) (ad_ordL A (ad_aK A)) (i + 1)) = (ad_u1 (ad_pl A (ad_aK A) (ad_aF A) (ad_aN A) (ad_ordL A (ad_aK A)) i).1 ((ad_ordL A (ad_aK A)).getD i 0) (ad_pk A (ad_aK A) (ad_aF A) (ad_aN A) (ad_ordL A (ad_aK A)) (ad_pl A (ad_aK A) (ad_aF A) (ad_aN A) (ad_ordL A (ad_aK A)) i).2.1 i i).1, ad_u1 (ad_pl A (ad_aK A) (ad_aF A) (ad_aN A) (ad_ordL A (ad_aK A)) i).2.1 ((ad_ordL A (ad_aK A)).getD i 0) ((ad_pl A (ad_aK A) (ad_aF A) (ad_aN A) (ad_ordL A (ad_aK A)) i).2.1 (ad_pk A (ad_aK A) (ad_aF A) (ad_aN A) (ad_ordL A (ad_aK A)) (ad_pl A (ad_aK A) (ad_aF A) (ad_aN A) (ad_ordL A (ad_aK A)) i).2.1 i i).1.toNat + 1), (ad_pl A (ad_aK A) (ad_aF A) (ad_aN A) (ad_ordL A (ad_aK A)) i).2.2.1 + (ad_pk A (ad_aK A) (ad_aF A) (ad_aN A) (ad_ordL A (ad_aK A)) (ad_pl A (ad_aK A) (ad_aF A) (ad_aN A) (ad_ordL A (ad_aK A)) i).2.1 i i).2, max (ad_pl A (ad_aK A) (ad_aF A) (ad_aN A) (ad_ordL A (ad_aK A)) i).2.2.2.1 ((ad_pl A (ad_aK A) (ad_aF A) (ad_aN A) (ad_ordL A (ad_aK A)) i).2.1 (ad_pk A (ad_aK A) (ad_aF A) (ad_aN A) (ad_ordL A (ad_aK A)) (ad_pl A (ad_aK A) (ad_aF A) (ad_aN A) (ad_ordL A (ad_aK A)) i).2.1 i i).1.toNat + 1), (ad_pl A (ad_aK A) (ad_aF A) (ad_aN A) (ad_ordL A (ad_aK A)) i).2.2.2.2) := by rw [ad_pl, if_pos hyes]
              refine ihn (i + 1) _ _ _ _ _ _ _ (by omega) (hf.trans ((ad_f8.st (by decide) (by decide)).trans (ad_f8.st (by decide) (by decide)))) (fun q hqi => ?_) (by omega)
              rw [hpl, ad_st_r1, ad_st_ne _ _ (by decide), ad_st_ne _ _ (by decide), ad_st_r1]
              by_cases hqe : q = i
              · subst hqe; simp only [ad_u1_eq]; rw [hW, Int.toNat_natCast]; exact ⟨rfl, by rw [if_pos (by omega), hWb]⟩
              · have hne : (ad_ordL A (ad_aK A)).getD q 0 ≠ (ad_ordL A (ad_aK A)).getD i 0 := fun z => hqe (ad_getD_inj (ad_ord_nodup 10) (show q < (ad_ordL A (ad_aK A)).length by omega) hi z)
                simp only [ad_u1_ne _ _ hne]
                exact hq q (by omega)
            · exfalso; rcases hrel with h1 | h1 <;> omega
      have hin : ∀ (n : Nat) (j : Nat) (best : Int) (least : Int) (x8 : Option Value) (x9 : Option Value) (m : ad_Mem), (i < (ad_ordL A (ad_aK A)).length) → (j ≤ i) → (ad_f8 [30, 32, 33] [18, 19] σ m) → ((∀ q, q < i → m 32 0 ((ad_ordL A (ad_aK A)).getD q 0) = (ad_pl A (ad_aK A) (ad_aF A) (ad_aN A) (ad_ordL A (ad_aK A)) i).2.1 ((ad_ordL A (ad_aK A)).getD q 0) ∧ m 33 0 ((ad_ordL A (ad_aK A)).getD q 0) = if (ad_pl A (ad_aK A) (ad_aF A) (ad_aN A) (ad_ordL A (ad_aK A)) i).1 ((ad_ordL A (ad_aK A)).getD q 0) < 10 then (ad_pl A (ad_aK A) (ad_aF A) (ad_aN A) (ad_ordL A (ad_aK A)) i).1 ((ad_ordL A (ad_aK A)).getD q 0) else -9)) → ((best = -9 ∧ (ad_pk A (ad_aK A) (ad_aF A) (ad_aN A) (ad_ordL A (ad_aK A)) (ad_pl A (ad_aK A) (ad_aF A) (ad_aN A) (ad_ordL A (ad_aK A)) i).2.1 i j) = (-1, 2147483647)) ∨ (best = (ad_pk A (ad_aK A) (ad_aF A) (ad_aN A) (ad_ordL A (ad_aK A)) (ad_pl A (ad_aK A) (ad_aF A) (ad_aN A) (ad_ordL A (ad_aK A)) i).2.1 i j).1 ∧ least = (ad_pk A (ad_aK A) (ad_aF A) (ad_aN A) (ad_ordL A (ad_aK A)) (ad_pl A (ad_aK A) (ad_aF A) (ad_aN A) (ad_ordL A (ad_aK A)) i).2.1 i j).2 ∧ (ad_pk A (ad_aK A) (ad_aF A) (ad_aN A) (ad_ordL A (ad_aK A)) (ad_pl A (ad_aK A) (ad_aF A) (ad_aN A) (ad_ordL A (ad_aK A)) i).2.1 i j).1 ≠ -1)) → (((i - j : Nat) : Int)).toNat ≤ n → ad_R g mX8_repacks d Z 135 [some (ad_rf g 8 0), some (ad_iv ((ad_ordL A (ad_aK A)).length : Int)), some (ad_iv sv), some (ad_iv (i : Int)), some (ad_iv (((ad_ordL A (ad_aK A)).getD i 0 : Nat) : Int)), some (ad_iv best), some (ad_iv least), some (ad_iv (j : Int)), x8, x9] [] m := by
        intro n
        induction n with
        | zero =>
          intro j best least x8 x9 m hi hj hf hq hrel hn
          have hr1 : ad_ra (m 21 0) A := ad_ra_congr (fun i _ => congrFun (hf.1 21 0 (by decide) (by decide)) i) hr
          have hrr1 : ad_rr m (ad_aH A) (ad_aL A) := ad_rr_congr (hf.1 28 0 (by decide) (by decide)) (hf.1 29 0 (by decide) (by decide)) hrr
          have hp1 : ∀ j, j < (ad_ordL A (ad_aK A)).length → m 31 0 j = ((ad_ordL A (ad_aK A)).getD j 0 : Int) := fun j hj => (congrFun (hf.1 31 0 (by decide) (by decide)) j).trans (hp j hj)
          have hVm := ad_ordL_in _ (ad_getD_mem (l := (ad_ordL A (ad_aK A))) (i := i) (by omega))
          have hVl := (hr.1.2 _ hVm.2).2.1
          have hVx := (hw.2.2.1 _ hVm.2).1
          have hpki := ad_pk_in A (ad_aK A) (ad_aF A) (ad_aN A) (ad_ordL A (ad_aK A)) (ad_pl A (ad_aK A) (ad_aF A) (ad_aN A) (ad_ordL A (ad_aK A)) i).2.1 i j
          refine ad_iload dX8_repacks_135 rfl ?_
          refine ad_iload_n dX8_repacks_137 rfl ?_
          refine ad_icmp_ge 223 dX8_repacks_138 (by decide) (by omega) (by omega) (fun h138 => ?_) (fun h138 => ?_)
          · skip
            exact hset best least _ _ _ m hi hf hq (by rw [show j = i by omega] at hrel; exact hrel)
          · show ad_R _ _ _ _ 141 _ _ _
            have hUm := ad_ordL_in _ (ad_getD_mem (l := (ad_ordL A (ad_aK A))) (i := j) (by omega))
            have hUl := (hr.1.2 _ hUm.2).2.1
            have hUx := (hw.2.2.1 _ hUm.2).1
            have hdr := (hplr i (by omega)).2.1 ((ad_ordL A (ad_aK A)).getD j 0)
            exfalso; omega
        | succ n ih =>
          intro j best least x8 x9 m hi hj hf hq hrel hn
          have hr1 : ad_ra (m 21 0) A := ad_ra_congr (fun i _ => congrFun (hf.1 21 0 (by decide) (by decide)) i) hr
          have hrr1 : ad_rr m (ad_aH A) (ad_aL A) := ad_rr_congr (hf.1 28 0 (by decide) (by decide)) (hf.1 29 0 (by decide) (by decide)) hrr
          have hp1 : ∀ j, j < (ad_ordL A (ad_aK A)).length → m 31 0 j = ((ad_ordL A (ad_aK A)).getD j 0 : Int) := fun j hj => (congrFun (hf.1 31 0 (by decide) (by decide)) j).trans (hp j hj)
          have hVm := ad_ordL_in _ (ad_getD_mem (l := (ad_ordL A (ad_aK A))) (i := i) (by omega))
          have hVl := (hr.1.2 _ hVm.2).2.1
          have hVx := (hw.2.2.1 _ hVm.2).1
          have hpki := ad_pk_in A (ad_aK A) (ad_aF A) (ad_aN A) (ad_ordL A (ad_aK A)) (ad_pl A (ad_aK A) (ad_aF A) (ad_aN A) (ad_ordL A (ad_aK A)) i).2.1 i j
          refine ad_iload dX8_repacks_135 rfl ?_
          refine ad_iload_n dX8_repacks_137 rfl ?_
          refine ad_icmp_ge 223 dX8_repacks_138 (by decide) (by omega) (by omega) (fun h138 => ?_) (fun h138 => ?_)
          · skip
            exact hset best least _ _ _ m hi hf hq (by rw [show j = i by omega] at hrel; exact hrel)
          · show ad_R _ _ _ _ 141 _ _ _
            have hUm := ad_ordL_in _ (ad_getD_mem (l := (ad_ordL A (ad_aK A))) (i := j) (by omega))
            have hUl := (hr.1.2 _ hUm.2).2.1
            have hUx := (hw.2.2.1 _ hUm.2).1
            have hdr := (hplr i (by omega)).2.1 ((ad_ordL A (ad_aK A)).getD j 0)
            refine ad_aload_n dX8_repacks_141 rfl ?_
            refine gf_X8_40 rfl dX8_repacks_142 ?_
            refine ad_iload dX8_repacks_145 rfl ?_
            refine ad_ialj (j) dX8_repacks_147 (by decide) ⟨by decide, by decide⟩ (by omega) (by show _ < 10; omega) (hp1 j (by omega)) ?_
            refine ad_istore dX8_repacks_148 (by decide) rfl (by dsimp only [ad_set]) ?_
            refine ad_aload_n dX8_repacks_150 rfl ?_
            refine ad_iload dX8_repacks_151 rfl ?_
            refine ad_iload dX8_repacks_153 rfl ?_
            refine ad_iload dX8_repacks_155 rfl ?_
            refine ad_iload_n dX8_repacks_157 rfl ?_
            refine ad_cv4f rfl cl_X8_102 dX8_repacks_158 (c_X8_may hr1 hw (l := (ad_ordL A (ad_aK A))) hVm.2 hUm.2 rfl rfl (by omega) (by omega)) (by omega) (by show _ < 1; omega) (Nat.le_of_ble_eq_true rfl) ?_
            refine ad_ifp_eq 217 dX8_repacks_161 (by decide) (fun h161 => ?_) (fun h161 => ?_)
            · skip
              refine ad_iinc dX8_repacks_217 rfl (by decide) rfl (by dsimp only [ad_set]) ?_
              refine ad_goto 135 dX8_repacks_220 (by decide) ?_
              exact ih (j + 1) best least _ _ m hi (by omega) hf hq (by
                have hk1 : (ad_pk A (ad_aK A) (ad_aF A) (ad_aN A) (ad_ordL A (ad_aK A)) (ad_pl A (ad_aK A) (ad_aF A) (ad_aN A) (ad_ordL A (ad_aK A)) i).2.1 i (j + 1)) = (ad_pk A (ad_aK A) (ad_aF A) (ad_aN A) (ad_ordL A (ad_aK A)) (ad_pl A (ad_aK A) (ad_aF A) (ad_aN A) (ad_ordL A (ad_aK A)) i).2.1 i j) := by rw [ad_pk, if_neg (fun z => h161 z.2.1)]
                rw [hk1]; exact hrel) (by omega)
            · show ad_R _ _ _ _ 164 _ _ _
              refine ad_aload_n dX8_repacks_164 rfl ?_
              refine gf_X8_43 rfl dX8_repacks_165 ?_
              refine ad_iload dX8_repacks_168 rfl ?_
              refine ad_ialj ((ad_ordL A (ad_aK A)).getD j 0) dX8_repacks_170 (by decide) ⟨by decide, by decide⟩ (by omega) (by show _ < 10; omega) ((hq j (by omega)).1) ?_
              refine ad_aload_n dX8_repacks_171 rfl ?_
              refine gf_X8_9 rfl dX8_repacks_172 ?_
              refine ad_sipush dX8_repacks_175 rfl ?_
              refine ad_ialj (507) dX8_repacks_178 (by decide) ⟨by decide, by decide⟩ (by omega) (by show _ < 520; omega) (hr1.2.1.2.2.2.2) ?_
              refine ad_icmp_lt 185 dX8_repacks_179 (by decide) (by omega) (by omega) (fun h179 => ?_) (fun h179 => ?_)
              · skip
                refine ad_aload_n dX8_repacks_185 rfl ?_
                refine ad_iload dX8_repacks_186 rfl ?_
                refine ad_iload dX8_repacks_188 rfl ?_
                refine ad_cv2q rfl cl_X8_106 dX8_repacks_190 (c_X8_delta hUm.1 hVm.1 (by omega) hVl (by rw [hrr1.1 _ hUm.1, if_pos hUm.2]) (by rw [hrr1.1 _ hVm.1, if_pos hVm.2]) (hrr1.2 _ hUm.1 hUm.2).2 (hrr1.2 _ hVm.1 hVm.2).2 (fun x hx => by have := hUx.2.2 x hx; omega) (fun x hx => by have := hVx.2.2 x hx; omega) (by omega)) (by omega) (by show _ < 1; omega) (Nat.le_of_ble_eq_true rfl) (fun x190 s190 q190 => ?_)
                obtain ⟨rfl, q190⟩ := q190
                have hc2 := ad_c2_rng hw (u := (ad_ordL A (ad_aK A)).getD j 0) hVm.2
                have hq2 : ∀ q, q < i → s190 32 0 ((ad_ordL A (ad_aK A)).getD q 0) = (ad_pl A (ad_aK A) (ad_aF A) (ad_aN A) (ad_ordL A (ad_aK A)) i).2.1 ((ad_ordL A (ad_aK A)).getD q 0) ∧ s190 33 0 ((ad_ordL A (ad_aK A)).getD q 0) = if (ad_pl A (ad_aK A) (ad_aF A) (ad_aN A) (ad_ordL A (ad_aK A)) i).1 ((ad_ordL A (ad_aK A)).getD q 0) < 10 then (ad_pl A (ad_aK A) (ad_aF A) (ad_aN A) (ad_ordL A (ad_aK A)) i).1 ((ad_ordL A (ad_aK A)).getD q 0) else -9 := fun q hqi => by
                  rw [q190.2.1 32 0 (by decide) (by decide), q190.2.1 33 0 (by decide) (by decide)]; exact hq q hqi
                change ad_R _ _ _ _ _ _ [ad_iv (ad_c2 A ((ad_ordL A (ad_aK A)).getD j 0) ((ad_ordL A (ad_aK A)).getD i 0))] _
                refine ad_istore dX8_repacks_193 (by decide) rfl (by dsimp only [ad_set]) ?_
                refine ad_iload dX8_repacks_195 rfl ?_
                refine ad_bipush dX8_repacks_197 rfl ?_
                have hbest : best = -9 ∨ (0 ≤ best ∧ best ≤ 9 ∧ 0 ≤ least ∧ least ≤ 25) := by
                  rcases hrel with h1 | h1
                  · exact Or.inl h1.1
                  · right
                    rcases hpki with h2 | ⟨q, q1, q2, q3, q4⟩
                    · rw [h2] at h1; exact absurd rfl h1.2.2
                    · have hqm := ad_ordL_in _ (ad_getD_mem (l := (ad_ordL A (ad_aK A))) (i := q) (by omega))
                      have := ad_c2_rng hw (u := (ad_ordL A (ad_aK A)).getD q 0) hVm.2
                      omega
                refine ad_icmp_eq 209 dX8_repacks_199 (by decide) (by omega) (by omega) (fun h199 => ?_) (fun h199 => ?_)
                · skip
                  refine ad_iload dX8_repacks_209 rfl ?_
                  refine ad_istore dX8_repacks_211 (by decide) rfl (by dsimp only [ad_set]) ?_
                  refine ad_iload dX8_repacks_213 rfl ?_
                  refine ad_istore dX8_repacks_215 (by decide) rfl (by dsimp only [ad_set]) ?_
                  refine ad_iinc dX8_repacks_217 rfl (by decide) rfl (by dsimp only [ad_set]) ?_
                  refine ad_goto 135 dX8_repacks_220 (by decide) ?_
                  exact ih (j + 1) _ _ _ _ _ hi (by omega) (hf.trans (q190.2.mono (by decide) (by decide))) hq2 (by
                    have hk1 : (ad_pk A (ad_aK A) (ad_aF A) (ad_aN A) (ad_ordL A (ad_aK A)) (ad_pl A (ad_aK A) (ad_aF A) (ad_aN A) (ad_ordL A (ad_aK A)) i).2.1 i (j + 1)) = (((ad_ordL A (ad_aK A)).getD j 0 : Int), ad_c2 A ((ad_ordL A (ad_aK A)).getD j 0) ((ad_ordL A (ad_aK A)).getD i 0)) := by rw [ad_pk, if_pos ⟨h179, h161, hrel.elim (fun h1 => by rw [h1.2]; show ad_c2 A _ _ < 2147483647; omega) (fun h1 => by
                      exfalso
                      rcases hpki with h2 | ⟨q9, q1, q2, q3, q4⟩
                      · exact h1.2.2 (congrArg Prod.fst h2)
                      · omega)⟩]
                    rw [hk1]; exact Or.inr ⟨rfl, rfl, by show (((ad_ordL A (ad_aK A)).getD j 0 : Nat) : Int) ≠ -1; omega⟩) (by omega)
                · show ad_R _ _ _ _ 202 _ _ _
                  refine ad_iload dX8_repacks_202 rfl ?_
                  refine ad_iload dX8_repacks_204 rfl ?_
                  refine ad_icmp_ge 217 dX8_repacks_206 (by decide) (by omega) (by omega) (fun h206 => ?_) (fun h206 => ?_)
                  · skip
                    refine ad_iinc dX8_repacks_217 rfl (by decide) rfl (by dsimp only [ad_set]) ?_
                    refine ad_goto 135 dX8_repacks_220 (by decide) ?_
                    exact ih (j + 1) best least _ _ _ hi (by omega) (hf.trans (q190.2.mono (by decide) (by decide))) hq2 (by
                      have hk1 : (ad_pk A (ad_aK A) (ad_aF A) (ad_aN A) (ad_ordL A (ad_aK A)) (ad_pl A (ad_aK A) (ad_aF A) (ad_aN A) (ad_ordL A (ad_aK A)) i).2.1 i (j + 1)) = (ad_pk A (ad_aK A) (ad_aF A) (ad_aN A) (ad_ordL A (ad_aK A)) (ad_pl A (ad_aK A) (ad_aF A) (ad_aN A) (ad_ordL A (ad_aK A)) i).2.1 i j) := by rw [ad_pk, if_neg (fun z => by have := z.2.2; rcases hrel with h1 | h1 <;> omega)]
                      rw [hk1]; exact hrel) (by omega)
                  · show ad_R _ _ _ _ 209 _ _ _
                    refine ad_iload dX8_repacks_209 rfl ?_
                    refine ad_istore dX8_repacks_211 (by decide) rfl (by dsimp only [ad_set]) ?_
                    refine ad_iload dX8_repacks_213 rfl ?_
                    refine ad_istore dX8_repacks_215 (by decide) rfl (by dsimp only [ad_set]) ?_
                    refine ad_iinc dX8_repacks_217 rfl (by decide) rfl (by dsimp only [ad_set]) ?_
                    refine ad_goto 135 dX8_repacks_220 (by decide) ?_
                    exact ih (j + 1) _ _ _ _ _ hi (by omega) (hf.trans (q190.2.mono (by decide) (by decide))) hq2 (by
                      have hk1 : (ad_pk A (ad_aK A) (ad_aF A) (ad_aN A) (ad_ordL A (ad_aK A)) (ad_pl A (ad_aK A) (ad_aF A) (ad_aN A) (ad_ordL A (ad_aK A)) i).2.1 i (j + 1)) = (((ad_ordL A (ad_aK A)).getD j 0 : Int), ad_c2 A ((ad_ordL A (ad_aK A)).getD j 0) ((ad_ordL A (ad_aK A)).getD i 0)) := by rw [ad_pk, if_pos ⟨h179, h161, by rcases hrel with h1 | h1 <;> omega⟩]
                      rw [hk1]; exact Or.inr ⟨rfl, rfl, by show (((ad_ordL A (ad_aK A)).getD j 0 : Nat) : Int) ≠ -1; omega⟩) (by omega)
              · show ad_R _ _ _ _ 182 _ _ _
                refine ad_goto 217 dX8_repacks_182 (by decide) ?_
                refine ad_iinc dX8_repacks_217 rfl (by decide) rfl (by dsimp only [ad_set]) ?_
                refine ad_goto 135 dX8_repacks_220 (by decide) ?_
                exact ih (j + 1) best least _ _ m hi (by omega) hf hq (by
                  have hk1 : (ad_pk A (ad_aK A) (ad_aF A) (ad_aN A) (ad_ordL A (ad_aK A)) (ad_pl A (ad_aK A) (ad_aF A) (ad_aN A) (ad_ordL A (ad_aK A)) i).2.1 i (j + 1)) = (ad_pk A (ad_aK A) (ad_aF A) (ad_aN A) (ad_ordL A (ad_aK A)) (ad_pl A (ad_aK A) (ad_aF A) (ad_aN A) (ad_ordL A (ad_aK A)) i).2.1 i j) := by rw [ad_pk, if_neg (fun z => h179 z.1)]
                  rw [hk1]; exact hrel) (by omega)
      refine ad_iload_n dX8_repacks_112 rfl ?_
      refine ad_iload_n dX8_repacks_113 rfl ?_
      refine ad_icmp_ge 303 dX8_repacks_114 (by decide) (by omega) (by omega) (fun h114 => ?_) (fun h114 => ?_)
      · skip
        rw [show i = (ad_ordL A (ad_aK A)).length by omega] at hq
        exact kk m _ _ _ _ _ _ _ _ hf (fun q hqi => (hq q hqi).2)
      · show ad_R _ _ _ _ 117 _ _ _
        refine ad_aload_n dX8_repacks_117 rfl ?_
        refine gf_X8_40 rfl dX8_repacks_118 ?_
        refine ad_iload_n dX8_repacks_121 rfl ?_
        refine ad_ialj (i) dX8_repacks_122 (by decide) ⟨by decide, by decide⟩ (by omega) (by show _ < 10; omega) (hp1 i (by omega)) ?_
        refine ad_istore dX8_repacks_123 (by decide) rfl (by dsimp only [ad_set]) ?_
        refine ad_bipush dX8_repacks_125 rfl ?_
        refine ad_istore dX8_repacks_127 (by decide) rfl (by dsimp only [ad_set]) ?_
        refine ad_iconst dX8_repacks_129 ?_
        refine ad_istore dX8_repacks_130 (by decide) rfl (by dsimp only [ad_set]) ?_
        refine ad_iconst dX8_repacks_132 ?_
        refine ad_istore dX8_repacks_133 (by decide) rfl (by dsimp only [ad_set]) ?_
        exact hin _ 0 _ _ _ _ m (by omega) (by omega) hf hq (Or.inl ⟨rfl, rfl⟩) (Nat.le_refl _)
  refine ad_aload_n dX8_repacks_83 rfl ?_
  refine gf_X8_9 rfl dX8_repacks_84 ?_
  refine ad_sipush dX8_repacks_87 rfl ?_
  refine ad_ialj (505) dX8_repacks_90 (by decide) ⟨by decide, by decide⟩ (by omega) (by show _ < 520; omega) (hr.2.1.2.2.1) ?_
  refine ad_iconst dX8_repacks_91 ?_
  refine ad_icmp_ne 108 dX8_repacks_92 (by decide) (by omega) (by omega) (fun h92 => ?_) (fun h92 => ?_)
  · skip
    refine ad_iconst dX8_repacks_108 ?_
    refine ad_istore_n dX8_repacks_109 (by decide) rfl (by dsimp only [ad_set]) ?_
    refine ad_iconst dX8_repacks_110 ?_
    refine ad_istore_n dX8_repacks_111 (by decide) rfl (by dsimp only [ad_set]) ?_
    exact hlp _ 0 _ _ _ _ _ _ _ _ (by unfold ad_sav; rw [if_neg h92]) (Nat.zero_le _) ad_f8.refl (fun q hq => absurd hq (Nat.not_lt_zero q)) (Nat.le_refl _)
  · show ad_R _ _ _ _ 95 _ _ _
    refine ad_aload_n dX8_repacks_95 rfl ?_
    refine gf_X8_9 rfl dX8_repacks_96 ?_
    refine ad_sipush dX8_repacks_99 rfl ?_
    refine ad_ialj (506) dX8_repacks_102 (by decide) ⟨by decide, by decide⟩ (by omega) (by show _ < 520; omega) (hr.2.1.2.2.2.1) ?_
    refine ad_iconst dX8_repacks_103 ?_
    refine ad_iadd dX8_repacks_104 ?_
    refine ad_goto 109 dX8_repacks_105 (by decide) ?_
    refine ad_istore_n dX8_repacks_109 (by decide) rfl (by dsimp only [ad_set]) ?_
    refine ad_iconst dX8_repacks_110 ?_
    refine ad_istore_n dX8_repacks_111 (by decide) rfl (by dsimp only [ad_set]) ?_
    exact hlp _ 0 _ _ _ _ _ _ _ _ (by unfold ad_sav; rw [if_pos (Decidable.not_not.mp h92)]) (Nat.zero_le _) ad_f8.refl (fun q hq => absurd hq (Nat.not_lt_zero q)) (Nat.le_refl _)
