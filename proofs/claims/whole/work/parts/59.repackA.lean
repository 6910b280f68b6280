/-! ===== the reference: a repack ===== -/
theorem ad_rpA {g : ad_G} {d : Nat} {σ : ad_Mem} {Z : Nat → List Value → ad_Mem → Prop} {A : ad_Ar} (x4 x5 x6 x7 x8 x9 : Option Value) (hw : ad_wA A) (hr : ad_ra (σ 21 0) A) (hrr : ad_rr σ (ad_aH A) (ad_aL A)) (h2d : 2 ≤ d) (kk : ∀ (m : ad_Mem) (x2 x3 : Option Value), ad_f8 [31] [] σ m → (∀ j, j < (ad_ordL A (ad_aK A)).length → m 31 0 j = ((ad_ordL A (ad_aK A)).getD j 0 : Int)) → ad_R g mX8_repacks d Z 83 [some (ad_rf g 8 0), some (ad_iv ((ad_ordL A (ad_aK A)).length : Int)), x2, x3, x4, x5, x6, x7, x8, x9] [] m) (x3 : Option Value) : ad_R g mX8_repacks d Z 8 [some (ad_rf g 8 0), some (ad_iv 0), some (ad_iv 0), x3, x4, x5, x6, x7, x8, x9] [] σ := by
  have hlp : ∀ (n v : Nat) (x3 : Option Value) (m : ad_Mem), v ≤ 10 → ad_f8 [31] [] σ m → (∀ j, j < (ad_ord A (ad_aK A) v).length → m 31 0 j = ((ad_ord A (ad_aK A) v).getD j 0 : Int)) → 10 - v ≤ n → ad_R g mX8_repacks d Z 8 [some (ad_rf g 8 0), some (ad_iv ((ad_ord A (ad_aK A) v).length : Int)), some (ad_iv (v : Int)), x3, x4, x5, x6, x7, x8, x9] [] m := by
    intro n
    induction n with
    | zero =>
      intro v x3 m hv hf hp hn
      refine ad_iload_n dX8_repacks_8 rfl ?_
      refine ad_bipush dX8_repacks_9 rfl ?_
      refine ad_icmp_ge 83 dX8_repacks_11 (by decide) (by omega) (by omega) (fun h11 => ?_) (fun h11 => ?_)
      · skip
        rw [show v = 10 by omega] at hp ⊢
        exact kk _ _ _ hf hp
      · show ad_R _ _ _ _ 14 _ _ _
        exfalso; omega
    | succ n ihn =>
      intro v x3 m hv hf hp hn
      have hol := ad_ord_len (A := A) (k := ad_aK A) v
      have hol2 := ad_pp_le (ad_aH A) v
      have hr1 : ad_ra (m 21 0) A := ad_ra_congr (fun i _ => congrFun (hf.1 21 0 (by decide) (by decide)) i) hr
      have hrr1 : ad_rr m (ad_aH A) (ad_aL A) := ad_rr_congr (hf.1 28 0 (by decide) (by decide)) (hf.1 29 0 (by decide) (by decide)) hrr
      have hnext : v < 10 → ∀ (m : ad_Mem) (x3 : Option Value), ad_f8 [31] [] σ m → ad_aH A v = true → (∀ j, j < (ad_ins A (ad_aK A) v (ad_ord A (ad_aK A) v)).length → m 31 0 j = ((ad_ins A (ad_aK A) v (ad_ord A (ad_aK A) v)).getD j 0 : Int)) → ad_R g mX8_repacks d Z 77 [some (ad_rf g 8 0), some (ad_iv (((ad_ord A (ad_aK A) v).length + 1 : Nat) : Int)), some (ad_iv (v : Int)), x3, x4, x5, x6, x7, x8, x9] [] m := by
        intro hv10 m x3 hf hH hp
        refine ad_iinc dX8_repacks_77 rfl (by decide) rfl (by dsimp only [ad_set]) ?_
        refine ad_goto 8 dX8_repacks_80 (by decide) ?_
        have he : ad_ord A (ad_aK A) (v + 1) = ad_ins A (ad_aK A) v (ad_ord A (ad_aK A) v) := by rw [ad_ord, if_pos hH]
        have h := ihn (v + 1) x3 m (by omega) hf (by rw [he]; exact hp) (by omega)
        rw [he, ad_ins_len] at h
        exact h
      refine ad_iload_n dX8_repacks_8 rfl ?_
      refine ad_bipush dX8_repacks_9 rfl ?_
      refine ad_icmp_ge 83 dX8_repacks_11 (by decide) (by omega) (by omega) (fun h11 => ?_) (fun h11 => ?_)
      · skip
        rw [show v = 10 by omega] at hp ⊢
        exact kk _ _ _ hf hp
      · show ad_R _ _ _ _ 14 _ _ _
        refine ad_aload_n dX8_repacks_14 rfl ?_
        refine ad_iload_n dX8_repacks_15 rfl ?_
        refine ad_cv1f rfl cl_X8_59 dX8_repacks_16 (c_X8_isThere hr1 (by omega) (by omega)) (by omega) (by show _ < 1; omega) (Nat.le_of_ble_eq_true rfl) ?_
        rw [Int.toNat_natCast]
        refine ad_ifp_ne 25 dX8_repacks_19 (by decide) (fun h19 => ?_) (fun h19 => ?_)
        · skip
          have hvH := h19.2
          have hnext := hnext (by omega)
          have hin : ∀ (n : Nat) (i : Nat) (m : ad_Mem), (ad_f8 [31] [] σ m) → (i ≤ (ad_ord A (ad_aK A) v).length) → (∀ j, j < i → m 31 0 j = ((ad_ord A (ad_aK A) v).getD j 0 : Int)) → (∀ j, i < j → j ≤ (ad_ord A (ad_aK A) v).length → m 31 0 j = ((ad_ord A (ad_aK A) v).getD (j - 1) 0 : Int)) → (ad_ipos A (ad_aK A) v (ad_ord A (ad_aK A) v) (ad_ord A (ad_aK A) v).length = ad_ipos A (ad_aK A) v (ad_ord A (ad_aK A) v) i) → (((i : Nat) : Int)).toNat ≤ n → ad_R g mX8_repacks d Z 27 [some (ad_rf g 8 0), some (ad_iv ((ad_ord A (ad_aK A) v).length : Int)), some (ad_iv (v : Int)), some (ad_iv (i : Int)), x4, x5, x6, x7, x8, x9] [] m := by
            intro n
            induction n with
            | zero =>
              intro i m hf hi1 e3 e4 e5 hn
              have hr1 : ad_ra (m 21 0) A := ad_ra_congr (fun i _ => congrFun (hf.1 21 0 (by decide) (by decide)) i) hr
              have hrr1 : ad_rr m (ad_aH A) (ad_aL A) := ad_rr_congr (hf.1 28 0 (by decide) (by decide)) (hf.1 29 0 (by decide) (by decide)) hrr
              refine ad_iload_n dX8_repacks_27 rfl ?_
              refine ad_if_le 67 dX8_repacks_28 (by decide) (by omega) (fun h28 => ?_) (fun h28 => ?_)
              · skip
                have hip : ad_ipos A (ad_aK A) v (ad_ord A (ad_aK A) v) (ad_ord A (ad_aK A) v).length = i := by rw [e5, show i = 0 by omega]; rfl
                refine ad_aload_n dX8_repacks_67 rfl ?_
                refine gf_X8_40 rfl dX8_repacks_68 ?_
                refine ad_iload_n dX8_repacks_71 rfl ?_
                refine ad_iload_n dX8_repacks_72 rfl ?_
                refine ad_iasj (i) dX8_repacks_73 (by decide) ⟨by decide, by decide⟩ (by omega) (by show _ < 10; omega) ?_
                refine ad_iinc dX8_repacks_74 rfl (by decide) rfl (by dsimp only [ad_set]) ?_
                refine hnext _ _ (hf.trans (ad_f8.st (by decide) (by decide))) hvH ?_
                intro j hj
                rw [ad_ins_len] at hj
                rw [ad_ins_get A (ad_aK A) v _ j hj, hip, ad_st_r1]
                by_cases h1 : j = i
                · rw [h1, ad_u1_eq, if_neg (by omega), if_pos rfl]
                · rw [ad_u1_ne _ _ h1]
                  by_cases h2 : j < i
                  · rw [if_pos h2, e3 j h2]
                  · rw [if_neg h2, if_neg h1]; exact e4 j (by omega) (by omega)
              · show ad_R _ _ _ _ 31 _ _ _
                have hlm := (ad_ord_mem v _).mp (ad_getD_mem (l := (ad_ord A (ad_aK A) v)) (i := i - 1) (by omega))
                exfalso; omega
            | succ n ih =>
              intro i m hf hi1 e3 e4 e5 hn
              have hr1 : ad_ra (m 21 0) A := ad_ra_congr (fun i _ => congrFun (hf.1 21 0 (by decide) (by decide)) i) hr
              have hrr1 : ad_rr m (ad_aH A) (ad_aL A) := ad_rr_congr (hf.1 28 0 (by decide) (by decide)) (hf.1 29 0 (by decide) (by decide)) hrr
              refine ad_iload_n dX8_repacks_27 rfl ?_
              refine ad_if_le 67 dX8_repacks_28 (by decide) (by omega) (fun h28 => ?_) (fun h28 => ?_)
              · skip
                have hip : ad_ipos A (ad_aK A) v (ad_ord A (ad_aK A) v) (ad_ord A (ad_aK A) v).length = i := by rw [e5, show i = 0 by omega]; rfl
                refine ad_aload_n dX8_repacks_67 rfl ?_
                refine gf_X8_40 rfl dX8_repacks_68 ?_
                refine ad_iload_n dX8_repacks_71 rfl ?_
                refine ad_iload_n dX8_repacks_72 rfl ?_
                refine ad_iasj (i) dX8_repacks_73 (by decide) ⟨by decide, by decide⟩ (by omega) (by show _ < 10; omega) ?_
                refine ad_iinc dX8_repacks_74 rfl (by decide) rfl (by dsimp only [ad_set]) ?_
                refine hnext _ _ (hf.trans (ad_f8.st (by decide) (by decide))) hvH ?_
                intro j hj
                rw [ad_ins_len] at hj
                rw [ad_ins_get A (ad_aK A) v _ j hj, hip, ad_st_r1]
                by_cases h1 : j = i
                · rw [h1, ad_u1_eq, if_neg (by omega), if_pos rfl]
                · rw [ad_u1_ne _ _ h1]
                  by_cases h2 : j < i
                  · rw [if_pos h2, e3 j h2]
                  · rw [if_neg h2, if_neg h1]; exact e4 j (by omega) (by omega)
              · show ad_R _ _ _ _ 31 _ _ _
                have hlm := (ad_ord_mem v _).mp (ad_getD_mem (l := (ad_ord A (ad_aK A) v)) (i := i - 1) (by omega))
                refine ad_aload_n dX8_repacks_31 rfl ?_
                refine ad_iload_n dX8_repacks_32 rfl ?_
                refine ad_aload_n dX8_repacks_33 rfl ?_
                refine gf_X8_40 rfl dX8_repacks_34 ?_
                refine ad_iload_n dX8_repacks_37 rfl ?_
                refine ad_iconst dX8_repacks_38 ?_
                refine ad_isub dX8_repacks_39 ?_
                refine ad_ialj (i - 1) dX8_repacks_40 (by decide) ⟨by decide, by decide⟩ (by omega) (by show _ < 10; omega) (e3 (i - 1) (by omega)) ?_
                refine ad_cv2f rfl cl_X8_99 dX8_repacks_41 (c_X8_isAhead hr1 hw hrr1 (v := v) (u := (ad_ord A (ad_aK A) v).getD (i - 1) 0) hlm.1 hvH hlm.2 (by omega)) (by omega) (by show _ < 1; omega) (Nat.le_of_ble_eq_true rfl) ?_
                refine ad_ifp_eq 67 dX8_repacks_44 (by decide) (fun h44 => ?_) (fun h44 => ?_)
                · skip
                  have hip : ad_ipos A (ad_aK A) v (ad_ord A (ad_aK A) v) (ad_ord A (ad_aK A) v).length = i := by
                    obtain ⟨q, rfl⟩ : ∃ q, i = q + 1 := ⟨i - 1, by omega⟩
                    rw [Nat.add_sub_cancel] at h44
                    rw [e5, ad_ipos, if_neg h44]
                  refine ad_aload_n dX8_repacks_67 rfl ?_
                  refine gf_X8_40 rfl dX8_repacks_68 ?_
                  refine ad_iload_n dX8_repacks_71 rfl ?_
                  refine ad_iload_n dX8_repacks_72 rfl ?_
                  refine ad_iasj (i) dX8_repacks_73 (by decide) ⟨by decide, by decide⟩ (by omega) (by show _ < 10; omega) ?_
                  refine ad_iinc dX8_repacks_74 rfl (by decide) rfl (by dsimp only [ad_set]) ?_
                  refine hnext _ _ (hf.trans (ad_f8.st (by decide) (by decide))) hvH ?_
                  intro j hj
                  rw [ad_ins_len] at hj
                  rw [ad_ins_get A (ad_aK A) v _ j hj, hip, ad_st_r1]
                  by_cases h1 : j = i
                  · rw [h1, ad_u1_eq, if_neg (by omega), if_pos rfl]
                  · rw [ad_u1_ne _ _ h1]
                    by_cases h2 : j < i
                    · rw [if_pos h2, e3 j h2]
                    · rw [if_neg h2, if_neg h1]; exact e4 j (by omega) (by omega)
                · show ad_R _ _ _ _ 47 _ _ _
                  obtain ⟨q, rfl⟩ : ∃ q, i = q + 1 := ⟨i - 1, by omega⟩
                  rw [Nat.add_sub_cancel] at h44
                  rw [ad_ipos, if_pos h44] at e5
                  refine ad_aload_n dX8_repacks_47 rfl ?_
                  refine gf_X8_40 rfl dX8_repacks_48 ?_
                  refine ad_iload_n dX8_repacks_51 rfl ?_
                  refine ad_aload_n dX8_repacks_52 rfl ?_
                  refine gf_X8_40 rfl dX8_repacks_53 ?_
                  refine ad_iload_n dX8_repacks_56 rfl ?_
                  refine ad_iconst dX8_repacks_57 ?_
                  refine ad_isub dX8_repacks_58 ?_
                  refine ad_ialj (q) dX8_repacks_59 (by decide) ⟨by decide, by decide⟩ (by omega) (by show _ < 10; omega) (e3 q (by omega)) ?_
                  refine ad_iasj (q + 1) dX8_repacks_60 (by decide) ⟨by decide, by decide⟩ (by omega) (by show _ < 10; omega) ?_
                  refine ad_iinc dX8_repacks_61 rfl (by decide) rfl (by dsimp only [ad_set]) ?_
                  refine ad_goto 27 dX8_repacks_64 (by decide) ?_
                  rw [show ((q + 1 : Nat) : Int) + -1 = ((q : Nat) : Int) by omega]
                  refine ih q _ (hf.trans (ad_f8.st (by decide) (by decide))) (by omega) (fun j hj => ?_) (fun j h1 h2 => ?_) e5 (by omega)
                  · rw [ad_st_r1, ad_u1_ne _ _ (by omega)]; exact e3 j (by omega)
                  · rw [ad_st_r1]
                    by_cases hji : j = q + 1
                    · rw [hji, ad_u1_eq]; rfl
                    · rw [ad_u1_ne _ _ hji]; exact e4 j (by omega) h2
          refine ad_iload_n dX8_repacks_25 rfl ?_
          refine ad_istore_n dX8_repacks_26 (by decide) rfl (by dsimp only [ad_set]) ?_
          exact hin _ _ m hf (Nat.le_refl _) hp (fun j h1 h2 => by omega) rfl (Nat.le_refl _)
        · show ad_R _ _ _ _ 22 _ _ _
          refine ad_goto 77 dX8_repacks_22 (by decide) ?_
          refine ad_iinc dX8_repacks_77 rfl (by decide) rfl (by dsimp only [ad_set]) ?_
          refine ad_goto 8 dX8_repacks_80 (by decide) ?_
          have he : ad_ord A (ad_aK A) (v + 1) = ad_ord A (ad_aK A) v := by rw [ad_ord, if_neg (fun q => h19 ⟨by omega, q⟩)]
          have h := ihn (v + 1) x3 m (by omega) hf (by rw [he]; exact hp) (by omega)
          rw [he] at h
          exact h
  exact hlp _ 0 x3 σ (by omega) ad_f8.refl (fun j hj => absurd hj (Nat.not_lt_zero j)) (Nat.le_refl _)
