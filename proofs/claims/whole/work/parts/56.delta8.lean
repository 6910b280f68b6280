/-! ===== the reference: delta, costs, depths ===== -/
/-- the steps at hand -/
def ad_sp (m : ad_Mem) (P : List (Int × Int)) : Prop := m 8 0 18 = (P.length : Int) ∧ m 8 0 19 = ad_nc P ∧ ∀ k, k < P.length → m 30 0 (2 * k) = (P.getD k (0, 0)).1 ∧ m 30 0 (2 * k + 1) = (P.getD k (0, 0)).2
theorem ad_sp_put {m : ad_Mem} {P : List (Int × Int)} {x y c k : Int} (h : ad_sp m P) (hc : c = ad_nc (P ++ [(x, y)])) (hk : k = (P.length : Int) + 1) : ad_sp (ad_st (ad_st (ad_st (ad_st m 30 0 (2 * P.length) x) 30 0 (2 * P.length + 1) y) 8 0 19 c) 8 0 18 k) (P ++ [(x, y)]) := by
  subst hk
  refine ⟨?_, ?_, fun q hq => ?_⟩
  · rw [ad_st_r1, ad_u1_eq, List.length_append]; rfl
  · rw [ad_st_r1, ad_u1_ne _ _ (by decide), ad_st_r1, ad_u1_eq]; exact hc
  · rw [List.length_append, List.length_singleton] at hq
    rw [ad_st_ne _ _ (by decide), ad_st_ne _ _ (by decide), ad_st_r1]
    by_cases hqP : q = P.length
    · subst hqP
      rw [ad_u1_ne _ _ (by omega), ad_st_r1, ad_u1_eq, ad_u1_eq]
      simp [List.getD_eq_getElem?_getD]
    · rw [ad_u1_ne _ _ (by omega), ad_u1_ne _ _ (by omega), ad_st_r1, ad_u1_ne _ _ (by omega), ad_u1_ne _ _ (by omega), List.getD_eq_getElem?_getD, List.getElem?_append_left (by omega), ← List.getD_eq_getElem?_getD]
      exact h.2.2 q (by omega)
theorem ad_sp_f8 {m : ad_Mem} {a b : Nat} {x y z w : Int} : ad_f8 [30] [18, 19] m (ad_st (ad_st (ad_st (ad_st m 30 0 a x) 30 0 b y) 8 0 19 z) 8 0 18 w) :=
  (ad_f8.st (by decide) (by decide)).trans ((ad_f8.st (by decide) (by decide)).trans ((ad_f8.sj (by decide)).trans (ad_f8.sj (by decide))))
theorem ad_dl_nil8 (s : List Int) : ad_dl s [] = [] := rfl
theorem c_X8_delta {g : ad_G} {d : Nat} {σ : ad_Mem} {l k : List Int} {s t : Nat} (hs : s < 10) (ht : t < 10) (hl12 : l.length ≤ 12) (hk12 : k.length ≤ 12) (hs29 : σ 29 0 s = (l.length : Int)) (ht29 : σ 29 0 t = (k.length : Int)) (hs28 : ∀ j, j < l.length → σ 28 0 (12 * s + j) = l.getD j 0) (ht28 : ∀ j, j < k.length → σ 28 0 (12 * t + j) = k.getD j 0) (hxl : ∀ x ∈ l, 0 ≤ x ∧ x ≤ 255) (hxk : ∀ x ∈ k, 0 ≤ x ∧ x ≤ 255) (h1d : 1 ≤ d) : ad_Q g mX8_delta d [ad_rf g 8 0, ad_iv (s : Int), ad_iv (t : Int)] σ (fun x m => x = ad_iv (ad_dc (ad_dl l k)) ∧ ad_sp m (ad_dl l k) ∧ ad_f8 [30] [18, 19] σ m) := by
  have hdl : ∀ i, i < k.length → k.drop i = k.getD i 0 :: k.drop (i + 1) := fun i hi => by rw [List.drop_eq_getElem_cons hi, List.getD_eq_getElem?_getD, List.getElem?_eq_getElem hi]; rfl
  have hl : ∀ (n : Nat) (i : Nat) (P : List (Int × Int)) (x4 x5 x6 x7 : Option Value) (m : ad_Mem), i ≤ k.length → ad_f8 [30] [18, 19] σ m → ad_sp m P → P.length ≤ i → P ++ ad_dl l (k.drop i) = ad_dl l k → k.length - i ≤ n → ad_R g mX8_delta d (ad_ZQ mX8_delta (fun x m => x = ad_iv (ad_dc (ad_dl l k)) ∧ ad_sp m (ad_dl l k) ∧ ad_f8 [30] [18, 19] σ m)) 12 [some (ad_rf g 8 0), some (ad_iv (s : Int)), some (ad_iv (t : Int)), some (ad_iv (i : Int)), x4, x5, x6, x7] [] m := by
    intro n
    induction n with
    | zero =>
      intro i P x4 x5 x6 x7 m hi hf hsp hP hI hn
      refine ad_iload_n dX8_delta_12 rfl ?_
      refine ad_aload_n dX8_delta_13 rfl ?_
      refine gf_X8_34 rfl dX8_delta_14 ?_
      refine ad_iload_n dX8_delta_17 rfl ?_
      refine ad_ialj (t) dX8_delta_18 (by decide) ⟨by decide, by decide⟩ (by omega) (by show _ < 10; omega) ((congrFun (hf.1 29 0 (by decide) (by decide)) _).trans ht29) ?_
      refine ad_icmp_ge 189 dX8_delta_19 (by decide) (by omega) (by omega) (fun h19 => ?_) (fun h19 => ?_)
      · skip
        refine ad_iconst dX8_delta_189 ?_
        refine ad_aload_n dX8_delta_190 rfl ?_
        refine gf_X8_73 rfl dX8_delta_191 ?_
        rw [hsp.1]
        refine ad_iadd dX8_delta_194 ?_
        refine ad_aload_n dX8_delta_195 rfl ?_
        refine gf_X8_77 rfl dX8_delta_196 ?_
        rw [hsp.2.1]
        refine ad_iadd dX8_delta_199 ?_
        exact ad_reti dX8_delta_200 rfl (by
                  rw [List.drop_eq_nil_of_le (by omega), ad_dl_nil8, List.append_nil] at hI
                  rw [← hI]
                  exact ⟨by unfold ad_dc; rfl, hsp, hf⟩)
      · show ad_R _ _ _ _ 22 _ _ _
        exfalso; omega
    | succ n ih =>
      intro i P x4 x5 x6 x7 m hi hf hsp hP hI hn
      have hmid : ∀ (be pe : Nat) (x6 x7 : Option Value) (m : ad_Mem), ad_f8 [30] [18, 19] σ m → i < k.length → ad_sp m P → (be, pe) = ad_bs l (k.drop i) l.length → ad_R g mX8_delta d (ad_ZQ mX8_delta (fun x m => x = ad_iv (ad_dc (ad_dl l k)) ∧ ad_sp m (ad_dl l k) ∧ ad_f8 [30] [18, 19] σ m)) 74 [some (ad_rf g 8 0), some (ad_iv (s : Int)), some (ad_iv (t : Int)), some (ad_iv (i : Int)), some (ad_iv (be : Int)), some (ad_iv (pe : Int)), x6, x7] [] m := by
        intro be pe x6 x7 m hf hik hsp hb
        have hbe : be = (ad_bst l (k.drop i)).1 := congrArg Prod.fst hb
        have hpe : pe = (ad_bst l (k.drop i)).2 := congrArg Prod.snd hb
        subst hbe
        subst hpe
        have hble := (ad_bs_le l (k.drop i) l.length)
        have hbin := ad_bs_in l (k.drop i) l.length
        change (ad_bst l (k.drop i)).1 ≤ _ ∧ (ad_bst l (k.drop i)).2 ≤ _ at hble
        rw [List.length_drop] at hble
        refine ad_iload dX8_delta_74 rfl ?_
        refine ad_iconst dX8_delta_76 ?_
        refine ad_icmp_lt 84 dX8_delta_77 (by decide) (by omega) (by omega) (fun h77 => ?_) (fun h77 => ?_)
        · skip
          have hc2 : ¬ 2 ≤ (ad_bst l (k.drop i)).1 := by omega
          refine ad_iconst dX8_delta_84 ?_
          refine ad_istore dX8_delta_85 (by decide) rfl (by dsimp only [ad_set]) ?_
          refine ad_aload_n dX8_delta_87 rfl ?_
          refine gf_X8_37 rfl dX8_delta_88 ?_
          refine ad_iconst dX8_delta_91 ?_
          refine ad_aload_n dX8_delta_92 rfl ?_
          refine gf_X8_73 rfl dX8_delta_93 ?_
          rw [hsp.1]
          refine ad_imul dX8_delta_96 ?_
          refine ad_iload dX8_delta_97 rfl ?_
          refine ad_if_eq 107 dX8_delta_99 (by decide) (by omega) (fun h99 => ?_) (fun h99 => ?_)
          · skip
            refine ad_iconst dX8_delta_107 ?_
            refine ad_iasj (2 * P.length) dX8_delta_108 (by decide) ⟨by decide, by decide⟩ (by omega) (by show _ < 24; omega) ?_
            refine ad_aload_n dX8_delta_109 rfl ?_
            refine gf_X8_37 rfl dX8_delta_110 ?_
            refine ad_iconst dX8_delta_113 ?_
            refine ad_aload_n dX8_delta_114 rfl ?_
            refine gf_X8_73 rfl dX8_delta_115 ?_
            rw [ad_st_ne _ _ (by decide), hsp.1]
            refine ad_imul dX8_delta_118 ?_
            refine ad_iconst dX8_delta_119 ?_
            refine ad_iadd dX8_delta_120 ?_
            refine ad_iload dX8_delta_121 rfl ?_
            refine ad_if_eq 131 dX8_delta_123 (by decide) (by omega) (fun h123 => ?_) (fun h123 => ?_)
            · skip
              refine ad_aload_n dX8_delta_131 rfl ?_
              refine gf_X8_31 rfl dX8_delta_132 ?_
              refine ad_bipush dX8_delta_135 rfl ?_
              refine ad_iload_n dX8_delta_137 rfl ?_
              refine ad_imul dX8_delta_138 ?_
              refine ad_iload_n dX8_delta_139 rfl ?_
              refine ad_iadd dX8_delta_140 ?_
              refine ad_ialj (12 * t + i) dX8_delta_141 (by decide) ⟨by decide, by decide⟩ (by omega) (by show _ < 120; omega) (((congrFun ((ad_f8.st (by decide) (by decide) : ad_f8 [30] [] m _).1 28 0 (by decide) (by decide)) _).trans ((congrFun (hf.1 28 0 (by decide) (by decide)) _).trans (ht28 i hik)))) ?_
              refine ad_iasj (2 * P.length + 1) dX8_delta_142 (by decide) ⟨by decide, by decide⟩ (by omega) (by show _ < 24; omega) ?_
              refine ad_aload_n dX8_delta_143 rfl ?_
              refine ad_dup dX8_delta_144 rfl ?_
              refine gf_X8_77 rfl dX8_delta_145 ?_
              rw [ad_st_ne _ _ (by decide), ad_st_ne _ _ (by decide), hsp.2.1]
              refine ad_iload dX8_delta_148 rfl ?_
              refine ad_if_eq 157 dX8_delta_150 (by decide) (by omega) (fun h150 => ?_) (fun h150 => ?_)
              · skip
                refine ad_iconst dX8_delta_157 ?_
                refine ad_iadd dX8_delta_158 ?_
                refine pf_X8_77 rfl dX8_delta_159 ?_
                refine ad_aload_n dX8_delta_162 rfl ?_
                refine ad_dup dX8_delta_163 rfl ?_
                refine gf_X8_73 rfl dX8_delta_164 ?_
                rw [ad_st_r1, ad_u1_ne _ _ (by decide), ad_st_ne _ _ (by decide), ad_st_ne _ _ (by decide), hsp.1]
                refine ad_iconst dX8_delta_167 ?_
                refine ad_iadd dX8_delta_168 ?_
                refine pf_X8_73 rfl dX8_delta_169 ?_
                refine ad_iload_n dX8_delta_172 rfl ?_
                refine ad_iload dX8_delta_173 rfl ?_
                refine ad_if_eq 183 dX8_delta_175 (by decide) (by omega) (fun h175 => ?_) (fun h175 => ?_)
                · skip
                  refine ad_iconst dX8_delta_183 ?_
                  refine ad_iadd dX8_delta_184 ?_
                  refine ad_istore_n dX8_delta_185 (by decide) rfl (by dsimp only [ad_set]) ?_
                  refine ad_goto 12 dX8_delta_186 (by decide) ?_
                  exact ih (i + 1) (P ++ [(0, k.getD i 0)]) _ _ _ _ _ (by omega) (hf.trans ad_sp_f8) (ad_sp_put hsp (by rw [ad_nc_app]; simp only [ad_nc]; rw [if_neg (by decide)]; omega) (by omega)) (by
                    rw [List.length_append, List.length_singleton]; omega) (by
                    rw [List.append_assoc, List.singleton_append, ← hI]
                    congr 1
                    rw [hdl i hik] at hc2 ⊢
                    rw [ad_dl_ins _ _ _ hc2]) (by omega)
                · exfalso; omega
              · exfalso; omega
            · exfalso; omega
          · exfalso; omega
        · show ad_R _ _ _ _ 80 _ _ _
          have hc2 : 2 ≤ (ad_bst l (k.drop i)).1 := by omega
          refine ad_iconst dX8_delta_80 ?_
          refine ad_goto 85 dX8_delta_81 (by decide) ?_
          refine ad_istore dX8_delta_85 (by decide) rfl (by dsimp only [ad_set]) ?_
          refine ad_aload_n dX8_delta_87 rfl ?_
          refine gf_X8_37 rfl dX8_delta_88 ?_
          refine ad_iconst dX8_delta_91 ?_
          refine ad_aload_n dX8_delta_92 rfl ?_
          refine gf_X8_73 rfl dX8_delta_93 ?_
          rw [hsp.1]
          refine ad_imul dX8_delta_96 ?_
          refine ad_iload dX8_delta_97 rfl ?_
          refine ad_if_eq 107 dX8_delta_99 (by decide) (by omega) (fun h99 => ?_) (fun h99 => ?_)
          · exfalso; omega
          · show ad_R _ _ _ _ 102 _ _ _
            refine ad_iload dX8_delta_102 rfl ?_
            refine ad_goto 108 dX8_delta_104 (by decide) ?_
            refine ad_iasj (2 * P.length) dX8_delta_108 (by decide) ⟨by decide, by decide⟩ (by omega) (by show _ < 24; omega) ?_
            refine ad_aload_n dX8_delta_109 rfl ?_
            refine gf_X8_37 rfl dX8_delta_110 ?_
            refine ad_iconst dX8_delta_113 ?_
            refine ad_aload_n dX8_delta_114 rfl ?_
            refine gf_X8_73 rfl dX8_delta_115 ?_
            rw [ad_st_ne _ _ (by decide), hsp.1]
            refine ad_imul dX8_delta_118 ?_
            refine ad_iconst dX8_delta_119 ?_
            refine ad_iadd dX8_delta_120 ?_
            refine ad_iload dX8_delta_121 rfl ?_
            refine ad_if_eq 131 dX8_delta_123 (by decide) (by omega) (fun h123 => ?_) (fun h123 => ?_)
            · exfalso; omega
            · show ad_R _ _ _ _ 126 _ _ _
              refine ad_iload dX8_delta_126 rfl ?_
              refine ad_goto 142 dX8_delta_128 (by decide) ?_
              refine ad_iasj (2 * P.length + 1) dX8_delta_142 (by decide) ⟨by decide, by decide⟩ (by omega) (by show _ < 24; omega) ?_
              refine ad_aload_n dX8_delta_143 rfl ?_
              refine ad_dup dX8_delta_144 rfl ?_
              refine gf_X8_77 rfl dX8_delta_145 ?_
              rw [ad_st_ne _ _ (by decide), ad_st_ne _ _ (by decide), hsp.2.1]
              refine ad_iload dX8_delta_148 rfl ?_
              refine ad_if_eq 157 dX8_delta_150 (by decide) (by omega) (fun h150 => ?_) (fun h150 => ?_)
              · exfalso; omega
              · show ad_R _ _ _ _ 153 _ _ _
                refine ad_iconst dX8_delta_153 ?_
                refine ad_goto 158 dX8_delta_154 (by decide) ?_
                refine ad_iadd dX8_delta_158 ?_
                refine pf_X8_77 rfl dX8_delta_159 ?_
                refine ad_aload_n dX8_delta_162 rfl ?_
                refine ad_dup dX8_delta_163 rfl ?_
                refine gf_X8_73 rfl dX8_delta_164 ?_
                rw [ad_st_r1, ad_u1_ne _ _ (by decide), ad_st_ne _ _ (by decide), ad_st_ne _ _ (by decide), hsp.1]
                refine ad_iconst dX8_delta_167 ?_
                refine ad_iadd dX8_delta_168 ?_
                refine pf_X8_73 rfl dX8_delta_169 ?_
                refine ad_iload_n dX8_delta_172 rfl ?_
                refine ad_iload dX8_delta_173 rfl ?_
                refine ad_if_eq 183 dX8_delta_175 (by decide) (by omega) (fun h175 => ?_) (fun h175 => ?_)
                · exfalso; omega
                · show ad_R _ _ _ _ 178 _ _ _
                  refine ad_iload dX8_delta_178 rfl ?_
                  refine ad_goto 184 dX8_delta_180 (by decide) ?_
                  refine ad_iadd dX8_delta_184 ?_
                  refine ad_istore_n dX8_delta_185 (by decide) rfl (by dsimp only [ad_set]) ?_
                  refine ad_goto 12 dX8_delta_186 (by decide) ?_
                  exact ih (i + (ad_bst l (k.drop i)).1) (P ++ [(((ad_bst l (k.drop i)).1 : Int), ((ad_bst l (k.drop i)).2 : Int))]) _ _ _ _ _ (by omega) (hf.trans ad_sp_f8) (ad_sp_put hsp (by rw [ad_nc_app]; simp only [ad_nc]; rw [if_pos (by show (0 : Int) < ((ad_bst l (k.drop i)).1 : Int); omega)]; omega) (by omega)) (by
                    rw [List.length_append, List.length_singleton]; omega) (by
                    rw [List.append_assoc, List.singleton_append, ← hI]
                    congr 1
                    rw [hdl i hik] at hc2 ⊢
                    rw [ad_dl_copy _ _ _ hc2, ← hdl i hik, List.drop_drop]) (by omega)
      have hin : ∀ (n2 q be pe : Nat) (x7 : Option Value) (m : ad_Mem), i < k.length → q ≤ l.length → ad_f8 [30] [18, 19] σ m → ad_sp m P → (be, pe) = ad_bs l (k.drop i) q → l.length - q ≤ n2 → ad_R g mX8_delta d (ad_ZQ mX8_delta (fun x m => x = ad_iv (ad_dc (ad_dl l k)) ∧ ad_sp m (ad_dl l k) ∧ ad_f8 [30] [18, 19] σ m)) 31 [some (ad_rf g 8 0), some (ad_iv (s : Int)), some (ad_iv (t : Int)), some (ad_iv (i : Int)), some (ad_iv (be : Int)), some (ad_iv (pe : Int)), some (ad_iv (q : Int)), x7] [] m := by
        intro n2
        induction n2 with
        | zero =>
          intro q be pe x7 m hik hq hf hsp hb hn2
          refine ad_iload dX8_delta_31 rfl ?_
          refine ad_aload_n dX8_delta_33 rfl ?_
          refine gf_X8_34 rfl dX8_delta_34 ?_
          refine ad_iload_n dX8_delta_37 rfl ?_
          refine ad_ialj (s) dX8_delta_38 (by decide) ⟨by decide, by decide⟩ (by omega) (by show _ < 10; omega) ((congrFun (hf.1 29 0 (by decide) (by decide)) _).trans hs29) ?_
          refine ad_icmp_ge 74 dX8_delta_39 (by decide) (by omega) (by omega) (fun h39 => ?_) (fun h39 => ?_)
          · skip
            exact hmid _ _ _ _ m hf hik hsp (by rw [hb, show q = l.length by omega])
          · show ad_R _ _ _ _ 42 _ _ _
            exfalso; omega
        | succ n2 ih2 =>
          intro q be pe x7 m hik hq hf hsp hb hn2
          have hbr := ad_bs_le l (k.drop i) q
          rw [← hb, List.length_drop] at hbr
          simp only at hbr
          refine ad_iload dX8_delta_31 rfl ?_
          refine ad_aload_n dX8_delta_33 rfl ?_
          refine gf_X8_34 rfl dX8_delta_34 ?_
          refine ad_iload_n dX8_delta_37 rfl ?_
          refine ad_ialj (s) dX8_delta_38 (by decide) ⟨by decide, by decide⟩ (by omega) (by show _ < 10; omega) ((congrFun (hf.1 29 0 (by decide) (by decide)) _).trans hs29) ?_
          refine ad_icmp_ge 74 dX8_delta_39 (by decide) (by omega) (by omega) (fun h39 => ?_) (fun h39 => ?_)
          · skip
            exact hmid _ _ _ _ m hf hik hsp (by rw [hb, show q = l.length by omega])
          · show ad_R _ _ _ _ 42 _ _ _
            refine ad_aload_n dX8_delta_42 rfl ?_
            refine ad_iload_n dX8_delta_43 rfl ?_
            refine ad_iload dX8_delta_44 rfl ?_
            refine ad_iload_n dX8_delta_46 rfl ?_
            refine ad_iload_n dX8_delta_47 rfl ?_
            refine ad_cv4f rfl cl_X8_80 dX8_delta_48 (c_X8_alike hs ht (p := q) (i := i) (by omega) (by omega) hl12 hk12 ((congrFun (hf.1 29 0 (by decide) (by decide)) _).trans hs29) ((congrFun (hf.1 29 0 (by decide) (by decide)) _).trans ht29) (fun j hj => (congrFun (hf.1 28 0 (by decide) (by decide)) _).trans (hs28 j hj)) (fun j hj => (congrFun (hf.1 28 0 (by decide) (by decide)) _).trans (ht28 j hj)) hxl hxk) (by omega) (by show _ < 1; omega) (Nat.le_of_ble_eq_true rfl) ?_
            have hcl := ad_cpl_le (l.drop q) (k.drop i)
            rw [List.length_drop, List.length_drop] at hcl
            refine ad_istore dX8_delta_51 (by decide) rfl (by dsimp only [ad_set]) ?_
            refine ad_iload dX8_delta_53 rfl ?_
            refine ad_iload dX8_delta_55 rfl ?_
            refine ad_icmp_le 68 dX8_delta_57 (by decide) (by omega) (by omega) (fun h57 => ?_) (fun h57 => ?_)
            · skip
              refine ad_iinc dX8_delta_68 rfl (by decide) rfl (by dsimp only [ad_set]) ?_
              refine ad_goto 31 dX8_delta_71 (by decide) ?_
              exact ih2 (q + 1) _ _ _ m hik (by omega) hf hsp (by
                have hb1 : be = (ad_bs l (k.drop i) q).1 := congrArg Prod.fst hb
                rw [ad_bs, if_neg (by omega)]; exact hb) (by omega)
            · show ad_R _ _ _ _ 60 _ _ _
              refine ad_iload dX8_delta_60 rfl ?_
              refine ad_istore dX8_delta_62 (by decide) rfl (by dsimp only [ad_set]) ?_
              refine ad_iload dX8_delta_64 rfl ?_
              refine ad_istore dX8_delta_66 (by decide) rfl (by dsimp only [ad_set]) ?_
              refine ad_iinc dX8_delta_68 rfl (by decide) rfl (by dsimp only [ad_set]) ?_
              refine ad_goto 31 dX8_delta_71 (by decide) ?_
              exact ih2 (q + 1) _ _ _ m hik (by omega) hf hsp (by
                have hb1 : be = (ad_bs l (k.drop i) q).1 := congrArg Prod.fst hb
                rw [ad_bs, if_pos (by omega)]) (by omega)
      refine ad_iload_n dX8_delta_12 rfl ?_
      refine ad_aload_n dX8_delta_13 rfl ?_
      refine gf_X8_34 rfl dX8_delta_14 ?_
      refine ad_iload_n dX8_delta_17 rfl ?_
      refine ad_ialj (t) dX8_delta_18 (by decide) ⟨by decide, by decide⟩ (by omega) (by show _ < 10; omega) ((congrFun (hf.1 29 0 (by decide) (by decide)) _).trans ht29) ?_
      refine ad_icmp_ge 189 dX8_delta_19 (by decide) (by omega) (by omega) (fun h19 => ?_) (fun h19 => ?_)
      · skip
        refine ad_iconst dX8_delta_189 ?_
        refine ad_aload_n dX8_delta_190 rfl ?_
        refine gf_X8_73 rfl dX8_delta_191 ?_
        rw [hsp.1]
        refine ad_iadd dX8_delta_194 ?_
        refine ad_aload_n dX8_delta_195 rfl ?_
        refine gf_X8_77 rfl dX8_delta_196 ?_
        rw [hsp.2.1]
        refine ad_iadd dX8_delta_199 ?_
        exact ad_reti dX8_delta_200 rfl (by
                  rw [List.drop_eq_nil_of_le (by omega), ad_dl_nil8, List.append_nil] at hI
                  rw [← hI]
                  exact ⟨by unfold ad_dc; rfl, hsp, hf⟩)
      · show ad_R _ _ _ _ 22 _ _ _
        refine ad_iconst dX8_delta_22 ?_
        refine ad_istore dX8_delta_23 (by decide) rfl (by dsimp only [ad_set]) ?_
        refine ad_iconst dX8_delta_25 ?_
        refine ad_istore dX8_delta_26 (by decide) rfl (by dsimp only [ad_set]) ?_
        refine ad_iconst dX8_delta_28 ?_
        refine ad_istore dX8_delta_29 (by decide) rfl (by dsimp only [ad_set]) ?_
        exact hin _ 0 0 0 _ m (by omega) (by omega) hf hsp rfl (Nat.le_refl _)
  refine ad_M1 (k := 5) rfl (by simp [Value.category]) rfl (Nat.le_of_ble_eq_true rfl) ?_
  simp only [List.map_cons, List.map_nil, List.replicate, List.cons_append, List.nil_append]
  refine ad_aload_n dX8_delta_0 rfl ?_
  refine ad_iconst dX8_delta_1 ?_
  refine pf_X8_73 rfl dX8_delta_2 ?_
  refine ad_aload_n dX8_delta_5 rfl ?_
  refine ad_iconst dX8_delta_6 ?_
  refine pf_X8_77 rfl dX8_delta_7 ?_
  refine ad_iconst dX8_delta_10 ?_
  refine ad_istore_n dX8_delta_11 (by decide) rfl (by dsimp only [ad_set]) ?_
  exact hl _ 0 [] _ _ _ _ _ (by omega) ((ad_f8.sj (by decide)).trans (ad_f8.sj (by decide))) ⟨by rw [ad_st_r1, ad_u1_ne _ _ (by decide), ad_st_r1, ad_u1_eq]; rfl, by rw [ad_st_r1, ad_u1_eq]; rfl, fun q hq => absurd hq (Nat.not_lt_zero q)⟩ (Nat.zero_le _) rfl (Nat.le_refl _)
