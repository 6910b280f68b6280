/-! ===== choosing ===== -/
def ad_TC (k i : Nat) : Prop := k = 16 ∨ ((k = 0 ∨ k = 10 ∨ k = 11) ∧ i = 30)
def ad_TP (k i : Nat) : Prop := (k = 3 ∨ k = 13 ∨ k = 14 ∨ k = 15 ∨ k = 16) ∨ ((k = 0 ∨ k = 10 ∨ k = 11) ∧ i = 30)
def ad_cch (σ : ad_Mem) (A : ad_Ar) : Prop := ∀ u v, ad_aH A u = true → ad_aH A v = true → σ 16 0 (10 * u + v) = 0 ∨ σ 16 0 (10 * u + v) = ad_c2 A u v
/-- a plan of the archive A in the store s, i placed ones chosen -/
def ad_pS (σ : ad_Mem) (s : Nat) (A : ad_Ar) (k f b : Int) (l : List Nat) (i : Nat) : Prop :=
  ad_rC σ s A ∧ σ 3 0 5 = (s : Int) + 1 ∧ (σ 3 0 7 = k ∧ σ 3 0 8 = f ∧ σ 3 0 9 = b) ∧ σ 3 0 6 = l.length ∧ (∀ q, q < l.length → σ 13 0 q = (l.getD q 0 : Int)) ∧ (∀ u, u < 10 → σ 14 0 u = (ad_pl A k f b l i).1 u) ∧ (∀ q, q < i → σ 15 0 (l.getD q 0) = (ad_pl A k f b l i).2.1 (l.getD q 0)) ∧
  (σ 3 0 10 = (ad_pl A k f b l i).2.2.1 ∧ σ 3 0 11 = (ad_pl A k f b l i).2.2.2.1 ∧ σ 3 0 12 = (ad_pl A k f b l i).2.2.2.2) ∧ ad_cch σ A ∧ ad_dr σ 30
theorem ad_rC_TP {T : Nat → Nat → Prop} {σ σ1 : ad_Mem} {s : Nat} {A : ad_Ar} (hs : s < 3) (hr : ad_rC σ s A) (hw : ad_wA A) (h : ad_fr T σ σ1) (hT : ∀ k i, T k i → ad_TP k i) : ad_rC σ1 s A := by
  refine ad_rC_congr hw (fun k i hk => h k i (fun q => ?_)) hr
  have := hT k i q
  rcases this with h1 | ⟨h1, h2⟩
  · rcases hk with ⟨rfl, -⟩ | ⟨rfl, -⟩ | ⟨rfl | rfl, -⟩ | ⟨rfl | rfl | rfl | rfl | rfl | rfl, -⟩ <;> omega
  · rcases hk with ⟨rfl, -⟩ | ⟨rfl, -⟩ | ⟨rfl | rfl, -⟩ | ⟨-, h3, h4⟩ <;> omega
theorem ad_TC_TP : ∀ k i, ad_TC k i → ad_TP k i := fun k i h => by
  rcases h with h | h
  · exact Or.inl (by omega)
  · exact Or.inr h
theorem c_X3_choose {g : ad_G} {d : Nat} {σ : ad_Mem} {s : Nat} {A : ad_Ar} (hs : s < 3) (hw : ad_wA A) {k f b : Int} {l : List Nat} {i : Nat} (h4d : 4 ≤ d) (hk2 : 0 ≤ k ∧ k ≤ 5) (hf2 : 0 ≤ f ∧ f ≤ 9) (hb2 : 0 ≤ b ∧ b ≤ 8) (hl : ∀ u ∈ l, u < 10 ∧ ad_aH A u = true) (hnd : l.Nodup) (hl10 : l.length ≤ 10) (hi : i < l.length) (hp : ad_pS σ s A k f b l i) : ad_V g mX3_choose d [ad_rf g 3 0, ad_iv (i : Int), ad_iv (l.getD i 0 : Int)] σ (fun m => ad_pS m s A k f b l (i + 1) ∧ ad_fr ad_TP σ m) := by
  have hw0 := hw
  obtain ⟨hr0, p2, p3, p4, p5, p6, p7, p8, p9, p10⟩ := hp
  obtain ⟨w1, w2, w3, w4, w5, w6, w7, w8, w9⟩ := hw
  have hmi := hl _ (ad_getD_mem hi)
  have hrg := ad_pl_rng hw0 (k := k) hb2 hl hf2.1 i (by omega)
  refine ad_M1 (k := 5) rfl (by simp [Value.category]) rfl (Nat.le_of_ble_eq_true rfl) ?_
  simp only [List.map_cons, List.map_nil, List.replicate, List.cons_append, List.nil_append]
  have done : ∀ (j : Int) (v6 v7 : Option Value) (σ1 : ad_Mem), ad_fr ad_TC σ σ1 → j = i → ad_cch σ1 A → ad_dr σ1 30 → ad_R g mX3_choose d (ad_ZV mX3_choose (fun m => ad_pS m s A k f b l (i + 1) ∧ ad_fr ad_TP σ m)) 178 [some (ad_rf g 3 0), some (ad_iv (i : Int)), some (ad_iv (l.getD i 0 : Int)), some (ad_iv (ad_pk A k f b l (ad_pl A k f b l i).2.1 i j.toNat).1), some (ad_iv (ad_pk A k f b l (ad_pl A k f b l i).2.1 i j.toNat).2), some (ad_iv j), v6, v7] [] σ1 := by
    intro j v6 v7 σ1 e0 hj e1 e2
    have hrs := ad_rC_TP hs hr0 hw0 e0 ad_TC_TP
    have c3 : σ1 3 0 = σ 3 0 := e0 3 0 (by unfold ad_TC; omega)
    have c13 : σ1 13 0 = σ 13 0 := e0 13 0 (by unfold ad_TC; omega)
    have c14 : σ1 14 0 = σ 14 0 := e0 14 0 (by unfold ad_TC; omega)
    have c15 : σ1 15 0 = σ 15 0 := e0 15 0 (by unfold ad_TC; omega)
    have hst1 : σ1 3 0 5 = (s : Int) + 1 := by rw [c3]; exact p2
    have hk1 : σ1 3 0 7 = k := by rw [c3]; exact p3.1
    have hf1 : σ1 3 0 8 = f := by rw [c3]; exact p3.2.1
    have hb1 : σ1 3 0 9 = b := by rw [c3]; exact p3.2.2
    have ho1 : ∀ q, q < l.length → σ1 13 0 q = (l.getD q 0 : Int) := fun q hq => by rw [c13]; exact p5 q hq
    have hji : j.toNat = i := by omega
    rw [hji]
    have hpr := ad_pk_in A k f b l (ad_pl A k f b l i).2.1 i i
    have hpr2 : -1 ≤ (ad_pk A k f b l (ad_pl A k f b l i).2.1 i i).1 ∧ (ad_pk A k f b l (ad_pl A k f b l i).2.1 i i).1 < 10 ∧ 0 ≤ (ad_pk A k f b l (ad_pl A k f b l i).2.1 i i).2 ∧ (ad_pk A k f b l (ad_pl A k f b l i).2.1 i i).2 ≤ 2147483647 := by
      rcases hpr with hp | ⟨q, q1, q2, q3, q4⟩
      · rw [hp]; decide
      · have hq := hl _ (ad_getD_mem (show q < l.length by omega))
        have hcq := ad_c2_rng hw0 (u := l.getD q 0) hmi.2
        omega
    have hwc : 1 + σ1 2 (10 * s + l.getD i 0) 1 = ad_wc A (l.getD i 0) := by rw [ad_sz hrs hw0 hmi.2]; rfl
    have hwcr : 2 ≤ ad_wc A (l.getD i 0) ∧ ad_wc A (l.getD i 0) ≤ 13 := by have := (w3 _ hmi.2).1; unfold ad_wc; omega
    have hsv : 1 ≤ ad_sav k f ∧ ad_sav k f ≤ 10 := by unfold ad_sav; split <;> omega
    have hgd := hrg.2.2.2.1
    have hp11 : σ1 3 0 11 = (ad_pl A k f b l i).2.2.2.1 := by rw [c3]; exact p8.2.1
    refine ad_aload_n dX3_choose_178 rfl ?_
    refine gf_X3_31 rfl hst1 dX3_choose_179 ?_
    refine gf_X3_86 rfl (by omega) dX3_choose_182 ?_
    refine ad_iload_n dX3_choose_185 rfl ?_
    refine ad_aald dX3_choose_186 (by omega) (by omega) (by omega) ?_
    rw [Int.toNat_natCast]
    refine ad_cv0f rfl cl_X3_103 dX3_choose_187 (c_X6_wholeCost (by omega)) (by omega) (by show _ < 30; omega) (Nat.le_of_ble_eq_true rfl) ?_
    rw [hwc]
    refine ad_istore dX3_choose_190 (by decide) rfl (by dsimp only [ad_set]) ?_
    refine ad_aload_n dX3_choose_192 rfl ?_
    refine gf_X3_31 rfl hst1 dX3_choose_193 ?_
    refine ad_iload_n dX3_choose_196 rfl ?_
    refine ad_cv1f rfl cl_X3_69 dX3_choose_197 (c_X4_holds hs hrs hw0 (by omega)) (by omega) (by show _ < 3; omega) (Nat.le_of_ble_eq_true rfl) ?_
    refine ad_ifp_eq 234 dX3_choose_200 (by decide) (fun h200 => ?_) (fun h200 => ?_)
    · skip
      have h166 : (ad_pk A k f b l (ad_pl A k f b l i).2.1 i i).1 = -1 := by
        rcases hpr with hp | ⟨q, q1, q2, q3, q4⟩
        · exact congrArg Prod.fst hp
        · exact absurd ⟨by omega, by rw [q2, Int.toNat_natCast]; exact (hl _ (ad_getD_mem (show q < l.length by omega))).2⟩ h200
      refine ad_aload_n dX3_choose_234 rfl ?_
      refine ad_iload_n dX3_choose_235 rfl ?_
      refine ad_bipush dX3_choose_236 rfl ?_
      refine ad_iconst dX3_choose_238 ?_
      refine ad_iload dX3_choose_239 rfl ?_
      refine ad_cv4w rfl cl_X3_109 dX3_choose_241 (c_X3_settle (by omega) (by omega) (by omega) (by omega)) (by omega) (by show _ < 1; omega) (Nat.le_of_ble_eq_true rfl) ?_
      rw [Int.toNat_natCast]
      refine ad_aload_n dX3_choose_244 rfl ?_
      refine ad_dup dX3_choose_245 rfl ?_
      refine gf_X3_54 rfl dX3_choose_246 ?_
      rw [show ∀ (a : ad_Mem) x y z w, ad_st (ad_st (ad_st (ad_st a 14 0 x y) 15 0 x z) 3 0 10 w) 3 0 11 (max (a 3 0 11) z) 3 0 12 = a 3 0 12 from fun a x y z w => by simp [ad_st], c3]
      refine ad_iconst dX3_choose_249 ?_
      refine ad_iadd dX3_choose_250 ?_
      refine pf_X3_54 rfl dX3_choose_251 ?_
      exact ad_retv dX3_choose_254 rfl (by
        have hpl : ad_pl A k f b l (i + 1) = _ := ad_pl.eq_2 A k f b l i
        rw [if_neg (fun q => q.1 h166)] at hpl
        generalize hm : ad_st _ 3 0 12 _ = m
        have e3 : ∀ c, m 3 0 c = if c = 11 then max (σ 3 0 11) 0 else if c = 10 then σ 3 0 10 + ad_wc A (l.getD i 0) else if c = 12 then σ 3 0 12 + 1 else σ 3 0 c := by
          intro c
          rw [← hm]
          simp only [ad_st, true_and]
          rw [c3]
          by_cases h11 : c = 11
          · simp [h11]
          by_cases h10 : c = 10
          · simp [h10]
          by_cases h12 : c = 12
          · simp [h12]
          · simp [h10, h11, h12]
        have e14 : ∀ u, m 14 0 u = if u = l.getD i 0 then 10 else σ 14 0 u := by
          intro u; rw [← hm]; simp [ad_st, c14]
        have e15 : ∀ u, m 15 0 u = if u = l.getD i 0 then 0 else σ 15 0 u := by
          intro u; rw [← hm]; simp [ad_st, c15]
        have eo : ∀ a c, a ≠ 3 → a ≠ 14 → a ≠ 15 → m a c = σ1 a c := by
          intro a c h1 h2 h3; funext z; rw [← hm]; simp [ad_st, h1, h2, h3]
        have eoi : ∀ a c, c ≠ 0 → m a c = σ1 a c := by
          intro a c h1; funext z; rw [← hm]; simp [ad_st, h1]
        have hfm : ad_fr ad_TP σ1 m := fun a c h => by
          by_cases hc : c = 0
          · exact eo a c (fun z => h (Or.inl (by omega))) (fun z => h (Or.inl (by omega))) (fun z => h (Or.inl (by omega)))
          · exact eoi a c hc
        refine ⟨⟨ad_rC_TP hs hrs hw0 hfm (fun _ _ h => h), by rw [e3]; exact p2, ⟨by rw [e3]; exact p3.1, by rw [e3]; exact p3.2.1, by rw [e3]; exact p3.2.2⟩, by rw [e3]; exact p4, fun q hq => by rw [eo 13 0 (by decide) (by decide) (by decide)]; exact ho1 q hq, fun u hu => ?_, fun q hq => ?_, ?_, ?_, ad_dr_congr (eo 10 30 (by decide) (by decide) (by decide)) (eo 11 30 (by decide) (by decide) (by decide)) e2⟩, (e0.mono ad_TC_TP).trans hfm⟩
        · rw [e14, hpl]
          dsimp only [ad_u1]
          rw [p6 u hu]
        · rw [e15, hpl]
          dsimp only [ad_u1]
          by_cases hqi : q = i
          · rw [hqi, if_pos rfl, if_pos rfl]
          · have hne : l.getD q 0 ≠ l.getD i 0 := fun z => hqi (ad_getD_inj hnd (by omega) hi z)
            rw [if_neg hne, if_neg hne]
            exact p7 q (by omega)
        · rw [hpl, e3, e3, e3]
          dsimp only
          rw [p8.1, p8.2.1, p8.2.2]
          exact ⟨rfl, rfl, rfl⟩
        · intro u v hu hv
          rw [eo 16 0 (by decide) (by decide) (by decide)]
          exact e1 u v hu hv)
    · show ad_R _ _ _ _ 203 _ _ _
      have h166a := h200.1
      have h166 : ¬ (ad_pk A k f b l (ad_pl A k f b l i).2.1 i i).1 = -1 := by omega
      refine ad_iload dX3_choose_203 rfl ?_
      refine ad_iload dX3_choose_205 rfl ?_
      refine ad_aload_n dX3_choose_207 rfl ?_
      refine ad_cv0f rfl cl_X3_106 dX3_choose_208 (c_X3_savings hk1 hf1 hk2 hf2) (by omega) (by show _ < 1; omega) (Nat.le_of_ble_eq_true rfl) ?_
      refine ad_isub dX3_choose_211 ?_
      refine ad_icmp_gt 234 dX3_choose_212 (by decide) (by omega) (by omega) (fun h212 => ?_) (fun h212 => ?_)
      · skip
        refine ad_aload_n dX3_choose_234 rfl ?_
        refine ad_iload_n dX3_choose_235 rfl ?_
        refine ad_bipush dX3_choose_236 rfl ?_
        refine ad_iconst dX3_choose_238 ?_
        refine ad_iload dX3_choose_239 rfl ?_
        refine ad_cv4w rfl cl_X3_109 dX3_choose_241 (c_X3_settle (by omega) (by omega) (by omega) (by omega)) (by omega) (by show _ < 1; omega) (Nat.le_of_ble_eq_true rfl) ?_
        rw [Int.toNat_natCast]
        refine ad_aload_n dX3_choose_244 rfl ?_
        refine ad_dup dX3_choose_245 rfl ?_
        refine gf_X3_54 rfl dX3_choose_246 ?_
        rw [show ∀ (a : ad_Mem) x y z w, ad_st (ad_st (ad_st (ad_st a 14 0 x y) 15 0 x z) 3 0 10 w) 3 0 11 (max (a 3 0 11) z) 3 0 12 = a 3 0 12 from fun a x y z w => by simp [ad_st], c3]
        refine ad_iconst dX3_choose_249 ?_
        refine ad_iadd dX3_choose_250 ?_
        refine pf_X3_54 rfl dX3_choose_251 ?_
        exact ad_retv dX3_choose_254 rfl (by
          have hpl : ad_pl A k f b l (i + 1) = _ := ad_pl.eq_2 A k f b l i
          rw [if_neg (fun q => by have := q.2; omega)] at hpl
          generalize hm : ad_st _ 3 0 12 _ = m
          have e3 : ∀ c, m 3 0 c = if c = 11 then max (σ 3 0 11) 0 else if c = 10 then σ 3 0 10 + ad_wc A (l.getD i 0) else if c = 12 then σ 3 0 12 + 1 else σ 3 0 c := by
            intro c
            rw [← hm]
            simp only [ad_st, true_and]
            rw [c3]
            by_cases h11 : c = 11
            · simp [h11]
            by_cases h10 : c = 10
            · simp [h10]
            by_cases h12 : c = 12
            · simp [h12]
            · simp [h10, h11, h12]
          have e14 : ∀ u, m 14 0 u = if u = l.getD i 0 then 10 else σ 14 0 u := by
            intro u; rw [← hm]; simp [ad_st, c14]
          have e15 : ∀ u, m 15 0 u = if u = l.getD i 0 then 0 else σ 15 0 u := by
            intro u; rw [← hm]; simp [ad_st, c15]
          have eo : ∀ a c, a ≠ 3 → a ≠ 14 → a ≠ 15 → m a c = σ1 a c := by
            intro a c h1 h2 h3; funext z; rw [← hm]; simp [ad_st, h1, h2, h3]
          have eoi : ∀ a c, c ≠ 0 → m a c = σ1 a c := by
            intro a c h1; funext z; rw [← hm]; simp [ad_st, h1]
          have hfm : ad_fr ad_TP σ1 m := fun a c h => by
            by_cases hc : c = 0
            · exact eo a c (fun z => h (Or.inl (by omega))) (fun z => h (Or.inl (by omega))) (fun z => h (Or.inl (by omega)))
            · exact eoi a c hc
          refine ⟨⟨ad_rC_TP hs hrs hw0 hfm (fun _ _ h => h), by rw [e3]; exact p2, ⟨by rw [e3]; exact p3.1, by rw [e3]; exact p3.2.1, by rw [e3]; exact p3.2.2⟩, by rw [e3]; exact p4, fun q hq => by rw [eo 13 0 (by decide) (by decide) (by decide)]; exact ho1 q hq, fun u hu => ?_, fun q hq => ?_, ?_, ?_, ad_dr_congr (eo 10 30 (by decide) (by decide) (by decide)) (eo 11 30 (by decide) (by decide) (by decide)) e2⟩, (e0.mono ad_TC_TP).trans hfm⟩
          · rw [e14, hpl]
            dsimp only [ad_u1]
            rw [p6 u hu]
          · rw [e15, hpl]
            dsimp only [ad_u1]
            by_cases hqi : q = i
            · rw [hqi, if_pos rfl, if_pos rfl]
            · have hne : l.getD q 0 ≠ l.getD i 0 := fun z => hqi (ad_getD_inj hnd (by omega) hi z)
              rw [if_neg hne, if_neg hne]
              exact p7 q (by omega)
          · rw [hpl, e3, e3, e3]
            dsimp only
            rw [p8.1, p8.2.1, p8.2.2]
            exact ⟨rfl, rfl, rfl⟩
          · intro u v hu hv
            rw [eo 16 0 (by decide) (by decide) (by decide)]
            exact e1 u v hu hv)
      · show ad_R _ _ _ _ 215 _ _ _
        refine ad_aload_n dX3_choose_215 rfl ?_
        refine ad_iload_n dX3_choose_216 rfl ?_
        refine ad_iload_n dX3_choose_217 rfl ?_
        refine ad_aload_n dX3_choose_218 rfl ?_
        refine gf_X3_18 rfl dX3_choose_219 ?_
        refine ad_iload_n dX3_choose_222 rfl ?_
        refine ad_iald dX3_choose_223 (by show _ < 1; omega) ⟨by decide, by decide⟩ (by omega) (by show _ < ((10 : Nat) : Int); omega) ?_
        have hdq : σ1 15 0 (ad_pk A k f b l (ad_pl A k f b l i).2.1 i i).1.toNat = (ad_pl A k f b l i).2.1 (ad_pk A k f b l (ad_pl A k f b l i).2.1 i i).1.toNat := by
          rcases hpr with hp | ⟨q, q1, q2, q3, q4⟩
          · rw [hp] at h166; exact absurd rfl h166
          · rw [q2, Int.toNat_natCast, c15]; exact p7 q q1
        have hdr2 := hrg.2.1 (ad_pk A k f b l (ad_pl A k f b l i).2.1 i i).1.toNat
        rw [hdq]
        refine ad_iconst dX3_choose_224 ?_
        refine ad_iadd dX3_choose_225 ?_
        refine ad_iload dX3_choose_226 rfl ?_
        refine ad_cv4w rfl cl_X3_109 dX3_choose_228 (c_X3_settle (by omega) (by omega) (by omega) (by omega)) (by omega) (by show _ < 1; omega) (Nat.le_of_ble_eq_true rfl) ?_
        rw [Int.toNat_natCast]
        refine ad_goto 254 dX3_choose_231 (by decide) ?_
        exact ad_retv dX3_choose_254 rfl (by
          have hpl : ad_pl A k f b l (i + 1) = _ := ad_pl.eq_2 A k f b l i
          rw [if_pos ⟨h166, by omega⟩] at hpl
          generalize hm : ad_st _ 3 0 11 _ = m
          have e3 : ∀ c, m 3 0 c = if c = 11 then max (σ 3 0 11) ((ad_pl A k f b l i).2.1 (ad_pk A k f b l (ad_pl A k f b l i).2.1 i i).1.toNat + 1) else if c = 10 then σ 3 0 10 + (ad_pk A k f b l (ad_pl A k f b l i).2.1 i i).2 else σ 3 0 c := by
            intro c
            rw [← hm]
            simp only [ad_st, true_and]
            rw [c3]
            by_cases h11 : c = 11
            · simp [h11]
            by_cases h10 : c = 10
            · simp [h10]
            by_cases h12 : c = 12
            · simp [h12]
            · simp [h10, h11, h12]
          have e14 : ∀ u, m 14 0 u = if u = l.getD i 0 then (ad_pk A k f b l (ad_pl A k f b l i).2.1 i i).1 else σ 14 0 u := by
            intro u; rw [← hm]; simp [ad_st, c14]
          have e15 : ∀ u, m 15 0 u = if u = l.getD i 0 then ((ad_pl A k f b l i).2.1 (ad_pk A k f b l (ad_pl A k f b l i).2.1 i i).1.toNat + 1) else σ 15 0 u := by
            intro u; rw [← hm]; simp [ad_st, c15]
          have eo : ∀ a c, a ≠ 3 → a ≠ 14 → a ≠ 15 → m a c = σ1 a c := by
            intro a c h1 h2 h3; funext z; rw [← hm]; simp [ad_st, h1, h2, h3]
          have eoi : ∀ a c, c ≠ 0 → m a c = σ1 a c := by
            intro a c h1; funext z; rw [← hm]; simp [ad_st, h1]
          have hfm : ad_fr ad_TP σ1 m := fun a c h => by
            by_cases hc : c = 0
            · exact eo a c (fun z => h (Or.inl (by omega))) (fun z => h (Or.inl (by omega))) (fun z => h (Or.inl (by omega)))
            · exact eoi a c hc
          refine ⟨⟨ad_rC_TP hs hrs hw0 hfm (fun _ _ h => h), by rw [e3]; exact p2, ⟨by rw [e3]; exact p3.1, by rw [e3]; exact p3.2.1, by rw [e3]; exact p3.2.2⟩, by rw [e3]; exact p4, fun q hq => by rw [eo 13 0 (by decide) (by decide) (by decide)]; exact ho1 q hq, fun u hu => ?_, fun q hq => ?_, ?_, ?_, ad_dr_congr (eo 10 30 (by decide) (by decide) (by decide)) (eo 11 30 (by decide) (by decide) (by decide)) e2⟩, (e0.mono ad_TC_TP).trans hfm⟩
          · rw [e14, hpl]
            dsimp only [ad_u1]
            rw [p6 u hu]
          · rw [e15, hpl]
            dsimp only [ad_u1]
            by_cases hqi : q = i
            · rw [hqi, if_pos rfl, if_pos rfl]
            · have hne : l.getD q 0 ≠ l.getD i 0 := fun z => hqi (ad_getD_inj hnd (by omega) hi z)
              rw [if_neg hne, if_neg hne]
              exact p7 q (by omega)
          · rw [hpl, e3, e3, e3]
            dsimp only
            rw [p8.1, p8.2.1, p8.2.2]
            exact ⟨rfl, rfl, rfl⟩
          · intro u v hu hv
            rw [eo 16 0 (by decide) (by decide) (by decide)]
            exact e1 u v hu hv)
  have lp : ∀ (n : Nat) (j : Int) (v6 : Option Value) (v7 : Option Value) (σ1 : ad_Mem), (ad_fr ad_TC σ σ1) → (0 ≤ j) → (j ≤ i) → (ad_cch σ1 A) → (ad_dr σ1 30) → (i - j).toNat ≤ n → ad_R g mX3_choose d (ad_ZV mX3_choose (fun m => ad_pS m s A k f b l (i + 1) ∧ ad_fr ad_TP σ m)) 21 [some (ad_rf g 3 0), some (ad_iv (i : Int)), some (ad_iv (l.getD i 0 : Int)), some (ad_iv (ad_pk A k f b l (ad_pl A k f b l i).2.1 i j.toNat).1), some (ad_iv (ad_pk A k f b l (ad_pl A k f b l i).2.1 i j.toNat).2), some (ad_iv j), v6, v7] [] σ1 := by
    intro n
    induction n with
    | zero =>
      intro j v6 v7 σ1 e0 hj0 hj1 e1 e2 hn
      have hrs := ad_rC_TP hs hr0 hw0 e0 ad_TC_TP
      have c3 : σ1 3 0 = σ 3 0 := e0 3 0 (by unfold ad_TC; omega)
      have c13 : σ1 13 0 = σ 13 0 := e0 13 0 (by unfold ad_TC; omega)
      have c14 : σ1 14 0 = σ 14 0 := e0 14 0 (by unfold ad_TC; omega)
      have c15 : σ1 15 0 = σ 15 0 := e0 15 0 (by unfold ad_TC; omega)
      have hst1 : σ1 3 0 5 = (s : Int) + 1 := by rw [c3]; exact p2
      have hk1 : σ1 3 0 7 = k := by rw [c3]; exact p3.1
      have hf1 : σ1 3 0 8 = f := by rw [c3]; exact p3.2.1
      have hb1 : σ1 3 0 9 = b := by rw [c3]; exact p3.2.2
      have ho1 : ∀ q, q < l.length → σ1 13 0 q = (l.getD q 0 : Int) := fun q hq => by rw [c13]; exact p5 q hq
      have hpr := ad_pk_in A k f b l (ad_pl A k f b l i).2.1 i j.toNat
      have hpr2 : -1 ≤ (ad_pk A k f b l (ad_pl A k f b l i).2.1 i j.toNat).1 ∧ (ad_pk A k f b l (ad_pl A k f b l i).2.1 i j.toNat).1 < 10 ∧ 0 ≤ (ad_pk A k f b l (ad_pl A k f b l i).2.1 i j.toNat).2 ∧ (ad_pk A k f b l (ad_pl A k f b l i).2.1 i j.toNat).2 ≤ 2147483647 := by
        rcases hpr with hp | ⟨q, q1, q2, q3, q4⟩
        · rw [hp]; decide
        · have hq := hl _ (ad_getD_mem (show q < l.length by omega))
          have hcq := ad_c2_rng hw0 (u := l.getD q 0) hmi.2
          omega
      refine ad_iload dX3_choose_21 rfl ?_
      refine ad_iload_n dX3_choose_23 rfl ?_
      refine ad_icmp_ge 178 dX3_choose_24 (by decide) (by omega) (by omega) (fun h24 => ?_) (fun h24 => ?_)
      · skip
        exact done j v6 v7 σ1 e0 (by omega) e1 e2
      · show ad_R _ _ _ _ 27 _ _ _
        exfalso; omega
    | succ n ih =>
      intro j v6 v7 σ1 e0 hj0 hj1 e1 e2 hn
      have hrs := ad_rC_TP hs hr0 hw0 e0 ad_TC_TP
      have c3 : σ1 3 0 = σ 3 0 := e0 3 0 (by unfold ad_TC; omega)
      have c13 : σ1 13 0 = σ 13 0 := e0 13 0 (by unfold ad_TC; omega)
      have c14 : σ1 14 0 = σ 14 0 := e0 14 0 (by unfold ad_TC; omega)
      have c15 : σ1 15 0 = σ 15 0 := e0 15 0 (by unfold ad_TC; omega)
      have hst1 : σ1 3 0 5 = (s : Int) + 1 := by rw [c3]; exact p2
      have hk1 : σ1 3 0 7 = k := by rw [c3]; exact p3.1
      have hf1 : σ1 3 0 8 = f := by rw [c3]; exact p3.2.1
      have hb1 : σ1 3 0 9 = b := by rw [c3]; exact p3.2.2
      have ho1 : ∀ q, q < l.length → σ1 13 0 q = (l.getD q 0 : Int) := fun q hq => by rw [c13]; exact p5 q hq
      have hpr := ad_pk_in A k f b l (ad_pl A k f b l i).2.1 i j.toNat
      have hpr2 : -1 ≤ (ad_pk A k f b l (ad_pl A k f b l i).2.1 i j.toNat).1 ∧ (ad_pk A k f b l (ad_pl A k f b l i).2.1 i j.toNat).1 < 10 ∧ 0 ≤ (ad_pk A k f b l (ad_pl A k f b l i).2.1 i j.toNat).2 ∧ (ad_pk A k f b l (ad_pl A k f b l i).2.1 i j.toNat).2 ≤ 2147483647 := by
        rcases hpr with hp | ⟨q, q1, q2, q3, q4⟩
        · rw [hp]; decide
        · have hq := hl _ (ad_getD_mem (show q < l.length by omega))
          have hcq := ad_c2_rng hw0 (u := l.getD q 0) hmi.2
          omega
      refine ad_iload dX3_choose_21 rfl ?_
      refine ad_iload_n dX3_choose_23 rfl ?_
      refine ad_icmp_ge 178 dX3_choose_24 (by decide) (by omega) (by omega) (fun h24 => ?_) (fun h24 => ?_)
      · skip
        exact done j v6 v7 σ1 e0 (by omega) e1 e2
      · show ad_R _ _ _ _ 27 _ _ _
        refine ad_iload dX3_choose_27 rfl ?_
        refine ad_bipush dX3_choose_29 rfl ?_
        refine ad_icmp_ge 178 dX3_choose_31 (by decide) (by omega) (by omega) (fun h31 => ?_) (fun h31 => ?_)
        · exfalso; omega
        · show ad_R _ _ _ _ 34 _ _ _
          refine ad_aload_n dX3_choose_34 rfl ?_
          refine gf_X3_9 rfl dX3_choose_35 ?_
          refine ad_iload dX3_choose_38 rfl ?_
          refine ad_iald dX3_choose_40 (by show _ < 1; omega) ⟨by decide, by decide⟩ (by omega) (by show _ < ((10 : Nat) : Int); omega) ?_
          rw [ho1 j.toNat (by omega)]
          have hmj := hl _ (ad_getD_mem (show j.toNat < l.length by omega))
          have hc2 := ad_c2_rng hw0 (u := l.getD j.toNat 0) hmi.2
          have hpk : ad_pk A k f b l (ad_pl A k f b l i).2.1 i (j.toNat + 1) = if (ad_pl A k f b l i).2.1 (l.getD j.toNat 0) < b ∧ ad_may A k f l j.toNat i = true ∧ ad_c2 A (l.getD j.toNat 0) (l.getD i 0) < (ad_pk A k f b l (ad_pl A k f b l i).2.1 i j.toNat).2 then ((l.getD j.toNat 0 : Int), ad_c2 A (l.getD j.toNat 0) (l.getD i 0)) else ad_pk A k f b l (ad_pl A k f b l i).2.1 i j.toNat := rfl
          refine ad_istore dX3_choose_41 (by decide) rfl (by dsimp only [ad_set]) ?_
          refine ad_aload_n dX3_choose_43 rfl ?_
          refine gf_X3_31 rfl hst1 dX3_choose_44 ?_
          refine ad_iload dX3_choose_47 rfl ?_
          refine ad_cv1f rfl cl_X3_69 dX3_choose_49 (c_X4_holds hs hrs hw0 (by omega)) (by omega) (by show _ < 3; omega) (Nat.le_of_ble_eq_true rfl) ?_
          refine ad_ifp_eq 172 dX3_choose_52 (by decide) (fun h52 => ?_) (fun h52 => ?_)
          · exact absurd ⟨by omega, by rw [Int.toNat_natCast]; exact hmj.2⟩ h52
          · show ad_R _ _ _ _ 55 _ _ _
            refine ad_aload_n dX3_choose_55 rfl ?_
            refine gf_X3_18 rfl dX3_choose_56 ?_
            refine ad_iload dX3_choose_59 rfl ?_
            refine ad_iald dX3_choose_61 (by show _ < 1; omega) ⟨by decide, by decide⟩ (by omega) (by show _ < ((10 : Nat) : Int); omega) ?_
            rw [Int.toNat_natCast, show σ1 15 0 (l.getD j.toNat 0) = (ad_pl A k f b l i).2.1 (l.getD j.toNat 0) from by rw [c15]; exact p7 _ (by omega)]
            have hdj := hrg.2.1 (l.getD j.toNat 0)
            refine ad_aload_n dX3_choose_62 rfl ?_
            refine gf_X3_42 rfl dX3_choose_63 ?_
            rw [hb1]
            refine ad_icmp_ge 172 dX3_choose_66 (by decide) (by omega) (by omega) (fun h66 => ?_) (fun h66 => ?_)
            · skip
              refine ad_iinc dX3_choose_172 rfl (by decide) rfl (by dsimp only [ad_set]) ?_
              refine ad_goto 21 dX3_choose_175 (by decide) ?_
              have hz := ih (j + 1) (some (ad_iv (l.getD j.toNat 0 : Int))) v7 σ1 e0 (by omega) (by omega) e1 e2 (by omega)
              rw [show (j + 1).toNat = j.toNat + 1 by omega, hpk, if_neg (fun q => by have := q.1; omega)] at hz
              exact hz
            · show ad_R _ _ _ _ 69 _ _ _
              refine ad_aload_n dX3_choose_69 rfl ?_
              refine ad_iload dX3_choose_70 rfl ?_
              refine ad_iload_n dX3_choose_72 rfl ?_
              refine ad_iload_n dX3_choose_73 rfl ?_
              refine ad_iload dX3_choose_74 rfl ?_
              refine ad_isub dX3_choose_76 ?_
              refine ad_cv3f rfl cl_X3_82 dX3_choose_77 (c_X3_mayBeBase (j := j.toNat) (i := i) hs hrs hw0 hst1 (by omega) hk1 hk2 hf1 hf2 hl (by omega) hi hl10 (by omega)) (by omega) (by show _ < 1; omega) (Nat.le_of_ble_eq_true rfl) ?_
              refine ad_ifp_eq 172 dX3_choose_80 (by decide) (fun h80 => ?_) (fun h80 => ?_)
              · skip
                refine ad_iinc dX3_choose_172 rfl (by decide) rfl (by dsimp only [ad_set]) ?_
                refine ad_goto 21 dX3_choose_175 (by decide) ?_
                have hz := ih (j + 1) (some (ad_iv (l.getD j.toNat 0 : Int))) v7 σ1 e0 (by omega) (by omega) e1 e2 (by omega)
                rw [show (j + 1).toNat = j.toNat + 1 by omega, hpk, if_neg (fun q => h80 q.2.1)] at hz
                exact hz
              · show ad_R _ _ _ _ 83 _ _ _
                refine ad_iload dX3_choose_83 rfl ?_
                refine ad_bipush dX3_choose_85 rfl ?_
                refine ad_imul dX3_choose_87 ?_
                refine ad_iload_n dX3_choose_88 rfl ?_
                refine ad_iadd dX3_choose_89 ?_
                refine ad_istore dX3_choose_90 (by decide) rfl (by dsimp only [ad_set]) ?_
                rw [show (l.getD j.toNat 0 : Int) * 10 + (l.getD i 0 : Int) = ((10 * l.getD j.toNat 0 + l.getD i 0 : Nat) : Int) by omega]
                refine ad_aload_n dX3_choose_92 rfl ?_
                refine gf_X3_21 rfl dX3_choose_93 ?_
                refine ad_iload dX3_choose_96 rfl ?_
                refine ad_iald dX3_choose_98 (by show _ < 1; omega) ⟨by decide, by decide⟩ (by omega) (by show _ < ((100 : Nat) : Int); omega) ?_
                rw [Int.toNat_natCast]
                have hcc := e1 _ _ hmj.2 hmi.2
                refine ad_if_ne 148 dX3_choose_99 (by decide) (by omega) (fun h99 => ?_) (fun h99 => ?_)
                · skip
                  refine ad_aload_n dX3_choose_148 rfl ?_
                  refine gf_X3_21 rfl dX3_choose_149 ?_
                  refine ad_iload dX3_choose_152 rfl ?_
                  refine ad_iald dX3_choose_154 (by show _ < 1; omega) ⟨by decide, by decide⟩ (by omega) (by show _ < ((100 : Nat) : Int); omega) ?_
                  rw [Int.toNat_natCast, hcc.resolve_left h99]
                  refine ad_iload dX3_choose_155 rfl ?_
                  refine ad_icmp_ge 172 dX3_choose_157 (by decide) (by omega) (by omega) (fun h157 => ?_) (fun h157 => ?_)
                  · skip
                    refine ad_iinc dX3_choose_172 rfl (by decide) rfl (by dsimp only [ad_set]) ?_
                    refine ad_goto 21 dX3_choose_175 (by decide) ?_
                    have hz := ih (j + 1) (some (ad_iv (l.getD j.toNat 0 : Int))) (some (ad_iv ((10 * l.getD j.toNat 0 + l.getD i 0 : Nat) : Int))) σ1 e0 (by omega) (by omega) e1 e2 (by omega)
                    rw [show (j + 1).toNat = j.toNat + 1 by omega, hpk, if_neg (fun q => by have := q.2.2; omega)] at hz
                    exact hz
                  · show ad_R _ _ _ _ 160 _ _ _
                    refine ad_aload_n dX3_choose_160 rfl ?_
                    refine gf_X3_21 rfl dX3_choose_161 ?_
                    refine ad_iload dX3_choose_164 rfl ?_
                    refine ad_iald dX3_choose_166 (by show _ < 1; omega) ⟨by decide, by decide⟩ (by omega) (by show _ < ((100 : Nat) : Int); omega) ?_
                    rw [Int.toNat_natCast, hcc.resolve_left h99]
                    refine ad_istore dX3_choose_167 (by decide) rfl (by dsimp only [ad_set]) ?_
                    refine ad_iload dX3_choose_169 rfl ?_
                    refine ad_istore_n dX3_choose_171 (by decide) rfl (by dsimp only [ad_set]) ?_
                    refine ad_iinc dX3_choose_172 rfl (by decide) rfl (by dsimp only [ad_set]) ?_
                    refine ad_goto 21 dX3_choose_175 (by decide) ?_
                    have hz := ih (j + 1) (some (ad_iv (l.getD j.toNat 0 : Int))) (some (ad_iv ((10 * l.getD j.toNat 0 + l.getD i 0 : Nat) : Int))) σ1 e0 (by omega) (by omega) e1 e2 (by omega)
                    rw [show (j + 1).toNat = j.toNat + 1 by omega, hpk, if_pos ⟨by omega, h80, by omega⟩] at hz
                    exact hz
                · show ad_R _ _ _ _ 102 _ _ _
                  refine ad_aload_n dX3_choose_102 rfl ?_
                  refine gf_X3_27 rfl dX3_choose_103 ?_
                  refine ad_aload_n dX3_choose_106 rfl ?_
                  refine gf_X3_31 rfl hst1 dX3_choose_107 ?_
                  refine gf_X3_86 rfl (by omega) dX3_choose_110 ?_
                  refine ad_iload dX3_choose_113 rfl ?_
                  refine ad_aald dX3_choose_115 (by omega) (by omega) (by omega) ?_
                  rw [Int.toNat_natCast]
                  refine gf_X3_90 rfl (by omega) dX3_choose_116 ?_
                  refine ad_aload_n dX3_choose_119 rfl ?_
                  refine gf_X3_31 rfl hst1 dX3_choose_120 ?_
                  refine gf_X3_86 rfl (by omega) dX3_choose_123 ?_
                  refine ad_iload_n dX3_choose_126 rfl ?_
                  refine ad_aald dX3_choose_127 (by omega) (by omega) (by omega) ?_
                  rw [Int.toNat_natCast]
                  refine gf_X3_90 rfl (by omega) dX3_choose_128 ?_
                  refine ad_cv2v rfl cl_X3_96 dX3_choose_131 (c_X0_make (by omega) (by omega) (by omega) (by omega) (hrs.2.2.2.2.1 _ hmj.1).1 (hrs.2.2.2.2.1 _ hmi.1).1 (by rw [ad_sz hrs hw0 hmi.2]; have := (w3 _ hmi.2).1; omega) e2) (by omega) (by show _ < 32; omega) (Nat.le_of_ble_eq_true rfl) (fun s131 q131 => ?_)
                  obtain ⟨t1, t2, t3⟩ := q131
                  refine ad_aload_n dX3_choose_134 rfl ?_
                  refine gf_X3_21 rfl dX3_choose_135 ?_
                  refine ad_iload dX3_choose_138 rfl ?_
                  refine ad_aload_n dX3_choose_140 rfl ?_
                  refine gf_X3_27 rfl dX3_choose_141 ?_
                  refine ad_cv0f rfl cl_X3_100 dX3_choose_144 (c_X0_cost (by omega)) (by omega) (by show _ < 32; omega) (Nat.le_of_ble_eq_true rfl) ?_
                  have hco : 1 + s131 0 30 2 + s131 0 30 3 = ad_c2 A (l.getD j.toNat 0) (l.getD i 0) := by
                    have h1 := ad_ds_len s131 30
                    have h2 := t3.2.2.1
                    have h0 := t3.1
                    rw [t2, (hrs.2.2.2.2.2.1 _ hmj.2).1, (hrs.2.2.2.2.2.1 _ hmi.2).1] at h1 h2
                    unfold ad_c2 ad_dc
                    omega
                  rw [hco]
                  refine ad_iast dX3_choose_147 (by show _ < 1; omega) ⟨by decide, by decide⟩ (by omega) (by show _ < ((100 : Nat) : Int); omega) ?_
                  rw [Int.toNat_natCast]
                  refine ad_aload_n dX3_choose_148 rfl ?_
                  refine gf_X3_21 rfl dX3_choose_149 ?_
                  refine ad_iload dX3_choose_152 rfl ?_
                  refine ad_iald dX3_choose_154 (by show _ < 1; omega) ⟨by decide, by decide⟩ (by omega) (by show _ < ((100 : Nat) : Int); omega) ?_
                  rw [Int.toNat_natCast, show ∀ (a : ad_Mem) y x, ad_st a 16 0 y x 16 0 y = x from fun a y x => by simp [ad_st]]
                  refine ad_iload dX3_choose_155 rfl ?_
                  refine ad_icmp_ge 172 dX3_choose_157 (by decide) (by omega) (by omega) (fun h157 => ?_) (fun h157 => ?_)
                  · skip
                    refine ad_iinc dX3_choose_172 rfl (by decide) rfl (by dsimp only [ad_set]) ?_
                    refine ad_goto 21 dX3_choose_175 (by decide) ?_
                    have hfr : ad_fr ad_TC σ1 (ad_st s131 16 0 (10 * l.getD j.toNat 0 + l.getD i 0) (ad_c2 A (l.getD j.toNat 0) (l.getD i 0))) := (t1.mono (fun k i h => Or.inr h)).trans (ad_fr.st (Or.inl rfl))
                    have hcache : ad_cch (ad_st s131 16 0 (10 * l.getD j.toNat 0 + l.getD i 0) (ad_c2 A (l.getD j.toNat 0) (l.getD i 0))) A := by
                      intro u v hu hv
                      have hu2 := w2 u hu
                      have hv2 := w2 v hv
                      simp only [ad_st]
                      by_cases huv : 10 * u + v = 10 * l.getD j.toNat 0 + l.getD i 0
                      · have h1 : u = l.getD j.toNat 0 := by omega
                        have h2 : v = l.getD i 0 := by omega
                        right; rw [h1, h2]; simp
                      · rw [if_neg (fun q => huv q.2.2)]
                        rw [show s131 16 0 = σ1 16 0 from ad_fr_d t1 16 0 (Or.inl (by decide))]
                        exact e1 u v hu hv
                    have hdr : ad_dr (ad_st s131 16 0 (10 * l.getD j.toNat 0 + l.getD i 0) (ad_c2 A (l.getD j.toNat 0) (l.getD i 0))) 30 := ad_dr_congr (by funext c; simp [ad_st]) (by funext c; simp [ad_st]) t3.2.2.2
                    have hz := ih (j + 1) (some (ad_iv (l.getD j.toNat 0 : Int))) (some (ad_iv ((10 * l.getD j.toNat 0 + l.getD i 0 : Nat) : Int))) _ (e0.trans hfr) (by omega) (by omega) hcache hdr (by omega)
                    rw [show (j + 1).toNat = j.toNat + 1 by omega, hpk, if_neg (fun q => by have := q.2.2; omega)] at hz
                    exact hz
                  · show ad_R _ _ _ _ 160 _ _ _
                    refine ad_aload_n dX3_choose_160 rfl ?_
                    refine gf_X3_21 rfl dX3_choose_161 ?_
                    refine ad_iload dX3_choose_164 rfl ?_
                    refine ad_iald dX3_choose_166 (by show _ < 1; omega) ⟨by decide, by decide⟩ (by omega) (by show _ < ((100 : Nat) : Int); omega) ?_
                    rw [Int.toNat_natCast, show ∀ (a : ad_Mem) y x, ad_st a 16 0 y x 16 0 y = x from fun a y x => by simp [ad_st]]
                    refine ad_istore dX3_choose_167 (by decide) rfl (by dsimp only [ad_set]) ?_
                    refine ad_iload dX3_choose_169 rfl ?_
                    refine ad_istore_n dX3_choose_171 (by decide) rfl (by dsimp only [ad_set]) ?_
                    refine ad_iinc dX3_choose_172 rfl (by decide) rfl (by dsimp only [ad_set]) ?_
                    refine ad_goto 21 dX3_choose_175 (by decide) ?_
                    have hfr : ad_fr ad_TC σ1 (ad_st s131 16 0 (10 * l.getD j.toNat 0 + l.getD i 0) (ad_c2 A (l.getD j.toNat 0) (l.getD i 0))) := (t1.mono (fun k i h => Or.inr h)).trans (ad_fr.st (Or.inl rfl))
                    have hcache : ad_cch (ad_st s131 16 0 (10 * l.getD j.toNat 0 + l.getD i 0) (ad_c2 A (l.getD j.toNat 0) (l.getD i 0))) A := by
                      intro u v hu hv
                      have hu2 := w2 u hu
                      have hv2 := w2 v hv
                      simp only [ad_st]
                      by_cases huv : 10 * u + v = 10 * l.getD j.toNat 0 + l.getD i 0
                      · have h1 : u = l.getD j.toNat 0 := by omega
                        have h2 : v = l.getD i 0 := by omega
                        right; rw [h1, h2]; simp
                      · rw [if_neg (fun q => huv q.2.2)]
                        rw [show s131 16 0 = σ1 16 0 from ad_fr_d t1 16 0 (Or.inl (by decide))]
                        exact e1 u v hu hv
                    have hdr : ad_dr (ad_st s131 16 0 (10 * l.getD j.toNat 0 + l.getD i 0) (ad_c2 A (l.getD j.toNat 0) (l.getD i 0))) 30 := ad_dr_congr (by funext c; simp [ad_st]) (by funext c; simp [ad_st]) t3.2.2.2
                    have hz := ih (j + 1) (some (ad_iv (l.getD j.toNat 0 : Int))) (some (ad_iv ((10 * l.getD j.toNat 0 + l.getD i 0 : Nat) : Int))) _ (e0.trans hfr) (by omega) (by omega) hcache hdr (by omega)
                    rw [show (j + 1).toNat = j.toNat + 1 by omega, hpk, if_pos ⟨by omega, h80, by omega⟩] at hz
                    exact hz
  refine ad_aload_n dX3_choose_0 rfl ?_
  refine gf_X3_31 rfl p2 dX3_choose_1 ?_
  refine ad_iload_n dX3_choose_4 rfl ?_
  refine ad_cv1f rfl cl_X3_69 dX3_choose_5 (c_X4_holds hs hr0 hw0 (by omega)) (by omega) (by show _ < 3; omega) (Nat.le_of_ble_eq_true rfl) ?_
  refine ad_ifp_ne 12 dX3_choose_8 (by decide) (fun h8 => ?_) (fun h8 => ?_)
  · skip
    refine ad_iconst dX3_choose_12 ?_
    refine ad_istore_n dX3_choose_13 (by decide) rfl (by dsimp only [ad_set]) ?_
    refine ad_ldc (n := 2147483647) dX3_choose_14 kc_X3_81 ?_
    refine ad_istore dX3_choose_16 (by decide) rfl (by dsimp only [ad_set]) ?_
    refine ad_iconst dX3_choose_18 ?_
    refine ad_istore dX3_choose_19 (by decide) rfl (by dsimp only [ad_set]) ?_
    exact lp i 0 _ _ σ ad_fr.refl (by omega) (by omega) p9 p10 (by omega)
  · exact absurd ⟨by omega, by rw [Int.toNat_natCast]; exact hmi.2⟩ h8
