/-! ===== rows of numbers: what their changes make of the lists; spelling ===== -/
def ad_Tn (b : Nat) (k i : Nat) : Prop := (k = 2 ∨ k = 12) ∧ i = b
theorem ad_fr_n {b : Nat} {σ σ1 : ad_Mem} (h : ad_fr (ad_Tn b) σ σ1) (k i : Nat) (hk : ¬ (k = 2 ∨ k = 12) ∨ i ≠ b) : σ1 k i = σ k i := h k i (fun q => hk.elim (fun z => z q.1) (fun z => z q.2))
theorem ad_nl_ext {σ : ad_Mem} {j : Nat} {l : List Int} (hn : σ 2 j 1 = l.length) (h : ∀ k, k < l.length → l[k]? = some (σ 12 j k)) : ad_nl σ j = l := by
  apply List.ext_getElem?
  intro k
  by_cases hk : k < l.length
  · rw [ad_nl_at σ j k (by omega), h k hk]
  · rw [List.getElem?_eq_none (by rw [ad_nl_len]; omega), List.getElem?_eq_none (by omega)]
theorem ad_add_nl {σ s : ad_Mem} {b : Nat} {x : Int} (hw : ad_nw σ b) (hr : σ 2 b 1 < (ad_len 12 b : Int)) (hx : 0 ≤ x ∧ x ≤ 255) (hs : s = ad_st (ad_st σ 12 b (σ 2 b 1).toNat x) 2 b 1 (σ 2 b 1 + 1)) : ad_nl s b = ad_nl σ b ++ [x] ∧ ad_nw s b ∧ ad_fr (ad_Tn b) σ s ∧ s 2 b 1 = σ 2 b 1 + 1 := by
  obtain ⟨h0, h1, h2⟩ := hw
  have e2 : s 2 b 1 = σ 2 b 1 + 1 := by rw [hs]; simp [ad_st]
  have e12 : ∀ k, s 12 b k = if k = (σ 2 b 1).toNat then x else σ 12 b k := by intro k; rw [hs]; simp [ad_st]
  refine ⟨?_, ⟨by omega, by omega, fun k => ?_⟩, by rw [hs]; exact (ad_fr.st ⟨Or.inr rfl, rfl⟩).trans (ad_fr.st ⟨Or.inl rfl, rfl⟩), e2⟩
  · apply ad_nl_ext
    · rw [List.length_append, ad_nl_len, e2, List.length_singleton]; omega
    · intro k hk
      rw [List.length_append, ad_nl_len, List.length_singleton] at hk
      rw [e12]
      by_cases hkk : k = (σ 2 b 1).toNat
      · rw [if_pos hkk, List.getElem?_append_right (by rw [ad_nl_len]; omega), ad_nl_len, hkk]; simp
      · rw [if_neg hkk, List.getElem?_append_left (by rw [ad_nl_len]; omega), ad_nl_at σ b k (by omega)]
  · rw [e12]
    split
    · exact hx
    · exact h2 k
theorem ad_emp_nl {σ s : ad_Mem} {b : Nat} (hw : ad_nw σ b) (hs : s = ad_st σ 2 b 1 0) : ad_nl s b = [] ∧ ad_nw s b ∧ ad_fr (ad_Tn b) σ s ∧ s 2 b 1 = 0 := by
  have e2 : s 2 b 1 = 0 := by rw [hs]; simp [ad_st]
  have e12 : ∀ k, s 12 b k = σ 12 b k := by intro k; rw [hs]; simp [ad_st]
  refine ⟨by unfold ad_nl; rw [e2]; rfl, ⟨by omega, by have := ad_len12 b; omega, fun k => by rw [e12]; exact hw.2.2 k⟩, by rw [hs]; exact ad_fr.st ⟨Or.inl rfl, rfl⟩, e2⟩
theorem ad_put_nl {σ s : ad_Mem} {b : Nat} {i x : Int} (hw : ad_nw σ b) (hi : 0 ≤ i ∧ i < σ 2 b 1) (hx : 0 ≤ x ∧ x ≤ 255) (hs : s = ad_st σ 12 b i.toNat x) : ad_nl s b = (ad_nl σ b).set i.toNat x ∧ ad_nw s b ∧ ad_fr (ad_Tn b) σ s ∧ s 2 b 1 = σ 2 b 1 := by
  obtain ⟨h0, h1, h2⟩ := hw
  have e2 : s 2 b 1 = σ 2 b 1 := by rw [hs]; simp [ad_st]
  have e12 : ∀ k, s 12 b k = if k = i.toNat then x else σ 12 b k := by intro k; rw [hs]; simp [ad_st]
  refine ⟨?_, ⟨by omega, by omega, fun k => ?_⟩, by rw [hs]; exact ad_fr.st ⟨Or.inr rfl, rfl⟩, e2⟩
  · apply ad_nl_ext
    · rw [List.length_set, ad_nl_len, e2]; omega
    · intro k hk
      rw [List.length_set, ad_nl_len] at hk
      rw [e12]
      by_cases hkk : k = i.toNat
      · rw [if_pos hkk, hkk, List.getElem?_set_self (by rw [ad_nl_len]; omega)]
      · rw [if_neg hkk, List.getElem?_set_ne (by omega), ad_nl_at σ b k (by omega)]
  · rw [e12]
    split
    · exact hx
    · exact h2 k
theorem ad_cpy_nl {σ s : ad_Mem} {j j2 : Nat} (hw : ad_nw σ j) (hw2 : ad_nw σ j2) (hle : σ 2 j2 1 ≤ (ad_len 12 j : Int)) (hs : s = ad_sr (ad_st σ 2 j 1 (σ 2 j2 1)) 12 j (fun c => if c < (σ 2 j2 1).toNat then σ 12 j2 c else σ 12 j c)) : ad_nl s j = ad_nl σ j2 ∧ ad_nw s j ∧ ad_fr (ad_Tn j) σ s ∧ s 2 j 1 = σ 2 j2 1 := by
  have e2 : s 2 j 1 = σ 2 j2 1 := by rw [hs]; simp [ad_st, ad_sr]
  have e12 : ∀ k, s 12 j k = if k < (σ 2 j2 1).toNat then σ 12 j2 k else σ 12 j k := by intro k; rw [hs]; simp [ad_st, ad_sr]
  refine ⟨?_, ⟨by rw [e2]; exact hw2.1, by omega, fun k => ?_⟩, by rw [hs]; exact (ad_fr.st ⟨Or.inl rfl, rfl⟩).trans (ad_fr.sr ⟨Or.inr rfl, rfl⟩), e2⟩
  · unfold ad_nl
    rw [e2]
    apply List.map_congr_left
    intro k hk
    rw [e12, if_pos (List.mem_range.mp hk)]
  · rw [e12]
    split
    · exact hw2.2.2 k
    · exact hw.2.2 k
def ad_dsn (σ : ad_Mem) (j n : Nat) : List (Int × Int) := (List.range n).map (fun k => (σ 10 j k, σ 11 j k))
theorem ad_dsn_s (σ : ad_Mem) (j n : Nat) : ad_dsn σ j (n + 1) = ad_dsn σ j n ++ [(σ 10 j n, σ 11 j n)] := by unfold ad_dsn; rw [List.range_succ, List.map_append]; rfl
theorem ad_dsn_pre (σ : ad_Mem) (j : Nat) (s : List Int) (i : Nat) : ∀ k, (ad_spell s (ad_dsn σ j i)).length ≤ (ad_spell s (ad_dsn σ j (i + k))).length
  | 0 => Nat.le_refl _
  | k + 1 => by
    have := ad_dsn_pre σ j s i k
    show _ ≤ (ad_spell s (ad_dsn σ j (i + k + 1))).length
    rw [ad_dsn_s, ad_spell_app, List.length_append]
    omega
/-- the steps are good for letters s -/
def ad_good (s : List Int) (l : List (Int × Int)) : Prop := ∀ q ∈ l, q.1 = 0 ∨ (0 < q.1 ∧ 0 ≤ q.2 ∧ q.2 + q.1 ≤ s.length)
theorem c_X0_spell {g : ad_G} {d : Nat} {σ : ad_Mem} {j a b : Nat} (h1d : 1 ≤ d) (hj : j < 32) (ha : a < 36) (hb : b < 36) (hne : a ≠ b) (hwa : ad_nw σ a) (hwb : ad_nw σ b) (hdw : ad_dw σ j) (hg : ad_good (ad_nl σ a) (ad_ds σ j)) (hlen : (ad_spell (ad_nl σ a) (ad_ds σ j)).length ≤ 12) : ad_V g mX0_spell d [ad_rf g 0 j, ad_rf g 2 a, ad_rf g 2 b] σ (fun s => ad_fr (ad_Tn b) σ s ∧ ad_nl s b = ad_spell (ad_nl σ a) (ad_ds σ j) ∧ ad_nw s b) := by
  have hwa0 := hwa
  obtain ⟨hwa1, hwa2, hwa3⟩ := hwa
  obtain ⟨hd0, hd1, hd2, hd3⟩ := hdw
  have hlna := ad_len12 a
  have hlnb := ad_len12 b
  have lenS : (ad_nl σ a).length = (σ 2 a 1).toNat := ad_nl_len σ a
  have hdsn : ad_ds σ j = ad_dsn σ j (σ 0 j 2).toNat := rfl
  refine ad_M1 (k := 2) rfl (by simp [Value.category]) rfl (Nat.le_of_ble_eq_true rfl) ?_
  simp only [List.map_cons, List.map_nil, List.replicate, List.cons_append, List.nil_append]
  have loop : ∀ (n : Nat) (i : Int) (v4 : Option Value) (σ1 : ad_Mem), ad_fr (ad_Tn b) σ σ1 → 0 ≤ i → i ≤ σ 0 j 2 → ad_nl σ1 b = ad_spell (ad_nl σ a) (ad_dsn σ j i.toNat) → ad_nw σ1 b → (σ 0 j 2 - i).toNat ≤ n →
      ad_R g mX0_spell d (ad_ZV mX0_spell (fun s => ad_fr (ad_Tn b) σ s ∧ ad_nl s b = ad_spell (ad_nl σ a) (ad_ds σ j) ∧ ad_nw s b)) 6 [some (ad_rf g 0 j), some (ad_rf g 2 a), some (ad_rf g 2 b), some (ad_iv i), v4] [] σ1 := by
    intro n
    induction n with
    | zero =>
      intro i v4 σ1 e0 hi0 hi1 e1 e2 hn
      have fa2 := ad_fr_n e0 2 a (Or.inr hne)
      have fa12 := ad_fr_n e0 12 a (Or.inr hne)
      have fj0 := ad_fr_n e0 0 j (Or.inl (by decide))
      have fj10 := ad_fr_n e0 10 j (Or.inl (by decide))
      have fj11 := ad_fr_n e0 11 j (Or.inl (by decide))
      have lb : σ1 2 b 1 = ((ad_nl σ1 b).length : Int) := by rw [ad_nl_len]; have := e2.1; omega
      have hie : i.toNat = (σ 0 j 2).toNat := by omega
      refine ad_iload_n dX0_spell_6 rfl ?_
      refine ad_aload_n dX0_spell_7 rfl ?_
      refine gf_X0_18 rfl (by omega) dX0_spell_8 ?_
      rw [congrFun fj0 2]
      refine ad_icmp_ge 94 dX0_spell_11 (by decide) (by omega) (by omega) (fun h11 => ?_) (fun h11 => ?_)
      · skip
        exact ad_retv dX0_spell_94 rfl (by rw [hdsn, ← hie]; exact ⟨e0, e1, e2⟩)
      · show ad_R _ _ _ _ 14 _ _ _
        exfalso; omega
    | succ n ih =>
      intro i v4 σ1 e0 hi0 hi1 e1 e2 hn
      have fa2 := ad_fr_n e0 2 a (Or.inr hne)
      have fa12 := ad_fr_n e0 12 a (Or.inr hne)
      have fj0 := ad_fr_n e0 0 j (Or.inl (by decide))
      have fj10 := ad_fr_n e0 10 j (Or.inl (by decide))
      have fj11 := ad_fr_n e0 11 j (Or.inl (by decide))
      have lb : σ1 2 b 1 = ((ad_nl σ1 b).length : Int) := by rw [ad_nl_len]; have := e2.1; omega
      have h3 := hd3 i.toNat
      have inner : ∀ (m : Nat) (c : Int) (σ2 : ad_Mem), ad_fr (ad_Tn b) σ σ2 → 0 ≤ c → c ≤ σ 10 j i.toNat → 0 < σ 10 j i.toNat → i < σ 0 j 2 → ad_nl σ2 b = ad_spell (ad_nl σ a) (ad_dsn σ j i.toNat) ++ (List.range c.toNat).map (fun k => (ad_nl σ a).getD ((σ 11 j i.toNat).toNat + k) (-1)) → ad_nw σ2 b → (σ 10 j i.toNat - c).toNat ≤ m →
          ad_R g mX0_spell d (ad_ZV mX0_spell (fun s => ad_fr (ad_Tn b) σ s ∧ ad_nl s b = ad_spell (ad_nl σ a) (ad_ds σ j) ∧ ad_nw s b)) 54 [some (ad_rf g 0 j), some (ad_rf g 2 a), some (ad_rf g 2 b), some (ad_iv i), some (ad_iv c)] [] σ2 := by
        intro m
        induction m with
        | zero =>
          intro c σ2 e0 hc0 hc1 hpos hisz e1 e2 hm
          have fj10 := ad_fr_n e0 10 j (Or.inl (by decide))
          refine ad_iload dX0_spell_54 rfl ?_
          refine ad_aload_n dX0_spell_56 rfl ?_
          refine gf_X0_9 rfl (by omega) dX0_spell_57 ?_
          refine ad_iload_n dX0_spell_60 rfl ?_
          refine ad_iald dX0_spell_61 (by show _ < 32; omega) ⟨by decide, by decide⟩ (by omega) (by show _ < ((12 : Nat) : Int); omega) ?_
          rw [congrFun fj10 i.toNat]
          refine ad_icmp_ge 88 dX0_spell_62 (by decide) (by omega) (by omega) (fun h62 => ?_) (fun h62 => ?_)
          · skip
            refine ad_iinc dX0_spell_88 rfl (by decide) rfl (by dsimp only [ad_set]) ?_
            refine ad_goto 6 dX0_spell_91 (by decide) ?_
            refine ih (i + 1) _ _ e0 (by omega) (by omega) ?_ e2 (by omega)
            have hce : c.toNat = (σ 10 j i.toNat).toNat := by omega
            rw [e1, show (i + 1).toNat = i.toNat + 1 by omega, ad_dsn_s, ad_spell_app, hce]
            simp only [ad_spell]
            rw [if_neg (by omega), List.append_nil]
          · show ad_R _ _ _ _ 65 _ _ _
            exfalso; omega
        | succ m ihm =>
          intro c σ2 e0 hc0 hc1 hpos hisz e1 e2 hm
          have hig := hg (σ 10 j i.toNat, σ 11 j i.toNat) (List.mem_of_getElem? (ad_ds_at σ j i.toNat (by omega)))
          have hpre := ad_dsn_pre σ j (ad_nl σ a) (i.toNat + 1) ((σ 0 j 2).toNat - (i.toNat + 1))
          rw [show i.toNat + 1 + ((σ 0 j 2).toNat - (i.toNat + 1)) = (σ 0 j 2).toNat by omega, ← hdsn, ad_dsn_s, ad_spell_app, List.length_append] at hpre
          simp only [ad_spell] at hpre
          rw [if_neg (by omega), List.append_nil, List.length_map, List.length_range] at hpre
          have fa2 := ad_fr_n e0 2 a (Or.inr hne)
          have fa12 := ad_fr_n e0 12 a (Or.inr hne)
          have fj10 := ad_fr_n e0 10 j (Or.inl (by decide))
          have fj11 := ad_fr_n e0 11 j (Or.inl (by decide))
          have lb : σ2 2 b 1 = ((ad_nl σ2 b).length : Int) := by rw [ad_nl_len]; have := e2.1; omega
          rw [e1, List.length_append, List.length_map, List.length_range] at lb
          simp only at hig
          refine ad_iload dX0_spell_54 rfl ?_
          refine ad_aload_n dX0_spell_56 rfl ?_
          refine gf_X0_9 rfl (by omega) dX0_spell_57 ?_
          refine ad_iload_n dX0_spell_60 rfl ?_
          refine ad_iald dX0_spell_61 (by show _ < 32; omega) ⟨by decide, by decide⟩ (by omega) (by show _ < ((12 : Nat) : Int); omega) ?_
          rw [congrFun fj10 i.toNat]
          refine ad_icmp_ge 88 dX0_spell_62 (by decide) (by omega) (by omega) (fun h62 => ?_) (fun h62 => ?_)
          · skip
            refine ad_iinc dX0_spell_88 rfl (by decide) rfl (by dsimp only [ad_set]) ?_
            refine ad_goto 6 dX0_spell_91 (by decide) ?_
            refine ih (i + 1) _ _ e0 (by omega) (by omega) ?_ e2 (by omega)
            have hce : c.toNat = (σ 10 j i.toNat).toNat := by omega
            rw [e1, show (i + 1).toNat = i.toNat + 1 by omega, ad_dsn_s, ad_spell_app, hce]
            simp only [ad_spell]
            rw [if_neg (by omega), List.append_nil]
          · show ad_R _ _ _ _ 65 _ _ _
            refine ad_aload_n dX0_spell_65 rfl ?_
            refine ad_aload_n dX0_spell_66 rfl ?_
            refine ad_aload_n dX0_spell_67 rfl ?_
            refine gf_X0_15 rfl (by omega) dX0_spell_68 ?_
            refine ad_iload_n dX0_spell_71 rfl ?_
            refine ad_iald dX0_spell_72 (by show _ < 32; omega) ⟨by decide, by decide⟩ (by omega) (by show _ < ((12 : Nat) : Int); omega) ?_
            rw [congrFun fj11 i.toNat]
            refine ad_iload dX0_spell_73 rfl ?_
            refine ad_iadd dX0_spell_75 ?_
            refine ad_cv1f rfl cl_X0_46 dX0_spell_76 (c_X2_at ha (ad_nw_congr fa2 fa12 hwa0) (by omega)) (by omega) (by show _ < 36; omega) (Nat.le_of_ble_eq_true rfl) ?_
            rw [congrFun fa2 1, if_pos (by omega), congrFun fa12 _]
            have hx := hwa3 (σ 11 j i.toNat + c).toNat
            refine ad_cv1v rfl cl_X0_53 dX0_spell_79 (c_X2_add hb e2 (by omega)) (by omega) (by show _ < 36; omega) (Nat.le_of_ble_eq_true rfl) (fun s79 q79 => ?_)
            obtain ⟨q1, q2, q3, q4⟩ := ad_add_nl e2 (by omega) hx q79
            refine ad_iinc dX0_spell_82 rfl (by decide) rfl (by dsimp only [ad_set]) ?_
            refine ad_goto 54 dX0_spell_85 (by decide) ?_
            refine ihm (c + 1) _ (e0.trans q3) (by omega) (by omega) hpos hisz ?_ q2 (by omega)
            rw [q1, e1, show (c + 1).toNat = c.toNat + 1 by omega, List.range_succ, List.map_append, List.append_assoc]
            congr 2
            simp only [List.map_cons, List.map_nil]
            congr 1
            have hz := ad_nl_at σ a (σ 11 j i.toNat + c).toNat (by omega)
            rw [List.getD_eq_getElem?_getD, show (σ 11 j i.toNat).toNat + c.toNat = (σ 11 j i.toNat + c).toNat by omega, hz]
            rfl
      refine ad_iload_n dX0_spell_6 rfl ?_
      refine ad_aload_n dX0_spell_7 rfl ?_
      refine gf_X0_18 rfl (by omega) dX0_spell_8 ?_
      rw [congrFun fj0 2]
      refine ad_icmp_ge 94 dX0_spell_11 (by decide) (by omega) (by omega) (fun h11 => ?_) (fun h11 => ?_)
      · skip
        exact ad_retv dX0_spell_94 rfl (by
          have hie : i.toNat = (σ 0 j 2).toNat := by omega
          rw [hdsn, ← hie]; exact ⟨e0, e1, e2⟩)
      · show ad_R _ _ _ _ 14 _ _ _
        refine ad_iload_n dX0_spell_14 rfl ?_
        refine ad_aload_n dX0_spell_15 rfl ?_
        refine gf_X0_9 rfl (by omega) dX0_spell_16 ?_
        refine ad_alen (n := 12) dX0_spell_19 (by show _ < 32; omega) ⟨by decide, by decide⟩ rfl ?_
        refine ad_icmp_ge 94 dX0_spell_20 (by decide) (by omega) (by omega) (fun h20 => ?_) (fun h20 => ?_)
        · skip
          exact ad_retv dX0_spell_94 rfl (by
            have hie : i.toNat = (σ 0 j 2).toNat := by omega
            rw [hdsn, ← hie]; exact ⟨e0, e1, e2⟩)
        · show ad_R _ _ _ _ 23 _ _ _
          refine ad_iload_n dX0_spell_23 rfl ?_
          refine ad_aload_n dX0_spell_24 rfl ?_
          refine gf_X0_15 rfl (by omega) dX0_spell_25 ?_
          refine ad_alen (n := 12) dX0_spell_28 (by show _ < 32; omega) ⟨by decide, by decide⟩ rfl ?_
          refine ad_icmp_ge 94 dX0_spell_29 (by decide) (by omega) (by omega) (fun h29 => ?_) (fun h29 => ?_)
          · skip
            exact ad_retv dX0_spell_94 rfl (by
              have hie : i.toNat = (σ 0 j 2).toNat := by omega
              rw [hdsn, ← hie]; exact ⟨e0, e1, e2⟩)
          · show ad_R _ _ _ _ 32 _ _ _
            refine ad_aload_n dX0_spell_32 rfl ?_
            refine gf_X0_9 rfl (by omega) dX0_spell_33 ?_
            refine ad_iload_n dX0_spell_36 rfl ?_
            refine ad_iald dX0_spell_37 (by show _ < 32; omega) ⟨by decide, by decide⟩ (by omega) (by show _ < ((12 : Nat) : Int); omega) ?_
            have hig := hg (σ 10 j i.toNat, σ 11 j i.toNat) (List.mem_of_getElem? (ad_ds_at σ j i.toNat (by omega)))
            have hpre := ad_dsn_pre σ j (ad_nl σ a) (i.toNat + 1) ((σ 0 j 2).toNat - (i.toNat + 1))
            rw [show i.toNat + 1 + ((σ 0 j 2).toNat - (i.toNat + 1)) = (σ 0 j 2).toNat by omega, ← hdsn, ad_dsn_s, ad_spell_app, List.length_append] at hpre
            rw [congrFun fj10 i.toNat]
            refine ad_if_ne 51 dX0_spell_38 (by decide) (by omega) (fun h38 => ?_) (fun h38 => ?_)
            · skip
              refine ad_iconst dX0_spell_51 ?_
              refine ad_istore dX0_spell_52 (by decide) rfl (by dsimp only [ad_set]) ?_
              exact inner _ 0 σ1 e0 (by omega) (by omega) (by omega) (by omega) (by rw [e1]; simp) e2 (Nat.le_refl _)
            · show ad_R _ _ _ _ 41 _ _ _
              refine ad_aload_n dX0_spell_41 rfl ?_
              refine ad_aload_n dX0_spell_42 rfl ?_
              refine gf_X0_15 rfl (by omega) dX0_spell_43 ?_
              refine ad_iload_n dX0_spell_46 rfl ?_
              refine ad_iald dX0_spell_47 (by show _ < 32; omega) ⟨by decide, by decide⟩ (by omega) (by show _ < ((12 : Nat) : Int); omega) ?_
              rw [congrFun fj11 i.toNat]
              have hz : (σ 10 j i.toNat) = 0 := by omega
              have hroom : σ1 2 b 1 < (ad_len 12 b : Int) := by
                rw [lb, e1]
                simp only [ad_spell, hz, if_true, List.length_append, List.length_singleton, List.length_nil] at hpre
                omega
              refine ad_cv1v rfl cl_X0_53 dX0_spell_48 (c_X2_add hb e2 hroom) (by omega) (by show _ < 36; omega) (Nat.le_of_ble_eq_true rfl) (fun s48 q48 => ?_)
              obtain ⟨q1, q2, q3, q4⟩ := ad_add_nl e2 hroom h3.2 q48
              refine ad_iconst dX0_spell_51 ?_
              refine ad_istore dX0_spell_52 (by decide) rfl (by dsimp only [ad_set]) ?_
              have gj10 := ad_fr_n (e0.trans q3) 10 j (Or.inl (by decide))
              refine ad_iload dX0_spell_54 rfl ?_
              refine ad_aload_n dX0_spell_56 rfl ?_
              refine gf_X0_9 rfl hj dX0_spell_57 ?_
              refine ad_iload_n dX0_spell_60 rfl ?_
              refine ad_iald dX0_spell_61 (by show _ < 32; omega) ⟨by decide, by decide⟩ (by omega) (by show _ < ((12 : Nat) : Int); omega) ?_
              rw [congrFun gj10 i.toNat]
              refine ad_icmp_ge 88 dX0_spell_62 (by decide) (by omega) (by omega) (fun _ => ?_) (fun h => ?_)
              · refine ad_iinc dX0_spell_88 rfl (by decide) rfl (by dsimp only [ad_set]) ?_
                refine ad_goto 6 dX0_spell_91 (by decide) ?_
                refine ih (i + 1) _ _ (e0.trans q3) (by omega) (by omega) ?_ q2 (by omega)
                have hz : (σ 10 j i.toNat) = 0 := by omega
                rw [q1, e1, show (i + 1).toNat = i.toNat + 1 by omega, ad_dsn_s, ad_spell_app]
                simp only [ad_spell]
                rw [if_pos hz]
                simp
              · exfalso; omega
  refine ad_aload_n dX0_spell_0 rfl ?_
  refine ad_cv0v rfl cl_X0_50 dX0_spell_1 (c_X2_empty hb) (by omega) (by show _ < 36; omega) (Nat.le_of_ble_eq_true rfl) (fun s1 q1 => ?_)
  obtain ⟨z1, z2, z3, z4⟩ := ad_emp_nl hwb q1
  refine ad_iconst dX0_spell_4 ?_
  refine ad_istore_n dX0_spell_5 (by decide) rfl (by dsimp only [ad_set]) ?_
  exact loop (σ 0 j 2).toNat 0 _ _ z3 (by omega) (by omega) (by rw [z1]; rfl) z2 (by omega)
