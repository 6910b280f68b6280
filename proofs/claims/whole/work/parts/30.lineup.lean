/-! ===== lining up ===== -/
theorem ad_ins_get (A : ad_Ar) (k : Int) (v : Nat) (l : List Nat) (j : Nat) (hj : j < l.length + 1) : (ad_ins A k v l).getD j 0 = if j < ad_ipos A k v l l.length then l.getD j 0 else if j = ad_ipos A k v l l.length then v else l.getD (j - 1) 0 := by
  have hi := ad_ipos_le A k v l l.length
  unfold ad_ins
  have ht : (l.take (ad_ipos A k v l l.length)).length = ad_ipos A k v l l.length := by rw [List.length_take]; omega
  by_cases h1 : j < ad_ipos A k v l l.length
  · rw [if_pos h1, List.getD_eq_getElem?_getD, List.getD_eq_getElem?_getD, List.getElem?_append_left (by omega), List.getElem?_take, if_pos h1]
  · rw [if_neg h1, List.getD_eq_getElem?_getD, List.getElem?_append_right (by omega), ht]
    by_cases h2 : j = ad_ipos A k v l l.length
    · rw [if_pos h2, h2]; simp
    · rw [if_neg h2]
      obtain ⟨q, hq⟩ : ∃ q, j - ad_ipos A k v l l.length = q + 1 := ⟨j - ad_ipos A k v l l.length - 1, by omega⟩
      rw [hq, List.getElem?_cons_succ, List.getElem?_drop, List.getD_eq_getElem?_getD]
      congr 2; omega
/-- the rows of the plan but its delta -/
def ad_frK (K : Nat → Bool) (σ σ1 : ad_Mem) : Prop := ∀ k, K k = false → σ1 k = σ k
theorem ad_rC_K {K : Nat → Bool} {σ σ1 : ad_Mem} {s : Nat} {A : ad_Ar} (hr : ad_rC σ s A) (hw : ad_wA A) (h : ad_frK K σ σ1) (h0 : K 0 = false) (h2 : K 2 = false) (h4 : K 4 = false) (h6 : K 6 = false) (h10 : K 10 = false) (h11 : K 11 = false) (h12 : K 12 = false) (h19 : K 19 = false) : ad_rC σ1 s A := by
  refine ad_rC_congr hw (fun k i hk => ?_) hr
  have : K k = false := by
    rcases hk with ⟨rfl, -⟩ | ⟨rfl, -⟩ | ⟨rfl | rfl, -⟩ | ⟨rfl | rfl | rfl | rfl | rfl | rfl, -⟩ <;> assumption
  rw [h k this]
def ad_KL (k : Nat) : Bool := k == 13 || k == 3
theorem c_X3_lineUp {g : ad_G} {d : Nat} {σ : ad_Mem} {s : Nat} {A : ad_Ar} (hs : s < 3) (hr : ad_rC σ s A) (hw : ad_wA A) (hst : σ 3 0 5 = (s : Int) + 1) {k : Int} (h3d : 3 ≤ d) (hk : σ 3 0 7 = k) (hk2 : 0 ≤ k ∧ k ≤ 5) (hp : σ 3 0 6 = 0) : ad_V g mX3_lineUp d [ad_rf g 3 0] σ (fun m => ad_frK ad_KL σ m ∧ (∀ q, q ≠ 6 → m 3 0 q = σ 3 0 q) ∧ m 3 0 6 = (ad_ord A k 10).length ∧ ∀ j, j < (ad_ord A k 10).length → m 13 0 j = ((ad_ord A k 10).getD j 0 : Int)) := by
  have hr0 := hr
  have hw0 := hw
  obtain ⟨r1, r2, r3, r4, r5, r6, r7, r8⟩ := hr
  obtain ⟨w1, w2, w3, w4, w5, w6, w7, w8, w9⟩ := hw
  refine ad_M1 (k := 2) rfl (by simp [Value.category]) rfl (Nat.le_of_ble_eq_true rfl) ?_
  simp only [List.map_cons, List.map_nil, List.replicate, List.cons_append, List.nil_append]
  have lp : ∀ (n : Nat) (v : Int) (v2 : Option Value) (σ1 : ad_Mem), (ad_frK ad_KL σ σ1) → (∀ q, q ≠ 6 → σ1 3 0 q = σ 3 0 q) → (0 ≤ v) → (v ≤ ad_aC A) → (σ1 3 0 6 = (ad_ord A k v.toNat).length) → (∀ j, j < (ad_ord A k v.toNat).length → σ1 13 0 j = ((ad_ord A k v.toNat).getD j 0 : Int)) → (ad_aC A - v).toNat ≤ n → ad_R g mX3_lineUp d (ad_ZV mX3_lineUp (fun m => ad_frK ad_KL σ m ∧ (∀ q, q ≠ 6 → m 3 0 q = σ 3 0 q) ∧ m 3 0 6 = (ad_ord A k 10).length ∧ ∀ j, j < (ad_ord A k 10).length → m 13 0 j = ((ad_ord A k 10).getD j 0 : Int))) 2 [some (ad_rf g 3 0), some (ad_iv v), v2] [] σ1 := by
    intro n
    induction n with
    | zero =>
      intro v v2 σ1 e0 e1 hv0 hv1 e2 e3 hn
      have hpl : (ad_ord A k v.toNat).length ≤ v.toNat := by rw [ad_ord_len]; exact ad_pp_le _ _
      have hrs := ad_rC_K hr0 hw0 e0 rfl rfl rfl rfl rfl rfl rfl rfl
      have hst1 : σ1 3 0 5 = (s : Int) + 1 := by rw [e1 5 (by decide)]; exact hst
      have hk1 : σ1 3 0 7 = k := by rw [e1 7 (by decide)]; exact hk
      have hc1 := hrs.1
      refine ad_iload_n dX3_lineUp_2 rfl ?_
      refine ad_aload_n dX3_lineUp_3 rfl ?_
      refine gf_X3_31 rfl hst1 dX3_lineUp_4 ?_
      refine gf_X3_64 rfl (by omega) dX3_lineUp_7 ?_
      refine ad_icmp_ge 101 dX3_lineUp_10 (by decide) (by omega) (by omega) (fun h10 => ?_) (fun h10 => ?_)
      · skip
        exact ad_retv dX3_lineUp_101 rfl (by
          have hvc : v.toNat = ad_aC A := by omega
          have hend : ad_ord A k 10 = ad_ord A k v.toNat := by
            rw [hvc]
            have key : ∀ q, ad_ord A k (ad_aC A + q) = ad_ord A k (ad_aC A) := by
              intro q
              induction q with
              | zero => rfl
              | succ q ih =>
                show ad_ord A k (ad_aC A + q + 1) = _
                rw [ad_ord, if_neg (fun z => by have := w2 _ z; omega)]; exact ih
            have := key (10 - ad_aC A)
            rw [show ad_aC A + (10 - ad_aC A) = 10 by omega] at this
            exact this
          rw [hend]
          exact ⟨e0, e1, e2, e3⟩)
      · show ad_R _ _ _ _ 13 _ _ _
        exfalso; omega
    | succ n ihn =>
      intro v v2 σ1 e0 e1 hv0 hv1 e2 e3 hn
      have hpl : (ad_ord A k v.toNat).length ≤ v.toNat := by rw [ad_ord_len]; exact ad_pp_le _ _
      have hrs := ad_rC_K hr0 hw0 e0 rfl rfl rfl rfl rfl rfl rfl rfl
      have hst1 : σ1 3 0 5 = (s : Int) + 1 := by rw [e1 5 (by decide)]; exact hst
      have hk1 : σ1 3 0 7 = k := by rw [e1 7 (by decide)]; exact hk
      have hc1 := hrs.1
      have next : ∀ (v' : Int) (v2 : Option Value) (σ1 : ad_Mem), (ad_frK ad_KL σ σ1) → (∀ q, q ≠ 6 → σ1 3 0 q = σ 3 0 q) → 0 ≤ v' → v' = v + 1 ∧ v' ≤ ad_aC A → (σ1 3 0 6 = (ad_ord A k v'.toNat).length) → (∀ j, j < (ad_ord A k v'.toNat).length → σ1 13 0 j = ((ad_ord A k v'.toNat).getD j 0 : Int)) → ad_R g mX3_lineUp d (ad_ZV mX3_lineUp (fun m => ad_frK ad_KL σ m ∧ (∀ q, q ≠ 6 → m 3 0 q = σ 3 0 q) ∧ m 3 0 6 = (ad_ord A k 10).length ∧ ∀ j, j < (ad_ord A k 10).length → m 13 0 j = ((ad_ord A k 10).getD j 0 : Int))) 2 [some (ad_rf g 3 0), some (ad_iv v'), v2] [] σ1 :=
        fun v' v2 σ1 a b c d2 e f => ihn v' v2 σ1 a b c d2.2 e f (by omega)
      refine ad_iload_n dX3_lineUp_2 rfl ?_
      refine ad_aload_n dX3_lineUp_3 rfl ?_
      refine gf_X3_31 rfl hst1 dX3_lineUp_4 ?_
      refine gf_X3_64 rfl (by omega) dX3_lineUp_7 ?_
      refine ad_icmp_ge 101 dX3_lineUp_10 (by decide) (by omega) (by omega) (fun h10 => ?_) (fun h10 => ?_)
      · skip
        exact ad_retv dX3_lineUp_101 rfl (by
          have hvc : v.toNat = ad_aC A := by omega
          have hend : ad_ord A k 10 = ad_ord A k v.toNat := by
            rw [hvc]
            have key : ∀ q, ad_ord A k (ad_aC A + q) = ad_ord A k (ad_aC A) := by
              intro q
              induction q with
              | zero => rfl
              | succ q ih =>
                show ad_ord A k (ad_aC A + q + 1) = _
                rw [ad_ord, if_neg (fun z => by have := w2 _ z; omega)]; exact ih
            have := key (10 - ad_aC A)
            rw [show ad_aC A + (10 - ad_aC A) = 10 by omega] at this
            exact this
          rw [hend]
          exact ⟨e0, e1, e2, e3⟩)
      · show ad_R _ _ _ _ 13 _ _ _
        refine ad_aload_n dX3_lineUp_13 rfl ?_
        refine gf_X3_45 rfl dX3_lineUp_14 ?_
        refine ad_bipush dX3_lineUp_17 rfl ?_
        refine ad_icmp_ge 101 dX3_lineUp_19 (by decide) (by omega) (by omega) (fun h19 => ?_) (fun h19 => ?_)
        · skip
          exact ad_retv dX3_lineUp_101 rfl (by
            have hvc : v.toNat = ad_aC A := by omega
            have hend : ad_ord A k 10 = ad_ord A k v.toNat := by
              rw [hvc]
              have key : ∀ q, ad_ord A k (ad_aC A + q) = ad_ord A k (ad_aC A) := by
                intro q
                induction q with
                | zero => rfl
                | succ q ih =>
                  show ad_ord A k (ad_aC A + q + 1) = _
                  rw [ad_ord, if_neg (fun z => by have := w2 _ z; omega)]; exact ih
              have := key (10 - ad_aC A)
              rw [show ad_aC A + (10 - ad_aC A) = 10 by omega] at this
              exact this
            rw [hend]
            exact ⟨e0, e1, e2, e3⟩)
        · show ad_R _ _ _ _ 22 _ _ _
          refine ad_aload_n dX3_lineUp_22 rfl ?_
          refine gf_X3_31 rfl hst1 dX3_lineUp_23 ?_
          refine ad_iload_n dX3_lineUp_26 rfl ?_
          refine ad_cv1f rfl cl_X3_69 dX3_lineUp_27 (c_X4_holds hs hrs hw0 (by omega)) (by omega) (by show _ < 3; omega) (Nat.le_of_ble_eq_true rfl) ?_
          refine ad_ifp_eq 95 dX3_lineUp_30 (by decide) (fun h30 => ?_) (fun h30 => ?_)
          · skip
            refine ad_iinc dX3_lineUp_95 rfl (by decide) rfl (by dsimp only [ad_set]) ?_
            refine ad_goto 2 dX3_lineUp_98 (by decide) ?_
            exact next (v + 1) _ _ e0 e1 (by omega) (by omega) (by rw [e2, show (v + 1).toNat = v.toNat + 1 by omega, ad_ord, if_neg (fun z => h30 ⟨hv0, z⟩)]) (fun j hj => by
              rw [show (v + 1).toNat = v.toNat + 1 by omega, ad_ord, if_neg (fun z => h30 ⟨hv0, z⟩)] at hj ⊢; exact e3 j hj)
          · show ad_R _ _ _ _ 33 _ _ _
            refine ad_aload_n dX3_lineUp_33 rfl ?_
            refine gf_X3_45 rfl dX3_lineUp_34 ?_
            refine ad_istore_n dX3_lineUp_37 (by decide) rfl (by dsimp only [ad_set]) ?_
            obtain ⟨l, hl⟩ : ∃ l, l = ad_ord A k v.toNat := ⟨_, rfl⟩
            have hvH := h30.2
            have hlen : l.length ≤ v.toNat := by rw [hl, ad_ord_len]; exact ad_pp_le _ _
            rw [← hl] at e2 e3
            have inner : ∀ (n : Nat) (i : Int) (σ1 : ad_Mem), (ad_frK ad_KL σ σ1) → ((∀ q, q ≠ 6 → σ1 3 0 q = σ 3 0 q)) → (0 ≤ i) → (i ≤ l.length) → (∀ j, j < i.toNat → σ1 13 0 j = (l.getD j 0 : Int)) → (∀ j, i.toNat < j → j ≤ l.length → σ1 13 0 j = (l.getD (j - 1) 0 : Int)) → (ad_ipos A k v.toNat l l.length = ad_ipos A k v.toNat l i.toNat) → (σ1 3 0 6 = l.length) → (i).toNat ≤ n → ad_R g mX3_lineUp d (ad_ZV mX3_lineUp (fun m => ad_frK ad_KL σ m ∧ (∀ q, q ≠ 6 → m 3 0 q = σ 3 0 q) ∧ m 3 0 6 = (ad_ord A k 10).length ∧ ∀ j, j < (ad_ord A k 10).length → m 13 0 j = ((ad_ord A k 10).getD j 0 : Int))) 38 [some (ad_rf g 3 0), some (ad_iv v), some (ad_iv i)] [] σ1 := by
              intro n
              induction n with
              | zero =>
                intro i σ1 e0 e1 hi0 hi1 e3 e4 e5 e6 hn
                have hrs := ad_rC_K hr0 hw0 e0 rfl rfl rfl rfl rfl rfl rfl rfl
                have hst1 : σ1 3 0 5 = (s : Int) + 1 := by rw [e1 5 (by decide)]; exact hst
                have hk1 : σ1 3 0 7 = k := by rw [e1 7 (by decide)]; exact hk
                have hc1 := hrs.1
                refine ad_iload_n dX3_lineUp_38 rfl ?_
                refine ad_if_le 78 dX3_lineUp_39 (by decide) (by omega) (fun h39 => ?_) (fun h39 => ?_)
                · skip
                  have hip : ad_ipos A k v.toNat l l.length = i.toNat := by rw [e5, show i.toNat = 0 by omega]; rfl
                  refine ad_aload_n dX3_lineUp_78 rfl ?_
                  refine gf_X3_9 rfl dX3_lineUp_79 ?_
                  refine ad_iload_n dX3_lineUp_82 rfl ?_
                  refine ad_iload_n dX3_lineUp_83 rfl ?_
                  refine ad_iast dX3_lineUp_84 (by show _ < 1; omega) ⟨by decide, by decide⟩ (by omega) (by show _ < ((10 : Nat) : Int); omega) ?_
                  refine ad_aload_n dX3_lineUp_85 rfl ?_
                  refine ad_dup dX3_lineUp_86 rfl ?_
                  refine gf_X3_45 rfl dX3_lineUp_87 ?_
                  rw [show ∀ y, ad_st σ1 13 0 y v 3 0 6 = σ1 3 0 6 from fun y => by simp [ad_st], e6]
                  refine ad_iconst dX3_lineUp_90 ?_
                  refine ad_iadd dX3_lineUp_91 ?_
                  refine pf_X3_45 rfl dX3_lineUp_92 ?_
                  refine ad_iinc dX3_lineUp_95 rfl (by decide) rfl (by dsimp only [ad_set]) ?_
                  refine ad_goto 2 dX3_lineUp_98 (by decide) ?_
                  refine next (v + 1) _ _ (fun k hk => ?_) (fun q hq => ?_) (by omega) (by omega) ?_ (fun j hj => ?_)
                  · rw [← e0 k hk]; funext a b
                    have hk13 : k ≠ 13 := fun z => by rw [z] at hk; exact absurd hk (by decide)
                    have hk3 : k ≠ 3 := fun z => by rw [z] at hk; exact absurd hk (by decide)
                    simp [ad_st, hk13, hk3]
                  · rw [← e1 q hq]; simp [ad_st, hq]
                  · rw [show (v + 1).toNat = v.toNat + 1 by omega, ad_ord, if_pos hvH, ad_ins_len, ← hl]
                    simp [ad_st, e6]
                  · rw [show (v + 1).toNat = v.toNat + 1 by omega, ad_ord, if_pos hvH] at hj ⊢
                    rw [ad_ins_len, ← hl] at hj
                    rw [← hl, ad_ins_get A k v.toNat l j hj, hip]
                    simp only [ad_st]
                    rw [if_neg (by omega)]
                    by_cases h1 : j = i.toNat
                    · rw [if_pos ⟨trivial, trivial, h1⟩, if_neg (by omega), if_pos h1]; omega
                    · rw [if_neg (fun z => h1 z.2.2)]
                      by_cases h2 : j < i.toNat
                      · rw [if_pos h2, e3 j h2]
                      · rw [if_neg h2, if_neg h1]; exact e4 j (by omega) (by omega)
                · show ad_R _ _ _ _ 42 _ _ _
                  exfalso; omega
              | succ n ih =>
                intro i σ1 e0 e1 hi0 hi1 e3 e4 e5 e6 hn
                have hrs := ad_rC_K hr0 hw0 e0 rfl rfl rfl rfl rfl rfl rfl rfl
                have hst1 : σ1 3 0 5 = (s : Int) + 1 := by rw [e1 5 (by decide)]; exact hst
                have hk1 : σ1 3 0 7 = k := by rw [e1 7 (by decide)]; exact hk
                have hc1 := hrs.1
                refine ad_iload_n dX3_lineUp_38 rfl ?_
                refine ad_if_le 78 dX3_lineUp_39 (by decide) (by omega) (fun h39 => ?_) (fun h39 => ?_)
                · skip
                  have hip : ad_ipos A k v.toNat l l.length = i.toNat := by rw [e5, show i.toNat = 0 by omega]; rfl
                  refine ad_aload_n dX3_lineUp_78 rfl ?_
                  refine gf_X3_9 rfl dX3_lineUp_79 ?_
                  refine ad_iload_n dX3_lineUp_82 rfl ?_
                  refine ad_iload_n dX3_lineUp_83 rfl ?_
                  refine ad_iast dX3_lineUp_84 (by show _ < 1; omega) ⟨by decide, by decide⟩ (by omega) (by show _ < ((10 : Nat) : Int); omega) ?_
                  refine ad_aload_n dX3_lineUp_85 rfl ?_
                  refine ad_dup dX3_lineUp_86 rfl ?_
                  refine gf_X3_45 rfl dX3_lineUp_87 ?_
                  rw [show ∀ y, ad_st σ1 13 0 y v 3 0 6 = σ1 3 0 6 from fun y => by simp [ad_st], e6]
                  refine ad_iconst dX3_lineUp_90 ?_
                  refine ad_iadd dX3_lineUp_91 ?_
                  refine pf_X3_45 rfl dX3_lineUp_92 ?_
                  refine ad_iinc dX3_lineUp_95 rfl (by decide) rfl (by dsimp only [ad_set]) ?_
                  refine ad_goto 2 dX3_lineUp_98 (by decide) ?_
                  refine next (v + 1) _ _ (fun k hk => ?_) (fun q hq => ?_) (by omega) (by omega) ?_ (fun j hj => ?_)
                  · rw [← e0 k hk]; funext a b
                    have hk13 : k ≠ 13 := fun z => by rw [z] at hk; exact absurd hk (by decide)
                    have hk3 : k ≠ 3 := fun z => by rw [z] at hk; exact absurd hk (by decide)
                    simp [ad_st, hk13, hk3]
                  · rw [← e1 q hq]; simp [ad_st, hq]
                  · rw [show (v + 1).toNat = v.toNat + 1 by omega, ad_ord, if_pos hvH, ad_ins_len, ← hl]
                    simp [ad_st, e6]
                  · rw [show (v + 1).toNat = v.toNat + 1 by omega, ad_ord, if_pos hvH] at hj ⊢
                    rw [ad_ins_len, ← hl] at hj
                    rw [← hl, ad_ins_get A k v.toNat l j hj, hip]
                    simp only [ad_st]
                    rw [if_neg (by omega)]
                    by_cases h1 : j = i.toNat
                    · rw [if_pos ⟨trivial, trivial, h1⟩, if_neg (by omega), if_pos h1]; omega
                    · rw [if_neg (fun z => h1 z.2.2)]
                      by_cases h2 : j < i.toNat
                      · rw [if_pos h2, e3 j h2]
                      · rw [if_neg h2, if_neg h1]; exact e4 j (by omega) (by omega)
                · show ad_R _ _ _ _ 42 _ _ _
                  refine ad_aload_n dX3_lineUp_42 rfl ?_
                  refine ad_iload_n dX3_lineUp_43 rfl ?_
                  refine ad_aload_n dX3_lineUp_44 rfl ?_
                  refine gf_X3_9 rfl dX3_lineUp_45 ?_
                  refine ad_iload_n dX3_lineUp_48 rfl ?_
                  refine ad_iconst dX3_lineUp_49 ?_
                  refine ad_isub dX3_lineUp_50 ?_
                  refine ad_iald dX3_lineUp_51 (by show _ < 1; omega) ⟨by decide, by decide⟩ (by omega) (by show _ < ((10 : Nat) : Int); omega) ?_
                  have hlm : ad_aH A (l.getD (i - 1).toNat 0) = true := ((ad_ord_mem v.toNat _).mp (by rw [← hl]; exact ad_getD_mem (by omega))).2
                  rw [e3 (i - 1).toNat (by omega)]
                  refine ad_cv2f rfl cl_X3_73 dX3_lineUp_52 ((by
                    have hz := c_X3_isAhead (g := g) (d := d - 1) (v := v.toNat) (u := l.getD (i - 1).toNat 0) hs hrs hw0 hst1 hk1 hk2 hvH hlm (by omega)
                    rw [show ((v.toNat : Nat) : Int) = v by omega] at hz
                    exact hz)) (by omega) (by show _ < 1; omega) (Nat.le_of_ble_eq_true rfl) ?_
                  refine ad_ifp_eq 78 dX3_lineUp_55 (by decide) (fun h55 => ?_) (fun h55 => ?_)
                  · skip
                    obtain ⟨q, hq⟩ : ∃ q, i.toNat = q + 1 := ⟨i.toNat - 1, by omega⟩
                    have hqi : (i - 1).toNat = q := by omega
                    have hip : ad_ipos A k v.toNat l l.length = i.toNat := by rw [e5, hq, ad_ipos, if_neg (by rw [← hqi]; exact h55)]
                    refine ad_aload_n dX3_lineUp_78 rfl ?_
                    refine gf_X3_9 rfl dX3_lineUp_79 ?_
                    refine ad_iload_n dX3_lineUp_82 rfl ?_
                    refine ad_iload_n dX3_lineUp_83 rfl ?_
                    refine ad_iast dX3_lineUp_84 (by show _ < 1; omega) ⟨by decide, by decide⟩ (by omega) (by show _ < ((10 : Nat) : Int); omega) ?_
                    refine ad_aload_n dX3_lineUp_85 rfl ?_
                    refine ad_dup dX3_lineUp_86 rfl ?_
                    refine gf_X3_45 rfl dX3_lineUp_87 ?_
                    rw [show ∀ y, ad_st σ1 13 0 y v 3 0 6 = σ1 3 0 6 from fun y => by simp [ad_st], e6]
                    refine ad_iconst dX3_lineUp_90 ?_
                    refine ad_iadd dX3_lineUp_91 ?_
                    refine pf_X3_45 rfl dX3_lineUp_92 ?_
                    refine ad_iinc dX3_lineUp_95 rfl (by decide) rfl (by dsimp only [ad_set]) ?_
                    refine ad_goto 2 dX3_lineUp_98 (by decide) ?_
                    refine next (v + 1) _ _ (fun k hk => ?_) (fun q hq => ?_) (by omega) (by omega) ?_ (fun j hj => ?_)
                    · rw [← e0 k hk]; funext a b
                      have hk13 : k ≠ 13 := fun z => by rw [z] at hk; exact absurd hk (by decide)
                      have hk3 : k ≠ 3 := fun z => by rw [z] at hk; exact absurd hk (by decide)
                      simp [ad_st, hk13, hk3]
                    · rw [← e1 q hq]; simp [ad_st, hq]
                    · rw [show (v + 1).toNat = v.toNat + 1 by omega, ad_ord, if_pos hvH, ad_ins_len, ← hl]
                      simp [ad_st, e6]
                    · rw [show (v + 1).toNat = v.toNat + 1 by omega, ad_ord, if_pos hvH] at hj ⊢
                      rw [ad_ins_len, ← hl] at hj
                      rw [← hl, ad_ins_get A k v.toNat l j hj, hip]
                      simp only [ad_st]
                      rw [if_neg (by omega)]
                      by_cases h1 : j = i.toNat
                      · rw [if_pos ⟨trivial, trivial, h1⟩, if_neg (by omega), if_pos h1]; omega
                      · rw [if_neg (fun z => h1 z.2.2)]
                        by_cases h2 : j < i.toNat
                        · rw [if_pos h2, e3 j h2]
                        · rw [if_neg h2, if_neg h1]; exact e4 j (by omega) (by omega)
                  · show ad_R _ _ _ _ 58 _ _ _
                    obtain ⟨q, hq⟩ : ∃ q, i.toNat = q + 1 := ⟨i.toNat - 1, by omega⟩
                    have hqi : (i - 1).toNat = q := by omega
                    rw [hq, ad_ipos, if_pos (by rw [← hqi]; exact h55)] at e5
                    refine ad_aload_n dX3_lineUp_58 rfl ?_
                    refine gf_X3_9 rfl dX3_lineUp_59 ?_
                    refine ad_iload_n dX3_lineUp_62 rfl ?_
                    refine ad_aload_n dX3_lineUp_63 rfl ?_
                    refine gf_X3_9 rfl dX3_lineUp_64 ?_
                    refine ad_iload_n dX3_lineUp_67 rfl ?_
                    refine ad_iconst dX3_lineUp_68 ?_
                    refine ad_isub dX3_lineUp_69 ?_
                    refine ad_iald dX3_lineUp_70 (by show _ < 1; omega) ⟨by decide, by decide⟩ (by omega) (by show _ < ((10 : Nat) : Int); omega) ?_
                    refine ad_iast dX3_lineUp_71 (by show _ < 1; omega) ⟨by decide, by decide⟩ (by omega) (by show _ < ((10 : Nat) : Int); omega) ?_
                    refine ad_iinc dX3_lineUp_72 rfl (by decide) rfl (by dsimp only [ad_set]) ?_
                    refine ad_goto 38 dX3_lineUp_75 (by decide) ?_
                    rw [show i + -1 = i - 1 by omega]
                    refine ih (i - 1) _ (fun k hk => ?_) (fun q hq => ?_) (by omega) (by omega) (fun j hj => ?_) (fun j h1 h2 => ?_) (by rw [e5, hqi]) (by rw [← e6]; simp [ad_st]) (by omega)
                    · rw [← e0 k hk]; funext a b
                      have hk13 : k ≠ 13 := fun z => by rw [z] at hk; exact absurd hk (by decide)
                      simp [ad_st, hk13]
                    · rw [← e1 q hq]; simp [ad_st]
                    · rw [← e3 j (by omega)]; simp only [ad_st]; rw [if_neg (by omega)]
                    · simp only [ad_st]
                      by_cases hji : j = i.toNat
                      · rw [if_pos ⟨trivial, trivial, hji⟩, hji, e3 _ (by omega), show (i - 1).toNat = i.toNat - 1 by omega]
                      · rw [if_neg (fun z => hji z.2.2)]; exact e4 j (by omega) h2
            rw [e2]
            exact inner l.length l.length _ e0 e1 (by omega) (by omega) (fun j hj => e3 j (by omega)) (fun j h1 h2 => by omega) rfl e2 (by omega)
  refine ad_iconst dX3_lineUp_0 ?_
  refine ad_istore_n dX3_lineUp_1 (by decide) rfl (by dsimp only [ad_set]) ?_
  exact lp (ad_aC A) 0 _ _ (fun _ _ => rfl) (fun _ _ => rfl) (by omega) (by omega) hp (fun j hj => absurd hj (Nat.not_lt_zero _)) (by omega)
