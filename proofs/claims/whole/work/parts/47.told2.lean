/-! ===== Told: a version comes ===== -/
theorem ad_lfN_ge (S : List Int) (i : Int) : ∀ (n : Nat) (k : Int), k ≤ ad_lfN S i n k ∧ ad_lfN S i n k ≤ k + n ∧ ∀ q, k ≤ q → q < ad_lfN S i n k → ad_isL (ad_sg S (i + q))
  | 0, k => ⟨Int.le_refl k, by simp [ad_lfN], fun q h1 h2 => by simp only [ad_lfN] at h2; omega⟩
  | n + 1, k => by
    rw [ad_lfN]
    by_cases h : ad_isL (ad_sg S (i + k))
    · rw [if_pos h]
      obtain ⟨h1, h2, h3⟩ := ad_lfN_ge S i n (k + 1)
      refine ⟨by omega, by omega, fun q q1 q2 => ?_⟩
      by_cases hq : q = k
      · rw [hq]; exact h
      · exact h3 q (by omega) q2
    · rw [if_neg h]
      exact ⟨Int.le_refl k, by omega, fun q h1 h2 => by omega⟩
theorem ad_lf_ge (S : List Int) (i : Int) : 0 ≤ ad_lf S i ∧ ad_lf S i ≤ 12 ∧ ∀ q, 0 ≤ q → q < ad_lf S i → ad_isL (ad_sg S (i + q)) := by
  have h := ad_lfN_ge S i 12 0
  unfold ad_lf
  exact ⟨h.1, by omega, h.2.2⟩
def ad_spl (S : List Int) (i : Int) (n : Nat) : List Int := (List.range n).map (fun (q : Nat) => ad_sg S (i + (q : Int)) - 97)
theorem ad_spl_s (S : List Int) (i : Int) (n : Nat) : ad_spl S i (n + 1) = ad_spl S i n ++ [ad_sg S (i + (n : Int)) - 97] := by
  unfold ad_spl
  rw [List.range_succ, List.map_append]
  rfl
theorem ad_spl_ok {S : List Int} {i : Int} (h1 : 1 ≤ ad_lf S i) : 1 ≤ (ad_spl S i (ad_lf S i).toNat).length ∧ (ad_spl S i (ad_lf S i).toNat).length ≤ 12 ∧ ∀ x ∈ ad_spl S i (ad_lf S i).toNat, 0 ≤ x ∧ x ≤ 7 := by
  have h := ad_lf_ge S i
  have hl : (ad_spl S i (ad_lf S i).toNat).length = (ad_lf S i).toNat := by unfold ad_spl; simp
  rw [hl]
  refine ⟨by omega, by omega, fun x hx => ?_⟩
  unfold ad_spl at hx
  obtain ⟨q, hq, rfl⟩ := List.mem_map.mp hx
  have := h.2.2 (q : Int) (by omega) (by have := List.mem_range.mp hq; omega)
  unfold ad_isL at this
  omega
def ad_t_comes (A : ad_Ar) (S : List Int) (i a b : Int) : Option ad_Ar := if (a = -1 ∨ (0 ≤ a ∧ ad_aH A a.toNat = true)) ∧ (b = -1 ∨ (a ≠ -1 ∧ a ≠ b ∧ (0 ≤ b ∧ ad_aH A b.toNat = true))) ∧ ad_aC A < 10 then some (ad_add A (ad_spl S i (ad_lf S i).toNat) a b) else none
theorem c_X5_comes {g : ad_G} {d : Nat} {σ : ad_Mem} {s : Nat} {A : ad_Ar} (hs : s < 3) (hr : ad_rC σ s A) (hw : ad_wA A) (hn34 : ad_nw σ 34) (hd30 : ad_dr σ 30) {i a b : Int} {S : List Int} (hi : 0 ≤ i ∧ i ≤ 900) (ha : -1 ≤ a ∧ a ≤ 9) (hb1 : -1 ≤ b ∧ b ≤ 9) (hw33 : ad_nw σ 33) (hS : ad_nl σ 33 = S) (hb : ∀ x ∈ S, 0 ≤ x ∧ x ≤ 255) (hm : 1 ≤ ad_lf S i) (h4d : 4 ≤ d) : ad_Q g mX5_comes d [ad_rf g 5 0, ad_iv i, ad_rf g 4 s, ad_iv a, ad_iv b] σ (fun x m => ad_po σ s A x m (ad_t_comes A S i a b)) := by
  have hr0 := hr
  have hw0 := hw
  obtain ⟨r1, r2, r3, r4, r5, r6, r7, r8⟩ := hr
  obtain ⟨w1, w2, w3, w4, w5, w6, w7, w8, w9⟩ := hw
  have hlf := ad_lf_ge S i
  refine ad_M1 (k := 4) rfl (by simp [Value.category]) rfl (Nat.le_of_ble_eq_true rfl) ?_
  simp only [List.map_cons, List.map_nil, List.replicate, List.cons_append, List.nil_append]
  have lp : ∀ (n : Nat) (x5 : Option Value) (x6 : Option Value) (j : Int) (σ1 : ad_Mem), (0 ≤ j) → (j ≤ ad_lf S i) → (ad_fr (ad_Tn 34) σ σ1) → (ad_nl σ1 34 = ad_spl S i j.toNat) → (ad_nw σ1 34) → (a = -1 ∨ (0 ≤ a ∧ ad_aH A a.toNat = true)) → (b = -1 ∨ (a ≠ -1 ∧ a ≠ b ∧ (0 ≤ b ∧ ad_aH A b.toNat = true))) → (ad_aC A < 10) → (ad_lf S i - j).toNat ≤ n → ad_R g mX5_comes d (ad_ZQ mX5_comes (fun x m => ad_po σ s A x m (ad_t_comes A S i a b))) 89 [some (ad_rf g 5 0), some (ad_iv i), some (ad_rf g 4 s), some (ad_iv a), some (ad_iv b), x5, x6, some (ad_iv (ad_lf S i)), some (ad_iv j)] [] σ1 := by
    intro n
    induction n with
    | zero =>
      intro x5 x6 j σ1 j0 j1 f1 n1 n2 ka kb kr hn
      have l33 : ad_nl σ1 33 = S := by rw [← hS]; exact ad_nl_congr (f1 _ _ (fun z => by unfold ad_Tn at z; omega)) (f1 _ _ (fun z => by unfold ad_Tn at z; omega))
      have n33 : ad_nw σ1 33 := ad_nw_congr (f1 _ _ (fun z => by unfold ad_Tn at z; omega)) (f1 _ _ (fun z => by unfold ad_Tn at z; omega)) hw33
      have hr1 : ad_rC σ1 s A := ad_rC_congr hw0 (fun k i hk => f1 _ _ (fun z => by unfold ad_Ts at hk; unfold ad_Tn at z; omega)) hr0
      have hn1 := ad_nl_len σ1 34
      have hn2 : (ad_spl S i j.toNat).length = j.toNat := by unfold ad_spl; simp
      rw [n1, hn2] at hn1
      have hl34 : (ad_len 12 34 : Int) = 12 := rfl
      have hn3 := n2.1
      refine ad_iload dX5_comes_89 rfl ?_
      refine ad_iload dX5_comes_91 rfl ?_
      refine ad_icmp_ge 123 dX5_comes_93 (by decide) (by omega) (by omega) (fun h93 => ?_) (fun h93 => ?_)
      · skip
        have hje : j = ad_lf S i := by omega
        rw [hje] at n1
        have hpa : -1 ≤ a ∧ a < ad_aC A := by
          rcases ka with q | q
          · omega
          · have := w2 _ q.2; omega
        have hpb : -1 ≤ b ∧ b < ad_aC A := by
          rcases kb with q | q
          · omega
          · have := w2 _ q.2.2.2; omega
        refine ad_aload_n dX5_comes_123 rfl ?_
        refine ad_iload_n dX5_comes_124 rfl ?_
        refine ad_iload dX5_comes_125 rfl ?_
        refine ad_aload_n dX5_comes_127 rfl ?_
        refine gf_X5_20 rfl dX5_comes_128 ?_
        refine ad_cv3q rfl cl_X5_144 dX5_comes_131 (c_X4_comes (j := 34) hs hr1 hw0 (by omega) kr (by omega) (by omega) n2 (by rw [n1]; exact ad_spl_ok hm) hpa hpb) (by omega) (by show _ < 3; omega) (Nat.le_of_ble_eq_true rfl) (fun x131 s131 q131 => ?_)
        obtain ⟨rfl, p1, p2⟩ := q131
        rw [n1] at p1
        refine ad_pop dX5_comes_134 rfl ?_
        refine ad_iconst dX5_comes_135 ?_
        exact ad_ret1 dX5_comes_136 rfl (by
          have e : ad_t_comes A S i a b = some (ad_add A (ad_spl S i (ad_lf S i).toNat) a b) := if_pos ⟨ka, kb, kr⟩
          have ev : ∀ k i, ¬ ad_Ts s k i → s131 k i = σ1 k i := p2
          rw [e]
          exact ⟨rfl, p1, ad_wA_add hw0 kr (ad_spl_ok hm) hpa hpb, (f1.mono (fun k i z => Or.inr (Or.inl (by unfold ad_Tn at z; omega)))).trans (p2.mono (fun k i z => Or.inl z)), ad_nw_congr (ev _ _ (fun z => by unfold ad_Ts at z; omega)) (ev _ _ (fun z => by unfold ad_Ts at z; omega)) n2, ad_dr_congr ((ev _ _ (fun z => by unfold ad_Ts at z; omega)).trans (f1 _ _ (fun z => by unfold ad_Tn at z; omega))) ((ev _ _ (fun z => by unfold ad_Ts at z; omega)).trans (f1 _ _ (fun z => by unfold ad_Tn at z; omega))) hd30⟩)
      · show ad_R _ _ _ _ 96 _ _ _
        exfalso; omega
    | succ n ih =>
      intro x5 x6 j σ1 j0 j1 f1 n1 n2 ka kb kr hn
      have l33 : ad_nl σ1 33 = S := by rw [← hS]; exact ad_nl_congr (f1 _ _ (fun z => by unfold ad_Tn at z; omega)) (f1 _ _ (fun z => by unfold ad_Tn at z; omega))
      have n33 : ad_nw σ1 33 := ad_nw_congr (f1 _ _ (fun z => by unfold ad_Tn at z; omega)) (f1 _ _ (fun z => by unfold ad_Tn at z; omega)) hw33
      have hr1 : ad_rC σ1 s A := ad_rC_congr hw0 (fun k i hk => f1 _ _ (fun z => by unfold ad_Ts at hk; unfold ad_Tn at z; omega)) hr0
      have hn1 := ad_nl_len σ1 34
      have hn2 : (ad_spl S i j.toNat).length = j.toNat := by unfold ad_spl; simp
      rw [n1, hn2] at hn1
      have hl34 : (ad_len 12 34 : Int) = 12 := rfl
      have hn3 := n2.1
      refine ad_iload dX5_comes_89 rfl ?_
      refine ad_iload dX5_comes_91 rfl ?_
      refine ad_icmp_ge 123 dX5_comes_93 (by decide) (by omega) (by omega) (fun h93 => ?_) (fun h93 => ?_)
      · skip
        have hje : j = ad_lf S i := by omega
        rw [hje] at n1
        have hpa : -1 ≤ a ∧ a < ad_aC A := by
          rcases ka with q | q
          · omega
          · have := w2 _ q.2; omega
        have hpb : -1 ≤ b ∧ b < ad_aC A := by
          rcases kb with q | q
          · omega
          · have := w2 _ q.2.2.2; omega
        refine ad_aload_n dX5_comes_123 rfl ?_
        refine ad_iload_n dX5_comes_124 rfl ?_
        refine ad_iload dX5_comes_125 rfl ?_
        refine ad_aload_n dX5_comes_127 rfl ?_
        refine gf_X5_20 rfl dX5_comes_128 ?_
        refine ad_cv3q rfl cl_X5_144 dX5_comes_131 (c_X4_comes (j := 34) hs hr1 hw0 (by omega) kr (by omega) (by omega) n2 (by rw [n1]; exact ad_spl_ok hm) hpa hpb) (by omega) (by show _ < 3; omega) (Nat.le_of_ble_eq_true rfl) (fun x131 s131 q131 => ?_)
        obtain ⟨rfl, p1, p2⟩ := q131
        rw [n1] at p1
        refine ad_pop dX5_comes_134 rfl ?_
        refine ad_iconst dX5_comes_135 ?_
        exact ad_ret1 dX5_comes_136 rfl (by
          have e : ad_t_comes A S i a b = some (ad_add A (ad_spl S i (ad_lf S i).toNat) a b) := if_pos ⟨ka, kb, kr⟩
          have ev : ∀ k i, ¬ ad_Ts s k i → s131 k i = σ1 k i := p2
          rw [e]
          exact ⟨rfl, p1, ad_wA_add hw0 kr (ad_spl_ok hm) hpa hpb, (f1.mono (fun k i z => Or.inr (Or.inl (by unfold ad_Tn at z; omega)))).trans (p2.mono (fun k i z => Or.inl z)), ad_nw_congr (ev _ _ (fun z => by unfold ad_Ts at z; omega)) (ev _ _ (fun z => by unfold ad_Ts at z; omega)) n2, ad_dr_congr ((ev _ _ (fun z => by unfold ad_Ts at z; omega)).trans (f1 _ _ (fun z => by unfold ad_Tn at z; omega))) ((ev _ _ (fun z => by unfold ad_Ts at z; omega)).trans (f1 _ _ (fun z => by unfold ad_Tn at z; omega))) hd30⟩)
      · show ad_R _ _ _ _ 96 _ _ _
        refine ad_aload_n dX5_comes_96 rfl ?_
        refine gf_X5_20 rfl dX5_comes_97 ?_
        refine ad_aload_n dX5_comes_100 rfl ?_
        refine gf_X5_14 rfl dX5_comes_101 ?_
        refine ad_iload_n dX5_comes_104 rfl ?_
        refine ad_iload dX5_comes_105 rfl ?_
        refine ad_iadd dX5_comes_107 ?_
        refine ad_cv1f rfl cl_X5_34 dX5_comes_108 (c_X2_at (by omega) n33 (by omega)) (by omega) (by show _ < 36; omega) (Nat.le_of_ble_eq_true rfl) ?_
        rw [ad_sg_at n33 l33]
        have hL := hlf.2.2 j j0 (by omega)
        unfold ad_isL at hL
        refine ad_bipush dX5_comes_111 rfl ?_
        refine ad_isub dX5_comes_113 ?_
        refine ad_cv1v rfl cl_X5_141 dX5_comes_114 (c_X2_add (by omega) n2 (by omega)) (by omega) (by show _ < 36; omega) (Nat.le_of_ble_eq_true rfl) (fun s114 q114 => ?_)
        obtain ⟨b1, b2, b3, b4⟩ := ad_add_nl n2 (by omega) (by omega) q114
        refine ad_iinc dX5_comes_117 rfl (by decide) rfl (by dsimp only [ad_set]) ?_
        refine ad_goto 89 dX5_comes_120 (by decide) ?_
        refine ih _ _ (j + 1) _ (by omega) (by omega) (f1.trans b3) ?_ b2 ka kb kr (by omega)
        rw [b1, n1, show (j + 1).toNat = j.toNat + 1 by omega, ad_spl_s, show ((j.toNat : Nat) : Int) = j by omega]
  have mid : ∀ (x5 x6 : Int), (a = -1 ∨ (0 ≤ a ∧ ad_aH A a.toNat = true)) → (b = -1 ∨ (a ≠ -1 ∧ a ≠ b ∧ (0 ≤ b ∧ ad_aH A b.toNat = true))) → ad_aC A < 10 → ad_R g mX5_comes d (ad_ZQ mX5_comes (fun x m => ad_po σ s A x m (ad_t_comes A S i a b))) 72 [some (ad_rf g 5 0), some (ad_iv i), some (ad_rf g 4 s), some (ad_iv a), some (ad_iv b), some (ad_iv x5), some (ad_iv x6), none, none] [] σ := by
    intro x5 x6 ka kb kr
    refine ad_aload_n dX5_comes_72 rfl ?_
    refine ad_iload_n dX5_comes_73 rfl ?_
    refine ad_cv1f rfl cl_X5_80 dX5_comes_74 (c_X5_lettersFrom hw33 hS hb ⟨by omega, by omega⟩ (by omega)) (by omega) (by show _ < 1; omega) (Nat.le_of_ble_eq_true rfl) ?_
    refine ad_istore dX5_comes_77 (by decide) rfl (by dsimp only [ad_set]) ?_
    refine ad_aload_n dX5_comes_79 rfl ?_
    refine gf_X5_20 rfl dX5_comes_80 ?_
    refine ad_cv0v rfl cl_X5_138 dX5_comes_83 (c_X2_empty (by omega)) (by omega) (by show _ < 36; omega) (Nat.le_of_ble_eq_true rfl) (fun s83 q83 => ?_)
    obtain ⟨b1, b2, b3, b4⟩ := ad_emp_nl hn34 q83
    refine ad_iconst dX5_comes_86 ?_
    refine ad_istore dX5_comes_87 (by decide) rfl (by dsimp only [ad_set]) ?_
    exact lp _ _ _ 0 s83 (by omega) (by omega) b3 b1 b2 ka kb kr (Nat.le_refl _)
  refine ad_iload_n dX5_comes_0 rfl ?_
  refine ad_iconst dX5_comes_1 ?_
  refine ad_icmp_eq 13 dX5_comes_2 (by decide) (by omega) (by omega) (fun h2 => ?_) (fun h2 => ?_)
  · skip
    refine ad_iconst dX5_comes_13 ?_
    refine ad_goto 18 dX5_comes_14 (by decide) ?_
    refine ad_istore dX5_comes_18 (by decide) rfl (by dsimp only [ad_set]) ?_
    refine ad_iload dX5_comes_20 rfl ?_
    refine ad_iconst dX5_comes_22 ?_
    refine ad_icmp_eq 46 dX5_comes_23 (by decide) (by omega) (by omega) (fun h23 => ?_) (fun h23 => ?_)
    · skip
      refine ad_iconst dX5_comes_46 ?_
      refine ad_goto 51 dX5_comes_47 (by decide) ?_
      refine ad_istore dX5_comes_51 (by decide) rfl (by dsimp only [ad_set]) ?_
      refine ad_iload dX5_comes_53 rfl ?_
      refine ad_if_eq 70 dX5_comes_55 (by decide) (by omega) (fun h55 => ?_) (fun h55 => ?_)
      · skip
        refine ad_iconst dX5_comes_70 ?_
        exact ad_ret0 dX5_comes_71 rfl (by exfalso; omega)
      · show ad_R _ _ _ _ 58 _ _ _
        refine ad_iload dX5_comes_58 rfl ?_
        refine ad_if_eq 70 dX5_comes_60 (by decide) (by omega) (fun h60 => ?_) (fun h60 => ?_)
        · skip
          refine ad_iconst dX5_comes_70 ?_
          exact ad_ret0 dX5_comes_71 rfl (by exfalso; omega)
        · show ad_R _ _ _ _ 63 _ _ _
          refine ad_aload_n dX5_comes_63 rfl ?_
          refine ad_cv0f rfl cl_X5_135 dX5_comes_64 (c_X4_hasRoom hs hr0 hw0) (by omega) (by show _ < 3; omega) (Nat.le_of_ble_eq_true rfl) ?_
          refine ad_ifp_ne 72 dX5_comes_67 (by decide) (fun h67 => ?_) (fun h67 => ?_)
          · skip
            exact mid _ _ (Or.inl (by omega)) (Or.inl (by omega)) h67
          · show ad_R _ _ _ _ 70 _ _ _
            refine ad_iconst dX5_comes_70 ?_
            exact ad_ret0 dX5_comes_71 rfl (by
              have e : ad_t_comes A S i a b = none := by
                unfold ad_t_comes
                (repeat' split) <;> first | with_reducible rfl | contradiction | (exfalso; omega) | rfl | (exfalso; simp_all; omega) | (simp_all; done)
              rw [e]
              exact ad_po_no hr0 hw0 hn34 hd30)
    · show ad_R _ _ _ _ 26 _ _ _
      refine ad_iload_n dX5_comes_26 rfl ?_
      refine ad_iconst dX5_comes_27 ?_
      refine ad_icmp_eq 50 dX5_comes_28 (by decide) (by omega) (by omega) (fun h28 => ?_) (fun h28 => ?_)
      · skip
        refine ad_iconst dX5_comes_50 ?_
        refine ad_istore dX5_comes_51 (by decide) rfl (by dsimp only [ad_set]) ?_
        refine ad_iload dX5_comes_53 rfl ?_
        refine ad_if_eq 70 dX5_comes_55 (by decide) (by omega) (fun h55 => ?_) (fun h55 => ?_)
        · skip
          refine ad_iconst dX5_comes_70 ?_
          exact ad_ret0 dX5_comes_71 rfl (by exfalso; omega)
        · show ad_R _ _ _ _ 58 _ _ _
          refine ad_iload dX5_comes_58 rfl ?_
          refine ad_if_eq 70 dX5_comes_60 (by decide) (by omega) (fun h60 => ?_) (fun h60 => ?_)
          · skip
            refine ad_iconst dX5_comes_70 ?_
            exact ad_ret0 dX5_comes_71 rfl (by
              have e : ad_t_comes A S i a b = none := by
                unfold ad_t_comes
                (repeat' split) <;> first | with_reducible rfl | contradiction | (exfalso; omega) | rfl | (exfalso; simp_all; omega) | (simp_all; done)
              rw [e]
              exact ad_po_no hr0 hw0 hn34 hd30)
          · show ad_R _ _ _ _ 63 _ _ _
            refine ad_aload_n dX5_comes_63 rfl ?_
            refine ad_cv0f rfl cl_X5_135 dX5_comes_64 (c_X4_hasRoom hs hr0 hw0) (by omega) (by show _ < 3; omega) (Nat.le_of_ble_eq_true rfl) ?_
            refine ad_ifp_ne 72 dX5_comes_67 (by decide) (fun h67 => ?_) (fun h67 => ?_)
            · skip
              exfalso; omega
            · show ad_R _ _ _ _ 70 _ _ _
              refine ad_iconst dX5_comes_70 ?_
              exact ad_ret0 dX5_comes_71 rfl (by exfalso; omega)
      · show ad_R _ _ _ _ 31 _ _ _
        refine ad_iload_n dX5_comes_31 rfl ?_
        refine ad_iload dX5_comes_32 rfl ?_
        refine ad_icmp_eq 50 dX5_comes_34 (by decide) (by omega) (by omega) (fun h34 => ?_) (fun h34 => ?_)
        · skip
          refine ad_iconst dX5_comes_50 ?_
          refine ad_istore dX5_comes_51 (by decide) rfl (by dsimp only [ad_set]) ?_
          refine ad_iload dX5_comes_53 rfl ?_
          refine ad_if_eq 70 dX5_comes_55 (by decide) (by omega) (fun h55 => ?_) (fun h55 => ?_)
          · skip
            refine ad_iconst dX5_comes_70 ?_
            exact ad_ret0 dX5_comes_71 rfl (by exfalso; omega)
          · show ad_R _ _ _ _ 58 _ _ _
            refine ad_iload dX5_comes_58 rfl ?_
            refine ad_if_eq 70 dX5_comes_60 (by decide) (by omega) (fun h60 => ?_) (fun h60 => ?_)
            · skip
              refine ad_iconst dX5_comes_70 ?_
              exact ad_ret0 dX5_comes_71 rfl (by
                have e : ad_t_comes A S i a b = none := by
                  unfold ad_t_comes
                  (repeat' split) <;> first | with_reducible rfl | contradiction | (exfalso; omega) | rfl | (exfalso; simp_all; omega) | (simp_all; done)
                rw [e]
                exact ad_po_no hr0 hw0 hn34 hd30)
            · show ad_R _ _ _ _ 63 _ _ _
              refine ad_aload_n dX5_comes_63 rfl ?_
              refine ad_cv0f rfl cl_X5_135 dX5_comes_64 (c_X4_hasRoom hs hr0 hw0) (by omega) (by show _ < 3; omega) (Nat.le_of_ble_eq_true rfl) ?_
              refine ad_ifp_ne 72 dX5_comes_67 (by decide) (fun h67 => ?_) (fun h67 => ?_)
              · skip
                exfalso; omega
              · show ad_R _ _ _ _ 70 _ _ _
                refine ad_iconst dX5_comes_70 ?_
                exact ad_ret0 dX5_comes_71 rfl (by exfalso; omega)
        · show ad_R _ _ _ _ 37 _ _ _
          refine ad_aload_n dX5_comes_37 rfl ?_
          refine ad_iload dX5_comes_38 rfl ?_
          refine ad_cv1f rfl cl_X5_132 dX5_comes_40 (c_X4_holds hs hr0 hw0 (by omega)) (by omega) (by show _ < 3; omega) (Nat.le_of_ble_eq_true rfl) ?_
          refine ad_ifp_eq 50 dX5_comes_43 (by decide) (fun h43 => ?_) (fun h43 => ?_)
          · skip
            refine ad_iconst dX5_comes_50 ?_
            refine ad_istore dX5_comes_51 (by decide) rfl (by dsimp only [ad_set]) ?_
            refine ad_iload dX5_comes_53 rfl ?_
            refine ad_if_eq 70 dX5_comes_55 (by decide) (by omega) (fun h55 => ?_) (fun h55 => ?_)
            · skip
              refine ad_iconst dX5_comes_70 ?_
              exact ad_ret0 dX5_comes_71 rfl (by exfalso; omega)
            · show ad_R _ _ _ _ 58 _ _ _
              refine ad_iload dX5_comes_58 rfl ?_
              refine ad_if_eq 70 dX5_comes_60 (by decide) (by omega) (fun h60 => ?_) (fun h60 => ?_)
              · skip
                refine ad_iconst dX5_comes_70 ?_
                exact ad_ret0 dX5_comes_71 rfl (by
                  have e : ad_t_comes A S i a b = none := by
                    unfold ad_t_comes
                    (repeat' split) <;> first | with_reducible rfl | contradiction | (exfalso; omega) | rfl | (exfalso; simp_all; omega) | (simp_all; done)
                  rw [e]
                  exact ad_po_no hr0 hw0 hn34 hd30)
              · show ad_R _ _ _ _ 63 _ _ _
                refine ad_aload_n dX5_comes_63 rfl ?_
                refine ad_cv0f rfl cl_X5_135 dX5_comes_64 (c_X4_hasRoom hs hr0 hw0) (by omega) (by show _ < 3; omega) (Nat.le_of_ble_eq_true rfl) ?_
                refine ad_ifp_ne 72 dX5_comes_67 (by decide) (fun h67 => ?_) (fun h67 => ?_)
                · skip
                  exfalso; omega
                · show ad_R _ _ _ _ 70 _ _ _
                  refine ad_iconst dX5_comes_70 ?_
                  exact ad_ret0 dX5_comes_71 rfl (by exfalso; omega)
          · show ad_R _ _ _ _ 46 _ _ _
            refine ad_iconst dX5_comes_46 ?_
            refine ad_goto 51 dX5_comes_47 (by decide) ?_
            refine ad_istore dX5_comes_51 (by decide) rfl (by dsimp only [ad_set]) ?_
            refine ad_iload dX5_comes_53 rfl ?_
            refine ad_if_eq 70 dX5_comes_55 (by decide) (by omega) (fun h55 => ?_) (fun h55 => ?_)
            · skip
              refine ad_iconst dX5_comes_70 ?_
              exact ad_ret0 dX5_comes_71 rfl (by exfalso; omega)
            · show ad_R _ _ _ _ 58 _ _ _
              refine ad_iload dX5_comes_58 rfl ?_
              refine ad_if_eq 70 dX5_comes_60 (by decide) (by omega) (fun h60 => ?_) (fun h60 => ?_)
              · skip
                refine ad_iconst dX5_comes_70 ?_
                exact ad_ret0 dX5_comes_71 rfl (by exfalso; omega)
              · show ad_R _ _ _ _ 63 _ _ _
                refine ad_aload_n dX5_comes_63 rfl ?_
                refine ad_cv0f rfl cl_X5_135 dX5_comes_64 (c_X4_hasRoom hs hr0 hw0) (by omega) (by show _ < 3; omega) (Nat.le_of_ble_eq_true rfl) ?_
                refine ad_ifp_ne 72 dX5_comes_67 (by decide) (fun h67 => ?_) (fun h67 => ?_)
                · skip
                  exact mid _ _ (Or.inl (by omega)) (Or.inr ⟨by omega, by omega, h43⟩) h67
                · show ad_R _ _ _ _ 70 _ _ _
                  refine ad_iconst dX5_comes_70 ?_
                  exact ad_ret0 dX5_comes_71 rfl (by
                    have e : ad_t_comes A S i a b = none := by
                      unfold ad_t_comes
                      (repeat' split) <;> first | with_reducible rfl | contradiction | (exfalso; omega) | rfl | (exfalso; simp_all; omega) | (simp_all; done)
                    rw [e]
                    exact ad_po_no hr0 hw0 hn34 hd30)
  · show ad_R _ _ _ _ 5 _ _ _
    refine ad_aload_n dX5_comes_5 rfl ?_
    refine ad_iload_n dX5_comes_6 rfl ?_
    refine ad_cv1f rfl cl_X5_132 dX5_comes_7 (c_X4_holds hs hr0 hw0 (by omega)) (by omega) (by show _ < 3; omega) (Nat.le_of_ble_eq_true rfl) ?_
    refine ad_ifp_eq 17 dX5_comes_10 (by decide) (fun h10 => ?_) (fun h10 => ?_)
    · skip
      refine ad_iconst dX5_comes_17 ?_
      refine ad_istore dX5_comes_18 (by decide) rfl (by dsimp only [ad_set]) ?_
      refine ad_iload dX5_comes_20 rfl ?_
      refine ad_iconst dX5_comes_22 ?_
      refine ad_icmp_eq 46 dX5_comes_23 (by decide) (by omega) (by omega) (fun h23 => ?_) (fun h23 => ?_)
      · skip
        refine ad_iconst dX5_comes_46 ?_
        refine ad_goto 51 dX5_comes_47 (by decide) ?_
        refine ad_istore dX5_comes_51 (by decide) rfl (by dsimp only [ad_set]) ?_
        refine ad_iload dX5_comes_53 rfl ?_
        refine ad_if_eq 70 dX5_comes_55 (by decide) (by omega) (fun h55 => ?_) (fun h55 => ?_)
        · skip
          refine ad_iconst dX5_comes_70 ?_
          exact ad_ret0 dX5_comes_71 rfl (by
            have e : ad_t_comes A S i a b = none := by
              unfold ad_t_comes
              (repeat' split) <;> first | with_reducible rfl | contradiction | (exfalso; omega) | rfl | (exfalso; simp_all; omega) | (simp_all; done)
            rw [e]
            exact ad_po_no hr0 hw0 hn34 hd30)
        · show ad_R _ _ _ _ 58 _ _ _
          refine ad_iload dX5_comes_58 rfl ?_
          refine ad_if_eq 70 dX5_comes_60 (by decide) (by omega) (fun h60 => ?_) (fun h60 => ?_)
          · skip
            refine ad_iconst dX5_comes_70 ?_
            exact ad_ret0 dX5_comes_71 rfl (by exfalso; omega)
          · show ad_R _ _ _ _ 63 _ _ _
            refine ad_aload_n dX5_comes_63 rfl ?_
            refine ad_cv0f rfl cl_X5_135 dX5_comes_64 (c_X4_hasRoom hs hr0 hw0) (by omega) (by show _ < 3; omega) (Nat.le_of_ble_eq_true rfl) ?_
            refine ad_ifp_ne 72 dX5_comes_67 (by decide) (fun h67 => ?_) (fun h67 => ?_)
            · skip
              exfalso; omega
            · show ad_R _ _ _ _ 70 _ _ _
              refine ad_iconst dX5_comes_70 ?_
              exact ad_ret0 dX5_comes_71 rfl (by exfalso; omega)
      · show ad_R _ _ _ _ 26 _ _ _
        refine ad_iload_n dX5_comes_26 rfl ?_
        refine ad_iconst dX5_comes_27 ?_
        refine ad_icmp_eq 50 dX5_comes_28 (by decide) (by omega) (by omega) (fun h28 => ?_) (fun h28 => ?_)
        · skip
          refine ad_iconst dX5_comes_50 ?_
          refine ad_istore dX5_comes_51 (by decide) rfl (by dsimp only [ad_set]) ?_
          refine ad_iload dX5_comes_53 rfl ?_
          refine ad_if_eq 70 dX5_comes_55 (by decide) (by omega) (fun h55 => ?_) (fun h55 => ?_)
          · skip
            refine ad_iconst dX5_comes_70 ?_
            exact ad_ret0 dX5_comes_71 rfl (by
              have e : ad_t_comes A S i a b = none := by
                unfold ad_t_comes
                (repeat' split) <;> first | with_reducible rfl | contradiction | (exfalso; omega) | rfl | (exfalso; simp_all; omega) | (simp_all; done)
              rw [e]
              exact ad_po_no hr0 hw0 hn34 hd30)
          · show ad_R _ _ _ _ 58 _ _ _
            refine ad_iload dX5_comes_58 rfl ?_
            refine ad_if_eq 70 dX5_comes_60 (by decide) (by omega) (fun h60 => ?_) (fun h60 => ?_)
            · skip
              refine ad_iconst dX5_comes_70 ?_
              exact ad_ret0 dX5_comes_71 rfl (by exfalso; omega)
            · show ad_R _ _ _ _ 63 _ _ _
              refine ad_aload_n dX5_comes_63 rfl ?_
              refine ad_cv0f rfl cl_X5_135 dX5_comes_64 (c_X4_hasRoom hs hr0 hw0) (by omega) (by show _ < 3; omega) (Nat.le_of_ble_eq_true rfl) ?_
              refine ad_ifp_ne 72 dX5_comes_67 (by decide) (fun h67 => ?_) (fun h67 => ?_)
              · skip
                exfalso; omega
              · show ad_R _ _ _ _ 70 _ _ _
                refine ad_iconst dX5_comes_70 ?_
                exact ad_ret0 dX5_comes_71 rfl (by exfalso; omega)
        · show ad_R _ _ _ _ 31 _ _ _
          refine ad_iload_n dX5_comes_31 rfl ?_
          refine ad_iload dX5_comes_32 rfl ?_
          refine ad_icmp_eq 50 dX5_comes_34 (by decide) (by omega) (by omega) (fun h34 => ?_) (fun h34 => ?_)
          · skip
            refine ad_iconst dX5_comes_50 ?_
            refine ad_istore dX5_comes_51 (by decide) rfl (by dsimp only [ad_set]) ?_
            refine ad_iload dX5_comes_53 rfl ?_
            refine ad_if_eq 70 dX5_comes_55 (by decide) (by omega) (fun h55 => ?_) (fun h55 => ?_)
            · skip
              refine ad_iconst dX5_comes_70 ?_
              exact ad_ret0 dX5_comes_71 rfl (by
                have e : ad_t_comes A S i a b = none := by
                  unfold ad_t_comes
                  (repeat' split) <;> first | with_reducible rfl | contradiction | (exfalso; omega) | rfl | (exfalso; simp_all; omega) | (simp_all; done)
                rw [e]
                exact ad_po_no hr0 hw0 hn34 hd30)
            · show ad_R _ _ _ _ 58 _ _ _
              refine ad_iload dX5_comes_58 rfl ?_
              refine ad_if_eq 70 dX5_comes_60 (by decide) (by omega) (fun h60 => ?_) (fun h60 => ?_)
              · skip
                refine ad_iconst dX5_comes_70 ?_
                exact ad_ret0 dX5_comes_71 rfl (by exfalso; omega)
              · show ad_R _ _ _ _ 63 _ _ _
                refine ad_aload_n dX5_comes_63 rfl ?_
                refine ad_cv0f rfl cl_X5_135 dX5_comes_64 (c_X4_hasRoom hs hr0 hw0) (by omega) (by show _ < 3; omega) (Nat.le_of_ble_eq_true rfl) ?_
                refine ad_ifp_ne 72 dX5_comes_67 (by decide) (fun h67 => ?_) (fun h67 => ?_)
                · skip
                  exfalso; omega
                · show ad_R _ _ _ _ 70 _ _ _
                  refine ad_iconst dX5_comes_70 ?_
                  exact ad_ret0 dX5_comes_71 rfl (by exfalso; omega)
          · show ad_R _ _ _ _ 37 _ _ _
            refine ad_aload_n dX5_comes_37 rfl ?_
            refine ad_iload dX5_comes_38 rfl ?_
            refine ad_cv1f rfl cl_X5_132 dX5_comes_40 (c_X4_holds hs hr0 hw0 (by omega)) (by omega) (by show _ < 3; omega) (Nat.le_of_ble_eq_true rfl) ?_
            refine ad_ifp_eq 50 dX5_comes_43 (by decide) (fun h43 => ?_) (fun h43 => ?_)
            · skip
              refine ad_iconst dX5_comes_50 ?_
              refine ad_istore dX5_comes_51 (by decide) rfl (by dsimp only [ad_set]) ?_
              refine ad_iload dX5_comes_53 rfl ?_
              refine ad_if_eq 70 dX5_comes_55 (by decide) (by omega) (fun h55 => ?_) (fun h55 => ?_)
              · skip
                refine ad_iconst dX5_comes_70 ?_
                exact ad_ret0 dX5_comes_71 rfl (by
                  have e : ad_t_comes A S i a b = none := by
                    unfold ad_t_comes
                    (repeat' split) <;> first | with_reducible rfl | contradiction | (exfalso; omega) | rfl | (exfalso; simp_all; omega) | (simp_all; done)
                  rw [e]
                  exact ad_po_no hr0 hw0 hn34 hd30)
              · show ad_R _ _ _ _ 58 _ _ _
                refine ad_iload dX5_comes_58 rfl ?_
                refine ad_if_eq 70 dX5_comes_60 (by decide) (by omega) (fun h60 => ?_) (fun h60 => ?_)
                · skip
                  refine ad_iconst dX5_comes_70 ?_
                  exact ad_ret0 dX5_comes_71 rfl (by exfalso; omega)
                · show ad_R _ _ _ _ 63 _ _ _
                  refine ad_aload_n dX5_comes_63 rfl ?_
                  refine ad_cv0f rfl cl_X5_135 dX5_comes_64 (c_X4_hasRoom hs hr0 hw0) (by omega) (by show _ < 3; omega) (Nat.le_of_ble_eq_true rfl) ?_
                  refine ad_ifp_ne 72 dX5_comes_67 (by decide) (fun h67 => ?_) (fun h67 => ?_)
                  · skip
                    exfalso; omega
                  · show ad_R _ _ _ _ 70 _ _ _
                    refine ad_iconst dX5_comes_70 ?_
                    exact ad_ret0 dX5_comes_71 rfl (by exfalso; omega)
            · show ad_R _ _ _ _ 46 _ _ _
              refine ad_iconst dX5_comes_46 ?_
              refine ad_goto 51 dX5_comes_47 (by decide) ?_
              refine ad_istore dX5_comes_51 (by decide) rfl (by dsimp only [ad_set]) ?_
              refine ad_iload dX5_comes_53 rfl ?_
              refine ad_if_eq 70 dX5_comes_55 (by decide) (by omega) (fun h55 => ?_) (fun h55 => ?_)
              · skip
                refine ad_iconst dX5_comes_70 ?_
                exact ad_ret0 dX5_comes_71 rfl (by
                  have e : ad_t_comes A S i a b = none := by
                    unfold ad_t_comes
                    (repeat' split) <;> first | with_reducible rfl | contradiction | (exfalso; omega) | rfl | (exfalso; simp_all; omega) | (simp_all; done)
                  rw [e]
                  exact ad_po_no hr0 hw0 hn34 hd30)
              · show ad_R _ _ _ _ 58 _ _ _
                refine ad_iload dX5_comes_58 rfl ?_
                refine ad_if_eq 70 dX5_comes_60 (by decide) (by omega) (fun h60 => ?_) (fun h60 => ?_)
                · skip
                  refine ad_iconst dX5_comes_70 ?_
                  exact ad_ret0 dX5_comes_71 rfl (by exfalso; omega)
                · show ad_R _ _ _ _ 63 _ _ _
                  refine ad_aload_n dX5_comes_63 rfl ?_
                  refine ad_cv0f rfl cl_X5_135 dX5_comes_64 (c_X4_hasRoom hs hr0 hw0) (by omega) (by show _ < 3; omega) (Nat.le_of_ble_eq_true rfl) ?_
                  refine ad_ifp_ne 72 dX5_comes_67 (by decide) (fun h67 => ?_) (fun h67 => ?_)
                  · skip
                    exfalso; omega
                  · show ad_R _ _ _ _ 70 _ _ _
                    refine ad_iconst dX5_comes_70 ?_
                    exact ad_ret0 dX5_comes_71 rfl (by exfalso; omega)
    · show ad_R _ _ _ _ 13 _ _ _
      refine ad_iconst dX5_comes_13 ?_
      refine ad_goto 18 dX5_comes_14 (by decide) ?_
      refine ad_istore dX5_comes_18 (by decide) rfl (by dsimp only [ad_set]) ?_
      refine ad_iload dX5_comes_20 rfl ?_
      refine ad_iconst dX5_comes_22 ?_
      refine ad_icmp_eq 46 dX5_comes_23 (by decide) (by omega) (by omega) (fun h23 => ?_) (fun h23 => ?_)
      · skip
        refine ad_iconst dX5_comes_46 ?_
        refine ad_goto 51 dX5_comes_47 (by decide) ?_
        refine ad_istore dX5_comes_51 (by decide) rfl (by dsimp only [ad_set]) ?_
        refine ad_iload dX5_comes_53 rfl ?_
        refine ad_if_eq 70 dX5_comes_55 (by decide) (by omega) (fun h55 => ?_) (fun h55 => ?_)
        · skip
          refine ad_iconst dX5_comes_70 ?_
          exact ad_ret0 dX5_comes_71 rfl (by exfalso; omega)
        · show ad_R _ _ _ _ 58 _ _ _
          refine ad_iload dX5_comes_58 rfl ?_
          refine ad_if_eq 70 dX5_comes_60 (by decide) (by omega) (fun h60 => ?_) (fun h60 => ?_)
          · skip
            refine ad_iconst dX5_comes_70 ?_
            exact ad_ret0 dX5_comes_71 rfl (by exfalso; omega)
          · show ad_R _ _ _ _ 63 _ _ _
            refine ad_aload_n dX5_comes_63 rfl ?_
            refine ad_cv0f rfl cl_X5_135 dX5_comes_64 (c_X4_hasRoom hs hr0 hw0) (by omega) (by show _ < 3; omega) (Nat.le_of_ble_eq_true rfl) ?_
            refine ad_ifp_ne 72 dX5_comes_67 (by decide) (fun h67 => ?_) (fun h67 => ?_)
            · skip
              exact mid _ _ (Or.inr h10) (Or.inl (by omega)) h67
            · show ad_R _ _ _ _ 70 _ _ _
              refine ad_iconst dX5_comes_70 ?_
              exact ad_ret0 dX5_comes_71 rfl (by
                have e : ad_t_comes A S i a b = none := by
                  unfold ad_t_comes
                  (repeat' split) <;> first | with_reducible rfl | contradiction | (exfalso; omega) | rfl | (exfalso; simp_all; omega) | (simp_all; done)
                rw [e]
                exact ad_po_no hr0 hw0 hn34 hd30)
      · show ad_R _ _ _ _ 26 _ _ _
        refine ad_iload_n dX5_comes_26 rfl ?_
        refine ad_iconst dX5_comes_27 ?_
        refine ad_icmp_eq 50 dX5_comes_28 (by decide) (by omega) (by omega) (fun h28 => ?_) (fun h28 => ?_)
        · skip
          refine ad_iconst dX5_comes_50 ?_
          refine ad_istore dX5_comes_51 (by decide) rfl (by dsimp only [ad_set]) ?_
          refine ad_iload dX5_comes_53 rfl ?_
          refine ad_if_eq 70 dX5_comes_55 (by decide) (by omega) (fun h55 => ?_) (fun h55 => ?_)
          · skip
            refine ad_iconst dX5_comes_70 ?_
            exact ad_ret0 dX5_comes_71 rfl (by exfalso; omega)
          · show ad_R _ _ _ _ 58 _ _ _
            refine ad_iload dX5_comes_58 rfl ?_
            refine ad_if_eq 70 dX5_comes_60 (by decide) (by omega) (fun h60 => ?_) (fun h60 => ?_)
            · skip
              refine ad_iconst dX5_comes_70 ?_
              exact ad_ret0 dX5_comes_71 rfl (by
                have e : ad_t_comes A S i a b = none := by
                  unfold ad_t_comes
                  (repeat' split) <;> first | with_reducible rfl | contradiction | (exfalso; omega) | rfl | (exfalso; simp_all; omega) | (simp_all; done)
                rw [e]
                exact ad_po_no hr0 hw0 hn34 hd30)
            · show ad_R _ _ _ _ 63 _ _ _
              refine ad_aload_n dX5_comes_63 rfl ?_
              refine ad_cv0f rfl cl_X5_135 dX5_comes_64 (c_X4_hasRoom hs hr0 hw0) (by omega) (by show _ < 3; omega) (Nat.le_of_ble_eq_true rfl) ?_
              refine ad_ifp_ne 72 dX5_comes_67 (by decide) (fun h67 => ?_) (fun h67 => ?_)
              · skip
                exfalso; omega
              · show ad_R _ _ _ _ 70 _ _ _
                refine ad_iconst dX5_comes_70 ?_
                exact ad_ret0 dX5_comes_71 rfl (by exfalso; omega)
        · show ad_R _ _ _ _ 31 _ _ _
          refine ad_iload_n dX5_comes_31 rfl ?_
          refine ad_iload dX5_comes_32 rfl ?_
          refine ad_icmp_eq 50 dX5_comes_34 (by decide) (by omega) (by omega) (fun h34 => ?_) (fun h34 => ?_)
          · skip
            refine ad_iconst dX5_comes_50 ?_
            refine ad_istore dX5_comes_51 (by decide) rfl (by dsimp only [ad_set]) ?_
            refine ad_iload dX5_comes_53 rfl ?_
            refine ad_if_eq 70 dX5_comes_55 (by decide) (by omega) (fun h55 => ?_) (fun h55 => ?_)
            · skip
              refine ad_iconst dX5_comes_70 ?_
              exact ad_ret0 dX5_comes_71 rfl (by exfalso; omega)
            · show ad_R _ _ _ _ 58 _ _ _
              refine ad_iload dX5_comes_58 rfl ?_
              refine ad_if_eq 70 dX5_comes_60 (by decide) (by omega) (fun h60 => ?_) (fun h60 => ?_)
              · skip
                refine ad_iconst dX5_comes_70 ?_
                exact ad_ret0 dX5_comes_71 rfl (by
                  have e : ad_t_comes A S i a b = none := by
                    unfold ad_t_comes
                    (repeat' split) <;> first | with_reducible rfl | contradiction | (exfalso; omega) | rfl | (exfalso; simp_all; omega) | (simp_all; done)
                  rw [e]
                  exact ad_po_no hr0 hw0 hn34 hd30)
              · show ad_R _ _ _ _ 63 _ _ _
                refine ad_aload_n dX5_comes_63 rfl ?_
                refine ad_cv0f rfl cl_X5_135 dX5_comes_64 (c_X4_hasRoom hs hr0 hw0) (by omega) (by show _ < 3; omega) (Nat.le_of_ble_eq_true rfl) ?_
                refine ad_ifp_ne 72 dX5_comes_67 (by decide) (fun h67 => ?_) (fun h67 => ?_)
                · skip
                  exfalso; omega
                · show ad_R _ _ _ _ 70 _ _ _
                  refine ad_iconst dX5_comes_70 ?_
                  exact ad_ret0 dX5_comes_71 rfl (by exfalso; omega)
          · show ad_R _ _ _ _ 37 _ _ _
            refine ad_aload_n dX5_comes_37 rfl ?_
            refine ad_iload dX5_comes_38 rfl ?_
            refine ad_cv1f rfl cl_X5_132 dX5_comes_40 (c_X4_holds hs hr0 hw0 (by omega)) (by omega) (by show _ < 3; omega) (Nat.le_of_ble_eq_true rfl) ?_
            refine ad_ifp_eq 50 dX5_comes_43 (by decide) (fun h43 => ?_) (fun h43 => ?_)
            · skip
              refine ad_iconst dX5_comes_50 ?_
              refine ad_istore dX5_comes_51 (by decide) rfl (by dsimp only [ad_set]) ?_
              refine ad_iload dX5_comes_53 rfl ?_
              refine ad_if_eq 70 dX5_comes_55 (by decide) (by omega) (fun h55 => ?_) (fun h55 => ?_)
              · skip
                refine ad_iconst dX5_comes_70 ?_
                exact ad_ret0 dX5_comes_71 rfl (by exfalso; omega)
              · show ad_R _ _ _ _ 58 _ _ _
                refine ad_iload dX5_comes_58 rfl ?_
                refine ad_if_eq 70 dX5_comes_60 (by decide) (by omega) (fun h60 => ?_) (fun h60 => ?_)
                · skip
                  refine ad_iconst dX5_comes_70 ?_
                  exact ad_ret0 dX5_comes_71 rfl (by
                    have e : ad_t_comes A S i a b = none := by
                      unfold ad_t_comes
                      (repeat' split) <;> first | with_reducible rfl | contradiction | (exfalso; omega) | rfl | (exfalso; simp_all; omega) | (simp_all; done)
                    rw [e]
                    exact ad_po_no hr0 hw0 hn34 hd30)
                · show ad_R _ _ _ _ 63 _ _ _
                  refine ad_aload_n dX5_comes_63 rfl ?_
                  refine ad_cv0f rfl cl_X5_135 dX5_comes_64 (c_X4_hasRoom hs hr0 hw0) (by omega) (by show _ < 3; omega) (Nat.le_of_ble_eq_true rfl) ?_
                  refine ad_ifp_ne 72 dX5_comes_67 (by decide) (fun h67 => ?_) (fun h67 => ?_)
                  · skip
                    exfalso; omega
                  · show ad_R _ _ _ _ 70 _ _ _
                    refine ad_iconst dX5_comes_70 ?_
                    exact ad_ret0 dX5_comes_71 rfl (by exfalso; omega)
            · show ad_R _ _ _ _ 46 _ _ _
              refine ad_iconst dX5_comes_46 ?_
              refine ad_goto 51 dX5_comes_47 (by decide) ?_
              refine ad_istore dX5_comes_51 (by decide) rfl (by dsimp only [ad_set]) ?_
              refine ad_iload dX5_comes_53 rfl ?_
              refine ad_if_eq 70 dX5_comes_55 (by decide) (by omega) (fun h55 => ?_) (fun h55 => ?_)
              · skip
                refine ad_iconst dX5_comes_70 ?_
                exact ad_ret0 dX5_comes_71 rfl (by exfalso; omega)
              · show ad_R _ _ _ _ 58 _ _ _
                refine ad_iload dX5_comes_58 rfl ?_
                refine ad_if_eq 70 dX5_comes_60 (by decide) (by omega) (fun h60 => ?_) (fun h60 => ?_)
                · skip
                  refine ad_iconst dX5_comes_70 ?_
                  exact ad_ret0 dX5_comes_71 rfl (by exfalso; omega)
                · show ad_R _ _ _ _ 63 _ _ _
                  refine ad_aload_n dX5_comes_63 rfl ?_
                  refine ad_cv0f rfl cl_X5_135 dX5_comes_64 (c_X4_hasRoom hs hr0 hw0) (by omega) (by show _ < 3; omega) (Nat.le_of_ble_eq_true rfl) ?_
                  refine ad_ifp_ne 72 dX5_comes_67 (by decide) (fun h67 => ?_) (fun h67 => ?_)
                  · skip
                    exact mid _ _ (Or.inr h10) (Or.inr ⟨by omega, by omega, h43⟩) h67
                  · show ad_R _ _ _ _ 70 _ _ _
                    refine ad_iconst dX5_comes_70 ?_
                    exact ad_ret0 dX5_comes_71 rfl (by
                      have e : ad_t_comes A S i a b = none := by
                        unfold ad_t_comes
                        (repeat' split) <;> first | with_reducible rfl | contradiction | (exfalso; omega) | rfl | (exfalso; simp_all; omega) | (simp_all; done)
                      rw [e]
                      exact ad_po_no hr0 hw0 hn34 hd30)
