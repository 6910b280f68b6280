/-! ===== the plan's sums ===== -/
theorem ad_sm_congr {f g : Nat → Int} : ∀ n, (∀ i, i < n → f i = g i) → ad_sm f n = ad_sm g n
  | 0, _ => rfl
  | n + 1, h => by rw [ad_sm, ad_sm, ad_sm_congr n (fun i hi => h i (by omega)), h n (by omega)]
theorem ad_sm_one {f : Nat → Int} {p : Nat → Bool} {a : Nat} (ha : p a = false) : ∀ n, ad_sm (fun u => if (p u || u == a) = true then f u else 0) n = ad_sm (fun u => if p u = true then f u else 0) n + if a < n then f a else 0
  | 0 => rfl
  | n + 1 => by
    rw [ad_sm, ad_sm, ad_sm_one ha n]
    by_cases hn : n = a
    · subst hn
      rw [ha]; simp
    · have : (n == a) = false := by simpa using hn
      rw [this, Bool.or_false]
      by_cases h1 : a < n
      · rw [if_pos h1, if_pos (show a < n + 1 by omega)]; omega
      · rw [if_neg h1, if_neg (show ¬ a < n + 1 by omega)]; omega
theorem ad_sm_list {f : Nat → Int} : ∀ (l : List Nat), l.Nodup → (∀ a ∈ l, a < 10) → ad_sm (fun u => if l.contains u = true then f u else 0) 10 = (l.map f).sum
  | [], _, _ => by
    have : ad_sm (fun u => if ([] : List Nat).contains u = true then f u else 0) 10 = ad_sm (fun _ => 0) 10 := ad_sm_congr 10 (fun i _ => by simp)
    have h0 : ad_sm (fun _ => 0) 10 = 0 := by decide
    rw [this, h0, List.map_nil, List.sum_nil]
  | a :: l, hn, hl => by
    have h1 := List.nodup_cons.mp hn
    have ih := ad_sm_list (f := f) l h1.2 (fun b hb => hl b (List.mem_cons_of_mem _ hb))
    have h2 : ad_sm (fun u => if (a :: l).contains u = true then f u else 0) 10 = ad_sm (fun u => if (l.contains u || u == a) = true then f u else 0) 10 := ad_sm_congr 10 (fun u _ => by rw [List.contains_cons, Bool.or_comm])
    rw [h2, ad_sm_one (by simpa using h1.1) 10, ih, if_pos (hl a List.mem_cons_self), List.map_cons, List.sum_cons]
    omega
theorem ad_ordL_has {A : ad_Ar} (hw : ad_wA A) (k : Int) (u : Nat) : (ad_ordL A k).contains u = ad_aH A u := by
  by_cases h : ad_aH A u = true
  · rw [h]
    have : u ∈ ad_ordL A k := (ad_ord_mem 10 u).mpr ⟨by have := hw.2.1 u h; have := hw.1; omega, h⟩
    simpa using this
  · rw [Bool.eq_false_iff.mpr h]
    have : ¬ u ∈ ad_ordL A k := fun z => h ((ad_ord_mem 10 u).mp z).2
    simpa using this
theorem ad_take_s (l : List Nat) (i : Nat) (hi : i < l.length) (f : Nat → Int) : ((l.take (i + 1)).map f).sum = ((l.take i).map f).sum + f (l.getD i 0) := by
  have h1 : l.take (i + 1) = l.take i ++ [l.getD i 0] := by
    rw [List.take_succ, List.getElem?_eq_getElem hi, List.getD_eq_getElem?_getD, List.getElem?_eq_getElem hi]; rfl
  rw [h1, List.map_append, List.sum_append, List.map_cons, List.map_nil, List.sum_cons, List.sum_nil]; omega
theorem ad_pln_sums {A : ad_Ar} (hw : ad_wA A) {k f b : Int} (hf : 0 ≤ f) (hb : 0 ≤ b ∧ b ≤ 8) : ∀ i, i ≤ (ad_ordL A k).length →
    (ad_pl A k f b (ad_ordL A k) i).2.2.1 = (((ad_ordL A k).take i).map (ad_cst (ad_rpk A k f b))).sum ∧
    (ad_pl A k f b (ad_ordL A k) i).2.2.2.2 = (((ad_ordL A k).take i).map (fun u => if ad_aB (ad_rpk A k f b) u = -1 then 1 else 0)).sum ∧
    ((0 ≤ (ad_pl A k f b (ad_ordL A k) i).2.2.2.1 ∧ ∀ q, q < i → (ad_pln A k f b).2.1 ((ad_ordL A k).getD q 0) ≤ (ad_pl A k f b (ad_ordL A k) i).2.2.2.1) ∧ ((ad_pl A k f b (ad_ordL A k) i).2.2.2.1 = 0 ∨ ∃ q, q < i ∧ (ad_pln A k f b).2.1 ((ad_ordL A k).getD q 0) = (ad_pl A k f b (ad_ordL A k) i).2.2.2.1))
  | 0, _ => by
    refine ⟨rfl, rfl, ⟨Int.le_refl 0, fun q hq => absurd hq (Nat.not_lt_zero _)⟩, Or.inl rfl⟩
  | i + 1, hi => by
    obtain ⟨i1, i2, ⟨i3a, i3⟩, i4⟩ := ad_pln_sums hw (k := k) hf hb i (by omega)
    have hn : (ad_ordL A k).Nodup := ad_ord_nodup 10
    have hli : i < (ad_ordL A k).length := by omega
    have hm := ad_ordL_in _ (ad_getD_mem hli)
    obtain ⟨x, y, s1, s2, s3⟩ := ad_pl_step (A := A) (k := k) (f := f) (b := b) (l := ad_ordL A k) i
    have hk := ad_pl_keep (A := A) (k := k) (f := f) (b := b) hn ((ad_ordL A k).length - (i + 1)) (i + 1) i (by omega) (by omega)
    rw [show i + 1 + ((ad_ordL A k).length - (i + 1)) = (ad_ordL A k).length by omega, s1, s2] at hk
    unfold ad_u1 at hk
    rw [if_pos rfl, if_pos rfl] at hk
    have hx : (ad_pln A k f b).1 ((ad_ordL A k).getD i 0) = x := hk.1
    have hy : (ad_pln A k f b).2.1 ((ad_ordL A k).getD i 0) = y := hk.2
    have hc := ad_rpk_cst hw (k := k) hf hb hm.2
    have hB := ad_rpk_B (k := k) (f := f) (b := b) hm.2
    rw [ad_take_s _ i hli, ad_take_s _ i hli, ← i1, ← i2, hc]
    rw [hB, hx]
    have hmx : ∀ z : Int, (ad_pl A k f b (ad_ordL A k) (i + 1)).2.2.2.1 = max (ad_pl A k f b (ad_ordL A k) i).2.2.2.1 z → z = y → 0 ≤ y → ((0 ≤ (ad_pl A k f b (ad_ordL A k) (i + 1)).2.2.2.1 ∧ ∀ q, q < i + 1 → (ad_pln A k f b).2.1 ((ad_ordL A k).getD q 0) ≤ (ad_pl A k f b (ad_ordL A k) (i + 1)).2.2.2.1) ∧ ((ad_pl A k f b (ad_ordL A k) (i + 1)).2.2.2.1 = 0 ∨ ∃ q, q < i + 1 ∧ (ad_pln A k f b).2.1 ((ad_ordL A k).getD q 0) = (ad_pl A k f b (ad_ordL A k) (i + 1)).2.2.2.1)) := by
      intro z hz hzy hy0
      rw [hz, hzy]
      refine ⟨⟨by omega, fun q hq => ?_⟩, ?_⟩
      · by_cases hqi : q = i
        · rw [hqi, hy]; omega
        · have := i3 q (by omega); omega
      · by_cases hge : (ad_pl A k f b (ad_ordL A k) i).2.2.2.1 ≤ y
        · right; exact ⟨i, by omega, by rw [hy]; omega⟩
        · rcases i4 with h | ⟨q, h1, h2⟩
          · omega
          · right; exact ⟨q, by omega, by rw [h2]; omega⟩
    have hfy := (ad_pln_facts hw (k := k) (f := f) (b := b) hf hb hm.2).2.2.1
    rw [hy] at hfy
    rcases s3 with ⟨rfl, rfl, s4, s5, s6⟩ | ⟨q, q1, rfl, s3a, s3b, s4, s5, s6⟩
    · refine ⟨by rw [s4, if_neg (by decide)], by rw [s6]; rfl, hmx 0 s5 rfl (by omega)⟩
    · have hq := ad_ordL_in _ (ad_getD_mem (show q < (ad_ordL A k).length by omega))
      have hlt : ((ad_ordL A k).getD q 0 : Int) < 10 := by omega
      refine ⟨by rw [s4, if_pos hlt, Int.toNat_natCast], ?_, hmx y s5 rfl hfy.1⟩
      rw [s6, if_pos hlt, if_neg (show ¬ ((ad_ordL A k).getD q 0 : Int) = -1 by omega)]; omega
theorem ad_mx_char {f : Nat → Int} {m : Int} : ∀ {n : Nat}, 0 ≤ m → (∀ i, i < n → f i ≤ m) → (m = 0 ∨ ∃ i, i < n ∧ f i = m) → ad_mx f n = m := by
  have ge : ∀ n i, i < n → f i ≤ ad_mx f n := by
    intro n
    induction n with
    | zero => intro i h; omega
    | succ n ih =>
      intro i h
      rw [ad_mx]
      by_cases hi : i = n
      · subst hi; omega
      · have := ih i (by omega); omega
  have le : ∀ n, 0 ≤ m → (∀ i, i < n → f i ≤ m) → ad_mx f n ≤ m := by
    intro n
    induction n with
    | zero => intro h _; exact h
    | succ n ih =>
      intro h0 h
      have h1 := ih h0 (fun i hi => h i (by omega))
      have h2 := h n (by omega)
      rw [ad_mx]; omega
  intro n h0 h1 h2
  have a := le n h0 h1
  rcases h2 with h | ⟨i, hi, rfl⟩
  · have := ad_mx_0 f n; omega
  · have := ge n i hi; omega
theorem ad_pp_sm (p : Nat → Bool) : ∀ n, ((ad_pp p n : Nat) : Int) = ad_sm (fun u => if p u = true then 1 else 0) n
  | 0 => rfl
  | n + 1 => by
    rw [ad_pp, ad_sm, ← ad_pp_sm p n]
    by_cases h : p n = true
    · rw [if_pos h, if_pos h]; omega
    · rw [if_neg h, if_neg h]; omega
/-- cost, greatest depth, wholes of the plan are those of the repacked archive -/
theorem ad_pln_all {A : ad_Ar} (hw : ad_wA A) {k f b : Int} (hf : 0 ≤ f) (hb : 0 ≤ b ∧ b ≤ 8) : (ad_pln A k f b).2.2.1 = ad_all (ad_rpk A k f b) ∧ (ad_pln A k f b).2.2.2.1 = ad_deep (ad_rpk A k f b) ∧ (ad_pln A k f b).2.2.2.2 = (ad_pp (ad_whl (ad_rpk A k f b)) 10 : Nat) := by
  obtain ⟨i1, i2, ⟨i3a, i3⟩, i4⟩ := ad_pln_sums hw (k := k) hf hb (ad_ordL A k).length (Nat.le_refl _)
  rw [List.take_length] at i1 i2
  have hn : (ad_ordL A k).Nodup := ad_ord_nodup 10
  have hl10 : ∀ a ∈ ad_ordL A k, a < 10 := fun a ha => (ad_ordL_in a ha).1
  refine ⟨?_, ?_, ?_⟩
  · show (ad_pl A k f b (ad_ordL A k) (ad_ordL A k).length).2.2.1 = _
    rw [i1, ← ad_sm_list _ hn hl10]
    exact ad_sm_congr 10 (fun u _ => by rw [ad_ordL_has hw]; rfl)
  · show (ad_pl A k f b (ad_ordL A k) (ad_ordL A k).length).2.2.2.1 = _
    refine (ad_mx_char i3a (fun u hu => ?_) ?_).symm
    · unfold ad_depH
      by_cases hH : ad_aH A u = true
      · rw [if_pos (show ad_aH (ad_rpk A k f b) u = true from hH), ad_rpk_dep hw hf hb 8 u hH (ad_pln_facts hw (k := k) hf hb hH).2.2.1.2]
        obtain ⟨i, hi, rfl⟩ := ad_ordL_pos hw (k := k) hH
        exact i3 i hi
      · rw [if_neg (show ¬ ad_aH (ad_rpk A k f b) u = true from hH)]; exact i3a
    · rcases i4 with h | ⟨q, h1, h2⟩
      · exact Or.inl h
      · have hq := ad_ordL_in _ (ad_getD_mem h1)
        right
        refine ⟨_, hq.1, ?_⟩
        unfold ad_depH
        rw [if_pos (show ad_aH (ad_rpk A k f b) _ = true from hq.2), ad_rpk_dep hw hf hb 8 _ hq.2 (ad_pln_facts hw (k := k) hf hb hq.2).2.2.1.2]
        exact h2
  · show (ad_pl A k f b (ad_ordL A k) (ad_ordL A k).length).2.2.2.2 = _
    rw [i2, ← ad_sm_list _ hn hl10, ad_pp_sm]
    refine ad_sm_congr 10 (fun u _ => ?_)
    rw [ad_ordL_has hw]
    unfold ad_whl
    show _ = if (ad_aH A u && decide (ad_aB (ad_rpk A k f b) u = -1)) = true then 1 else 0
    by_cases hH : ad_aH A u = true
    · rw [if_pos hH, hH, Bool.true_and]
      by_cases hz : ad_aB (ad_rpk A k f b) u = -1
      · rw [if_pos hz, if_pos (decide_eq_true hz)]
      · rw [if_neg hz, if_neg (by rw [decide_eq_false hz]; decide)]
    · rw [if_neg hH, Bool.eq_false_iff.mpr hH]; rfl
