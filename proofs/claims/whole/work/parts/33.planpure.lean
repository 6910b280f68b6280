/-! ===== a repacked archive can be; its cost, depth and wholes are the plan's ===== -/
theorem ad_cpl_take : ∀ (l m : List Int), l.take (ad_cpl l m) = m.take (ad_cpl l m)
  | [], m => by rw [ad_cpl_0l]; rfl
  | a :: l, [] => by rw [ad_cpl_0r]; rfl
  | a :: l, b :: m => by
    by_cases h : a = b
    · rw [ad_cpl_s h, List.take_succ_cons, List.take_succ_cons, ad_cpl_take l m, h]
    · rw [ad_cpl_n h]; rfl
theorem ad_bs_val (s t : List Int) : ∀ n, 0 < (ad_bs s t n).1 → (ad_bs s t n).1 = ad_cpl (s.drop (ad_bs s t n).2) t
  | 0 => by simp [ad_bs]
  | n + 1 => by
    unfold ad_bs
    split
    · intro _; rfl
    · exact ad_bs_val s t n
theorem ad_range_getD (s : List Int) (w : Nat) : ∀ m, w + m ≤ s.length → (List.range m).map (fun j => s.getD (w + j) (-1)) = (s.drop w).take m := by
  intro m hm
  apply List.ext_getElem?
  intro i
  by_cases hi : i < m
  · rw [List.getElem?_map, List.getElem?_range hi, List.getElem?_take, if_pos hi, List.getElem?_drop, List.getElem?_eq_getElem (show w + i < s.length by omega)]
    simp [List.getD_eq_getElem?_getD, List.getElem?_eq_getElem (show w + i < s.length by omega)]
  · rw [List.getElem?_eq_none (by simpa using hi), List.getElem?_take, if_neg hi]
theorem ad_dl_ok (s : List Int) : ∀ (n : Nat) (t : List Int), t.length ≤ n → ad_spell s (ad_dl s t) = t ∧ ad_good s (ad_dl s t) := by
  intro n
  induction n with
  | zero => intro t h; cases t with
    | nil => exact ⟨rfl, fun q hq => by cases hq⟩
    | cons x t => simp at h
  | succ n ih => intro t h; cases t with
    | nil => exact ⟨rfl, fun q hq => by cases hq⟩
    | cons x t =>
      simp only [List.length_cons] at h
      by_cases hc : 2 ≤ (ad_bst s (x :: t)).1
      · obtain ⟨i1, i2⟩ := ih ((x :: t).drop (ad_bst s (x :: t)).1) (by rw [List.length_drop]; simp; omega)
        have hin := ad_bs_in s (x :: t) s.length (by show 0 < (ad_bst s (x :: t)).1; omega)
        have hv := ad_bs_val s (x :: t) s.length (by show 0 < (ad_bst s (x :: t)).1; omega)
        change (ad_bst s (x :: t)).1 + (ad_bst s (x :: t)).2 ≤ s.length at hin
        change (ad_bst s (x :: t)).1 = ad_cpl (s.drop (ad_bst s (x :: t)).2) (x :: t) at hv
        rw [ad_dl_copy s x t hc]
        refine ⟨?_, fun q hq => ?_⟩
        · simp only [ad_spell]
          rw [if_neg (by omega), Int.toNat_natCast, Int.toNat_natCast, i1, ad_range_getD s _ _ (by omega)]
          have := ad_cpl_take (s.drop (ad_bst s (x :: t)).2) (x :: t)
          rw [← hv] at this
          rw [this, List.take_append_drop]
        · rcases List.mem_cons.mp hq with rfl | h1
          · right; simp only; omega
          · exact i2 q h1
      · obtain ⟨i1, i2⟩ := ih t (by omega)
        rw [ad_dl_ins s x t hc]
        refine ⟨?_, fun q hq => ?_⟩
        · simp only [ad_spell]
          rw [if_pos trivial, i1]; rfl
        · rcases List.mem_cons.mp hq with rfl | h1
          · left; rfl
          · exact i2 q h1
/-- a rebased archive can be, where the new bases have depths -/
theorem ad_wA_rb {A : ad_Ar} (hw : ad_wA A) {bs : Nat → Int} {dp : Nat → Nat} (h : ∀ v, ad_aH A v = true → 0 ≤ bs v ∧ dp v ≤ 8 ∧ (bs v < 10 → ad_aH A (bs v).toNat = true ∧ dp v = dp (bs v).toNat + 1) ∧ (¬ bs v < 10 → dp v = 0)) : ad_wA (ad_rb A bs) := by
  obtain ⟨w1, w2, w3, w4, w5, w6, w7, w8, w9a, w9b, w9c, w9d⟩ := hw
  unfold ad_rb ad_wA
  simp only [ad_mkC, ad_mkH, ad_mkL, ad_mkP, ad_mkQ, ad_mkG, ad_mkB, ad_mkT, ad_mkE, ad_mkK, ad_mkF, ad_mkN]
  have hB : ∀ v, ad_aH A v = true → (ad_rbB A bs v = -1 ∧ ¬ bs v < 10) ∨ (ad_rbB A bs v = bs v ∧ bs v < 10 ∧ 0 ≤ bs v) := fun v hv => by
    unfold ad_rbB
    by_cases hz : bs v < 10
    · right; rw [if_pos ⟨hv, hz⟩]; exact ⟨rfl, hz, (h v hv).1⟩
    · left; rw [if_neg (fun q => hz q.2)]; exact ⟨rfl, hz⟩
  refine ⟨w1, w2, w3, w4, fun v hv => ⟨?_, fun hb => ?_⟩, ⟨dp, fun v hv => ?_⟩, w7, w8, fun v hv => ⟨(w9a v hv).1, (w9a v hv).2.1, by unfold ad_rbB; rw [if_neg (fun q => by rw [q.1] at hv; cases hv)]⟩, w9b, fun v hv => by rw [if_pos hv], w9d⟩
  · rcases hB v hv with h1 | h1 <;> omega
  · rcases hB v hv with h1 | h1
    · exact absurd h1.1 hb
    · have h2 := (h v hv).2.2.1 h1.2.1
      rw [if_neg hb, h1.1]
      have h3 := ad_dl_ok (ad_aL A (bs v).toNat) _ (ad_aL A v) (Nat.le_refl _)
      exact ⟨h1.2.1, h2.1, h3.1.symm, h3.2⟩
  · have h4 := h v hv
    rcases hB v hv with h1 | h1
    · exact ⟨h4.2.1, fun _ => h4.2.2.2 h1.2, fun q => absurd h1.1 q⟩
    · exact ⟨h4.2.1, fun q => by omega, fun q => by rw [h1.1]; exact (h4.2.2.1 h1.2.1).2⟩
section adplan
variable {A : ad_Ar} {k f b : Int} {l : List Nat}
/-- what a placed one has stays -/
theorem ad_pl_step (i : Nat) : ∃ (x y : Int), (ad_pl A k f b l (i + 1)).1 = ad_u1 (ad_pl A k f b l i).1 (l.getD i 0) x ∧ (ad_pl A k f b l (i + 1)).2.1 = ad_u1 (ad_pl A k f b l i).2.1 (l.getD i 0) y ∧
    ((x = 10 ∧ y = 0 ∧ (ad_pl A k f b l (i + 1)).2.2.1 = (ad_pl A k f b l i).2.2.1 + ad_wc A (l.getD i 0) ∧ (ad_pl A k f b l (i + 1)).2.2.2.1 = max (ad_pl A k f b l i).2.2.2.1 0 ∧ (ad_pl A k f b l (i + 1)).2.2.2.2 = (ad_pl A k f b l i).2.2.2.2 + 1) ∨
     (∃ q, q < i ∧ x = (l.getD q 0 : Int) ∧ y = (ad_pl A k f b l i).2.1 (l.getD q 0) + 1 ∧ (ad_pl A k f b l i).2.1 (l.getD q 0) < b ∧ (ad_pl A k f b l (i + 1)).2.2.1 = (ad_pl A k f b l i).2.2.1 + ad_c2 A (l.getD q 0) (l.getD i 0) ∧ (ad_pl A k f b l (i + 1)).2.2.2.1 = max (ad_pl A k f b l i).2.2.2.1 y ∧ (ad_pl A k f b l (i + 1)).2.2.2.2 = (ad_pl A k f b l i).2.2.2.2)) := by
  have hpk := ad_pk_in A k f b l (ad_pl A k f b l i).2.1 i i
  rw [ad_pl]
  by_cases hc : (ad_pk A k f b l (ad_pl A k f b l i).2.1 i i).1 ≠ -1 ∧ (ad_pk A k f b l (ad_pl A k f b l i).2.1 i i).2 ≤ ad_wc A (l.getD i 0) - ad_sav k f
  · rw [if_pos hc]
    rcases hpk with hp | ⟨q, q1, q2, q3, q4⟩
    · rw [hp] at hc; exact absurd rfl hc.1
    · refine ⟨_, _, rfl, rfl, Or.inr ⟨q, q1, q2, ?_, q3, ?_, ?_, rfl⟩⟩
      · rw [q2, Int.toNat_natCast]
      · dsimp only; rw [q4]
      · rfl
  · rw [if_neg hc]
    exact ⟨_, _, rfl, rfl, Or.inl ⟨rfl, rfl, rfl, rfl, rfl⟩⟩
theorem ad_pl_keep (hn : l.Nodup) : ∀ (m i q : Nat), q < i → i + m ≤ l.length → (ad_pl A k f b l (i + m)).1 (l.getD q 0) = (ad_pl A k f b l i).1 (l.getD q 0) ∧ (ad_pl A k f b l (i + m)).2.1 (l.getD q 0) = (ad_pl A k f b l i).2.1 (l.getD q 0)
  | 0, _, _, _, _ => ⟨rfl, rfl⟩
  | m + 1, i, q, hq, hm => by
    obtain ⟨x, y, h1, h2, -⟩ := ad_pl_step (A := A) (k := k) (f := f) (b := b) (l := l) (i + m)
    have ih := ad_pl_keep hn m i q hq (by omega)
    have hne : l.getD q 0 ≠ l.getD (i + m) 0 := fun z => by have := ad_getD_inj hn (by omega) (by omega) z; omega
    show (ad_pl A k f b l (i + m + 1)).1 _ = _ ∧ (ad_pl A k f b l (i + m + 1)).2.1 _ = _
    rw [h1, h2]
    unfold ad_u1
    rw [if_neg hne, if_neg hne]
    exact ih
/-- what the whole plan says of the i-th -/
theorem ad_pl_fin (hn : l.Nodup) {i : Nat} (hi : i < l.length) : ((ad_pl A k f b l l.length).1 (l.getD i 0) = 10 ∧ (ad_pl A k f b l l.length).2.1 (l.getD i 0) = 0) ∨
    ∃ q, q < i ∧ (ad_pl A k f b l l.length).1 (l.getD i 0) = (l.getD q 0 : Int) ∧ (ad_pl A k f b l l.length).2.1 (l.getD i 0) = (ad_pl A k f b l l.length).2.1 (l.getD q 0) + 1 := by
  obtain ⟨x, y, h1, h2, h3⟩ := ad_pl_step (A := A) (k := k) (f := f) (b := b) (l := l) i
  have hk := ad_pl_keep (A := A) (k := k) (f := f) (b := b) hn (l.length - (i + 1)) (i + 1) i (by omega) (by omega)
  rw [show i + 1 + (l.length - (i + 1)) = l.length by omega, h1, h2] at hk
  unfold ad_u1 at hk
  rw [if_pos rfl, if_pos rfl] at hk
  rcases h3 with ⟨rfl, rfl, -⟩ | ⟨q, q1, rfl, rfl, -⟩
  · exact Or.inl hk
  · refine Or.inr ⟨q, q1, hk.1, ?_⟩
    have hk2 := ad_pl_keep (A := A) (k := k) (f := f) (b := b) hn (l.length - i) i q q1 (by omega)
    rw [show i + (l.length - i) = l.length by omega] at hk2
    rw [hk.2, hk2.2]
end adplan
/-- the repack of A by a repacker: bases, and the archive -/
def ad_pln (A : ad_Ar) (k f b : Int) := ad_pl A k f b (ad_ordL A k) (ad_ordL A k).length
def ad_rpk (A : ad_Ar) (k f b : Int) : ad_Ar := ad_rb A (ad_pln A k f b).1
theorem ad_ordL_pos {A : ad_Ar} (hw : ad_wA A) {k : Int} {v : Nat} (hv : ad_aH A v = true) : ∃ i, i < (ad_ordL A k).length ∧ (ad_ordL A k).getD i 0 = v := by
  have hm : v ∈ ad_ordL A k := (ad_ord_mem 10 v).mpr ⟨by have := hw.2.1 v hv; have := hw.1; omega, hv⟩
  obtain ⟨i, hi⟩ := List.getElem?_of_mem hm
  exact ⟨i, (List.getElem?_eq_some_iff.mp hi).1, by rw [List.getD_eq_getElem?_getD, hi]; rfl⟩
theorem ad_pln_facts {A : ad_Ar} (hw : ad_wA A) {k f b : Int} (hf : 0 ≤ f) (hb : 0 ≤ b ∧ b ≤ 8) {v : Nat} (hv : ad_aH A v = true) : 0 ≤ (ad_pln A k f b).1 v ∧ (ad_pln A k f b).1 v ≤ 10 ∧ (0 ≤ (ad_pln A k f b).2.1 v ∧ (ad_pln A k f b).2.1 v ≤ 8) ∧
    ((ad_pln A k f b).1 v < 10 → ad_aH A ((ad_pln A k f b).1 v).toNat = true ∧ ((ad_pln A k f b).1 v).toNat ≠ v ∧ (ad_pln A k f b).2.1 v = (ad_pln A k f b).2.1 ((ad_pln A k f b).1 v).toNat + 1) ∧ (¬ (ad_pln A k f b).1 v < 10 → (ad_pln A k f b).1 v = 10 ∧ (ad_pln A k f b).2.1 v = 0) := by
  obtain ⟨i, hi, rfl⟩ := ad_ordL_pos hw (k := k) hv
  have hn : (ad_ordL A k).Nodup := ad_ord_nodup 10
  have hr := ad_pl_rng hw (k := k) hb ad_ordL_in hf (ad_ordL A k).length (Nat.le_refl _)
  have h2 := hr.2.1 ((ad_ordL A k).getD i 0)
  rcases ad_pl_fin (A := A) (k := k) (f := f) (b := b) hn hi with ⟨h3, h4⟩ | ⟨q, h5, h6, h7⟩
  · unfold ad_pln
    rw [h3]
    refine ⟨by decide, by decide, h2, fun z => absurd z (by decide), fun _ => ⟨rfl, h4⟩⟩
  · have hq := ad_ordL_in _ (ad_getD_mem (show q < (ad_ordL A k).length by omega))
    unfold ad_pln
    rw [h6, Int.toNat_natCast]
    refine ⟨by omega, by omega, h2, fun _ => ⟨hq.2, fun z => ?_, h7⟩, fun z => absurd (show (((ad_ordL A k).getD q 0 : Nat) : Int) < 10 by omega) z⟩
    have := ad_getD_inj hn (by omega) hi z; omega
theorem ad_wA_rpk {A : ad_Ar} (hw : ad_wA A) {k f b : Int} (hf : 0 ≤ f) (hb : 0 ≤ b ∧ b ≤ 8) : ad_wA (ad_rpk A k f b) := by
  refine ad_wA_rb hw (dp := fun v => ((ad_pln A k f b).2.1 v).toNat) (fun v hv => ?_)
  have h := ad_pln_facts hw (k := k) hf hb hv
  refine ⟨h.1, by omega, fun hz => ?_, fun hz => ?_⟩
  · have h2 := h.2.2.2.1 hz
    have h3 := (ad_pln_facts hw (k := k) hf hb h2.1).2.2.1
    exact ⟨h2.1, by omega⟩
  · have := (h.2.2.2.2 hz).2; omega
theorem ad_rpk_B {A : ad_Ar} {k f b : Int} {v : Nat} (hv : ad_aH A v = true) : ad_aB (ad_rpk A k f b) v = if (ad_pln A k f b).1 v < 10 then (ad_pln A k f b).1 v else -1 := by
  show ad_rbB A (ad_pln A k f b).1 v = _
  unfold ad_rbB
  by_cases hz : (ad_pln A k f b).1 v < 10
  · rw [if_pos ⟨hv, hz⟩, if_pos hz]
  · rw [if_neg (fun q => hz q.2), if_neg hz]
/-- the cost of one repacked, its depth -/
theorem ad_rpk_cst {A : ad_Ar} (hw : ad_wA A) {k f b : Int} (hf : 0 ≤ f) (hb : 0 ≤ b ∧ b ≤ 8) {v : Nat} (hv : ad_aH A v = true) : ad_cst (ad_rpk A k f b) v = if (ad_pln A k f b).1 v < 10 then ad_c2 A ((ad_pln A k f b).1 v).toNat v else ad_wc A v := by
  have h := ad_pln_facts hw (k := k) hf hb hv
  have hB := ad_rpk_B (k := k) (f := f) (b := b) hv
  unfold ad_cst
  by_cases hz : (ad_pln A k f b).1 v < 10
  · rw [if_pos hz] at hB ⊢
    rw [hB, if_neg (by omega)]
    show ad_dc (if ad_rbB A (ad_pln A k f b).1 v = -1 then [] else ad_dl (ad_aL A (ad_rbB A (ad_pln A k f b).1 v).toNat) (ad_aL A v)) = _
    have hB2 : ad_rbB A (ad_pln A k f b).1 v = (ad_pln A k f b).1 v := hB
    rw [hB2, if_neg (by omega)]
    rfl
  · rw [if_neg hz] at hB ⊢
    rw [hB, if_pos rfl]
    rfl
theorem ad_rpk_dep {A : ad_Ar} (hw : ad_wA A) {k f b : Int} (hf : 0 ≤ f) (hb : 0 ≤ b ∧ b ≤ 8) : ∀ (n v : Nat), ad_aH A v = true → (ad_pln A k f b).2.1 v ≤ n → (ad_dep (ad_rpk A k f b) v : Int) = (ad_pln A k f b).2.1 v := by
  have hwr := ad_wA_rpk hw (k := k) hf hb
  intro n
  induction n with
  | zero =>
    intro v hv hn
    have h := ad_pln_facts hw (k := k) hf hb hv
    have hd := ad_dep_facts hwr (v := v) hv
    have hB := ad_rpk_B (k := k) (f := f) (b := b) hv
    by_cases hz : (ad_pln A k f b).1 v < 10
    · have h2 := h.2.2.2.1 hz
      have h3 := (ad_pln_facts hw (k := k) hf hb h2.1).2.2.1
      omega
    · rw [if_neg hz] at hB
      have := hd.2.2.1 hB
      have := (h.2.2.2.2 hz).2
      omega
  | succ n ih =>
    intro v hv hn
    have h := ad_pln_facts hw (k := k) hf hb hv
    have hd := ad_dep_facts hwr (v := v) hv
    have hB := ad_rpk_B (k := k) (f := f) (b := b) hv
    by_cases hz : (ad_pln A k f b).1 v < 10
    · have h2 := h.2.2.2.1 hz
      rw [if_pos hz] at hB
      have h4 := hd.2.2.2 (by rw [hB]; omega)
      rw [hB] at h4
      have h5 := ih _ h2.1 (by omega)
      omega
    · rw [if_neg hz] at hB
      have := hd.2.2.1 hB
      have := (h.2.2.2.2 hz).2
      omega
