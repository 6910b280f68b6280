/-! ===== what is made is the memory sg0 ===== -/
theorem nb_tc : ckeys.all (fun q => (tgts q).all (fun t => t.1 != 8 && decide (t.1 < 21))) = true := by decide +kernel
theorem nb_tm : mkeys.all (fun q => (tgts q).all (fun t => t.1 == 8 || decide (21 ≤ t.1))) = true := by decide +kernel
theorem law_world {l : Launch} {D : va_G} {cI cV : ClassId} {h7 h8 : Nat} {w7 w8 : va_W} {A : Nat → Prop} {H : Heap} (fS fB : Nat → Nat) (hB7 : nb_B2 l D cI cV ckeys 7 0 h7 w7) (hB8 : nb_B l D cI cV mkeys 8 0 h8 w8) (hP : va_P D vwCl (w7 ++ w8) H) (hD : va_D A (w7 ++ w8)) :
    ∃ ad : Nat → Nat → Nat, ad 7 0 = h7 ∧ ad 8 0 = h8 ∧ (∀ k i, i < ad_cnt k → A (ad k i)) ∧ ad_Inj (l, ad, D, (cI, cV), fS, fB) ∧ va_P D vwCl (ad_ws (l, ad, D, (cI, cV), fS, fB) sg0) H := by
  obtain ⟨a7, e7, f7, g7⟩ := hB7
  obtain ⟨a8, e8, rfl⟩ := hB8
  obtain ⟨hP7, hP8⟩ := va_P_app hP
  have g7 := g7 H hP7
  obtain ⟨ad, hc, hm⟩ : ∃ ad : Nat → Nat → Nat, (∀ k i, k ≠ 8 → k < 21 → ad k i = a7 k i) ∧ (∀ k i, (k = 8 ∨ 21 ≤ k) → ad k i = a8 k i) := ⟨fun k i => if k = 8 ∨ 21 ≤ k then a8 k i else a7 k i, fun k i h1 h2 => if_neg (by omega), fun k i h => if_pos h⟩
  have tc : ∀ q ∈ ckeys, ∀ t ∈ tgts q, ad t.1 t.2 = a7 t.1 t.2 := fun q hq t ht => by
    have := List.all_eq_true.mp (List.all_eq_true.mp nb_tc q hq) t ht
    simp at this
    exact hc _ _ this.1 this.2
  have tm : ∀ q ∈ mkeys, ∀ t ∈ tgts q, ad t.1 t.2 = a8 t.1 t.2 := fun q hq t ht => by
    have := List.all_eq_true.mp (List.all_eq_true.mp nb_tm q hq) t ht
    simp at this
    exact hm _ _ this
  obtain ⟨f8, g8⟩ := nb_part (l := l) (D := D) (cI := cI) (cV := cV) tm
  have hat : ∀ q ∈ ckeys ++ mkeys, va_at D vwCl (nb_e l D cI cV ad q) H := fun q hq => by
    rcases List.mem_append.mp hq with h | h
    · exact nb_at_congr (tc q h) (g7 q h)
    · exact g8 H hP8 q h
  have hfst : (w7 ++ mkeys.map (nb_e l D cI cV a8)).map Prod.fst = (ckeys ++ mkeys).map (fun q => ad q.1 q.2) := by
    rw [List.map_append, List.map_append, f7, f8]
    congr 1
    exact List.map_congr_left (fun q hq => (tc q hq q List.mem_cons_self).symm)
  have hpos : ∀ q ∈ ckeys ++ mkeys, ∃ (i : Nat) (e : va_E), (ckeys ++ mkeys)[i]? = some q ∧ (w7 ++ mkeys.map (nb_e l D cI cV a8))[i]? = some (ad q.1 q.2, e) := fun q hq => by
    obtain ⟨i, hi⟩ := List.getElem?_of_mem hq
    have h1 : ((w7 ++ mkeys.map (nb_e l D cI cV a8)).map Prod.fst)[i]? = some (ad q.1 q.2) := by rw [hfst, List.getElem?_map, hi]; rfl
    rw [List.getElem?_map] at h1
    cases hx : (w7 ++ mkeys.map (nb_e l D cI cV a8))[i]? with
    | none => rw [hx] at h1; cases h1
    | some p =>
      rw [hx] at h1
      have h2 : p.1 = ad q.1 q.2 := Option.some.inj h1
      exact ⟨i, p.2, hi, by rw [hx, ← h2]⟩
  refine ⟨ad, (hc 7 0 (by decide) (by decide)).trans e7, (hm 8 0 (by decide)).trans e8, fun k i h => ?_, fun k i k' i' h h' he => ?_, fun n q hn => ?_⟩
  · obtain ⟨j, e, _, h2⟩ := hpos (k, i) (nb_cover_in h)
    exact hD.2 j _ h2
  · obtain ⟨j, e, h1, h2⟩ := hpos (k, i) (nb_cover_in h)
    obtain ⟨j', e', h1', h2'⟩ := hpos (k', i') (nb_cover_in h')
    have hj := hD.1 j j' _ _ h2 h2' he
    subst hj
    have hq : (k, i) = (k', i') := Option.some.inj (h1.symm.trans h1')
    exact Prod.mk.inj hq
  · unfold ad_ws at hn
    rw [List.getElem?_map] at hn
    cases hx : ad_cells[n]? with
    | none => rw [hx] at hn; cases hn
    | some r =>
      rw [hx] at hn
      have hr := Option.some.inj hn
      subst hr
      obtain ⟨k, i⟩ := r
      exact hat (k, i) (nb_cover_in (ad_mem.mp (List.mem_of_getElem? hx)))
