/-! ===== from the entry to the end ===== -/
theorem whole_start {p : Program} {e : Env} {s : State} {m : MethodId} {below : List Frame} {meth : Method} {c : Code} (l : Launch) (hflags : l.flags = flags0) {b L : Nat} {xs : Nat → Int32} (hL : L ≤ 2048) (C0 : lw_At p s m meth c b L xs) : W p l e room_1 s m #[Value.ref b] below meth c s.heap [] 0 0 (lw_Z below #[Value.ref b] s) (entryFrame m ([Value.ref b] : List Value).toArray 4) := by
  obtain ⟨hx, hb, hr, hml, hown, hts, hX, hbl, hlocks, hgv⟩ := id C0
  have hin : ∀ w ∈ ad_TB, w.before #[Value.ref b] s = true := fun w h => hts w (List.mem_filter.mp h).1
  have hA : ∀ a : Nat, a < s.heap.size → ¬ s.heap.size ≤ a := fun a h => Nat.not_le.mpr h
  obtain ⟨D, cI, cV, hK⟩ := wk_K hts
  have hAO : va_AO RX6 s := va_AO.of (hts _ (List.mem_of_getElem? wk_w6))
  obtain ⟨fS, fB, hStr, hRef⟩ := wk_S (A := fun q => s.heap.size ≤ q) hgv hts hA
  obtain ⟨hNw, hZ1, hZ2⟩ := wk_X (A := fun q => s.heap.size ≤ q) hgv hts hA
  have hl := lv_entry ([.ref b]) (n := 4) (Nat.le_of_ble_eq_true rfl)
  rw [lg_entry_eq]
  generalize (lg_sl ([.ref b]) ++ List.replicate (4 - (lg_sl ([.ref b])).length) Slot.unset).toArray = ls at hl ⊢
  have hl0 : ad_ls ls 4 [some (.ref b), none, none, none] := ⟨hl.1, hl.2.1, fun i v h => hl.2.2 (i, v) (by
    have h1 := ad_entL [.ref b] (by simp [Value.category]) 3 0 i v h
    rwa [Nat.zero_add] at h1)⟩
  refine law_make (l := l) (D := D) (cI := cI) (cV := cV) (d := 100) (b := b) (A := fun q => s.heap.size ≤ q) (by omega) p e room_1 s m #[Value.ref b] below meth c (lw_Z below #[Value.ref b] s) ⟨hx, hb, hml, hown, hin, hK, fun h => absurd h (by decide), ⟨hlocks, hAO⟩, hr, ⟨Nat.le_of_ble_eq_true rfl, Nat.le_of_ble_eq_true rfl⟩, ⟨Nat.le_of_ble_eq_true rfl, Nat.le_of_ble_eq_true rfl⟩, fun q h => h⟩ ?_ s.heap [] ls (fun k q h => by simp at h) ⟨fun i j p q h => by simp at h, fun k q h => by simp at h⟩ va_S.rf hl0
  intro pc' L' S' ws' k' n' H' locs' ls' hZ hP hD hS hl'
  obtain ⟨rfl, rfl, ⟨hk, hn⟩, h7, h8, w7, w8, rfl, rfl, hB7, hB8⟩ := hZ
  obtain ⟨ad, e7, e8, hAd, hInj, hPw⟩ := law_world fS fB hB7 hB8 hP hD
  rw [← e7, ← e8] at hl'
  refine W.widen hk hn (va_forget hS.2.2 ?_)
  have hgA : ∀ q, ad_A (l, ad, D, (cI, cV), fS, fB) q → s.heap.size ≤ q := fun q h => by
    obtain ⟨k, i, h1, h2⟩ := h
    rw [h2]
    exact hAd k i h1
  have hS2 : va_S (ad_A (l, ad, D, (cI, cV), fS, fB)) s.heap H' [] := ⟨hS.1, fun q h1 _ => hS.2.1 q h1 (hA q h1), fun _ h => by cases h⟩
  have hXg : ad_X (l, ad, D, (cI, cV), fS, fB) s s.heap := ⟨hNw, hStr.narrow hgA, hRef, hZ1.narrow hgA, hZ2.narrow hgA⟩
  refine law_loop (g := (l, ad, D, (cI, cV), fS, fB)) (d := 100) (b := b) (n0 := L) (xs := xs) hL (by omega) (L + 1) 0 sg0 ad_C0 ad_c7_0 ad_c8_0 (Nat.zero_le _) (by omega) p e room_1 s m #[Value.ref b] below meth c 600000 7302250 (lw_Z below #[Value.ref b] s) ⟨hx, hb, hml, hown, hin, hK, hXg, hInj, hlocks, hr, ⟨Nat.le_of_ble_eq_true rfl, Nat.le_of_ble_eq_true rfl⟩, ⟨Nat.le_of_ble_eq_true rfl, Nat.le_of_ble_eq_true rfl⟩⟩ ⟨hX, hbl, fun h => absurd (hgA b h) (hA b hbl)⟩ ?_ H' [] ls' hPw hS2 hl'
  intro pc S σ H1 locs1 ls1 hz hP1 hS1
  obtain ⟨rfl, rfl⟩ := hz
  refine va_forget (fun q hq => hgA _ (hS1.2.2 q hq)) ?_
  have e1 : (ad_iv 1 : Value) = .int 1 := congrArg Value.int (by decide)
  rw [e1]
  exact lw_ret hx hb hr hlocks dL_law_1152
