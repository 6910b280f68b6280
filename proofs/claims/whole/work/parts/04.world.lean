/-! ===== the memory of both systems as numbers (kind, index, slot), and the world that it stands for ===== -/
abbrev ad_Mem : Type := Nat → Nat → Nat → Int
/-- launch, addresses, class numbers and slots, (int arrays' class, version arrays' class), the strings' and their bytes' addresses -/
abbrev ad_G : Type := Launch × (Nat → Nat → Nat) × va_G × (ClassId × ClassId) × (Nat → Nat) × (Nat → Nat)
abbrev ad_iv (x : Int) : Value := .int (Int32.ofInt x)
abbrev ad_lv (x : Int) : Value := .long (Int64.ofInt x)
abbrev ad_rf (g : ad_G) (k i : Nat) : Value := .ref (g.2.1 k i)
abbrev ad_pv (c : Prop) [Decidable c] : Value := ad_iv (if c then 1 else 0)
abbrev ad_rng (x : Int) : Prop := -2147483648 ≤ x ∧ x ≤ 2147483647
def ad_cnt (k : Nat) : Nat := match k with
  | 0 => 32 | 1 => 1 | 2 => 36 | 3 => 1 | 4 => 3 | 5 => 1 | 6 => 30 | 7 => 1 | 8 => 1
  | 10 => 32 | 11 => 32 | 12 => 36 | 13 => 1 | 14 => 1 | 15 => 1 | 16 => 1 | 18 => 3 | 19 => 3 | 20 => 1
  | 21 => 1 | 22 => 1 | 23 => 1 | 24 => 1 | 25 => 1 | 26 => 1 | 27 => 1 | 28 => 1 | 29 => 1 | 30 => 1 | 31 => 1 | 32 => 1 | 33 => 1 | _ => 0
def ad_len (k i : Nat) : Nat := match k with
  | 10 => 12 | 11 => 12 | 12 => if i = 33 then 96 else 12 | 13 => 10 | 14 => 10 | 15 => 10 | 16 => 100 | 18 => 10 | 19 => 4 | 20 => 7
  | 21 => 520 | 22 => 520 | 23 => 520 | 24 => 520 | 25 => 8 | 26 => 96 | 27 => 12 | 28 => 120 | 29 => 10 | 30 => 24 | 31 => 10 | 32 => 10 | 33 => 10 | _ => 0
def ad_nf (k : Nat) : Nat := match k with
  | 0 => 4 | 1 => 1 | 2 => 2 | 3 => 13 | 4 => 8 | 5 => 2 | 6 => 7 | 7 => 10 | 8 => 21 | _ => 0
/-- what a field that never changes holds: a cell by kind and index -/
def ad_tgt (k i slot : Nat) : Option (Nat × Nat) := match k with
  | 0 => (match slot with | 0 => some (10, i) | 1 => some (11, i) | _ => none)
  | 2 => (match slot with | 0 => some (12, i) | _ => none)
  | 3 => (match slot with | 0 => some (13, 0) | 1 => some (14, 0) | 2 => some (15, 0) | 3 => some (16, 0) | 4 => some (0, 30) | _ => none)
  | 4 => (match slot with | 0 => some (18, i) | 1 => some (19, i) | 2 => some (2, 30 + i) | _ => none)
  | 5 => (match slot with | 0 => some (2, 33) | 1 => some (2, 34) | _ => none)
  | 6 => (match slot with | 0 => some (2, i) | 1 => some (0, i) | _ => none)
  | 7 => (match slot with | 0 => some (4, 0) | 1 => some (4, 1) | 2 => some (4, 2) | 3 => some (3, 0) | 4 => some (0, 31) | 5 => some (5, 0) | 6 => some (2, 35) | 7 => some (1, 0) | 8 => some (20, 0) | _ => none)
  | 8 => (match slot with | 0 => some (21, 0) | 1 => some (22, 0) | 2 => some (23, 0) | 3 => some (24, 0) | 4 => some (25, 0) | 5 => some (26, 0) | 6 => some (27, 0) | 7 => some (28, 0) | 8 => some (29, 0) | 9 => some (30, 0) | 10 => some (31, 0) | 11 => some (32, 0) | 12 => some (33, 0) | _ => none)
  | _ => none
/-- the one reference that changes: the plan's store, 0 null, s + 1 the store s -/
def ad_ps (g : ad_G) (x : Int) : Value := if x = 0 then .null else ad_rf g 4 (x.toNat - 1)
def ad_fv (g : ad_G) (k i slot : Nat) (x : Int) : Value := match ad_tgt k i slot with
  | some q => ad_rf g q.1 q.2
  | none => if k = 3 ∧ slot = 5 then ad_ps g x else ad_iv x
def ad_fs (g : ad_G) (k i : Nat) (m : Nat → Int) : List Value := (List.range (ad_nf k)).map (fun s => ad_fv g k i s (m s))
def ad_ent (g : ad_G) (k i : Nat) (m : Nat → Int) : va_E :=
  if k < 9 then .inr (k, ad_fs g k i m)
  else if k = 18 then .inl (g.2.2.2.1.2, 10, .inr (.inr (.inr (.inr (fun v => some (g.2.1 6 (10 * i + v)))))))
  else .inl (g.2.2.2.1.1, ad_len k i, .inl (fun j => Int32.ofInt (m j)))
def ad_cells : List (Nat × Nat) := (List.range 34).flatMap (fun k => (List.range (ad_cnt k)).map (fun i => (k, i)))
def ad_ws (g : ad_G) (σ : ad_Mem) : va_W := ad_cells.map (fun q => (g.2.1 q.1 q.2, ad_ent g q.1 q.2 (σ q.1 q.2)))
/-- the addresses of all cells -/
def ad_A (g : ad_G) : Nat → Prop := fun q => ∃ k i, i < ad_cnt k ∧ q = g.2.1 k i
def ad_Inj (g : ad_G) : Prop := ∀ k i k' i', i < ad_cnt k → i' < ad_cnt k' → g.2.1 k i = g.2.1 k' i' → k = k' ∧ i = i'
theorem ad_cnt_lt {k i : Nat} (h : i < ad_cnt k) : k < 34 := by
  rcases Nat.lt_or_ge k 34 with h1 | h1
  · exact h1
  · exfalso
    obtain ⟨j, rfl⟩ : ∃ j, k = j + 34 := ⟨k - 34, by omega⟩
    exact Nat.not_lt_zero i h
theorem ad_mem {k i : Nat} : (k, i) ∈ ad_cells ↔ i < ad_cnt k := by
  unfold ad_cells
  simp only [List.mem_flatMap, List.mem_range, List.mem_map, Prod.mk.injEq]
  constructor
  · rintro ⟨a, h1, b, h2, rfl, rfl⟩
    exact h2
  · intro h
    exact ⟨k, ad_cnt_lt h, i, h, rfl, rfl⟩
theorem ad_nodup : ad_cells.Nodup := by decide +kernel
/-- changing one number -/
def ad_st (σ : ad_Mem) (k i j : Nat) (x : Int) : ad_Mem := fun a b c => if a = k ∧ b = i ∧ c = j then x else σ a b c
/-- changing a row -/
def ad_sr (σ : ad_Mem) (k i : Nat) (f : Nat → Int) : ad_Mem := fun a b => if a = k ∧ b = i then f else σ a b
theorem ad_st_row (σ : ad_Mem) (k i j : Nat) (x : Int) : ad_st σ k i j x = ad_sr σ k i (fun c => if c = j then x else σ k i c) := by
  funext a b c
  unfold ad_st ad_sr
  by_cases h : a = k ∧ b = i
  · obtain ⟨rfl, rfl⟩ := h
    simp
  · rw [if_neg h, if_neg (fun q => h ⟨q.1, q.2.1⟩)]
theorem ad_ws_at (g : ad_G) (σ : ad_Mem) {k i : Nat} (h : i < ad_cnt k) : ∃ q : Nat, (ad_ws g σ)[q]? = some (g.2.1 k i, ad_ent g k i (σ k i)) ∧ ∀ f : Nat → Int, (ad_ws g σ).set q (g.2.1 k i, ad_ent g k i f) = ad_ws g (ad_sr σ k i f) := by
  obtain ⟨q, hq⟩ := List.getElem?_of_mem (ad_mem.mpr h)
  refine ⟨q, ?_, fun f => ?_⟩
  · unfold ad_ws
    rw [List.getElem?_map, hq]
    rfl
  · unfold ad_ws
    apply List.ext_getElem?
    intro n
    have hlt : q < ad_cells.length := (List.getElem?_eq_some_iff.mp hq).1
    by_cases hn : n = q
    · subst hn
      rw [List.getElem?_set_self (by simpa using hlt), List.getElem?_map, hq]
      simp [ad_sr]
    · rw [List.getElem?_set_ne (fun e => hn e.symm), List.getElem?_map, List.getElem?_map]
      cases hc : ad_cells[n]? with
      | none => rfl
      | some c =>
        have hne : ¬ (c.1 = k ∧ c.2 = i) := by
          rintro ⟨h1, h2⟩
          have hc' : c = (k, i) := Prod.ext h1 h2
          rw [hc'] at hc
          exact hn ((List.getElem?_inj (List.getElem?_eq_some_iff.mp hc).1 ad_nodup).mp (hc.trans hq.symm))
        simp [ad_sr, hne]
theorem ad_ws_D {g : ad_G} (hI : ad_Inj g) (σ : ad_Mem) : va_D (ad_A g) (ad_ws g σ) := by
  have at' : ∀ (n : Nat) (q : Nat × va_E), (ad_ws g σ)[n]? = some q → ∃ c : Nat × Nat, ad_cells[n]? = some c ∧ c.2 < ad_cnt c.1 ∧ q.1 = g.2.1 c.1 c.2 := by
    intro n q hq
    unfold ad_ws at hq
    rw [List.getElem?_map] at hq
    cases hc : ad_cells[n]? with
    | none => rw [hc] at hq; cases hq
    | some c =>
      rw [hc] at hq
      refine ⟨c, rfl, ad_mem.mp (List.mem_of_getElem? hc), ?_⟩
      rw [← Option.some.inj hq]
  refine ⟨fun a b x y ha hb hxy => ?_, fun n q hq => ?_⟩
  · obtain ⟨c1, h1, h2, h3⟩ := at' a x ha
    obtain ⟨c2, h4, h5, h6⟩ := at' b y hb
    have := hI _ _ _ _ h2 h5 (by rw [← h3, ← h6, hxy])
    have hc : c1 = c2 := Prod.ext this.1 this.2
    subst hc
    exact (List.getElem?_inj (List.getElem?_eq_some_iff.mp h1).1 ad_nodup).mp (h1.trans h4.symm)
  · obtain ⟨c, -, h2, h3⟩ := at' n q hq
    exact ⟨c.1, c.2, h2, h3⟩
