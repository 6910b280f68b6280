/-! ===== a repack in mind, as a value ===== -/
def ad_ah (A : ad_Ar) (k : Int) (v u : Nat) : Bool := if k = 2 ∨ k = 3 then true else if k = 1 ∨ k = 4 ∨ k = 5 then decide ((ad_aL A u).length < (ad_aL A v).length) else false
/-- where v is put among the first n of l -/
def ad_ipos (A : ad_Ar) (k : Int) (v : Nat) (l : List Nat) : Nat → Nat
  | 0 => 0
  | n + 1 => if ad_ah A k v (l.getD n 0) = true then ad_ipos A k v l n else n + 1
def ad_ins (A : ad_Ar) (k : Int) (v : Nat) (l : List Nat) : List Nat := l.take (ad_ipos A k v l l.length) ++ v :: l.drop (ad_ipos A k v l l.length)
def ad_ord (A : ad_Ar) (k : Int) : Nat → List Nat
  | 0 => []
  | n + 1 => if ad_aH A n = true then ad_ins A k n (ad_ord A k n) else ad_ord A k n
theorem ad_ipos_le (A : ad_Ar) (k : Int) (v : Nat) (l : List Nat) : ∀ n, ad_ipos A k v l n ≤ n
  | 0 => Nat.le_refl 0
  | n + 1 => by
    have := ad_ipos_le A k v l n
    rw [ad_ipos]; split <;> omega
theorem ad_ins_mem {A : ad_Ar} {k : Int} {v : Nat} {l : List Nat} {u : Nat} : u ∈ ad_ins A k v l ↔ u = v ∨ u ∈ l := by
  unfold ad_ins
  rw [List.mem_append, List.mem_cons]
  have : u ∈ l ↔ u ∈ l.take (ad_ipos A k v l l.length) ∨ u ∈ l.drop (ad_ipos A k v l l.length) := by
    rw [← List.mem_append, List.take_append_drop]
  rw [this]
  constructor
  · rintro (h | h | h)
    · exact Or.inr (Or.inl h)
    · exact Or.inl h
    · exact Or.inr (Or.inr h)
  · rintro (h | h | h)
    · exact Or.inr (Or.inl h)
    · exact Or.inl h
    · exact Or.inr (Or.inr h)
theorem ad_ins_len (A : ad_Ar) (k : Int) (v : Nat) (l : List Nat) : (ad_ins A k v l).length = l.length + 1 := by
  have := ad_ipos_le A k v l l.length
  unfold ad_ins
  rw [List.length_append, List.length_cons, List.length_take, List.length_drop]
  omega
theorem ad_ins_nodup {A : ad_Ar} {k : Int} {v : Nat} {l : List Nat} (h : l.Nodup) (hv : v ∉ l) : (ad_ins A k v l).Nodup := by
  unfold ad_ins
  have h2 : (l.take (ad_ipos A k v l l.length) ++ l.drop (ad_ipos A k v l l.length)).Nodup := by rw [List.take_append_drop]; exact h
  have hp : (l.take (ad_ipos A k v l l.length) ++ v :: l.drop (ad_ipos A k v l l.length)).Perm (v :: (l.take (ad_ipos A k v l l.length) ++ l.drop (ad_ipos A k v l l.length))) := List.perm_middle
  rw [hp.nodup_iff, List.take_append_drop]
  exact List.nodup_cons.mpr ⟨hv, h⟩
theorem ad_ord_mem {A : ad_Ar} {k : Int} : ∀ (n u : Nat), u ∈ ad_ord A k n ↔ u < n ∧ ad_aH A u = true
  | 0, u => by simp [ad_ord]
  | n + 1, u => by
    rw [ad_ord]
    have ih := ad_ord_mem (A := A) (k := k) n u
    by_cases h : ad_aH A n = true
    · rw [if_pos h, ad_ins_mem, ih]
      constructor
      · rintro (rfl | h1)
        · exact ⟨by omega, h⟩
        · exact ⟨by omega, h1.2⟩
      · rintro ⟨h1, h2⟩
        by_cases hu : u = n
        · exact Or.inl hu
        · exact Or.inr ⟨by omega, h2⟩
    · rw [if_neg h, ih]
      constructor
      · rintro ⟨h1, h2⟩; exact ⟨by omega, h2⟩
      · rintro ⟨h1, h2⟩
        by_cases hu : u = n
        · rw [hu] at h2; exact absurd h2 h
        · exact ⟨by omega, h2⟩
theorem ad_ord_nodup {A : ad_Ar} {k : Int} : ∀ n, (ad_ord A k n).Nodup
  | 0 => by simp [ad_ord]
  | n + 1 => by
    rw [ad_ord]
    split
    · exact ad_ins_nodup (ad_ord_nodup n) (fun h => by have := ((ad_ord_mem n n).mp h).1; omega)
    · exact ad_ord_nodup n
theorem ad_ord_len {A : ad_Ar} {k : Int} : ∀ n, (ad_ord A k n).length = ad_pp (ad_aH A) n
  | 0 => rfl
  | n + 1 => by
    rw [ad_ord, ad_pp]
    have := ad_ord_len (A := A) (k := k) n
    by_cases h : ad_aH A n = true
    · rw [if_pos h, if_pos h, ad_ins_len, this]
    · rw [if_neg h, if_neg h, this]; rfl
def ad_par (A : ad_Ar) (v u : Nat) : Bool := decide (ad_aP A v = u ∨ ad_aQ A v = u)
def ad_may (A : ad_Ar) (k f : Int) (l : List Nat) (j i : Nat) : Bool := if k = 5 then decide ((i : Int) - j ≤ f) else if k = 3 then ad_par A (l.getD i 0) (l.getD j 0) || ad_par A (l.getD j 0) (l.getD i 0) else true
def ad_c2 (A : ad_Ar) (u v : Nat) : Int := ad_dc (ad_dl (ad_aL A u) (ad_aL A v))
/-- the best base among the first j: it and the cost -/
def ad_pk (A : ad_Ar) (k f b : Int) (l : List Nat) (dp : Nat → Int) (i : Nat) : Nat → Int × Int
  | 0 => (-1, 2147483647)
  | j + 1 => if dp (l.getD j 0) < b ∧ ad_may A k f l j i = true ∧ ad_c2 A (l.getD j 0) (l.getD i 0) < (ad_pk A k f b l dp i j).2 then ((l.getD j 0 : Int), ad_c2 A (l.getD j 0) (l.getD i 0)) else ad_pk A k f b l dp i j
def ad_sav (k f : Int) : Int := if k = 4 then f + 1 else 1
def ad_wc (A : ad_Ar) (v : Nat) : Int := 1 + (ad_aL A v).length
def ad_u1 (f : Nat → Int) (v : Nat) (x : Int) : Nat → Int := fun u => if u = v then x else f u
/-- bases, depths, cost, greatest depth, wholes, behind the first i -/
def ad_pl (A : ad_Ar) (k f b : Int) (l : List Nat) : Nat → (Nat → Int) × (Nat → Int) × Int × Int × Int
  | 0 => (fun _ => 11, fun _ => 0, 0, 0, 0)
  | i + 1 => if (ad_pk A k f b l (ad_pl A k f b l i).2.1 i i).1 ≠ -1 ∧ (ad_pk A k f b l (ad_pl A k f b l i).2.1 i i).2 ≤ ad_wc A (l.getD i 0) - ad_sav k f then
      (ad_u1 (ad_pl A k f b l i).1 (l.getD i 0) (ad_pk A k f b l (ad_pl A k f b l i).2.1 i i).1,
       ad_u1 (ad_pl A k f b l i).2.1 (l.getD i 0) ((ad_pl A k f b l i).2.1 (ad_pk A k f b l (ad_pl A k f b l i).2.1 i i).1.toNat + 1),
       (ad_pl A k f b l i).2.2.1 + (ad_pk A k f b l (ad_pl A k f b l i).2.1 i i).2,
       max (ad_pl A k f b l i).2.2.2.1 ((ad_pl A k f b l i).2.1 (ad_pk A k f b l (ad_pl A k f b l i).2.1 i i).1.toNat + 1),
       (ad_pl A k f b l i).2.2.2.2)
    else (ad_u1 (ad_pl A k f b l i).1 (l.getD i 0) 10, ad_u1 (ad_pl A k f b l i).2.1 (l.getD i 0) 0, (ad_pl A k f b l i).2.2.1 + ad_wc A (l.getD i 0), max (ad_pl A k f b l i).2.2.2.1 0, (ad_pl A k f b l i).2.2.2.2 + 1)
theorem ad_c2_rng {A : ad_Ar} (hw : ad_wA A) {u v : Nat} (hv : ad_aH A v = true) : 1 ≤ ad_c2 A u v ∧ ad_c2 A u v ≤ 25 := by
  have h1 := ad_dl_len (ad_aL A u) (ad_aL A v).length (ad_aL A v) (Nat.le_refl _)
  have h2 := ad_nc_le (ad_dl (ad_aL A u) (ad_aL A v))
  have h3 := (hw.2.2.1 v hv).1
  unfold ad_c2 ad_dc
  omega
/-- the chosen base is placed before, shallow, cheap -/
theorem ad_pk_in (A : ad_Ar) (k f b : Int) (l : List Nat) (dp : Nat → Int) (i : Nat) : ∀ j, (ad_pk A k f b l dp i j = (-1, 2147483647)) ∨ ∃ q, q < j ∧ (ad_pk A k f b l dp i j).1 = (l.getD q 0 : Int) ∧ dp (l.getD q 0) < b ∧ (ad_pk A k f b l dp i j).2 = ad_c2 A (l.getD q 0) (l.getD i 0)
  | 0 => Or.inl rfl
  | j + 1 => by
    rw [ad_pk]
    by_cases h : dp (l.getD j 0) < b ∧ ad_may A k f l j i = true ∧ ad_c2 A (l.getD j 0) (l.getD i 0) < (ad_pk A k f b l dp i j).2
    · rw [if_pos h]; exact Or.inr ⟨j, by omega, rfl, h.1, rfl⟩
    · rw [if_neg h]
      rcases ad_pk_in A k f b l dp i j with h1 | ⟨q, h1, h2⟩
      · exact Or.inl h1
      · exact Or.inr ⟨q, by omega, h2⟩
theorem ad_getD_mem {l : List Nat} {i : Nat} (h : i < l.length) : l.getD i 0 ∈ l := by rw [List.getD_eq_getElem?_getD, List.getElem?_eq_getElem h]; exact List.getElem_mem h
theorem ad_getD_inj {l : List Nat} (hn : l.Nodup) {i j : Nat} (hi : i < l.length) (hj : j < l.length) (h : l.getD i 0 = l.getD j 0) : i = j := by
  rw [List.getD_eq_getElem?_getD, List.getD_eq_getElem?_getD, List.getElem?_eq_getElem hi, List.getElem?_eq_getElem hj] at h
  exact (List.getElem_inj hn).mp h
/-- what the numbers of a plan are: ranges -/
theorem ad_pl_rng {A : ad_Ar} (hw : ad_wA A) {k f b : Int} (hb : 0 ≤ b ∧ b ≤ 8) {l : List Nat} (hl : ∀ u ∈ l, u < 10 ∧ ad_aH A u = true) (hf : 0 ≤ f) : ∀ i, i ≤ l.length → (∀ u, 0 ≤ (ad_pl A k f b l i).1 u ∧ (ad_pl A k f b l i).1 u ≤ 11) ∧ (∀ u, 0 ≤ (ad_pl A k f b l i).2.1 u ∧ (ad_pl A k f b l i).2.1 u ≤ 8) ∧ (0 ≤ (ad_pl A k f b l i).2.2.1 ∧ (ad_pl A k f b l i).2.2.1 ≤ 25 * i) ∧ (0 ≤ (ad_pl A k f b l i).2.2.2.1 ∧ (ad_pl A k f b l i).2.2.2.1 ≤ 8) ∧ (0 ≤ (ad_pl A k f b l i).2.2.2.2 ∧ (ad_pl A k f b l i).2.2.2.2 ≤ i)
  | 0, _ => by simp [ad_pl]
  | i + 1, hi => by
    obtain ⟨h1, h2, h3, h4, h5⟩ := ad_pl_rng hw (k := k) hb hl hf i (by omega)
    have hm := hl _ (ad_getD_mem (show i < l.length by omega))
    have hwc := (hw.2.2.1 _ hm.2).1
    have hc2 := fun u => ad_c2_rng hw (u := u) hm.2
    have hpk := ad_pk_in A k f b l (ad_pl A k f b l i).2.1 i i
    rw [ad_pl]
    by_cases hc : (ad_pk A k f b l (ad_pl A k f b l i).2.1 i i).1 ≠ -1 ∧ (ad_pk A k f b l (ad_pl A k f b l i).2.1 i i).2 ≤ ad_wc A (l.getD i 0) - ad_sav k f
    · rw [if_pos hc]
      rcases hpk with hp | ⟨q, q1, q2, q3, q4⟩
      · rw [hp] at hc; exact absurd rfl hc.1
      · have hq := hl _ (ad_getD_mem (show q < l.length by omega))
        have hcc := hc2 (l.getD q 0)
        have hdq := h2 (l.getD q 0)
        rw [q2, q4, Int.toNat_natCast]
        refine ⟨fun u => ?_, fun u => ?_, ?_, ?_, ?_⟩
        · unfold ad_u1; dsimp only; split
          · omega
          · exact h1 u
        · unfold ad_u1; dsimp only; split
          · omega
          · exact h2 u
        · dsimp only; omega
        · dsimp only; omega
        · dsimp only; omega
    · rw [if_neg hc]
      unfold ad_wc
      refine ⟨fun u => ?_, fun u => ?_, ?_, ?_, ?_⟩
      · unfold ad_u1; dsimp only; split
        · omega
        · exact h1 u
      · unfold ad_u1; dsimp only; split
        · omega
        · exact h2 u
      · dsimp only; omega
      · dsimp only; omega
      · dsimp only; omega
