/-! ===== deltas as lists ===== -/
/-- the best place among the first n: how long, where (the first one) -/
def ad_bs (s t : List Int) : Nat → Nat × Nat
  | 0 => (0, 0)
  | n + 1 => if (ad_bs s t n).1 < ad_cpl (s.drop n) t then (ad_cpl (s.drop n) t, n) else ad_bs s t n
def ad_bst (s t : List Int) : Nat × Nat := ad_bs s t s.length
theorem ad_bs_le (s t : List Int) : ∀ n, (ad_bs s t n).1 ≤ t.length ∧ (ad_bs s t n).2 ≤ n
  | 0 => by simp [ad_bs]
  | n + 1 => by
    unfold ad_bs
    have h1 := ad_bs_le s t n
    have h2 := ad_cpl_le (s.drop n) t
    split
    · exact ⟨h2.2, Nat.le_succ n⟩
    · exact ⟨h1.1, Nat.le_succ_of_le h1.2⟩
theorem ad_bs_in (s t : List Int) : ∀ n, 0 < (ad_bs s t n).1 → (ad_bs s t n).1 + (ad_bs s t n).2 ≤ s.length
  | 0 => by simp [ad_bs]
  | n + 1 => by
    unfold ad_bs
    have h1 := ad_bs_in s t n
    have h2 := ad_cpl_le (s.drop n) t
    rw [List.length_drop] at h2
    split
    · intro h; simp at h ⊢; omega
    · exact h1
theorem ad_bs_stop (s t : List Int) (i : Nat) (h : s.length ≤ i + (ad_bs s t i).1) : ∀ k, ad_bs s t (i + k) = ad_bs s t i
  | 0 => rfl
  | k + 1 => by
    have ih := ad_bs_stop s t i h k
    have h2 := ad_cpl_le (s.drop (i + k)) t
    rw [List.length_drop] at h2
    show (if (ad_bs s t (i + k)).1 < ad_cpl (s.drop (i + k)) t then (ad_cpl (s.drop (i + k)) t, i + k) else ad_bs s t (i + k)) = _
    rw [ih, if_neg (by omega)]
theorem ad_bst_of (s t : List Int) (i : Nat) (hi : i ≤ s.length) (h : s.length ≤ i + (ad_bs s t i).1) : ad_bst s t = ad_bs s t i := by
  have := ad_bs_stop s t i h (s.length - i)
  unfold ad_bst
  rw [← this]
  congr 1; omega
/-- the steps; n is fuel -/
def ad_dlF (s : List Int) : Nat → List Int → List (Int × Int)
  | 0, _ => []
  | _ + 1, [] => []
  | n + 1, x :: t => if 2 ≤ (ad_bst s (x :: t)).1 then (((ad_bst s (x :: t)).1 : Int), ((ad_bst s (x :: t)).2 : Int)) :: ad_dlF s n ((x :: t).drop (ad_bst s (x :: t)).1) else (0, x) :: ad_dlF s n t
def ad_dl (s t : List Int) : List (Int × Int) := ad_dlF s t.length t
theorem ad_dlF_fuel (s : List Int) : ∀ (n : Nat) (t : List Int), t.length ≤ n → ad_dlF s n t = ad_dl s t := by
  have key : ∀ (n m : Nat) (t : List Int), t.length ≤ n → t.length ≤ m → ad_dlF s n t = ad_dlF s m t := by
    intro n
    induction n with
    | zero =>
      intro m t h1 h2
      cases t with
      | nil => cases m <;> rfl
      | cons x t => simp at h1
    | succ n ih =>
      intro m t h1 h2
      cases t with
      | nil => cases m <;> rfl
      | cons x t =>
        cases m with
        | zero => simp at h2
        | succ m =>
          simp only [List.length_cons] at h1 h2
          unfold ad_dlF
          split
          · rw [ih m _ (by rw [List.length_drop]; simp; omega) (by rw [List.length_drop]; simp; omega)]
          · rw [ih m _ (by omega) (by omega)]
  exact fun n t h => key n t.length t h (Nat.le_refl _)
theorem ad_dl_nil (s : List Int) : ad_dl s [] = [] := rfl
theorem ad_dl_copy (s : List Int) (x : Int) (t : List Int) (h : 2 ≤ (ad_bst s (x :: t)).1) : ad_dl s (x :: t) = (((ad_bst s (x :: t)).1 : Int), ((ad_bst s (x :: t)).2 : Int)) :: ad_dl s ((x :: t).drop (ad_bst s (x :: t)).1) := by
  show ad_dlF s (t.length + 1) (x :: t) = _
  unfold ad_dlF
  rw [if_pos h, ad_dlF_fuel s t.length _ (by rw [List.length_drop]; simp; omega)]
theorem ad_dl_ins (s : List Int) (x : Int) (t : List Int) (h : ¬ 2 ≤ (ad_bst s (x :: t)).1) : ad_dl s (x :: t) = (0, x) :: ad_dl s t := by
  show ad_dlF s (t.length + 1) (x :: t) = _
  unfold ad_dlF
  rw [if_neg h, ad_dlF_fuel s t.length _ (Nat.le_refl _)]
theorem ad_dl_len (s : List Int) : ∀ (n : Nat) (t : List Int), t.length ≤ n → (ad_dl s t).length ≤ t.length := by
  intro n
  induction n with
  | zero => intro t h; cases t with
    | nil => simp [ad_dl_nil]
    | cons x t => simp at h
  | succ n ih => intro t h; cases t with
    | nil => simp [ad_dl_nil]
    | cons x t =>
      simp only [List.length_cons] at h
      by_cases hc : 2 ≤ (ad_bst s (x :: t)).1
      · rw [ad_dl_copy s x t hc]
        have := ih ((x :: t).drop (ad_bst s (x :: t)).1) (by rw [List.length_drop]; simp; omega)
        rw [List.length_drop] at this
        simp at this ⊢; omega
      · rw [ad_dl_ins s x t hc]
        have := ih t (by omega)
        simp; omega
/-- how many are copies; the cost -/
def ad_nc : List (Int × Int) → Int
  | [] => 0
  | s :: l => (if 0 < s.1 then 1 else 0) + ad_nc l
def ad_dc (l : List (Int × Int)) : Int := 1 + l.length + ad_nc l
theorem ad_nc_app (l m : List (Int × Int)) : ad_nc (l ++ m) = ad_nc l + ad_nc m := by
  induction l with
  | nil => simp [ad_nc]
  | cons a l ih => simp only [List.cons_append, ad_nc, ih]; omega
theorem ad_nc_le (l : List (Int × Int)) : 0 ≤ ad_nc l ∧ ad_nc l ≤ l.length := by
  induction l with
  | nil => simp [ad_nc]
  | cons a l ih => simp only [ad_nc, List.length_cons]; split <;> omega
/-- what steps make of letters -/
def ad_spell (s : List Int) : List (Int × Int) → List Int
  | [] => []
  | (m, w) :: l => (if m = 0 then [w] else (List.range m.toNat).map (fun j => s.getD (w.toNat + j) (-1))) ++ ad_spell s l
theorem ad_spell_app (s : List Int) (l m : List (Int × Int)) : ad_spell s (l ++ m) = ad_spell s l ++ ad_spell s m := by
  induction l with
  | nil => rfl
  | cons a l ih => obtain ⟨x, y⟩ := a; simp only [List.cons_append, ad_spell, ih, List.append_assoc]
/-- steps out of the memory -/
def ad_ds (σ : ad_Mem) (j : Nat) : List (Int × Int) := (List.range (σ 0 j 2).toNat).map (fun k => (σ 10 j k, σ 11 j k))
def ad_dw (σ : ad_Mem) (j : Nat) : Prop := 0 ≤ σ 0 j 2 ∧ σ 0 j 2 ≤ 12 ∧ σ 0 j 3 = ad_nc (ad_ds σ j) ∧ ∀ k, (0 ≤ σ 10 j k ∧ σ 10 j k ≤ 12) ∧ (0 ≤ σ 11 j k ∧ σ 11 j k ≤ 255)
theorem ad_ds_len (σ : ad_Mem) (j : Nat) : (ad_ds σ j).length = (σ 0 j 2).toNat := by unfold ad_ds; simp
theorem ad_ds_at (σ : ad_Mem) (j k : Nat) (h : k < (σ 0 j 2).toNat) : (ad_ds σ j)[k]? = some (σ 10 j k, σ 11 j k) := by
  unfold ad_ds
  rw [List.getElem?_map, List.getElem?_range h]
  rfl
theorem ad_ds_congr {σ σ' : ad_Mem} {j : Nat} (h0 : σ' 0 j = σ 0 j) (h1 : σ' 10 j = σ 10 j) (h2 : σ' 11 j = σ 11 j) : ad_ds σ' j = ad_ds σ j := by unfold ad_ds; rw [h0, h1, h2]
theorem ad_dw_congr {σ σ' : ad_Mem} {j : Nat} (h0 : σ' 0 j = σ 0 j) (h1 : σ' 10 j = σ 10 j) (h2 : σ' 11 j = σ 11 j) (h : ad_dw σ j) : ad_dw σ' j := by unfold ad_dw at h ⊢; rw [ad_ds_congr h0 h1 h2, h0, h1, h2]; exact h
theorem ad_nl_congr {σ σ' : ad_Mem} {j : Nat} (h0 : σ' 2 j = σ 2 j) (h1 : σ' 12 j = σ 12 j) : ad_nl σ' j = ad_nl σ j := by unfold ad_nl; rw [h0, h1]
theorem ad_nw_congr {σ σ' : ad_Mem} {j : Nat} (h0 : σ' 2 j = σ 2 j) (h1 : σ' 12 j = σ 12 j) (h : ad_nw σ j) : ad_nw σ' j := by unfold ad_nw at h ⊢; rw [h0, h1]; exact h
/-- the same, but for the rows of T -/
def ad_fr (T : Nat → Nat → Prop) (σ σ' : ad_Mem) : Prop := ∀ k i, ¬ T k i → σ' k i = σ k i
theorem ad_fr.refl {T : Nat → Nat → Prop} {σ : ad_Mem} : ad_fr T σ σ := fun _ _ _ => rfl
theorem ad_fr.trans {T : Nat → Nat → Prop} {σ σ1 σ2 : ad_Mem} (h1 : ad_fr T σ σ1) (h2 : ad_fr T σ1 σ2) : ad_fr T σ σ2 := fun k i h => (h2 k i h).trans (h1 k i h)
theorem ad_fr.mono {T T' : Nat → Nat → Prop} {σ σ1 : ad_Mem} (h1 : ad_fr T σ σ1) (hT : ∀ k i, T k i → T' k i) : ad_fr T' σ σ1 := fun k i h => h1 k i (fun q => h (hT k i q))
theorem ad_fr.st {T : Nat → Nat → Prop} {σ : ad_Mem} {k i j : Nat} {x : Int} (h : T k i) : ad_fr T σ (ad_st σ k i j x) := by
  intro a b hab
  funext c
  unfold ad_st
  rw [if_neg]
  rintro ⟨rfl, rfl, -⟩
  exact hab h
theorem ad_fr.sr {T : Nat → Nat → Prop} {σ : ad_Mem} {k i : Nat} {f : Nat → Int} (h : T k i) : ad_fr T σ (ad_sr σ k i f) := by
  intro a b hab
  unfold ad_sr
  rw [if_neg]
  rintro ⟨rfl, rfl⟩
  exact hab h
/-- the rows of the delta j -/
def ad_Td (j : Nat) (k i : Nat) : Prop := (k = 0 ∨ k = 10 ∨ k = 11) ∧ i = j
