/-! ===== the class's constructor ===== -/
/-- what a cell's entry names -/
def tgts (q : Nat × Nat) : List (Nat × Nat) := q :: ((List.range (ad_nf q.1)).filterMap (fun s => ad_tgt q.1 q.2 s) ++ (if q.1 = 18 then (List.range 10).map (fun v => (6, 10 * q.2 + v)) else []))
theorem nb_at_congr {l : Launch} {D : va_G} {cI cV : ClassId} {a ad : Nat → Nat → Nat} {q : Nat × Nat} {H : Heap} (h : ∀ t ∈ tgts q, ad t.1 t.2 = a t.1 t.2) (ha : va_at D vwCl (nb_e l D cI cV a q) H) : va_at D vwCl (nb_e l D cI cV ad q) H := by
  obtain ⟨k, i⟩ := q
  have h0 : ad k i = a k i := h (k, i) List.mem_cons_self
  have ht : ∀ s, s < ad_nf k → ∀ t, ad_tgt k i s = some t → ad t.1 t.2 = a t.1 t.2 := fun s hs t hst => h t (List.mem_cons_of_mem _ (List.mem_append_left _ (List.mem_filterMap.mpr ⟨s, List.mem_range.mpr hs, hst⟩)))
  unfold nb_e at ha ⊢
  simp only at ha ⊢
  rw [h0]
  by_cases hk : k < 9
  · rw [ad_ent_o _ i _ hk] at ha ⊢
    have e : ad_fs (nb_g l D cI cV ad) k i (sg0 k i) = ad_fs (nb_g l D cI cV a) k i (sg0 k i) := by
      unfold ad_fs
      refine List.map_congr_left (fun s hs => ?_)
      have hs := List.mem_range.mp hs
      unfold ad_fv
      cases hst : ad_tgt k i s with
      | none =>
        simp only
        by_cases hp : k = 3 ∧ s = 5
        · rw [if_pos hp, if_pos hp]
          obtain ⟨rfl, rfl⟩ := hp
          rfl
        · rw [if_neg hp, if_neg hp]
      | some t =>
        show Value.ref (ad t.1 t.2) = Value.ref (a t.1 t.2)
        rw [ht s hs t hst]
    rw [e]; exact ha
  · by_cases h18 : k = 18
    · subst h18
      rw [ad_ent_v] at ha ⊢
      have e1 : arrV cV 10 (fun j => va_rf (some (ad 6 (10 * i + j)))) = arrV cV 10 (fun j => va_rf (some (a 6 (10 * i + j)))) := by
        have : (fun j : Fin 10 => va_rf (some (ad 6 (10 * i + j.val)))) = (fun j : Fin 10 => va_rf (some (a 6 (10 * i + j.val)))) := funext fun j => by
          have := h (6, 10 * i + j.val) (List.mem_cons_of_mem _ (List.mem_append_right _ (by rw [if_pos rfl]; exact List.mem_map.mpr ⟨j.val, List.mem_range.mpr j.isLt, rfl⟩)))
          rw [show ad 6 (10 * i + j.val) = a 6 (10 * i + j.val) from this]
        unfold arrV; rw [this]
      have ha : H[a 18 i]? = some (vp_cell cV (10, .inr (.inr (.inr (.inr (fun v => some (a 6 (10 * i + v)))))))) := ha
      show H[a 18 i]? = some (vp_cell cV (10, .inr (.inr (.inr (.inr (fun v => some (ad 6 (10 * i + v))))))))
      rw [vp_cell_q] at ha ⊢
      rw [e1]; exact ha
    · rw [ad_ent_i _ i _ hk h18] at ha ⊢
      exact ha
/-- a block, as its cells say it -/
def nb_B2 (l : Launch) (D : va_G) (cI cV : ClassId) (keys : List (Nat × Nat)) (k i : Nat) (h0 : Nat) (blk : va_W) : Prop := ∃ ad : Nat → Nat → Nat, ad k i = h0 ∧ blk.map Prod.fst = keys.map (fun q => ad q.1 q.2) ∧ ∀ H, va_P D vwCl blk H → ∀ q ∈ keys, va_at D vwCl (nb_e l D cI cV ad q) H
theorem nb_part {l : Launch} {D : va_G} {cI cV : ClassId} {a ad : Nat → Nat → Nat} {keys : List (Nat × Nat)} (h : ∀ q ∈ keys, ∀ t ∈ tgts q, ad t.1 t.2 = a t.1 t.2) : (keys.map (nb_e l D cI cV a)).map Prod.fst = keys.map (fun q => ad q.1 q.2) ∧ ∀ H, va_P D vwCl (keys.map (nb_e l D cI cV a)) H → ∀ q ∈ keys, va_at D vwCl (nb_e l D cI cV ad q) H := by
  refine ⟨?_, fun H hP q hq => ?_⟩
  · rw [List.map_map]
    refine List.map_congr_left (fun q hq => ?_)
    exact (h q hq q List.mem_cons_self).symm
  · obtain ⟨i, hi⟩ := List.getElem?_of_mem hq
    exact nb_at_congr (h q hq) (hP i _ (by rw [List.getElem?_map, hi]; rfl))
theorem va_P_app {D : va_G} {cl : List vw_C} {w1 w2 : va_W} {H : Heap} (h : va_P D cl (w1 ++ w2) H) : va_P D cl w1 H ∧ va_P D cl w2 H := by
  refine ⟨fun k q hk => h k q ?_, fun k q hk => h (w1.length + k) q ?_⟩
  · rw [List.getElem?_append_left (List.getElem?_eq_some_iff.mp hk).1]; exact hk
  · rw [List.getElem?_append_right (by omega), show w1.length + k - w1.length = k by omega]; exact hk
/-- the block that a cell of the class belongs to: 0..2 the stores, 3 plan, 4 between, 5 told, 6 numbers, 7 draws, 8 the class, 9 its refusals -/
def sel (q : Nat × Nat) : Nat :=
  if q.1 = 7 then 8 else if q.1 = 20 then 9 else if q.1 = 1 then 7 else if q.1 = 5 then 5
  else if q.1 = 4 ∨ q.1 = 18 ∨ q.1 = 19 then q.2
  else if q.1 = 3 ∨ q.1 = 13 ∨ q.1 = 14 ∨ q.1 = 15 ∨ q.1 = 16 then 3
  else if q.2 < 30 then q.2 / 10
  else if q.1 = 2 ∨ q.1 = 12 then (if q.2 < 33 then q.2 - 30 else if q.2 = 35 then 6 else 5)
  else (if q.2 = 30 then 3 else 4)
def pkeys : List (Nat × Nat) := [(3, 0), (13, 0), (14, 0), (15, 0), (16, 0), (0, 30), (10, 30), (11, 30)]
def tkeys : List (Nat × Nat) := [(5, 0), (2, 33), (12, 33), (2, 34), (12, 34)]
def dkeys : List (Nat × Nat) := [(0, 31), (10, 31), (11, 31)]
def nkeys : List (Nat × Nat) := [(2, 35), (12, 35)]
def selok (b : Nat) (keys : List (Nat × Nat)) : Bool := keys.all (fun q => (tgts q).all (fun t => sel t == b))
theorem selok_all : selok 0 (skeys 0) = true ∧ selok 1 (skeys 1) = true ∧ selok 2 (skeys 2) = true ∧ selok 3 pkeys = true ∧ selok 4 dkeys = true ∧ selok 5 tkeys = true ∧ selok 6 nkeys = true ∧ selok 7 [(1, 0)] = true ∧ selok 9 [(20, 0)] = true := by decide +kernel
theorem nb_sel {l : Launch} {D : va_G} {cI cV : ClassId} {b : Nat} {keys : List (Nat × Nat)} (hb : selok b keys = true) {A : Nat → Nat → Nat → Nat} {a : Nat → Nat → Nat} (ha : A b = a) : (keys.map (nb_e l D cI cV a)).map Prod.fst = keys.map (fun q => A (sel q) q.1 q.2) ∧ ∀ H, va_P D vwCl (keys.map (nb_e l D cI cV a)) H → ∀ q ∈ keys, va_at D vwCl (nb_e l D cI cV (fun k i => A (sel (k, i)) k i) q) H := by
  refine nb_part (ad := fun k i => A (sel (k, i)) k i) (fun q hq t ht => ?_)
  have h1 := List.all_eq_true.mp hb q hq
  have h2 := List.all_eq_true.mp h1 t ht
  have h3 : sel t = b := by simpa using h2
  show A (sel (t.1, t.2)) t.1 t.2 = _
  rw [show sel (t.1, t.2) = b from h3, ha]
