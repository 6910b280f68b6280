/-! ===== damage: letters restored anew ===== -/
theorem ad_spell_len (s s' : List Int) : ∀ l, (ad_spell s l).length = (ad_spell s' l).length
  | [] => rfl
  | (m, w) :: l => by
    simp only [ad_spell, List.length_append, ad_spell_len s s' l]
    by_cases h : m = 0
    · simp [h]
    · simp [h]
theorem ad_spell_ins {s : List Int} {l : List (Int × Int)} {q : Int × Int} (h : q ∈ l) (h0 : q.1 = 0) : q.2 ∈ ad_spell s l := by
  induction l with
  | nil => cases h
  | cons a l ih =>
    obtain ⟨m, w⟩ := a
    simp only [ad_spell, List.mem_append]
    rcases List.mem_cons.mp h with h1 | h1
    · left; subst h1; simp only at h0; simp [h0]
    · right; exact ih h1
theorem ad_spell_rng {s : List Int} {l : List (Int × Int)} (hs : ∀ y ∈ s, 0 ≤ y ∧ y ≤ 7) (hg : ad_good s l) (hi : ∀ q ∈ l, q.1 = 0 → 0 ≤ q.2 ∧ q.2 ≤ 7) : ∀ y ∈ ad_spell s l, 0 ≤ y ∧ y ≤ 7 := by
  induction l with
  | nil => intro y hy; cases hy
  | cons a l ih =>
    intro y hy
    obtain ⟨m, w⟩ := a
    simp only [ad_spell, List.mem_append] at hy
    rcases hy with hy | hy
    · by_cases h : m = 0
      · simp only [h, if_true, List.mem_singleton] at hy
        rw [hy]; exact hi (m, w) List.mem_cons_self h
      · simp only [h, if_false, List.mem_map, List.mem_range] at hy
        obtain ⟨k, hk, rfl⟩ := hy
        have hgg := (hg (m, w) List.mem_cons_self).resolve_left h
        simp only at hgg
        have hlt : w.toNat + k < s.length := by omega
        rw [List.getD_eq_getElem?_getD, List.getElem?_eq_getElem hlt]
        exact hs _ (List.getElem_mem hlt)
    · exact ih (fun q hq => hg q (List.mem_cons_of_mem _ hq)) (fun q hq => hi q (List.mem_cons_of_mem _ hq)) y hy
theorem ad_good_len {s s' : List Int} {l : List (Int × Int)} (h : s.length = s'.length) (hg : ad_good s l) : ad_good s' l := fun q hq => by rw [← h]; exact hg q hq
/-- letters restored out of those stored whole (fuel) -/
def ad_rl (B : Nat → Int) (T : Nat → List (Int × Int)) (L0 : Nat → List Int) : Nat → Nat → List Int
  | 0, v => L0 v
  | n + 1, v => if B v = -1 then L0 v else ad_spell (ad_rl B T L0 n (B v).toNat) (T v)
theorem ad_rl_fuel {A : ad_Ar} (hw : ad_wS A) (L0 : Nat → List Int) : ∀ (n m v : Nat), ad_aH A v = true → ad_dep A v ≤ n → ad_dep A v ≤ m → ad_rl (ad_aB A) (ad_aT A) L0 n v = ad_rl (ad_aB A) (ad_aT A) L0 m v := by
  intro n
  induction n with
  | zero =>
    intro m v hv h1 h2
    have hf := ad_dep_factsS hw hv
    have hb : ad_aB A v = -1 := by
      by_cases hb : ad_aB A v = -1
      · exact hb
      · have := hf.2.2.2 hb; omega
    cases m with
    | zero => rfl
    | succ m => rw [ad_rl, ad_rl, if_pos hb]
  | succ n ih =>
    intro m v hv h1 h2
    have hf := ad_dep_factsS hw hv
    by_cases hb : ad_aB A v = -1
    · cases m with
      | zero => rw [ad_rl, ad_rl, if_pos hb]
      | succ m => rw [ad_rl, ad_rl, if_pos hb, if_pos hb]
    · have h3 := hf.2.2.2 hb
      cases m with
      | zero => omega
      | succ m => rw [ad_rl, ad_rl, if_neg hb, if_neg hb, ih m _ ((hw.2.2.1 v hv).2 hb).2 (by omega) (by omega)]
def ad_L0 (A : ad_Ar) (v p : Nat) (x : Int) (u : Nat) : List Int := if u = v then (ad_aL A v).set p x else ad_aL A u
def ad_L1 (A : ad_Ar) (v p : Nat) (x : Int) (u : Nat) : List Int := if ad_aH A u = true then ad_rl (ad_aB A) (ad_aT A) (ad_L0 A v p x) 9 u else []
def ad_dmg (A : ad_Ar) (v p : Nat) (x : Int) : ad_Ar := ad_mk (ad_aC A) (ad_aH A) (ad_L1 A v p x) (ad_aP A) (ad_aQ A) (ad_aG A) (ad_aB A) (ad_aT A) (ad_aE A) (ad_aK A) (ad_aF A) (ad_aN A)
theorem ad_L1_whole {A : ad_Ar} (hw : ad_wS A) {v p u : Nat} {x : Int} (hu : ad_aH A u = true) (hb : ad_aB A u = -1) : ad_L1 A v p x u = ad_L0 A v p x u := by
  unfold ad_L1
  rw [if_pos hu, ad_rl, if_pos hb]
theorem ad_L1_delta {A : ad_Ar} (hw : ad_wS A) {v p u : Nat} {x : Int} (hu : ad_aH A u = true) (hb : ad_aB A u ≠ -1) : ad_L1 A v p x u = ad_spell (ad_L1 A v p x (ad_aB A u).toNat) (ad_aT A u) := by
  have hB := (hw.2.2.1 u hu).2 hb
  have hf := ad_dep_factsS hw hu
  have h3 := hf.2.2.2 hb
  unfold ad_L1
  rw [if_pos hu, if_pos hB.2, ad_rl, if_neg hb, ad_rl_fuel hw _ 8 9 _ hB.2 (by omega) (by omega)]
theorem ad_L1_ok {A : ad_Ar} (hw : ad_wA A) {v p : Nat} {x : Int} (hx : 0 ≤ x ∧ x ≤ 7) : ∀ (n u : Nat), ad_aH A u = true → ad_dep A u ≤ n → (ad_L1 A v p x u).length = (ad_aL A u).length ∧ ∀ y ∈ ad_L1 A v p x u, 0 ≤ y ∧ y ≤ 7 := by
  intro n
  induction n with
  | zero =>
    intro u hu h
    have hf := ad_dep_facts hw hu
    have hb : ad_aB A u = -1 := by
      by_cases hb : ad_aB A u = -1
      · exact hb
      · have := hf.2.2.2 hb; omega
    rw [ad_L1_whole hw.S hu hb]
    unfold ad_L0
    by_cases huv : u = v
    · subst huv
      rw [if_pos rfl, List.length_set]
      refine ⟨rfl, fun y hy => ?_⟩
      rcases List.mem_or_eq_of_mem_set hy with h1 | h1
      · exact (hw.2.2.1 u hu).1.2.2 y h1
      · rw [h1]; exact hx
    · rw [if_neg huv]; exact ⟨rfl, (hw.2.2.1 u hu).1.2.2⟩
  | succ n ih =>
    intro u hu h
    have hf := ad_dep_facts hw hu
    by_cases hb : ad_aB A u = -1
    · exact ih u hu (by rw [hf.2.2.1 hb]; omega)
    · have h5 := (hw.2.2.2.2.1 u hu).2 hb
      have h3 := hf.2.2.2 hb
      obtain ⟨i1, i2⟩ := ih _ h5.2.1 (by omega)
      rw [ad_L1_delta hw.S hu hb]
      have hL := h5.2.2.1
      refine ⟨by rw [hL]; exact ad_spell_len _ _ _, ad_spell_rng i2 (ad_good_len i1.symm h5.2.2.2) (fun q hq h0 => ?_)⟩
      exact (hw.2.2.1 u hu).1.2.2 q.2 (by rw [hL]; exact ad_spell_ins hq h0)
theorem ad_wA_dmg {A : ad_Ar} (hw : ad_wA A) {v p : Nat} {x : Int} (hx : 0 ≤ x ∧ x ≤ 7) : ad_wA (ad_dmg A v p x) := by
  have hw0 := hw
  obtain ⟨w1, w2, w3, w4, w5, w6, w7, w8, w9a, w9⟩ := hw
  have ok : ∀ u, ad_aH A u = true → (ad_L1 A v p x u).length = (ad_aL A u).length ∧ ∀ y ∈ ad_L1 A v p x u, 0 ≤ y ∧ y ≤ 7 := fun u hu => ad_L1_ok hw0 hx 8 u hu (ad_dep_facts hw0 hu).1
  unfold ad_dmg ad_wA
  simp only [ad_mkC, ad_mkH, ad_mkL, ad_mkP, ad_mkQ, ad_mkG, ad_mkB, ad_mkT, ad_mkE, ad_mkK, ad_mkF, ad_mkN]
  refine ⟨w1, w2, fun u hu => ⟨⟨by rw [(ok u hu).1]; exact (w3 u hu).1.1, by rw [(ok u hu).1]; exact (w3 u hu).1.2.1, (ok u hu).2⟩, (w3 u hu).2⟩, w4, fun u hu => ⟨(w5 u hu).1, fun hb => ?_⟩, w6, w7, w8, fun u hu => ⟨by unfold ad_L1; rw [if_neg (by rw [hu]; decide)], (w9a u hu).2⟩, w9⟩
  have h5 := (w5 u hu).2 hb
  exact ⟨h5.1, h5.2.1, ad_L1_delta hw0.S hu hb, ad_good_len (ok _ h5.2.1).1.symm h5.2.2.2⟩
/-- the letters' rows of the store s -/
def ad_Tl (s : Nat) (k i : Nat) : Prop := (k = 2 ∨ k = 12) ∧ 10 * s ≤ i ∧ i < 10 * s + 10
theorem ad_fr_l {s : Nat} {σ σ1 : ad_Mem} (h : ad_fr (ad_Tl s) σ σ1) (k i : Nat) (hk : ¬ (k = 2 ∨ k = 12) ∨ i < 10 * s ∨ 10 * s + 10 ≤ i) : σ1 k i = σ k i := h k i (fun q => hk.elim (fun z => z q.1) (fun z => by have := q.2; omega))
theorem ad_rS_l {s : Nat} {σ σ1 : ad_Mem} {A : ad_Ar} (h : ad_fr (ad_Tl s) σ σ1) (hr : ad_rS σ s A) : ad_rS σ1 s A := by
  have e4 := ad_fr_l h 4 s (Or.inl (by decide))
  have e6 := fun v => ad_fr_l h 6 (10 * s + v) (Or.inl (by decide))
  exact ⟨by rw [e4]; exact hr.1, by rw [e4]; exact hr.2.1, fun v hv => by rw [e6]; exact hr.2.2 v hv⟩
theorem c_X4_restore {g : ad_G} {d : Nat} {σ : ad_Mem} {s : Nat} {A : ad_Ar} (hs : s < 3) (hr : ad_rS σ s A) (hw : ad_wS A) {u : Nat} (h2d : 2 ≤ d) (hu : ad_aH A u = true) (hb : ad_aB A u ≠ -1) (hna : ad_nw σ (10 * s + (ad_aB A u).toNat)) (hnu : ad_nw σ (10 * s + u)) (hdw : ad_dw σ (10 * s + u)) (hg : ad_good (ad_nl σ (10 * s + (ad_aB A u).toNat)) (ad_ds σ (10 * s + u))) (hlen : (ad_spell (ad_nl σ (10 * s + (ad_aB A u).toNat)) (ad_ds σ (10 * s + u))).length ≤ 12) (hne : (ad_aB A u).toNat ≠ u) : ad_V g mX4_restore d [ad_rf g 4 s, ad_rf g 6 (10 * s + u)] σ (fun m => ad_fr (ad_Tn (10 * s + u)) σ m ∧ ad_nl m (10 * s + u) = ad_spell (ad_nl σ (10 * s + (ad_aB A u).toNat)) (ad_ds σ (10 * s + u)) ∧ ad_nw m (10 * s + u)) := by
  have hr0 := hr
  have hw0 := hw
  obtain ⟨r1, r2, r6⟩ := hr
  obtain ⟨w1, w2, w5, w6⟩ := hw
  have hB := w5 u hu
  have hB2 := hB.2 hb
  have hu2 := w2 u hu
  have hb2 := w2 _ hB2.2
  refine ad_M1 (k := 0) rfl (by simp [Value.category]) rfl (Nat.le_of_ble_eq_true rfl) ?_
  simp only [List.map_cons, List.map_nil, List.replicate, List.cons_append, List.nil_append]
  refine ad_aload_n dX4_restore_0 rfl ?_
  refine ad_aload_n dX4_restore_1 rfl ?_
  refine gf_X4_90 rfl (by omega) dX4_restore_2 ?_
  rw [r6 _ hu]
  refine ad_cv1f rfl cl_X4_57 dX4_restore_5 (c_X4_holdsS hs hr0 hw0 (by omega)) (by omega) (by show _ < 3; omega) (Nat.le_of_ble_eq_true rfl) ?_
  refine ad_ifp_eq 34 dX4_restore_8 (by decide) (fun h8 => ?_) (fun h8 => ?_)
  · skip
    exact ad_retv dX4_restore_34 rfl (by exfalso; exact h8 ⟨by omega, hB2.2⟩)
  · show ad_R _ _ _ _ 11 _ _ _
    refine ad_aload_n dX4_restore_11 rfl ?_
    refine gf_X4_116 rfl (by omega) dX4_restore_12 ?_
    refine ad_aload_n dX4_restore_15 rfl ?_
    refine gf_X4_11 rfl (by omega) dX4_restore_16 ?_
    refine ad_aload_n dX4_restore_19 rfl ?_
    refine gf_X4_90 rfl (by omega) dX4_restore_20 ?_
    rw [r6 _ hu]
    refine ad_aald dX4_restore_23 (by omega) (by omega) (by omega) ?_
    refine gf_X4_61 rfl (by omega) dX4_restore_24 ?_
    refine ad_aload_n dX4_restore_27 rfl ?_
    refine gf_X4_61 rfl (by omega) dX4_restore_28 ?_
    refine ad_cv2v rfl cl_X4_120 dX4_restore_31 (c_X0_spell (by omega) (by omega) (by omega) (by omega) (by omega) hna hnu hdw hg hlen) (by omega) (by show _ < 32; omega) (Nat.le_of_ble_eq_true rfl) (fun s31 q31 => ?_)
    exact ad_retv dX4_restore_34 rfl (q31)
/-- the letters when depths below k are done, and those of k below o -/
def ad_Lk (A : ad_Ar) (v p : Nat) (x : Int) (k o : Int) (w : Nat) : List Int := if (ad_dep A w : Int) < k ∨ ((ad_dep A w : Int) = k ∧ (w : Int) < o) then ad_L1 A v p x w else ad_aL A w
theorem c_X4_damageAt {g : ad_G} {d : Nat} {σ : ad_Mem} {s : Nat} {A : ad_Ar} (hs : s < 3) (hr : ad_rC σ s A) (hw : ad_wA A) {v : Nat} {p x : Int} (h3d : 3 ≤ d) (hv : ad_aH A v = true) (hb : ad_aB A v = -1) (hp : 0 ≤ p ∧ p < (ad_aL A v).length) (hx : 0 ≤ x ∧ x ≤ 7) : ad_V g mX4_damageAt d [ad_rf g 4 s, ad_iv (v : Int), ad_iv p, ad_iv x] σ (fun m => ad_rC m s (ad_dmg A v p.toNat x) ∧ ad_fr (ad_Ts s) σ m) := by
  have hr0 := hr
  have hw0 := hw
  obtain ⟨r1, r2, r3, r4, r5, r6, r7, r8⟩ := hr
  obtain ⟨w1, w2, w3, w4, w5, w6, w7, w8, w9⟩ := hw
  have hvv := w2 v hv
  have hrng := ad_rC_rng hr0 hw0 hv
  have hnl := ad_nl_len σ (10 * s + v)
  rw [(r6 v hv).1] at hnl
  have okL : ∀ u, ad_aH A u = true → (ad_L1 A v p.toNat x u).length = (ad_aL A u).length ∧ ∀ y ∈ ad_L1 A v p.toNat x u, 0 ≤ y ∧ y ≤ 7 := fun u hu => ad_L1_ok hw0 hx 8 u hu (ad_dep_facts hw0 hu).1
  refine ad_M1 (k := 2) rfl (by simp [Value.category]) rfl (Nat.le_of_ble_eq_true rfl) ?_
  simp only [List.map_cons, List.map_nil, List.replicate, List.cons_append, List.nil_append]
  have outer : ∀ (n : Nat) (k : Int) (v5 : Option Value) (σ1 : ad_Mem), (ad_fr (ad_Tl s) σ σ1) → (1 ≤ k) → (k ≤ 10) → (∀ w, ad_aH A w = true → ad_nl σ1 (10 * s + w) = ad_Lk A v p.toNat x k 0 w) → (∀ w, w < 10 → ad_nw σ1 (10 * s + w)) → (10 - k).toNat ≤ n → ad_R g mX4_damageAt d (ad_ZV mX4_damageAt (fun m => ad_rC m s (ad_dmg A v p.toNat x) ∧ ad_fr (ad_Ts s) σ m)) 26 [some (ad_rf g 4 s), some (ad_iv (v : Int)), some (ad_iv p), some (ad_iv x), some (ad_iv k), v5] [] σ1 := by
    intro n
    induction n with
    | zero =>
      intro k v5 σ1 e0 hk0 hk1 e1 e2 hn
      refine ad_iload dX4_damageAt_26 rfl ?_
      refine ad_bipush dX4_damageAt_28 rfl ?_
      refine ad_icmp_ge 88 dX4_damageAt_30 (by decide) (by omega) (by omega) (fun h30 => ?_) (fun h30 => ?_)
      · skip
        exact ad_retv dX4_damageAt_88 rfl (by
          have hall : ∀ w, ad_aH A w = true → ad_nl σ1 (10 * s + w) = ad_L1 A v p.toNat x w := fun w hw => by
            have hdw := (ad_dep_facts hw0 hw).1
            rw [e1 w hw]; unfold ad_Lk; rw [if_pos (Or.inl (by omega))]
          have e : ∀ k i, ¬ (k = 2 ∨ k = 12) ∨ i < 10 * s ∨ 10 * s + 10 ≤ i → σ1 k i = σ k i := fun k i h => ad_fr_l e0 k i h
          refine ⟨⟨?_, ?_, ?_, ?_, ?_, ?_, ?_, ?_⟩, e0.mono (fun k i h => Or.inr (Or.inr (Or.inr ⟨by rcases h.1 with h | h <;> simp [h], h.2.1, h.2.2⟩)))⟩
          · rw [e 4 s (Or.inl (by decide))]; exact r1
          · rw [e 4 s (Or.inl (by decide))]; exact r2
          · rw [e 4 s (Or.inl (by decide))]; exact r3
          · rw [e 19 s (Or.inl (by decide))]; exact r4
          · intro w hw
            exact ⟨e2 w hw, ad_dw_congr (e 0 _ (Or.inl (by decide))) (e 10 _ (Or.inl (by decide))) (e 11 _ (Or.inl (by decide))) (r5 w hw).2⟩
          · intro w hw
            have h6 := r6 w hw
            rw [hall w hw, ad_ds_congr (e 0 _ (Or.inl (by decide))) (e 10 _ (Or.inl (by decide))) (e 11 _ (Or.inl (by decide))), e 6 _ (Or.inl (by decide))]
            exact ⟨rfl, h6.2.1, h6.2.2.1, h6.2.2.2⟩
          · intro w hw
            rw [e 6 _ (Or.inl (by decide))]
            exact r7 w hw
          · exact ad_nw_congr (e 2 _ (Or.inr (by omega))) (e 12 _ (Or.inr (by omega))) r8)
      · show ad_R _ _ _ _ 33 _ _ _
        exfalso; omega
    | succ n ih0 =>
      intro k v5 σ1 e0 hk0 hk1 e1 e2 hn
      have outer := ih0
      refine ad_iload dX4_damageAt_26 rfl ?_
      refine ad_bipush dX4_damageAt_28 rfl ?_
      refine ad_icmp_ge 88 dX4_damageAt_30 (by decide) (by omega) (by omega) (fun h30 => ?_) (fun h30 => ?_)
      · skip
        exact ad_retv dX4_damageAt_88 rfl (by
          have hall : ∀ w, ad_aH A w = true → ad_nl σ1 (10 * s + w) = ad_L1 A v p.toNat x w := fun w hw => by
            have hdw := (ad_dep_facts hw0 hw).1
            rw [e1 w hw]; unfold ad_Lk; rw [if_pos (Or.inl (by omega))]
          have e : ∀ k i, ¬ (k = 2 ∨ k = 12) ∨ i < 10 * s ∨ 10 * s + 10 ≤ i → σ1 k i = σ k i := fun k i h => ad_fr_l e0 k i h
          refine ⟨⟨?_, ?_, ?_, ?_, ?_, ?_, ?_, ?_⟩, e0.mono (fun k i h => Or.inr (Or.inr (Or.inr ⟨by rcases h.1 with h | h <;> simp [h], h.2.1, h.2.2⟩)))⟩
          · rw [e 4 s (Or.inl (by decide))]; exact r1
          · rw [e 4 s (Or.inl (by decide))]; exact r2
          · rw [e 4 s (Or.inl (by decide))]; exact r3
          · rw [e 19 s (Or.inl (by decide))]; exact r4
          · intro w hw
            exact ⟨e2 w hw, ad_dw_congr (e 0 _ (Or.inl (by decide))) (e 10 _ (Or.inl (by decide))) (e 11 _ (Or.inl (by decide))) (r5 w hw).2⟩
          · intro w hw
            have h6 := r6 w hw
            rw [hall w hw, ad_ds_congr (e 0 _ (Or.inl (by decide))) (e 10 _ (Or.inl (by decide))) (e 11 _ (Or.inl (by decide))), e 6 _ (Or.inl (by decide))]
            exact ⟨rfl, h6.2.1, h6.2.2.1, h6.2.2.2⟩
          · intro w hw
            rw [e 6 _ (Or.inl (by decide))]
            exact r7 w hw
          · exact ad_nw_congr (e 2 _ (Or.inr (by omega))) (e 12 _ (Or.inr (by omega))) r8)
      · show ad_R _ _ _ _ 33 _ _ _
        have inner : ∀ (n : Nat) (q : Int) (σ1 : ad_Mem), (ad_fr (ad_Tl s) σ σ1) → (0 ≤ q) → (q ≤ ad_aC A) → (∀ w, ad_aH A w = true → ad_nl σ1 (10 * s + w) = ad_Lk A v p.toNat x k q w) → (∀ w, w < 10 → ad_nw σ1 (10 * s + w)) → (ad_aC A - q).toNat ≤ n → ad_R g mX4_damageAt d (ad_ZV mX4_damageAt (fun m => ad_rC m s (ad_dmg A v p.toNat x) ∧ ad_fr (ad_Ts s) σ m)) 36 [some (ad_rf g 4 s), some (ad_iv (v : Int)), some (ad_iv p), some (ad_iv x), some (ad_iv k), some (ad_iv q)] [] σ1 := by
          intro n
          induction n with
          | zero =>
            intro q σ1 e0 hq0 hq1 e1 e2 hn
            have hrs := ad_rS_l e0 hr0.S
            have hcm := congrFun (ad_fr_l e0 4 s (Or.inl (by decide))) 3
            refine ad_iload dX4_damageAt_36 rfl ?_
            refine ad_aload_n dX4_damageAt_38 rfl ?_
            refine gf_X4_31 rfl (by omega) dX4_damageAt_39 ?_
            rw [hcm]
            refine ad_icmp_ge 82 dX4_damageAt_42 (by decide) (by omega) (by omega) (fun h42 => ?_) (fun h42 => ?_)
            · skip
              refine ad_iinc dX4_damageAt_82 rfl (by decide) rfl (by dsimp only [ad_set]) ?_
              refine ad_goto 26 dX4_damageAt_85 (by decide) ?_
              refine outer (k + 1) _ _ e0 (by omega) (by omega) (fun w hw => ?_) e2 (by omega)
              rw [e1 w hw]
              have hwc := w2 w hw
              unfold ad_Lk
              by_cases hk : (ad_dep A w : Int) < k + 1
              · rw [if_pos (by omega), if_pos (by omega)]
              · rw [if_neg (by omega), if_neg (by omega)]
            · show ad_R _ _ _ _ 45 _ _ _
              exfalso; omega
          | succ n ih =>
            intro q σ1 e0 hq0 hq1 e1 e2 hn
            have hrs := ad_rS_l e0 hr0.S
            have hcm := congrFun (ad_fr_l e0 4 s (Or.inl (by decide))) 3
            refine ad_iload dX4_damageAt_36 rfl ?_
            refine ad_aload_n dX4_damageAt_38 rfl ?_
            refine gf_X4_31 rfl (by omega) dX4_damageAt_39 ?_
            rw [hcm]
            refine ad_icmp_ge 82 dX4_damageAt_42 (by decide) (by omega) (by omega) (fun h42 => ?_) (fun h42 => ?_)
            · skip
              refine ad_iinc dX4_damageAt_82 rfl (by decide) rfl (by dsimp only [ad_set]) ?_
              refine ad_goto 26 dX4_damageAt_85 (by decide) ?_
              refine outer (k + 1) _ _ e0 (by omega) (by omega) (fun w hw => ?_) e2 (by omega)
              rw [e1 w hw]
              have hwc := w2 w hw
              unfold ad_Lk
              by_cases hk : (ad_dep A w : Int) < k + 1
              · rw [if_pos (by omega), if_pos (by omega)]
              · rw [if_neg (by omega), if_neg (by omega)]
            · show ad_R _ _ _ _ 45 _ _ _
              refine ad_aload_n dX4_damageAt_45 rfl ?_
              refine ad_iload dX4_damageAt_46 rfl ?_
              refine ad_cv1f rfl cl_X4_57 dX4_damageAt_48 (c_X4_holdsS hs hrs hw0.S (by omega)) (by omega) (by show _ < 3; omega) (Nat.le_of_ble_eq_true rfl) ?_
              refine ad_ifp_eq 76 dX4_damageAt_51 (by decide) (fun h51 => ?_) (fun h51 => ?_)
              · skip
                refine ad_iinc dX4_damageAt_76 rfl (by decide) rfl (by dsimp only [ad_set]) ?_
                refine ad_goto 36 dX4_damageAt_79 (by decide) ?_
                refine ih (q + 1) _ e0 (by omega) (by omega) (fun w hw => ?_) e2 (by omega)
                rw [e1 w hw]
                unfold ad_Lk
                by_cases hwq : w = q.toNat
                · exact absurd ⟨hq0, by rw [← hwq]; exact hw⟩ h51
                · by_cases hk : (ad_dep A w : Int) < k ∨ ((ad_dep A w : Int) = k ∧ (w : Int) < q)
                  · rw [if_pos hk, if_pos (by omega)]
                  · rw [if_neg hk, if_neg (by omega)]
              · show ad_R _ _ _ _ 54 _ _ _
                refine ad_aload_n dX4_damageAt_54 rfl ?_
                refine ad_iload dX4_damageAt_55 rfl ?_
                refine ad_cv1f rfl cl_X4_110 dX4_damageAt_57 ((by
                  have hz := c_X4_depthOfS (g := g) (d := d - 1) hs hrs hw0.S (by omega) h51.2
                  rw [show ((q.toNat : Nat) : Int) = q by omega] at hz
                  exact hz)) (by omega) (by show _ < 3; omega) (Nat.le_of_ble_eq_true rfl) ?_
                have hdf := ad_dep_facts hw0 h51.2
                refine ad_iload dX4_damageAt_60 rfl ?_
                refine ad_icmp_ne 76 dX4_damageAt_62 (by decide) (by omega) (by omega) (fun h62 => ?_) (fun h62 => ?_)
                · skip
                  refine ad_iinc dX4_damageAt_76 rfl (by decide) rfl (by dsimp only [ad_set]) ?_
                  refine ad_goto 36 dX4_damageAt_79 (by decide) ?_
                  refine ih (q + 1) _ e0 (by omega) (by omega) (fun w hw => ?_) e2 (by omega)
                  rw [e1 w hw]
                  unfold ad_Lk
                  by_cases hwq : w = q.toNat
                  · subst hwq
                    by_cases hlt : (ad_dep A q.toNat : Int) < k
                    · rw [if_pos (Or.inl hlt), if_pos (Or.inl hlt)]
                    · rw [if_neg (by omega), if_neg (by omega)]
                  · by_cases hk : (ad_dep A w : Int) < k ∨ ((ad_dep A w : Int) = k ∧ (w : Int) < q)
                    · rw [if_pos hk, if_pos (by omega)]
                    · rw [if_neg hk, if_neg (by omega)]
                · show ad_R _ _ _ _ 65 _ _ _
                  have hbq : ad_aB A q.toNat ≠ -1 := fun z => by have := hdf.2.2.1 z; omega
                  have h5 := (w5 _ h51.2).2 hbq
                  have hd3 := hdf.2.2.2 hbq
                  have hb10 := w2 _ h5.2.1
                  have hneq : (ad_aB A q.toNat).toNat ≠ q.toNat := fun z => by rw [z] at hd3; omega
                  have hbl : ad_nl σ1 (10 * s + (ad_aB A q.toNat).toNat) = ad_L1 A v p.toNat x (ad_aB A q.toNat).toNat := by
                    rw [e1 _ h5.2.1]; unfold ad_Lk; rw [if_pos (Or.inl (by omega))]
                  have f0 := ad_fr_l e0 0 (10 * s + q.toNat) (Or.inl (by decide))
                  have f10 := ad_fr_l e0 10 (10 * s + q.toNat) (Or.inl (by decide))
                  have f11 := ad_fr_l e0 11 (10 * s + q.toNat) (Or.inl (by decide))
                  have hdwq := ad_dw_congr f0 f10 f11 (r5 q.toNat (by omega)).2
                  have hdsq : ad_ds σ1 (10 * s + q.toNat) = ad_aT A q.toNat := by rw [ad_ds_congr f0 f10 f11]; exact (r6 _ h51.2).2.2.2 hbq
                  have hLq := ad_L1_delta hw0.S (v := v) (p := p.toNat) (x := x) h51.2 hbq
                  refine ad_aload_n dX4_damageAt_65 rfl ?_
                  refine ad_aload_n dX4_damageAt_66 rfl ?_
                  refine gf_X4_11 rfl (by omega) dX4_damageAt_67 ?_
                  refine ad_iload dX4_damageAt_70 rfl ?_
                  refine ad_aald dX4_damageAt_72 (by omega) (by omega) (by omega) ?_
                  refine ad_cv1v rfl cl_X4_113 dX4_damageAt_73 (c_X4_restore hs hrs hw0.S (by omega) h51.2 hbq (e2 _ (by omega)) (e2 _ (by omega)) hdwq (by rw [hbl, hdsq]; exact ad_good_len (okL _ h5.2.1).1.symm h5.2.2.2) (by rw [hbl, hdsq, ← hLq, (okL _ h51.2).1]; exact (w3 _ h51.2).1.2.1) hneq) (by omega) (by show _ < 3; omega) (Nat.le_of_ble_eq_true rfl) (fun s73 q73 => ?_)
                  refine ad_iinc dX4_damageAt_76 rfl (by decide) rfl (by dsimp only [ad_set]) ?_
                  refine ad_goto 36 dX4_damageAt_79 (by decide) ?_
                  obtain ⟨t1, t2, t3⟩ := q73
                  rw [hbl, hdsq, ← hLq] at t2
                  refine ih (q + 1) _ (e0.trans (t1.mono (fun k i h => ⟨h.1, by have := h.2; omega, by have := h.2; omega⟩))) (by omega) (by omega) (fun w hw => ?_) (fun w hw => ?_) (by omega)
                  · by_cases hwq : w = q.toNat
                    · rw [hwq, t2]; unfold ad_Lk; rw [if_pos (by omega)]
                    · rw [ad_nl_congr (ad_fr_n t1 2 (10 * s + w) (Or.inr (by omega))) (ad_fr_n t1 12 (10 * s + w) (Or.inr (by omega))), e1 w hw]
                      unfold ad_Lk
                      by_cases hk : (ad_dep A w : Int) < k ∨ ((ad_dep A w : Int) = k ∧ (w : Int) < q)
                      · rw [if_pos hk, if_pos (by omega)]
                      · rw [if_neg hk, if_neg (by omega)]
                  · by_cases hwq : w = q.toNat
                    · rw [hwq]; exact t3
                    · exact ad_nw_congr (ad_fr_n t1 2 (10 * s + w) (Or.inr (by omega))) (ad_fr_n t1 12 (10 * s + w) (Or.inr (by omega))) (e2 w hw)
        refine ad_iconst dX4_damageAt_33 ?_
        refine ad_istore dX4_damageAt_34 (by decide) rfl (by dsimp only [ad_set]) ?_
        exact inner (ad_aC A) 0 _ e0 (by omega) (by omega) e1 e2 (by omega)
  refine ad_aload_n dX4_damageAt_0 rfl ?_
  refine ad_iload_n dX4_damageAt_1 rfl ?_
  refine ad_cv1f rfl cl_X4_57 dX4_damageAt_2 (c_X4_holds hs hr0 hw0 (by omega)) (by omega) (by show _ < 3; omega) (Nat.le_of_ble_eq_true rfl) ?_
  refine ad_ifp_ne 9 dX4_damageAt_5 (by decide) (fun h5 => ?_) (fun h5 => ?_)
  · skip
    refine ad_aload_n dX4_damageAt_9 rfl ?_
    refine gf_X4_11 rfl (by omega) dX4_damageAt_10 ?_
    refine ad_iload_n dX4_damageAt_13 rfl ?_
    refine ad_aald dX4_damageAt_14 (by omega) (by omega) (by omega) ?_
    rw [Int.toNat_natCast]
    refine gf_X4_61 rfl (by omega) dX4_damageAt_15 ?_
    refine ad_iload_n dX4_damageAt_18 rfl ?_
    refine ad_iload_n dX4_damageAt_19 rfl ?_
    refine ad_cv2v rfl cl_X4_106 dX4_damageAt_20 (c_X2_put (by omega) (r5 v (by omega)).1 (by omega)) (by omega) (by show _ < 36; omega) (Nat.le_of_ble_eq_true rfl) (fun s20 q20 => ?_)
    obtain ⟨a1, a2, a3, a4⟩ := ad_put_nl (r5 v (by omega)).1 (by omega) (by omega) q20
    rw [(r6 v hv).1] at a1
    refine ad_iconst dX4_damageAt_23 ?_
    refine ad_istore dX4_damageAt_24 (by decide) rfl (by dsimp only [ad_set]) ?_
    refine outer 9 1 _ _ (a3.mono (fun k i h => ⟨h.1, by have := h.2; omega, by have := h.2; omega⟩)) (by omega) (by omega) (fun w hw => ?_) (fun w hw => ?_) (by omega)
    · by_cases hwv : w = v
      · rw [hwv, a1]
        unfold ad_Lk
        rw [if_pos (Or.inl (by rw [(ad_dep_facts hw0 hv).2.2.1 hb]; omega)), ad_L1_whole hw0.S hv hb]
        unfold ad_L0; rw [if_pos rfl]
      · rw [ad_nl_congr (ad_fr_n a3 2 (10 * s + w) (Or.inr (by omega))) (ad_fr_n a3 12 (10 * s + w) (Or.inr (by omega))), (r6 w hw).1]
        unfold ad_Lk
        by_cases hk : (ad_dep A w : Int) < 1 ∨ ((ad_dep A w : Int) = 1 ∧ (w : Int) < 0)
        · have hdw := ad_dep_facts hw0 hw
          have hbw : ad_aB A w = -1 := by
            by_cases hz : ad_aB A w = -1
            · exact hz
            · have := hdw.2.2.2 hz; omega
          rw [if_pos hk, ad_L1_whole hw0.S hw hbw]
          unfold ad_L0; rw [if_neg hwv]
        · rw [if_neg hk]
    · by_cases hwv : w = v
      · rw [hwv]; exact a2
      · exact ad_nw_congr (ad_fr_n a3 2 (10 * s + w) (Or.inr (by omega))) (ad_fr_n a3 12 (10 * s + w) (Or.inr (by omega))) (r5 w hw).1
  · show ad_R _ _ _ _ 8 _ _ _
    exact ad_retv dX4_damageAt_8 rfl (by
      exfalso; exact h5 ⟨by omega, by rw [Int.toNat_natCast]; exact hv⟩)
