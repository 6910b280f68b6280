/-! ===== the reference: rows of numbers, frames, small methods ===== -/
section adj
variable {g : ad_G} {μ : ad_MI} {d : Nat} {Z : Nat → List Value → ad_Mem → Prop} {pc : Nat} {L : List (Option Value)} {S : List Value} {σ : ad_Mem}
theorem ad_ialj {k i : Nat} {a v : Int} (j : Nat) (hd : decode μ.2.1 pc = .ok (.iaload, 1)) (hi : i < ad_cnt k) (hk : ¬ k < 9 ∧ k ≠ 18) (ha : a = (j : Int)) (h1 : j < ad_len k i) (hv : σ k i j = v) (kk : ad_R g μ d Z (pc + 1) L (ad_iv v :: S) σ) : ad_R g μ d Z pc L (ad_iv a :: ad_rf g k i :: S) σ := by
  subst ha
  subst hv
  refine ad_iald hd hi hk (by omega) (by omega) ?_
  rw [Int.toNat_natCast]
  exact kk
theorem ad_iasj {k i : Nat} {a x : Int} (j : Nat) (hd : decode μ.2.1 pc = .ok (.iastore, 1)) (hi : i < ad_cnt k) (hk : ¬ k < 9 ∧ k ≠ 18) (ha : a = (j : Int)) (h1 : j < ad_len k i) (kk : ad_R g μ d Z (pc + 1) L S (ad_st σ k i j x)) : ad_R g μ d Z pc L (ad_iv x :: ad_iv a :: ad_rf g k i :: S) σ := by
  subst ha
  refine ad_iast hd hi hk (by omega) (by omega) ?_
  rw [Int.toNat_natCast]
  exact kk
end adj
/-- all but the arrays ks and the reference's own fields js is as it was -/
def ad_f8 (ks js : List Nat) (σ m : ad_Mem) : Prop := (∀ k i, k ≠ 8 → k ∉ ks → m k i = σ k i) ∧ ∀ i c, c ∉ js → m 8 i c = σ 8 i c
theorem ad_f8.refl {ks js : List Nat} {σ : ad_Mem} : ad_f8 ks js σ σ := ⟨fun _ _ _ _ => rfl, fun _ _ _ => rfl⟩
theorem ad_f8.trans {ks js : List Nat} {σ m n : ad_Mem} (h1 : ad_f8 ks js σ m) (h2 : ad_f8 ks js m n) : ad_f8 ks js σ n := ⟨fun k i a b => (h2.1 k i a b).trans (h1.1 k i a b), fun i c a => (h2.2 i c a).trans (h1.2 i c a)⟩
theorem ad_f8.mono {ks js ks' js' : List Nat} {σ m : ad_Mem} (h : ad_f8 ks js σ m) (hk : ∀ k ∈ ks, k ∈ ks') (hj : ∀ j ∈ js, j ∈ js') : ad_f8 ks' js' σ m := ⟨fun k i a b => h.1 k i a (fun q => b (hk k q)), fun i c a => h.2 i c (fun q => a (hj c q))⟩
theorem ad_f8.st {ks js : List Nat} {σ : ad_Mem} {k i j : Nat} {x : Int} (h8 : k ≠ 8) (h : k ∈ ks) : ad_f8 ks js σ (ad_st σ k i j x) := by
  refine ⟨fun a b _ hb => ?_, fun b c _ => ?_⟩
  · funext c
    unfold ad_st
    rw [if_neg]
    rintro ⟨rfl, -⟩
    exact hb h
  · unfold ad_st
    rw [if_neg]
    rintro ⟨rfl, -⟩
    exact h8 rfl
theorem ad_f8.sj {ks js : List Nat} {σ : ad_Mem} {i j : Nat} {x : Int} (h : j ∈ js) : ad_f8 ks js σ (ad_st σ 8 i j x) := by
  refine ⟨fun a b ha _ => ?_, fun b c hc => ?_⟩
  · funext c
    unfold ad_st
    rw [if_neg]
    rintro ⟨rfl, -⟩
    exact ha rfl
  · unfold ad_st
    rw [if_neg]
    rintro ⟨-, -, rfl⟩
    exact hc h
/-- a row with one number changed -/
theorem ad_st_r1 (σ : ad_Mem) (k i j : Nat) (x : Int) : ad_st σ k i j x k i = ad_u1 (σ k i) j x := by
  funext c
  unfold ad_st ad_u1
  by_cases h : c = j
  · rw [if_pos ⟨rfl, rfl, h⟩, if_pos h]
  · rw [if_neg (fun q => h q.2.2), if_neg h]
theorem ad_st_ne (σ : ad_Mem) {k i j a b : Nat} (x : Int) (h : a ≠ k) : ad_st σ k i j x a b = σ a b := by
  funext c
  unfold ad_st
  rw [if_neg (fun q => h q.1)]
theorem ad_u1_eq (f : Nat → Int) (v : Nat) (x : Int) : ad_u1 f v x v = x := by unfold ad_u1; rw [if_pos rfl]
theorem ad_u1_ne (f : Nat → Int) {v u : Nat} (x : Int) (h : u ≠ v) : ad_u1 f v x u = f u := by unfold ad_u1; rw [if_neg h]
/-- a version out of the row -/
def ad_rv (a : Nat → Int) (A : ad_Ar) (v : Nat) : Prop := a (50 * v + 1) = ad_aG A v ∧ a (50 * v + 4) = ad_lk (ad_aB A v) ∧
  (ad_aB A v = -1 → a (50 * v + 5) = (ad_aL A v).length ∧ ∀ i, i < (ad_aL A v).length → a (50 * v + 6 + i) = (ad_aL A v).getD i 0) ∧
  (ad_aB A v ≠ -1 → a (50 * v + 18) = (ad_aT A v).length ∧ ∀ i, i < (ad_aT A v).length → a (50 * v + 20 + 2 * i) = ((ad_aT A v).getD i (0, 0)).1 ∧ a (50 * v + 20 + 2 * i + 1) = ((ad_aT A v).getD i (0, 0)).2)
/-- the row holds the archive -/
def ad_ra (a : Nat → Int) (A : ad_Ar) : Prop :=
  (ad_aC A ≤ 10 ∧ ∀ v, ad_aH A v = true → v < ad_aC A ∧ (ad_aL A v).length ≤ 12 ∧ (ad_aT A v).length ≤ 12) ∧
  (a 500 = ad_aC A ∧ (∀ h, h < 4 → a (501 + h) = ad_lk (ad_aE A h)) ∧ (a 505 = ad_aK A ∧ a 506 = ad_aF A ∧ a 507 = ad_aN A)) ∧
  (∀ v, v < 10 → a (50 * v) = if ad_aH A v = true then 1 else 0) ∧
  (∀ v, v < ad_aC A → a (50 * v + 2) = ad_lk (ad_aP A v) ∧ a (50 * v + 3) = ad_lk (ad_aQ A v)) ∧
  (∀ v, ad_aH A v = true → ad_rv a A v) ∧ ∀ i, i < 520 → ad_rng (a i)
theorem ad_ra_congr {a b : Nat → Int} {A : ad_Ar} (h : ∀ i, i < 520 → b i = a i) (hr : ad_ra a A) : ad_ra b A := by
  obtain ⟨h1, ⟨h2, h3, h4, h5, h6⟩, h7, h8, h9, h10⟩ := hr
  have hc := h1.1
  refine ⟨h1, ⟨by rw [h _ (by omega)]; exact h2, fun q hq => by rw [h _ (by omega)]; exact h3 q hq, by rw [h _ (by omega)]; exact h4, by rw [h _ (by omega)]; exact h5, by rw [h _ (by omega)]; exact h6⟩, fun v hv => by rw [h _ (by omega)]; exact h7 v hv, fun v hv => by rw [h _ (by omega), h _ (by omega)]; exact h8 v hv, fun v hv => ?_, fun i hi => by rw [h i hi]; exact h10 i hi⟩
  obtain ⟨g1, g2, g3⟩ := h1.2 v hv
  obtain ⟨k1, k2, k3, k4⟩ := h9 v hv
  refine ⟨by rw [h _ (by omega)]; exact k1, by rw [h _ (by omega)]; exact k2, fun q => ⟨by rw [h _ (by omega)]; exact (k3 q).1, fun i hi => by rw [h _ (by omega)]; exact (k3 q).2 i hi⟩, fun q => ⟨by rw [h _ (by omega)]; exact (k4 q).1, fun i hi => ⟨by rw [h _ (by omega)]; exact ((k4 q).2 i hi).1, by rw [h _ (by omega)]; exact ((k4 q).2 i hi).2⟩⟩⟩
/-- restored letters: the row of lengths, the rows of letters -/
def ad_rr (σ : ad_Mem) (D : Nat → Bool) (L : Nat → List Int) : Prop := (∀ v, v < 10 → σ 29 0 v = if D v = true then ((L v).length : Int) else -9) ∧ ∀ v, v < 10 → D v = true → (L v).length ≤ 12 ∧ ∀ i, i < (L v).length → σ 28 0 (12 * v + i) = (L v).getD i 0
theorem ad_rr_congr {σ m : ad_Mem} {D : Nat → Bool} {L : Nat → List Int} (h28 : m 28 0 = σ 28 0) (h29 : m 29 0 = σ 29 0) (h : ad_rr σ D L) : ad_rr m D L := ⟨fun v hv => by rw [h29]; exact h.1 v hv, fun v hv hd => ⟨(h.2 v hv hd).1, fun i hi => by rw [h28]; exact (h.2 v hv hd).2 i hi⟩⟩
theorem ad_lk_rng {v : Int} (h : -1 ≤ v ∧ v ≤ 100) : -9 ≤ ad_lk v ∧ ad_lk v ≤ 100 := by unfold ad_lk; split <;> omega
theorem ad_lk_no {v : Int} (h : -1 ≤ v) : ad_lk v = -9 ↔ v = -1 := by unfold ad_lk; split <;> omega
theorem ad_lk_ge {v : Int} (h : v ≠ -1) : ad_lk v = v := by unfold ad_lk; rw [if_neg h]
theorem c_X8_no {g : ad_G} {d : Nat} {σ : ad_Mem} {y : Int} (hy : -6 ≤ y ∧ y ≤ -1) : ad_Q g mX8_no d [ad_rf g 8 0, ad_iv y] σ (fun x m => x = ad_iv y ∧ m = ad_st σ 25 0 (-y).toNat (σ 25 0 (-y).toNat + 1)) := by
  refine ad_M1 (k := 0) rfl (by simp [Value.category]) rfl (Nat.le_of_ble_eq_true rfl) ?_
  simp only [List.map_cons, List.map_nil, List.replicate, List.cons_append, List.nil_append]
  refine ad_aload_n dX8_no_0 rfl ?_
  refine gf_X8_22 rfl dX8_no_1 ?_
  refine ad_iload_n dX8_no_4 rfl ?_
  refine ad_ineg dX8_no_5 ?_
  refine ad_dup2 dX8_no_6 rfl rfl ?_
  refine ad_ialj ((-y).toNat) dX8_no_7 (by decide) ⟨by decide, by decide⟩ (by omega) (by show _ < 8; omega) rfl ?_
  refine ad_iconst dX8_no_8 ?_
  refine ad_iadd dX8_no_9 ?_
  refine ad_iasj ((-y).toNat) dX8_no_10 (by decide) ⟨by decide, by decide⟩ (by omega) (by show _ < 8; omega) ?_
  refine ad_iload_n dX8_no_11 rfl ?_
  exact ad_reti dX8_no_12 rfl (⟨rfl, rfl⟩)
theorem c_X8_noLong {g : ad_G} {d : Nat} {σ : ad_Mem} {y : Int} (hy : -6 ≤ y ∧ y ≤ -1) (h1d : 1 ≤ d) : ad_Q g mX8_noLong d [ad_rf g 8 0, ad_iv y] σ (fun x m => x = ad_lv (4000000000000000000 - y) ∧ m = ad_st σ 25 0 (-y).toNat (σ 25 0 (-y).toNat + 1)) := by
  refine ad_M1 (k := 0) rfl (by simp [Value.category]) rfl (Nat.le_of_ble_eq_true rfl) ?_
  simp only [List.map_cons, List.map_nil, List.replicate, List.cons_append, List.nil_append]
  refine ad_ldc2 (n := 4000000000000000000) dX8_noLong_0 kc_X8_49 ?_
  refine ad_aload_n dX8_noLong_3 rfl ?_
  refine ad_iload_n dX8_noLong_4 rfl ?_
  refine ad_cv1f rfl cl_X8_51 dX8_noLong_5 (c_X8_no hy) (by omega) (by show _ < 1; omega) (Nat.le_of_ble_eq_true rfl) ?_
  refine ad_i2l dX8_noLong_8 (by omega) ?_
  refine ad_lsub dX8_noLong_9 ?_
  exact ad_retl dX8_noLong_10 rfl (⟨rfl, rfl⟩)
theorem c_X8_isIn {g : ad_G} {d : Nat} {σ : ad_Mem} {x a b : Int} (hx : ad_rng x) (ha : ad_rng a) (hb : ad_rng b) : ad_Q g mX8_isIn d [ad_iv x, ad_iv a, ad_iv b] σ (fun v m => v = ad_pv (a ≤ x ∧ x ≤ b) ∧ m = σ) := by
  refine ad_M1 (k := 0) rfl (by simp [Value.category]) rfl (Nat.le_of_ble_eq_true rfl) ?_
  simp only [List.map_cons, List.map_nil, List.replicate, List.cons_append, List.nil_append]
  refine ad_iload_n dX8_isIn_0 rfl ?_
  refine ad_iload_n dX8_isIn_1 rfl ?_
  refine ad_icmp_lt 14 dX8_isIn_2 (by decide) (by omega) (by omega) (fun h2 => ?_) (fun h2 => ?_)
  · skip
    refine ad_iconst dX8_isIn_14 ?_
    exact ad_ret0 dX8_isIn_15 rfl (⟨ad_pv_f (by omega), rfl⟩)
  · show ad_R _ _ _ _ 5 _ _ _
    refine ad_iload_n dX8_isIn_5 rfl ?_
    refine ad_iload_n dX8_isIn_6 rfl ?_
    refine ad_icmp_gt 14 dX8_isIn_7 (by decide) (by omega) (by omega) (fun h7 => ?_) (fun h7 => ?_)
    · skip
      refine ad_iconst dX8_isIn_14 ?_
      exact ad_ret0 dX8_isIn_15 rfl (⟨ad_pv_f (by omega), rfl⟩)
    · show ad_R _ _ _ _ 10 _ _ _
      refine ad_iconst dX8_isIn_10 ?_
      refine ad_goto 15 dX8_isIn_11 (by decide) ?_
      exact ad_ret1 dX8_isIn_15 rfl (⟨ad_pv_t (by omega), rfl⟩)
theorem c_X8_isThere0 {g : ad_G} {d : Nat} {σ : ad_Mem} {H : Nat → Bool} (hh7 : ∀ v, v < 10 → σ 21 0 (50 * v) = if H v = true then 1 else 0) (hH : ∀ v, H v = true → v < 10) {v : Int} (hv : ad_rng v) (h1d : 1 ≤ d) : ad_Q g mX8_isThere d [ad_rf g 8 0, ad_iv v] σ (fun x m => x = ad_pv (0 ≤ v ∧ H v.toNat = true) ∧ m = σ) := by
  refine ad_M1 (k := 0) rfl (by simp [Value.category]) rfl (Nat.le_of_ble_eq_true rfl) ?_
  simp only [List.map_cons, List.map_nil, List.replicate, List.cons_append, List.nil_append]
  refine ad_iload_n dX8_isThere_0 rfl ?_
  refine ad_iconst dX8_isThere_1 ?_
  refine ad_bipush dX8_isThere_2 rfl ?_
  refine ad_cs3f rfl cl_X8_55 dX8_isThere_4 (c_X8_isIn hv (by decide) (by decide)) (by omega) (Nat.le_of_ble_eq_true rfl) ?_
  refine ad_ifp_eq 29 dX8_isThere_7 (by decide) (fun h7 => ?_) (fun h7 => ?_)
  · skip
    refine ad_iconst dX8_isThere_29 ?_
    exact ad_ret0 dX8_isThere_30 rfl (⟨ad_pv_f (fun q => by have := hH _ q.2; omega), rfl⟩)
  · show ad_R _ _ _ _ 10 _ _ _
    refine ad_aload_n dX8_isThere_10 rfl ?_
    refine gf_X8_9 rfl dX8_isThere_11 ?_
    refine ad_bipush dX8_isThere_14 rfl ?_
    refine ad_iload_n dX8_isThere_16 rfl ?_
    refine ad_imul dX8_isThere_17 ?_
    refine ad_iconst dX8_isThere_18 ?_
    refine ad_iadd dX8_isThere_19 ?_
    refine ad_ialj (50 * v.toNat) dX8_isThere_20 (by decide) ⟨by decide, by decide⟩ (by omega) (by show _ < 520; omega) (hh7 v.toNat (by omega)) ?_
    refine ad_iconst dX8_isThere_21 ?_
    refine ad_icmp_ne 29 dX8_isThere_22 (by decide) (by split <;> decide) (by decide) (fun h22 => ?_) (fun h22 => ?_)
    · skip
      refine ad_iconst dX8_isThere_29 ?_
      exact ad_ret0 dX8_isThere_30 rfl (⟨ad_pv_f (fun q => h22 (by rw [if_pos q.2])), rfl⟩)
    · show ad_R _ _ _ _ 25 _ _ _
      refine ad_iconst dX8_isThere_25 ?_
      refine ad_goto 30 dX8_isThere_26 (by decide) ?_
      exact ad_ret1 dX8_isThere_30 rfl (⟨ad_pv_t ⟨by omega, by
          by_cases hq : H v.toNat = true
          · exact hq
          · rw [if_neg hq] at h22; exact absurd (by decide) h22⟩, rfl⟩)
theorem ad_ra.H {a : Nat → Int} {A : ad_Ar} (hr : ad_ra a A) : ∀ v, ad_aH A v = true → v < 10 := fun v hv => by
  have := hr.1.1
  have := (hr.1.2 v hv).1
  omega
theorem c_X8_isThere {g : ad_G} {d : Nat} {σ : ad_Mem} {A : ad_Ar} (hr : ad_ra (σ 21 0) A) {v : Int} (hv : ad_rng v) (h1d : 1 ≤ d) : ad_Q g mX8_isThere d [ad_rf g 8 0, ad_iv v] σ (fun x m => x = ad_pv (0 ≤ v ∧ ad_aH A v.toNat = true) ∧ m = σ) := c_X8_isThere0 hr.2.2.1 hr.H hv h1d
theorem ad_cnt8 {k : Nat} (h : 21 ≤ k ∧ k ≤ 24) : 0 < ad_cnt k ∧ ad_len k 0 = 520 := by
  have : k = 21 ∨ k = 22 ∨ k = 23 ∨ k = 24 := by omega
  rcases this with rfl | rfl | rfl | rfl <;> exact ⟨by decide, rfl⟩
theorem c_X8_copies {g : ad_G} {d : Nat} {σ : ad_Mem} {k1 k2 : Nat} (hk1 : 21 ≤ k1 ∧ k1 ≤ 24) (hk2 : 21 ≤ k2 ∧ k2 ≤ 24) (hne : k1 ≠ k2) : ad_V g mX8_copies d [ad_rf g k1 0, ad_rf g k2 0] σ (fun m => (∀ c, m k2 0 c = if c < 520 then σ k1 0 c else σ k2 0 c) ∧ ad_f8 [k2] [] σ m) := by
  obtain ⟨u1, u2⟩ := ad_cnt8 hk1
  obtain ⟨u3, u4⟩ := ad_cnt8 hk2
  have hloop : ∀ (n : Nat) (i : Nat) (m : ad_Mem), i ≤ 520 → (∀ c, m k2 0 c = if c < i then σ k1 0 c else σ k2 0 c) → ad_f8 [k2] [] σ m → 520 - i ≤ n → ad_R g mX8_copies d (ad_ZV mX8_copies (fun m => (∀ c, m k2 0 c = if c < 520 then σ k1 0 c else σ k2 0 c) ∧ ad_f8 [k2] [] σ m)) 2 [some (ad_rf g k1 0), some (ad_rf g k2 0), some (ad_iv (i : Int))] [] m := by
    intro n
    induction n with
    | zero =>
      intro i m hi e1 e2 hn
      refine ad_iload_n dX8_copies_2 rfl ?_
      refine ad_sipush dX8_copies_3 rfl ?_
      refine ad_icmp_ge 21 dX8_copies_6 (by decide) (by omega) (by decide) (fun h6 => ?_) (fun h6 => ?_)
      · exact ad_retv dX8_copies_21 rfl ⟨fun c => by rw [e1, show i = 520 by omega], e2⟩
      · show ad_R _ _ _ _ 9 _ _ _
        exfalso; omega
    | succ n ih =>
      intro i m hi e1 e2 hn
      refine ad_iload_n dX8_copies_2 rfl ?_
      refine ad_sipush dX8_copies_3 rfl ?_
      refine ad_icmp_ge 21 dX8_copies_6 (by decide) (by omega) (by decide) (fun h6 => ?_) (fun h6 => ?_)
      · exact ad_retv dX8_copies_21 rfl ⟨fun c => by rw [e1, show i = 520 by omega], e2⟩
      · show ad_R _ _ _ _ 9 _ _ _
        refine ad_aload_n dX8_copies_9 rfl ?_
        refine ad_iload_n dX8_copies_10 rfl ?_
        refine ad_aload_n dX8_copies_11 rfl ?_
        refine ad_iload_n dX8_copies_12 rfl ?_
        refine ad_ialj i dX8_copies_13 u1 ⟨by omega, by omega⟩ rfl (by omega) (congrFun (e2.1 k1 0 (by omega) (by rw [List.mem_singleton]; exact hne)) i) ?_
        refine ad_iasj i dX8_copies_14 u3 ⟨by omega, by omega⟩ rfl (by omega) ?_
        refine ad_iinc dX8_copies_15 rfl (by decide) rfl (by dsimp only [ad_set]) ?_
        refine ad_goto 2 dX8_copies_18 (by decide) ?_
        refine ih (i + 1) _ (by omega) (fun c => ?_) (e2.trans (ad_f8.st (by omega) (List.mem_singleton.mpr rfl))) (by omega)
        rw [ad_st_r1]
        unfold ad_u1
        by_cases hc : c = i
        · rw [if_pos hc, if_pos (by omega), hc]
        · rw [if_neg hc, e1]
          by_cases hc2 : c < i
          · rw [if_pos hc2, if_pos (by omega)]
          · rw [if_neg hc2, if_neg (by omega)]
  refine ad_M1 (k := 1) rfl (by simp [Value.category]) rfl (Nat.le_of_ble_eq_true rfl) ?_
  simp only [List.map_cons, List.map_nil, List.replicate, List.cons_append, List.nil_append]
  refine ad_iconst dX8_copies_0 ?_
  refine ad_istore_n dX8_copies_1 (by decide) rfl (by dsimp only [ad_set]) ?_
  exact hloop _ 0 σ (by omega) (fun c => by rw [if_neg (by omega)]) ad_f8.refl (Nat.le_refl _)
