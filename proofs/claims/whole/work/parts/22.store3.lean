/-! ===== what a store answers: reach, sending ===== -/
/-- the n-th that is there, from v on (fuel) -/
def ad_nth (H : Nat → Bool) : Nat → Nat → Nat → Nat
  | 0, v, _ => v
  | k + 1, v, left => if H v = true then (if left = 0 then v else ad_nth H k (v + 1) (left - 1)) else ad_nth H k (v + 1) left
theorem ad_nth_s (H : Nat → Bool) (k v left : Nat) : ad_nth H (k + 1) v left = if H v = true then (if left = 0 then v else ad_nth H k (v + 1) (left - 1)) else ad_nth H k (v + 1) left := rfl
theorem ad_nth_in (H : Nat → Bool) : ∀ (k v left : Nat), ad_pp H v + left < ad_pp H (v + k) → ad_nth H k v left < v + k ∧ H (ad_nth H k v left) = true ∧ v ≤ ad_nth H k v left
  | 0, v, left, h => by exfalso; have : ad_pp H (v + 0) = ad_pp H v := rfl; omega
  | k + 1, v, left, h => by
    have e : v + (k + 1) = v + 1 + k := by omega
    rw [e] at h
    have hs : ad_pp H (v + 1) = ad_pp H v + if H v = true then 1 else 0 := rfl
    rw [ad_nth]
    by_cases hv : H v = true
    · rw [if_pos hv]
      rw [if_pos hv] at hs
      by_cases hl : left = 0
      · rw [if_pos hl]; exact ⟨by omega, hv, by omega⟩
      · rw [if_neg hl]
        have := ad_nth_in H k (v + 1) (left - 1) (by omega)
        exact ⟨by omega, this.2.1, by omega⟩
    · rw [if_neg hv]
      rw [if_neg hv] at hs
      have := ad_nth_in H k (v + 1) left (by omega)
      exact ⟨by omega, this.2.1, by omega⟩
theorem ad_pp_end {p : Nat → Bool} {c : Nat} (h : ∀ i, c ≤ i → p i = false) : ∀ k, ad_pp p (c + k) = ad_pp p c
  | 0 => rfl
  | k + 1 => by
    have hk := h (c + k) (by omega)
    show ad_pp p (c + k) + (if p (c + k) = true then _ else _) = _
    rw [ad_pp_end h k, hk]; simp
theorem c_X4_heldAt {g : ad_G} {d : Nat} {σ : ad_Mem} {s : Nat} {A : ad_Ar} (hs : s < 3) (hr : ad_rC σ s A) (hw : ad_wA A) {k : Nat} (h1d : 1 ≤ d) (hk : k < ad_pp (ad_aH A) 10) : ad_Q g mX4_heldAt d [ad_rf g 4 s, ad_iv (k : Int)] σ (fun x m => x = ad_iv (ad_nth (ad_aH A) 10 0 k : Nat) ∧ m = σ) := by
  have hr0 := hr
  have hw0 := hw
  obtain ⟨r1, r2, r3, r4, r5, r6, r7, r8⟩ := hr
  obtain ⟨w1, w2, w3, w4, w5, w6, w7, w8, w9⟩ := hw
  have r2b := ad_bits_lt (ad_aH A)
  have hk10 := ad_pp_le (ad_aH A) 10
  refine ad_M1 (k := 2) rfl (by simp [Value.category]) rfl (Nat.le_of_ble_eq_true rfl) ?_
  simp only [List.map_cons, List.map_nil, List.replicate, List.cons_append, List.nil_append]
  have lp : ∀ (n : Nat) (v : Int) (a : Int), (0 ≤ v) → (v ≤ ad_aC A) → (0 ≤ a ∧ a ≤ k) → (ad_pp (ad_aH A) v.toNat = a.toNat) → (ad_nth (ad_aH A) 10 0 k = ad_nth (ad_aH A) (10 - v.toNat) v.toNat (k - a.toNat)) → (ad_aC A - v).toNat ≤ n → ad_R g mX4_heldAt d (ad_ZQ mX4_heldAt (fun x m => x = ad_iv (ad_nth (ad_aH A) 10 0 k : Nat) ∧ m = σ)) 4 [some (ad_rf g 4 s), some (ad_iv (k : Int)), some (ad_iv a), some (ad_iv v)] [] σ := by
    intro n
    induction n with
    | zero =>
      intro v a hv0 hv1 ha hp hI hn
      refine ad_iload_n dX4_heldAt_4 rfl ?_
      refine ad_aload_n dX4_heldAt_5 rfl ?_
      refine gf_X4_31 rfl (by omega) dX4_heldAt_6 ?_
      refine ad_icmp_ge 36 dX4_heldAt_9 (by decide) (by omega) (by omega) (fun h9 => ?_) (fun h9 => ?_)
      · skip
        refine ad_iconst dX4_heldAt_36 ?_
        exact ad_reti dX4_heldAt_37 rfl (by
          exfalso
          have hz := ad_pp_end (p := ad_aH A) (c := ad_aC A) (fun i hi => by
            cases hq : ad_aH A i with
            | false => rfl
            | true => have := w2 i hq; omega) (10 - ad_aC A)
          rw [show ad_aC A + (10 - ad_aC A) = 10 by omega] at hz
          rw [show v.toNat = ad_aC A by omega] at hp
          omega)
      · show ad_R _ _ _ _ 12 _ _ _
        exfalso; omega
    | succ n ih =>
      intro v a hv0 hv1 ha hp hI hn
      refine ad_iload_n dX4_heldAt_4 rfl ?_
      refine ad_aload_n dX4_heldAt_5 rfl ?_
      refine gf_X4_31 rfl (by omega) dX4_heldAt_6 ?_
      refine ad_icmp_ge 36 dX4_heldAt_9 (by decide) (by omega) (by omega) (fun h9 => ?_) (fun h9 => ?_)
      · skip
        refine ad_iconst dX4_heldAt_36 ?_
        exact ad_reti dX4_heldAt_37 rfl (by
          exfalso
          have hz := ad_pp_end (p := ad_aH A) (c := ad_aC A) (fun i hi => by
            cases hq : ad_aH A i with
            | false => rfl
            | true => have := w2 i hq; omega) (10 - ad_aC A)
          rw [show ad_aC A + (10 - ad_aC A) = 10 by omega] at hz
          rw [show v.toNat = ad_aC A by omega] at hp
          omega)
      · show ad_R _ _ _ _ 12 _ _ _
        refine ad_aload_n dX4_heldAt_12 rfl ?_
        refine ad_iload_n dX4_heldAt_13 rfl ?_
        refine ad_cv1f rfl cl_X4_57 dX4_heldAt_14 (c_X4_holds hs hr0 hw0 (by omega)) (by omega) (by show _ < 3; omega) (Nat.le_of_ble_eq_true rfl) ?_
        refine ad_ifp_eq 30 dX4_heldAt_17 (by decide) (fun h17 => ?_) (fun h17 => ?_)
        · skip
          obtain ⟨q, hq⟩ : ∃ q, 10 - v.toNat = q + 1 := ⟨9 - v.toNat, by omega⟩
          have hq2 : 10 - (v + 1).toNat = q := by omega
          have hv3 : (v + 1).toNat = v.toNat + 1 := by omega
          have hnh : ¬ ad_aH A v.toNat = true := fun z => h17 ⟨hv0, z⟩
          rw [hq, ad_nth_s (ad_aH A) q, if_neg hnh] at hI
          have hpp : ad_pp (ad_aH A) (v.toNat + 1) = ad_pp (ad_aH A) v.toNat + if ad_aH A v.toNat = true then 1 else 0 := rfl
          rw [if_neg hnh] at hpp
          refine ad_iinc dX4_heldAt_30 rfl (by decide) rfl (by dsimp only [ad_set]) ?_
          refine ad_goto 4 dX4_heldAt_33 (by decide) ?_
          exact ih (v + 1) a (by omega) (by omega) (by omega) (by rw [hv3]; omega) (by rw [hI, hq2, hv3]) (by omega)
        · show ad_R _ _ _ _ 20 _ _ _
          obtain ⟨q, hq⟩ : ∃ q, 10 - v.toNat = q + 1 := ⟨9 - v.toNat, by omega⟩
          have hq2 : 10 - (v + 1).toNat = q := by omega
          have hv3 : (v + 1).toNat = v.toNat + 1 := by omega
          rw [hq, ad_nth_s (ad_aH A) q, if_pos h17.2] at hI
          have hpp : ad_pp (ad_aH A) (v.toNat + 1) = ad_pp (ad_aH A) v.toNat + if ad_aH A v.toNat = true then 1 else 0 := rfl
          rw [if_pos h17.2] at hpp
          refine ad_iload_n dX4_heldAt_20 rfl ?_
          refine ad_iload_n dX4_heldAt_21 rfl ?_
          refine ad_icmp_ne 27 dX4_heldAt_22 (by decide) (by omega) (by omega) (fun h22 => ?_) (fun h22 => ?_)
          · skip
            refine ad_iinc dX4_heldAt_27 rfl (by decide) rfl (by dsimp only [ad_set]) ?_
            refine ad_iinc dX4_heldAt_30 rfl (by decide) rfl (by dsimp only [ad_set]) ?_
            refine ad_goto 4 dX4_heldAt_33 (by decide) ?_
            rw [if_neg (by omega)] at hI
            exact ih (v + 1) (a + 1) (by omega) (by omega) (by omega) (by rw [hv3]; omega) (by rw [hI, hq2, hv3]; congr 1; omega) (by omega)
          · show ad_R _ _ _ _ 25 _ _ _
            refine ad_iload_n dX4_heldAt_25 rfl ?_
            exact ad_reti dX4_heldAt_26 rfl (by
              rw [if_pos (by omega)] at hI
              exact ⟨by rw [hI]; congr 1; omega, rfl⟩)
  refine ad_iconst dX4_heldAt_0 ?_
  refine ad_istore_n dX4_heldAt_1 (by decide) rfl (by dsimp only [ad_set]) ?_
  refine ad_iconst dX4_heldAt_2 ?_
  refine ad_istore_n dX4_heldAt_3 (by decide) rfl (by dsimp only [ad_set]) ?_
  exact lp (ad_aC A) 0 0 (by omega) (by omega) (by omega) rfl rfl (by omega)
theorem c_X4_reachedFrom {g : ad_G} {d : Nat} {σ : ad_Mem} {s : Nat} {A : ad_Ar} (hs : s < 3) (hr : ad_rC σ s A) (hw : ad_wA A) {y : Int} (h1d : 1 ≤ d) (hy : 0 ≤ y ∧ y ≤ 1023) : ad_Q g mX4_reachedFrom d [ad_rf g 4 s, ad_iv y] σ (fun x m => x = ad_iv (ad_bits (ad_an (ad_rsF A (fun i => y.toNat.testBit i)) 10) : Nat) ∧ m = σ) := by
  have hr0 := hr
  have hw0 := hw
  obtain ⟨r1, r2, r3, r4, r5, r6, r7, r8⟩ := hr
  obtain ⟨w1, w2, w3, w4, w5, w6, w7, w8, w9⟩ := hw
  have r2b := ad_bits_lt (ad_aH A)
  refine ad_M1 (k := 2) rfl (by simp [Value.category]) rfl (Nat.le_of_ble_eq_true rfl) ?_
  simp only [List.map_cons, List.map_nil, List.replicate, List.cons_append, List.nil_append]
  have lp : ∀ (n : Nat) (v : Int) (a : Int), (0 ≤ v) → (v ≤ ad_aC A) → (a = (ad_bits (ad_an (ad_rsF A (fun i => y.toNat.testBit i)) v.toNat) : Nat)) → (ad_aC A - v).toNat ≤ n → ad_R g mX4_reachedFrom d (ad_ZQ mX4_reachedFrom (fun x m => x = ad_iv (ad_bits (ad_an (ad_rsF A (fun i => y.toNat.testBit i)) 10) : Nat) ∧ m = σ)) 4 [some (ad_rf g 4 s), some (ad_iv y), some (ad_iv a), some (ad_iv v)] [] σ := by
    intro n
    induction n with
    | zero =>
      intro v a hv0 hv1 hI hn
      refine ad_iload_n dX4_reachedFrom_4 rfl ?_
      refine ad_aload_n dX4_reachedFrom_5 rfl ?_
      refine gf_X4_31 rfl (by omega) dX4_reachedFrom_6 ?_
      refine ad_icmp_ge 35 dX4_reachedFrom_9 (by decide) (by omega) (by omega) (fun h9 => ?_) (fun h9 => ?_)
      · skip
        refine ad_iload_n dX4_reachedFrom_35 rfl ?_
        exact ad_reti dX4_reachedFrom_36 rfl (by
          have hz := ad_an_end (f := ad_rsF A (fun i => y.toNat.testBit i)) (c := ad_aC A) (fun i hi w => by simp [ad_rsF, ad_rOf]; intros; omega) (10 - ad_aC A)
          rw [show ad_aC A + (10 - ad_aC A) = 10 by omega] at hz
          exact ⟨by rw [hI, show v.toNat = ad_aC A by omega, hz], rfl⟩)
      · show ad_R _ _ _ _ 12 _ _ _
        exfalso; omega
    | succ n ih =>
      intro v a hv0 hv1 hI hn
      refine ad_iload_n dX4_reachedFrom_4 rfl ?_
      refine ad_aload_n dX4_reachedFrom_5 rfl ?_
      refine gf_X4_31 rfl (by omega) dX4_reachedFrom_6 ?_
      refine ad_icmp_ge 35 dX4_reachedFrom_9 (by decide) (by omega) (by omega) (fun h9 => ?_) (fun h9 => ?_)
      · skip
        refine ad_iload_n dX4_reachedFrom_35 rfl ?_
        exact ad_reti dX4_reachedFrom_36 rfl (by
          have hz := ad_an_end (f := ad_rsF A (fun i => y.toNat.testBit i)) (c := ad_aC A) (fun i hi w => by simp [ad_rsF, ad_rOf]; intros; omega) (10 - ad_aC A)
          rw [show ad_aC A + (10 - ad_aC A) = 10 by omega] at hz
          exact ⟨by rw [hI, show v.toNat = ad_aC A by omega, hz], rfl⟩)
      · show ad_R _ _ _ _ 12 _ _ _
        refine ad_iload_n dX4_reachedFrom_12 rfl ?_
        refine ad_iload_n dX4_reachedFrom_13 rfl ?_
        refine ad_ishr dX4_reachedFrom_14 ?_
        refine ad_iconst dX4_reachedFrom_15 ?_
        refine ad_iand dX4_reachedFrom_16 ?_
        rw [ad_bitI ⟨by omega, by omega⟩ ⟨by omega, by omega⟩]
        refine ad_iconst dX4_reachedFrom_17 ?_
        refine ad_icmp_ne_p1 29 dX4_reachedFrom_18 (by decide) (fun h18 => ?_) (fun h18 => ?_)
        · skip
          refine ad_iinc dX4_reachedFrom_29 rfl (by decide) rfl (by dsimp only [ad_set]) ?_
          refine ad_goto 4 dX4_reachedFrom_32 (by decide) ?_
          refine ih (v + 1) _ (by omega) (by omega) ?_ (by omega)
          rw [hI, show (v + 1).toNat = v.toNat + 1 by omega]
          congr 2
          funext w
          have hb : y.toNat.testBit v.toNat = false := by simpa using h18
          simp [ad_an, ad_rsF, hb]
        · show ad_R _ _ _ _ 21 _ _ _
          refine ad_iload_n dX4_reachedFrom_21 rfl ?_
          refine ad_aload_n dX4_reachedFrom_22 rfl ?_
          refine ad_iload_n dX4_reachedFrom_23 rfl ?_
          refine ad_cv1f rfl cl_X4_83 dX4_reachedFrom_24 (c_X4_reachOf hs hr0 hw0 (by omega)) (by omega) (by show _ < 3; omega) (Nat.le_of_ble_eq_true rfl) ?_
          refine ad_ior dX4_reachedFrom_27 ?_
          refine ad_istore_n dX4_reachedFrom_28 (by decide) rfl (by dsimp only [ad_set]) ?_
          refine ad_iinc dX4_reachedFrom_29 rfl (by decide) rfl (by dsimp only [ad_set]) ?_
          refine ad_goto 4 dX4_reachedFrom_32 (by decide) ?_
          refine ih (v + 1) _ (by omega) (by omega) ?_ (by omega)
          rw [hI, show (v + 1).toNat = v.toNat + 1 by omega]
          rw [ad_or_bits]
          congr 2
          funext w
          simp only [ad_an, ad_rsF]
          have hb : y.toNat.testBit v.toNat = true := h18
          rw [hb, Bool.true_and, show ((v.toNat : Nat) : Int) = v by omega]
  refine ad_iconst dX4_reachedFrom_0 ?_
  refine ad_istore_n dX4_reachedFrom_1 (by decide) rfl (by dsimp only [ad_set]) ?_
  refine ad_iconst dX4_reachedFrom_2 ?_
  refine ad_istore_n dX4_reachedFrom_3 (by decide) rfl (by dsimp only [ad_set]) ?_
  exact lp (ad_aC A) 0 0 (by omega) (by omega) (by show (0 : Int) = (ad_bits (fun _ => false) : Nat); rw [ad_bits_0]; rfl) (by omega)
theorem c_X4_reachedFromHeads {g : ad_G} {d : Nat} {σ : ad_Mem} {s : Nat} {A : ad_Ar} (hs : s < 3) (hr : ad_rC σ s A) (hw : ad_wA A) (h1d : 1 ≤ d) : ad_Q g mX4_reachedFromHeads d [ad_rf g 4 s] σ (fun x m => x = ad_iv (ad_bits (ad_an (ad_hdF A) 4) : Nat) ∧ m = σ) := by
  have hr0 := hr
  have hw0 := hw
  obtain ⟨r1, r2, r3, r4, r5, r6, r7, r8⟩ := hr
  obtain ⟨w1, w2, w3, w4, w5, w6, w7, w8, w9⟩ := hw
  have r2b := ad_bits_lt (ad_aH A)
  refine ad_M1 (k := 2) rfl (by simp [Value.category]) rfl (Nat.le_of_ble_eq_true rfl) ?_
  simp only [List.map_cons, List.map_nil, List.replicate, List.cons_append, List.nil_append]
  have lp : ∀ (n : Nat) (v : Int) (a : Int), (0 ≤ v) → (v ≤ 4) → (a = (ad_bits (ad_an (ad_hdF A) v.toNat) : Nat)) → (4 - v).toNat ≤ n → ad_R g mX4_reachedFromHeads d (ad_ZQ mX4_reachedFromHeads (fun x m => x = ad_iv (ad_bits (ad_an (ad_hdF A) 4) : Nat) ∧ m = σ)) 4 [some (ad_rf g 4 s), some (ad_iv a), some (ad_iv v)] [] σ := by
    intro n
    induction n with
    | zero =>
      intro v a hv0 hv1 hI hn
      refine ad_iload_n dX4_reachedFromHeads_4 rfl ?_
      refine ad_iconst dX4_reachedFromHeads_5 ?_
      refine ad_icmp_ge 28 dX4_reachedFromHeads_6 (by decide) (by omega) (by omega) (fun h6 => ?_) (fun h6 => ?_)
      · skip
        refine ad_iload_n dX4_reachedFromHeads_28 rfl ?_
        exact ad_reti dX4_reachedFromHeads_29 rfl (by
          exact ⟨by rw [hI, show v.toNat = 4 by omega], rfl⟩)
      · show ad_R _ _ _ _ 9 _ _ _
        exfalso; omega
    | succ n ih =>
      intro v a hv0 hv1 hI hn
      refine ad_iload_n dX4_reachedFromHeads_4 rfl ?_
      refine ad_iconst dX4_reachedFromHeads_5 ?_
      refine ad_icmp_ge 28 dX4_reachedFromHeads_6 (by decide) (by omega) (by omega) (fun h6 => ?_) (fun h6 => ?_)
      · skip
        refine ad_iload_n dX4_reachedFromHeads_28 rfl ?_
        exact ad_reti dX4_reachedFromHeads_29 rfl (by
          exact ⟨by rw [hI, show v.toNat = 4 by omega], rfl⟩)
      · show ad_R _ _ _ _ 9 _ _ _
        refine ad_iload_n dX4_reachedFromHeads_9 rfl ?_
        refine ad_aload_n dX4_reachedFromHeads_10 rfl ?_
        refine ad_aload_n dX4_reachedFromHeads_11 rfl ?_
        refine gf_X4_18 rfl (by omega) dX4_reachedFromHeads_12 ?_
        refine ad_iload_n dX4_reachedFromHeads_15 rfl ?_
        refine ad_iald dX4_reachedFromHeads_16 (by show _ < 3; omega) ⟨by decide, by decide⟩ (by omega) (by show _ < ((4 : Nat) : Int); omega) ?_
        have he := w7 v.toNat (by omega)
        have he2 : ad_aE A v.toNat < 10 := by
          by_cases hz : ad_aE A v.toNat = -1
          · omega
          · exact (he.2 hz).1
        rw [r4 v.toNat (by omega)]
        refine ad_cv1f rfl cl_X4_83 dX4_reachedFromHeads_17 (c_X4_reachOf hs hr0 hw0 (by omega)) (by omega) (by show _ < 3; omega) (Nat.le_of_ble_eq_true rfl) ?_
        refine ad_ior dX4_reachedFromHeads_20 ?_
        refine ad_istore_n dX4_reachedFromHeads_21 (by decide) rfl (by dsimp only [ad_set]) ?_
        refine ad_iinc dX4_reachedFromHeads_22 rfl (by decide) rfl (by dsimp only [ad_set]) ?_
        refine ad_goto 4 dX4_reachedFromHeads_25 (by decide) ?_
        refine ih (v + 1) _ (by omega) (by omega) ?_ (by omega)
        rw [hI, show (v + 1).toNat = v.toNat + 1 by omega, ad_or_bits]
        rfl
  refine ad_iconst dX4_reachedFromHeads_0 ?_
  refine ad_istore_n dX4_reachedFromHeads_1 (by decide) rfl (by dsimp only [ad_set]) ?_
  refine ad_iconst dX4_reachedFromHeads_2 ?_
  refine ad_istore_n dX4_reachedFromHeads_3 (by decide) rfl (by dsimp only [ad_set]) ?_
  exact lp 4 0 0 (by omega) (by omega) (by show (0 : Int) = (ad_bits (fun _ => false) : Nat); rw [ad_bits_0]; rfl) (by omega)
theorem c_X4_parentsOf {g : ad_G} {d : Nat} {σ : ad_Mem} {s : Nat} {A : ad_Ar} (hs : s < 3) (hr : ad_rC σ s A) (hw : ad_wA A) {y : Int} (h1d : 1 ≤ d) (hy : 0 ≤ y ∧ y ≤ 1023) : ad_Q g mX4_parentsOf d [ad_rf g 4 s, ad_iv y] σ (fun x m => x = ad_iv (ad_bits (ad_an (ad_prF A (fun i => y.toNat.testBit i)) 10) : Nat) ∧ m = σ) := by
  have hr0 := hr
  have hw0 := hw
  obtain ⟨r1, r2, r3, r4, r5, r6, r7, r8⟩ := hr
  obtain ⟨w1, w2, w3, w4, w5, w6, w7, w8, w9⟩ := hw
  have r2b := ad_bits_lt (ad_aH A)
  refine ad_M1 (k := 2) rfl (by simp [Value.category]) rfl (Nat.le_of_ble_eq_true rfl) ?_
  simp only [List.map_cons, List.map_nil, List.replicate, List.cons_append, List.nil_append]
  have lp : ∀ (n : Nat) (v : Int) (a : Int), (0 ≤ v) → (v ≤ ad_aC A) → (a = (ad_bits (ad_an (ad_prF A (fun i => y.toNat.testBit i)) v.toNat) : Nat)) → (ad_aC A - v).toNat ≤ n → ad_R g mX4_parentsOf d (ad_ZQ mX4_parentsOf (fun x m => x = ad_iv (ad_bits (ad_an (ad_prF A (fun i => y.toNat.testBit i)) 10) : Nat) ∧ m = σ)) 4 [some (ad_rf g 4 s), some (ad_iv y), some (ad_iv a), some (ad_iv v)] [] σ := by
    intro n
    induction n with
    | zero =>
      intro v a hv0 hv1 hI hn
      refine ad_iload_n dX4_parentsOf_4 rfl ?_
      refine ad_aload_n dX4_parentsOf_5 rfl ?_
      refine gf_X4_31 rfl (by omega) dX4_parentsOf_6 ?_
      refine ad_icmp_ge 61 dX4_parentsOf_9 (by decide) (by omega) (by omega) (fun h9 => ?_) (fun h9 => ?_)
      · skip
        refine ad_iload_n dX4_parentsOf_61 rfl ?_
        exact ad_reti dX4_parentsOf_62 rfl (by
          have hz := ad_an_end (f := ad_prF A (fun i => y.toNat.testBit i)) (c := ad_aC A) (fun i hi w => by
            have := w9.2.1 i hi
            unfold ad_prF
            rw [this.1, this.2]
            simp) (10 - ad_aC A)
          rw [show ad_aC A + (10 - ad_aC A) = 10 by omega] at hz
          exact ⟨by rw [hI, show v.toNat = ad_aC A by omega, hz], rfl⟩)
      · show ad_R _ _ _ _ 12 _ _ _
        refine ad_iload_n dX4_parentsOf_12 rfl ?_
        refine ad_bipush dX4_parentsOf_13 rfl ?_
        refine ad_icmp_ge 61 dX4_parentsOf_15 (by decide) (by omega) (by omega) (fun h15 => ?_) (fun h15 => ?_)
        · skip
          refine ad_iload_n dX4_parentsOf_61 rfl ?_
          exact ad_reti dX4_parentsOf_62 rfl (by
            have hz := ad_an_end (f := ad_prF A (fun i => y.toNat.testBit i)) (c := ad_aC A) (fun i hi w => by
              have := w9.2.1 i hi
              unfold ad_prF
              rw [this.1, this.2]
              simp) (10 - ad_aC A)
            rw [show ad_aC A + (10 - ad_aC A) = 10 by omega] at hz
            exact ⟨by rw [hI, show v.toNat = ad_aC A by omega, hz], rfl⟩)
        · show ad_R _ _ _ _ 18 _ _ _
          exfalso; omega
    | succ n ih =>
      intro v a hv0 hv1 hI hn
      refine ad_iload_n dX4_parentsOf_4 rfl ?_
      refine ad_aload_n dX4_parentsOf_5 rfl ?_
      refine gf_X4_31 rfl (by omega) dX4_parentsOf_6 ?_
      refine ad_icmp_ge 61 dX4_parentsOf_9 (by decide) (by omega) (by omega) (fun h9 => ?_) (fun h9 => ?_)
      · skip
        refine ad_iload_n dX4_parentsOf_61 rfl ?_
        exact ad_reti dX4_parentsOf_62 rfl (by
          have hz := ad_an_end (f := ad_prF A (fun i => y.toNat.testBit i)) (c := ad_aC A) (fun i hi w => by
            have := w9.2.1 i hi
            unfold ad_prF
            rw [this.1, this.2]
            simp) (10 - ad_aC A)
          rw [show ad_aC A + (10 - ad_aC A) = 10 by omega] at hz
          exact ⟨by rw [hI, show v.toNat = ad_aC A by omega, hz], rfl⟩)
      · show ad_R _ _ _ _ 12 _ _ _
        refine ad_iload_n dX4_parentsOf_12 rfl ?_
        refine ad_bipush dX4_parentsOf_13 rfl ?_
        refine ad_icmp_ge 61 dX4_parentsOf_15 (by decide) (by omega) (by omega) (fun h15 => ?_) (fun h15 => ?_)
        · skip
          refine ad_iload_n dX4_parentsOf_61 rfl ?_
          exact ad_reti dX4_parentsOf_62 rfl (by
            have hz := ad_an_end (f := ad_prF A (fun i => y.toNat.testBit i)) (c := ad_aC A) (fun i hi w => by
              have := w9.2.1 i hi
              unfold ad_prF
              rw [this.1, this.2]
              simp) (10 - ad_aC A)
            rw [show ad_aC A + (10 - ad_aC A) = 10 by omega] at hz
            exact ⟨by rw [hI, show v.toNat = ad_aC A by omega, hz], rfl⟩)
        · show ad_R _ _ _ _ 18 _ _ _
          refine ad_iload_n dX4_parentsOf_18 rfl ?_
          refine ad_iload_n dX4_parentsOf_19 rfl ?_
          refine ad_ishr dX4_parentsOf_20 ?_
          refine ad_iconst dX4_parentsOf_21 ?_
          refine ad_iand dX4_parentsOf_22 ?_
          rw [ad_bitI ⟨by omega, by omega⟩ ⟨by omega, by omega⟩]
          refine ad_iconst dX4_parentsOf_23 ?_
          refine ad_icmp_ne_p1 55 dX4_parentsOf_24 (by decide) (fun h24 => ?_) (fun h24 => ?_)
          · skip
            refine ad_iinc dX4_parentsOf_55 rfl (by decide) rfl (by dsimp only [ad_set]) ?_
            refine ad_goto 4 dX4_parentsOf_58 (by decide) ?_
            refine ih (v + 1) _ (by omega) (by omega) ?_ (by omega)
            rw [hI, show (v + 1).toNat = v.toNat + 1 by omega]
            congr 2
            funext w
            have hb : y.toNat.testBit v.toNat = false := by simpa using h24
            simp [ad_an, ad_prF, hb]
          · show ad_R _ _ _ _ 27 _ _ _
            have hpw := w4 v.toNat
            have h7 := r7 v.toNat (by omega)
            refine ad_iload_n dX4_parentsOf_27 rfl ?_
            refine ad_aload_n dX4_parentsOf_28 rfl ?_
            refine gf_X4_11 rfl (by omega) dX4_parentsOf_29 ?_
            refine ad_iload_n dX4_parentsOf_32 rfl ?_
            refine ad_aald dX4_parentsOf_33 (by omega) (by omega) (by omega) ?_
            refine gf_X4_67 rfl (by omega) dX4_parentsOf_34 ?_
            rw [h7.1]
            refine ad_cs1f rfl cl_X4_145 dX4_parentsOf_37 (c_X4_bitOf (by omega)) (by omega) (Nat.le_of_ble_eq_true rfl) ?_
            refine ad_aload_n dX4_parentsOf_40 rfl ?_
            refine gf_X4_11 rfl (by omega) dX4_parentsOf_41 ?_
            refine ad_iload_n dX4_parentsOf_44 rfl ?_
            refine ad_aald dX4_parentsOf_45 (by omega) (by omega) (by omega) ?_
            refine gf_X4_70 rfl (by omega) dX4_parentsOf_46 ?_
            rw [h7.2.1]
            refine ad_cs1f rfl cl_X4_145 dX4_parentsOf_49 (c_X4_bitOf (by omega)) (by omega) (Nat.le_of_ble_eq_true rfl) ?_
            refine ad_ior dX4_parentsOf_52 ?_
            refine ad_ior dX4_parentsOf_53 ?_
            refine ad_istore_n dX4_parentsOf_54 (by decide) rfl (by dsimp only [ad_set]) ?_
            refine ad_iinc dX4_parentsOf_55 rfl (by decide) rfl (by dsimp only [ad_set]) ?_
            refine ad_goto 4 dX4_parentsOf_58 (by decide) ?_
            refine ih (v + 1) _ (by omega) (by omega) ?_ (by omega)
            rw [hI, show (v + 1).toNat = v.toNat + 1 by omega]
            rw [ad_or_bits, ad_or_bits]
            congr 2
            funext w
            simp only [ad_an, ad_prF]
            have hb : y.toNat.testBit v.toNat = true := h24
            rw [hb, Bool.true_and]
  refine ad_iconst dX4_parentsOf_0 ?_
  refine ad_istore_n dX4_parentsOf_1 (by decide) rfl (by dsimp only [ad_set]) ?_
  refine ad_iconst dX4_parentsOf_2 ?_
  refine ad_istore_n dX4_parentsOf_3 (by decide) rfl (by dsimp only [ad_set]) ?_
  exact lp (ad_aC A) 0 0 (by omega) (by omega) (by show (0 : Int) = (ad_bits (fun _ => false) : Nat); rw [ad_bits_0]; rfl) (by omega)
theorem c_X4_sentWhole {g : ad_G} {d : Nat} {σ : ad_Mem} {s : Nat} {A : ad_Ar} (hs : s < 3) (hr : ad_rC σ s A) (hw : ad_wA A) {y z : Int} (h1d : 1 ≤ d) (hy : 0 ≤ y ∧ y ≤ 1023) (hz : 0 ≤ z ∧ z ≤ 1023) : ad_Q g mX4_sentWhole d [ad_rf g 4 s, ad_iv y, ad_iv z] σ (fun x m => x = ad_iv (ad_bits (ad_sw A (fun i => y.toNat.testBit i) (fun i => z.toNat.testBit i)) : Nat) ∧ m = σ) := by
  have hr0 := hr
  have hw0 := hw
  obtain ⟨r1, r2, r3, r4, r5, r6, r7, r8⟩ := hr
  obtain ⟨w1, w2, w3, w4, w5, w6, w7, w8, w9⟩ := hw
  have r2b := ad_bits_lt (ad_aH A)
  refine ad_M1 (k := 3) rfl (by simp [Value.category]) rfl (Nat.le_of_ble_eq_true rfl) ?_
  simp only [List.map_cons, List.map_nil, List.replicate, List.cons_append, List.nil_append]
  have lp : ∀ (n : Nat) (v : Int) (a : Int) (v5 : Option Value), (0 ≤ v) → (v ≤ ad_aC A) → (a = (ad_bN (ad_sw A (fun i => y.toNat.testBit i) (fun i => z.toNat.testBit i)) v.toNat : Nat)) → (ad_aC A - v).toNat ≤ n → ad_R g mX4_sentWhole d (ad_ZQ mX4_sentWhole (fun x m => x = ad_iv (ad_bits (ad_sw A (fun i => y.toNat.testBit i) (fun i => z.toNat.testBit i)) : Nat) ∧ m = σ)) 5 [some (ad_rf g 4 s), some (ad_iv y), some (ad_iv z), some (ad_iv a), some (ad_iv v), v5] [] σ := by
    intro n
    induction n with
    | zero =>
      intro v a v5 hv0 hv1 hI hn
      refine ad_iload dX4_sentWhole_5 rfl ?_
      refine ad_aload_n dX4_sentWhole_7 rfl ?_
      refine gf_X4_31 rfl (by omega) dX4_sentWhole_8 ?_
      refine ad_icmp_ge 73 dX4_sentWhole_11 (by decide) (by omega) (by omega) (fun h11 => ?_) (fun h11 => ?_)
      · skip
        refine ad_iload_n dX4_sentWhole_73 rfl ?_
        exact ad_reti dX4_sentWhole_74 rfl (by
          have hz := ad_bN_end (p := ad_sw A (fun i => y.toNat.testBit i) (fun i => z.toNat.testBit i)) (c := ad_aC A) (fun i hi => by
            cases hq : ad_aH A i with
            | false => simp [ad_sw, hq]
            | true => have := w2 i hq; omega) (10 - ad_aC A)
          rw [show ad_aC A + (10 - ad_aC A) = 10 by omega] at hz
          exact ⟨by rw [hI, show v.toNat = ad_aC A by omega, ← hz]; rfl, rfl⟩)
      · show ad_R _ _ _ _ 14 _ _ _
        exfalso; omega
    | succ n ih =>
      intro v a v5 hv0 hv1 hI hn
      refine ad_iload dX4_sentWhole_5 rfl ?_
      refine ad_aload_n dX4_sentWhole_7 rfl ?_
      refine gf_X4_31 rfl (by omega) dX4_sentWhole_8 ?_
      refine ad_icmp_ge 73 dX4_sentWhole_11 (by decide) (by omega) (by omega) (fun h11 => ?_) (fun h11 => ?_)
      · skip
        refine ad_iload_n dX4_sentWhole_73 rfl ?_
        exact ad_reti dX4_sentWhole_74 rfl (by
          have hz := ad_bN_end (p := ad_sw A (fun i => y.toNat.testBit i) (fun i => z.toNat.testBit i)) (c := ad_aC A) (fun i hi => by
            cases hq : ad_aH A i with
            | false => simp [ad_sw, hq]
            | true => have := w2 i hq; omega) (10 - ad_aC A)
          rw [show ad_aC A + (10 - ad_aC A) = 10 by omega] at hz
          exact ⟨by rw [hI, show v.toNat = ad_aC A by omega, ← hz]; rfl, rfl⟩)
      · show ad_R _ _ _ _ 14 _ _ _
        refine ad_iload_n dX4_sentWhole_14 rfl ?_
        refine ad_iload dX4_sentWhole_15 rfl ?_
        refine ad_ishr dX4_sentWhole_17 ?_
        refine ad_iconst dX4_sentWhole_18 ?_
        refine ad_iand dX4_sentWhole_19 ?_
        rw [ad_bitI ⟨by omega, by omega⟩ ⟨by omega, by omega⟩]
        refine ad_iconst dX4_sentWhole_20 ?_
        refine ad_icmp_ne_p1 67 dX4_sentWhole_21 (by decide) (fun h21 => ?_) (fun h21 => ?_)
        · skip
          refine ad_iinc dX4_sentWhole_67 rfl (by decide) rfl (by dsimp only [ad_set]) ?_
          refine ad_goto 5 dX4_sentWhole_70 (by decide) ?_
          refine ih (v + 1) _ _ (by omega) (by omega) ?_ (by omega)
          rw [hI, show (v + 1).toNat = v.toNat + 1 by omega]
          have hb : y.toNat.testBit v.toNat = false := by simpa using h21
          rw [ad_bN_n (by simp [ad_sw, hb])]
        · show ad_R _ _ _ _ 24 _ _ _
          refine ad_aload_n dX4_sentWhole_24 rfl ?_
          refine ad_iload dX4_sentWhole_25 rfl ?_
          refine ad_cv1f rfl cl_X4_57 dX4_sentWhole_27 (c_X4_holds hs hr0 hw0 (by omega)) (by omega) (by show _ < 3; omega) (Nat.le_of_ble_eq_true rfl) ?_
          refine ad_ifp_eq 67 dX4_sentWhole_30 (by decide) (fun h30 => ?_) (fun h30 => ?_)
          · skip
            refine ad_iinc dX4_sentWhole_67 rfl (by decide) rfl (by dsimp only [ad_set]) ?_
            refine ad_goto 5 dX4_sentWhole_70 (by decide) ?_
            refine ih (v + 1) _ _ (by omega) (by omega) ?_ (by omega)
            rw [hI, show (v + 1).toNat = v.toNat + 1 by omega]
            rw [ad_bN_n (by simp [ad_sw]; intro _ q; exact absurd ⟨hv0, q⟩ h30)]
          · show ad_R _ _ _ _ 33 _ _ _
            have hb6 := ad_rC_rng hr0 hw0 h30.2
            refine ad_aload_n dX4_sentWhole_33 rfl ?_
            refine gf_X4_11 rfl (by omega) dX4_sentWhole_34 ?_
            refine ad_iload dX4_sentWhole_37 rfl ?_
            refine ad_aald dX4_sentWhole_39 (by omega) (by omega) (by omega) ?_
            refine gf_X4_90 rfl (by omega) dX4_sentWhole_40 ?_
            rw [(r6 _ h30.2).2.2.1] at hb6 ⊢
            refine ad_istore dX4_sentWhole_43 (by decide) rfl (by dsimp only [ad_set]) ?_
            refine ad_iload dX4_sentWhole_45 rfl ?_
            refine ad_iconst dX4_sentWhole_47 ?_
            refine ad_icmp_eq 67 dX4_sentWhole_48 (by decide) (by omega) (by omega) (fun h48 => ?_) (fun h48 => ?_)
            · skip
              refine ad_iinc dX4_sentWhole_67 rfl (by decide) rfl (by dsimp only [ad_set]) ?_
              refine ad_goto 5 dX4_sentWhole_70 (by decide) ?_
              refine ih (v + 1) _ _ (by omega) (by omega) ?_ (by omega)
              rw [hI, show (v + 1).toNat = v.toNat + 1 by omega]
              rw [ad_bN_n (by simp [ad_sw, h48])]
            · show ad_R _ _ _ _ 51 _ _ _
              refine ad_iload_n dX4_sentWhole_51 rfl ?_
              refine ad_iload dX4_sentWhole_52 rfl ?_
              refine ad_ishr dX4_sentWhole_54 ?_
              refine ad_iconst dX4_sentWhole_55 ?_
              refine ad_iand dX4_sentWhole_56 ?_
              rw [ad_bitI ⟨by omega, by omega⟩ ⟨by omega, by omega⟩]
              refine ad_ifp_ne 67 dX4_sentWhole_57 (by decide) (fun h57 => ?_) (fun h57 => ?_)
              · skip
                refine ad_iinc dX4_sentWhole_67 rfl (by decide) rfl (by dsimp only [ad_set]) ?_
                refine ad_goto 5 dX4_sentWhole_70 (by decide) ?_
                refine ih (v + 1) _ _ (by omega) (by omega) ?_ (by omega)
                rw [hI, show (v + 1).toNat = v.toNat + 1 by omega]
                have hb : z.toNat.testBit (ad_aB A v.toNat).toNat = true := h57
                rw [ad_bN_n (by simp [ad_sw, hb])]
              · show ad_R _ _ _ _ 60 _ _ _
                refine ad_iload_n dX4_sentWhole_60 rfl ?_
                refine ad_iconst dX4_sentWhole_61 ?_
                refine ad_iload dX4_sentWhole_62 rfl ?_
                refine ad_ishl dX4_sentWhole_64 ?_
                refine ad_ior dX4_sentWhole_65 ?_
                refine ad_istore_n dX4_sentWhole_66 (by decide) rfl (by dsimp only [ad_set]) ?_
                refine ad_iinc dX4_sentWhole_67 rfl (by decide) rfl (by dsimp only [ad_set]) ?_
                refine ad_goto 5 dX4_sentWhole_70 (by decide) ?_
                refine ih (v + 1) _ _ (by omega) (by omega) ?_ (by omega)
                rw [hI, show (v + 1).toNat = v.toNat + 1 by omega]
                have hb : y.toNat.testBit v.toNat = true := h21
                have hc : z.toNat.testBit (ad_aB A v.toNat).toNat = false := by simpa using h57
                rw [← ad_or_bN (by omega) (by simp [ad_sw, hb, hc, h30.2, h48]), show ((v.toNat : Nat) : Int) = v by omega]
  refine ad_iconst dX4_sentWhole_0 ?_
  refine ad_istore_n dX4_sentWhole_1 (by decide) rfl (by dsimp only [ad_set]) ?_
  refine ad_iconst dX4_sentWhole_2 ?_
  refine ad_istore dX4_sentWhole_3 (by decide) rfl (by dsimp only [ad_set]) ?_
  exact lp (ad_aC A) 0 0 _ (by omega) (by omega) rfl (by omega)
theorem c_X4_costOfSending {g : ad_G} {d : Nat} {σ : ad_Mem} {s : Nat} {A : ad_Ar} (hs : s < 3) (hr : ad_rC σ s A) (hw : ad_wA A) {y z : Int} (h2d : 2 ≤ d) (hy : 0 ≤ y ∧ y ≤ 1023) (hz : 0 ≤ z ∧ z ≤ 1023) : ad_Q g mX4_costOfSending d [ad_rf g 4 s, ad_iv y, ad_iv z] σ (fun x m => x = ad_iv (ad_sm (ad_scH A (fun i => y.toNat.testBit i) (fun i => z.toNat.testBit i)) 10) ∧ m = σ) := by
  have hr0 := hr
  have hw0 := hw
  obtain ⟨r1, r2, r3, r4, r5, r6, r7, r8⟩ := hr
  obtain ⟨w1, w2, w3, w4, w5, w6, w7, w8, w9⟩ := hw
  have r2b := ad_bits_lt (ad_aH A)
  refine ad_M1 (k := 3) rfl (by simp [Value.category]) rfl (Nat.le_of_ble_eq_true rfl) ?_
  simp only [List.map_cons, List.map_nil, List.replicate, List.cons_append, List.nil_append]
  have lp : ∀ (n : Nat) (v : Int) (a : Int), (0 ≤ v) → (v ≤ ad_aC A) → (a = ad_sm (ad_scH A (fun i => y.toNat.testBit i) (fun i => z.toNat.testBit i)) v.toNat) → (ad_aC A - v).toNat ≤ n → ad_R g mX4_costOfSending d (ad_ZQ mX4_costOfSending (fun x m => x = ad_iv (ad_sm (ad_scH A (fun i => y.toNat.testBit i) (fun i => z.toNat.testBit i)) 10) ∧ m = σ)) 13 [some (ad_rf g 4 s), some (ad_iv y), some (ad_iv z), some (ad_iv (ad_bits (ad_sw A (fun i => y.toNat.testBit i) (fun i => z.toNat.testBit i)) : Nat)), some (ad_iv a), some (ad_iv v)] [] σ := by
    intro n
    induction n with
    | zero =>
      intro v a hv0 hv1 hI hn
      refine ad_iload dX4_costOfSending_13 rfl ?_
      refine ad_aload_n dX4_costOfSending_15 rfl ?_
      refine gf_X4_31 rfl (by omega) dX4_costOfSending_16 ?_
      refine ad_icmp_ge 85 dX4_costOfSending_19 (by decide) (by omega) (by omega) (fun h19 => ?_) (fun h19 => ?_)
      · skip
        refine ad_iload dX4_costOfSending_85 rfl ?_
        exact ad_reti dX4_costOfSending_87 rfl (by
          have hz := ad_sm_end (f := ad_scH A (fun i => y.toNat.testBit i) (fun i => z.toNat.testBit i)) (c := ad_aC A) (fun i hi => if_neg (fun q => by
            have := w2 i (Bool.and_eq_true_iff.mp q).2; omega)) (10 - ad_aC A)
          rw [show ad_aC A + (10 - ad_aC A) = 10 by omega] at hz
          exact ⟨by rw [hI, show v.toNat = ad_aC A by omega, ← hz], rfl⟩)
      · show ad_R _ _ _ _ 22 _ _ _
        exfalso; omega
    | succ n ih =>
      intro v a hv0 hv1 hI hn
      refine ad_iload dX4_costOfSending_13 rfl ?_
      refine ad_aload_n dX4_costOfSending_15 rfl ?_
      refine gf_X4_31 rfl (by omega) dX4_costOfSending_16 ?_
      refine ad_icmp_ge 85 dX4_costOfSending_19 (by decide) (by omega) (by omega) (fun h19 => ?_) (fun h19 => ?_)
      · skip
        refine ad_iload dX4_costOfSending_85 rfl ?_
        exact ad_reti dX4_costOfSending_87 rfl (by
          have hz := ad_sm_end (f := ad_scH A (fun i => y.toNat.testBit i) (fun i => z.toNat.testBit i)) (c := ad_aC A) (fun i hi => if_neg (fun q => by
            have := w2 i (Bool.and_eq_true_iff.mp q).2; omega)) (10 - ad_aC A)
          rw [show ad_aC A + (10 - ad_aC A) = 10 by omega] at hz
          exact ⟨by rw [hI, show v.toNat = ad_aC A by omega, ← hz], rfl⟩)
      · show ad_R _ _ _ _ 22 _ _ _
        refine ad_iload_n dX4_costOfSending_22 rfl ?_
        refine ad_iload dX4_costOfSending_23 rfl ?_
        refine ad_ishr dX4_costOfSending_25 ?_
        refine ad_iconst dX4_costOfSending_26 ?_
        refine ad_iand dX4_costOfSending_27 ?_
        rw [ad_bitI ⟨by omega, by omega⟩ ⟨by omega, by omega⟩]
        refine ad_iconst dX4_costOfSending_28 ?_
        refine ad_icmp_ne_p1 79 dX4_costOfSending_29 (by decide) (fun h29 => ?_) (fun h29 => ?_)
        · skip
          refine ad_iinc dX4_costOfSending_79 rfl (by decide) rfl (by dsimp only [ad_set]) ?_
          refine ad_goto 13 dX4_costOfSending_82 (by decide) ?_
          refine ih (v + 1) _ (by omega) (by omega) ?_ (by omega)
          rw [hI, show (v + 1).toNat = v.toNat + 1 by omega, ad_sm]
          have hb : y.toNat.testBit v.toNat = false := by simpa using h29
          rw [ad_scH, if_neg (by simp [hb])]; omega
        · show ad_R _ _ _ _ 32 _ _ _
          refine ad_aload_n dX4_costOfSending_32 rfl ?_
          refine ad_iload dX4_costOfSending_33 rfl ?_
          refine ad_cv1f rfl cl_X4_57 dX4_costOfSending_35 (c_X4_holds hs hr0 hw0 (by omega)) (by omega) (by show _ < 3; omega) (Nat.le_of_ble_eq_true rfl) ?_
          refine ad_ifp_eq 79 dX4_costOfSending_38 (by decide) (fun h38 => ?_) (fun h38 => ?_)
          · skip
            refine ad_iinc dX4_costOfSending_79 rfl (by decide) rfl (by dsimp only [ad_set]) ?_
            refine ad_goto 13 dX4_costOfSending_82 (by decide) ?_
            refine ih (v + 1) _ (by omega) (by omega) ?_ (by omega)
            rw [hI, show (v + 1).toNat = v.toNat + 1 by omega, ad_sm]
            rw [ad_scH, if_neg (fun q => h38 ⟨hv0, (Bool.and_eq_true_iff.mp q).2⟩)]; omega
          · show ad_R _ _ _ _ 41 _ _ _
            have hb6 := ad_rC_rng hr0 hw0 h38.2
            refine ad_iload dX4_costOfSending_41 rfl ?_
            refine ad_iload_n dX4_costOfSending_43 rfl ?_
            refine ad_iload dX4_costOfSending_44 rfl ?_
            refine ad_ishr dX4_costOfSending_46 ?_
            refine ad_iconst dX4_costOfSending_47 ?_
            refine ad_iand dX4_costOfSending_48 ?_
            rw [ad_bitI ⟨by have := ad_bits_lt (ad_sw A (fun i => y.toNat.testBit i) (fun i => z.toNat.testBit i)); omega, by have := ad_bits_lt (ad_sw A (fun i => y.toNat.testBit i) (fun i => z.toNat.testBit i)); omega⟩ ⟨by omega, by omega⟩]
            refine ad_iconst dX4_costOfSending_49 ?_
            refine ad_icmp_ne_p1 66 dX4_costOfSending_50 (by decide) (fun h50 => ?_) (fun h50 => ?_)
            · skip
              refine ad_aload_n dX4_costOfSending_66 rfl ?_
              refine gf_X4_11 rfl (by omega) dX4_costOfSending_67 ?_
              refine ad_iload dX4_costOfSending_70 rfl ?_
              refine ad_aald dX4_costOfSending_72 (by omega) (by omega) (by omega) ?_
              refine ad_cv0f rfl cl_X4_157 dX4_costOfSending_73 (c_X6_cost (by omega) (by omega) (by omega)) (by omega) (by show _ < 30; omega) (Nat.le_of_ble_eq_true rfl) ?_
              rw [(ad_cst_mem hr0 hw0 h38.2).1]
              refine ad_iadd dX4_costOfSending_76 ?_
              refine ad_istore dX4_costOfSending_77 (by decide) rfl (by dsimp only [ad_set]) ?_
              refine ad_iinc dX4_costOfSending_79 rfl (by decide) rfl (by dsimp only [ad_set]) ?_
              refine ad_goto 13 dX4_costOfSending_82 (by decide) ?_
              refine ih (v + 1) _ (by omega) (by omega) ?_ (by omega)
              rw [hI, show (v + 1).toNat = v.toNat + 1 by omega, ad_sm]
              have hb : y.toNat.testBit v.toNat = true := h29
              have hsw := ad_bits_tbI (ad_sw A (fun i => y.toNat.testBit i) (fun i => z.toNat.testBit i)) hv0
              rw [ad_scH, if_pos (by simp [hb, h38.2]), if_neg (fun q => h50 (hsw.mpr ⟨by omega, q⟩))]
            · show ad_R _ _ _ _ 53 _ _ _
              refine ad_aload_n dX4_costOfSending_53 rfl ?_
              refine gf_X4_11 rfl (by omega) dX4_costOfSending_54 ?_
              refine ad_iload dX4_costOfSending_57 rfl ?_
              refine ad_aald dX4_costOfSending_59 (by omega) (by omega) (by omega) ?_
              refine ad_cv0f rfl cl_X4_174 dX4_costOfSending_60 (c_X6_wholeCost (by omega)) (by omega) (by show _ < 30; omega) (Nat.le_of_ble_eq_true rfl) ?_
              rw [(ad_cst_mem hr0 hw0 h38.2).2]
              refine ad_goto 76 dX4_costOfSending_63 (by decide) ?_
              refine ad_iadd dX4_costOfSending_76 ?_
              refine ad_istore dX4_costOfSending_77 (by decide) rfl (by dsimp only [ad_set]) ?_
              refine ad_iinc dX4_costOfSending_79 rfl (by decide) rfl (by dsimp only [ad_set]) ?_
              refine ad_goto 13 dX4_costOfSending_82 (by decide) ?_
              refine ih (v + 1) _ (by omega) (by omega) ?_ (by omega)
              rw [hI, show (v + 1).toNat = v.toNat + 1 by omega, ad_sm]
              have hb : y.toNat.testBit v.toNat = true := h29
              have hsw := ad_bits_tbI (ad_sw A (fun i => y.toNat.testBit i) (fun i => z.toNat.testBit i)) hv0
              rw [ad_scH, if_pos (by simp [hb, h38.2]), if_pos (hsw.mp h50).2]
  refine ad_aload_n dX4_costOfSending_0 rfl ?_
  refine ad_iload_n dX4_costOfSending_1 rfl ?_
  refine ad_iload_n dX4_costOfSending_2 rfl ?_
  refine ad_cv2f rfl cl_X4_171 dX4_costOfSending_3 (c_X4_sentWhole hs hr0 hw0 (by omega) hy hz) (by omega) (by show _ < 3; omega) (Nat.le_of_ble_eq_true rfl) ?_
  refine ad_istore_n dX4_costOfSending_6 (by decide) rfl (by dsimp only [ad_set]) ?_
  refine ad_iconst dX4_costOfSending_7 ?_
  refine ad_istore dX4_costOfSending_8 (by decide) rfl (by dsimp only [ad_set]) ?_
  refine ad_iconst dX4_costOfSending_10 ?_
  refine ad_istore dX4_costOfSending_11 (by decide) rfl (by dsimp only [ad_set]) ?_
  exact lp (ad_aC A) 0 0 (by omega) (by omega) rfl (by omega)
