/-! ===== what a store (Store) answers of the archive that it holds ===== -/
theorem ad_rC_rng {σ : ad_Mem} {s : Nat} {A : ad_Ar} (hr : ad_rC σ s A) (hw : ad_wA A) {v : Nat} (h : ad_aH A v = true) : v < 10 ∧ v < ad_aC A ∧ (-1 ≤ σ 6 (10 * s + v) 6 ∧ σ 6 (10 * s + v) 6 < 10) ∧ (0 ≤ σ 6 (10 * s + v) 5 ∧ σ 6 (10 * s + v) 5 < 9973) ∧ (1 ≤ σ 2 (10 * s + v) 1 ∧ σ 2 (10 * s + v) 1 ≤ 12) := by
  have h1 := hw.2.1 v h
  have h2 := hr.2.2.2.2.2.1 v h
  have h3 := hw.2.2.2.2.1 v h
  have h4 := hw.2.2.1 v h
  have hc := hw.1
  have hn := (hr.2.2.2.2.1 v (by omega)).1.1
  have hl := ad_nl_len σ (10 * s + v)
  rw [h2.1] at hl
  refine ⟨by omega, h1, ?_, ?_, by omega⟩
  · rw [h2.2.2.1]
    refine ⟨h3.1, ?_⟩
    by_cases hb : ad_aB A v = -1
    · omega
    · exact (h3.2 hb).1
  · rw [h2.2.1]; exact h4.2
theorem c_X4_holds0 {g : ad_G} {d : Nat} {σ : ad_Mem} {s c : Nat} {H : Nat → Bool} (hs : s < 3) (r1 : σ 4 s 3 = (c : Int)) (r2 : σ 4 s 4 = (ad_bits H : Int)) (w1 : c ≤ 10) (w2 : ∀ v, H v = true → v < c) {v : Int} (hv : ad_rng v) : ad_Q g mX4_holds d [ad_rf g 4 s, ad_iv v] σ (fun x m => x = ad_pv (0 ≤ v ∧ H v.toNat = true) ∧ m = σ) := by
  have r2b := ad_bits_lt H
  refine ad_M1 (k := 0) rfl (by simp [Value.category]) rfl (Nat.le_of_ble_eq_true rfl) ?_
  simp only [List.map_cons, List.map_nil, List.replicate, List.cons_append, List.nil_append]
  refine ad_iload_n dX4_holds_0 rfl ?_
  refine ad_if_lt 34 dX4_holds_1 (by decide) (by omega) (fun h1 => ?_) (fun h1 => ?_)
  · skip
    refine ad_iconst dX4_holds_34 ?_
    exact ad_ret0 dX4_holds_35 rfl (⟨ad_pv_f (fun q => by
      have hv2 := w2 v.toNat q.2
      first | omega | (rw [r2] at h27; exact h27 ((ad_bits_tbI _ (by omega)).mpr ⟨by omega, q.2⟩))), rfl⟩)
  · show ad_R _ _ _ _ 4 _ _ _
    refine ad_iload_n dX4_holds_4 rfl ?_
    refine ad_aload_n dX4_holds_5 rfl ?_
    refine gf_X4_31 rfl (by omega) dX4_holds_6 ?_
    refine ad_icmp_ge 34 dX4_holds_9 (by decide) (by omega) (by omega) (fun h9 => ?_) (fun h9 => ?_)
    · skip
      refine ad_iconst dX4_holds_34 ?_
      exact ad_ret0 dX4_holds_35 rfl (⟨ad_pv_f (fun q => by
        have hv2 := w2 v.toNat q.2
        first | omega | (rw [r2] at h27; exact h27 ((ad_bits_tbI _ (by omega)).mpr ⟨by omega, q.2⟩))), rfl⟩)
    · show ad_R _ _ _ _ 12 _ _ _
      refine ad_iload_n dX4_holds_12 rfl ?_
      refine ad_bipush dX4_holds_13 rfl ?_
      refine ad_icmp_ge 34 dX4_holds_15 (by decide) (by omega) (by omega) (fun h15 => ?_) (fun h15 => ?_)
      · skip
        refine ad_iconst dX4_holds_34 ?_
        exact ad_ret0 dX4_holds_35 rfl (⟨ad_pv_f (fun q => by
          have hv2 := w2 v.toNat q.2
          first | omega | (rw [r2] at h27; exact h27 ((ad_bits_tbI _ (by omega)).mpr ⟨by omega, q.2⟩))), rfl⟩)
      · show ad_R _ _ _ _ 18 _ _ _
        refine ad_aload_n dX4_holds_18 rfl ?_
        refine gf_X4_35 rfl (by omega) dX4_holds_19 ?_
        refine ad_iload_n dX4_holds_22 rfl ?_
        refine ad_ishr dX4_holds_23 ?_
        refine ad_iconst dX4_holds_24 ?_
        refine ad_iand dX4_holds_25 ?_
        rw [ad_bitI (by omega) (by omega)]
        refine ad_iconst dX4_holds_26 ?_
        refine ad_icmp_ne_p1 34 dX4_holds_27 (by decide) (fun h27 => ?_) (fun h27 => ?_)
        · skip
          refine ad_iconst dX4_holds_34 ?_
          exact ad_ret0 dX4_holds_35 rfl (⟨ad_pv_f (fun q => by
            have hv2 := w2 v.toNat q.2
            first | omega | (rw [r2] at h27; exact h27 ((ad_bits_tbI _ (by omega)).mpr ⟨by omega, q.2⟩))), rfl⟩)
        · show ad_R _ _ _ _ 30 _ _ _
          refine ad_iconst dX4_holds_30 ?_
          refine ad_goto 35 dX4_holds_31 (by decide) ?_
          exact ad_ret1 dX4_holds_35 rfl (⟨ad_pv_t ⟨by omega, by rw [r2] at h27; exact ((ad_bits_tbI _ (by omega)).mp h27).2⟩, rfl⟩)
theorem c_X4_holdsS {g : ad_G} {d : Nat} {σ : ad_Mem} {s : Nat} {A : ad_Ar} (hs : s < 3) (hr : ad_rS σ s A) (hw : ad_wS A) {v : Int} (hv : ad_rng v) : ad_Q g mX4_holds d [ad_rf g 4 s, ad_iv v] σ (fun x m => x = ad_pv (0 ≤ v ∧ ad_aH A v.toNat = true) ∧ m = σ) := c_X4_holds0 hs hr.1 hr.2.1 hw.1 hw.2.1 hv
theorem c_X4_holds {g : ad_G} {d : Nat} {σ : ad_Mem} {s : Nat} {A : ad_Ar} (hs : s < 3) (hr : ad_rC σ s A) (hw : ad_wA A) {v : Int} (hv : ad_rng v) : ad_Q g mX4_holds d [ad_rf g 4 s, ad_iv v] σ (fun x m => x = ad_pv (0 ≤ v ∧ ad_aH A v.toNat = true) ∧ m = σ) := c_X4_holdsS hs hr.S hw.S hv
theorem c_X4_hasRoom {g : ad_G} {d : Nat} {σ : ad_Mem} {s : Nat} {A : ad_Ar} (hs : s < 3) (hr : ad_rC σ s A) (hw : ad_wA A) : ad_Q g mX4_hasRoom d [ad_rf g 4 s] σ (fun x m => x = ad_pv (ad_aC A < 10) ∧ m = σ) := by
  have hr0 := hr
  have hw0 := hw
  obtain ⟨r1, r2, r3, r4, r5, r6, r7, r8⟩ := hr
  obtain ⟨w1, w2, w3, w4, w5, w6, w7, w8, w9⟩ := hw
  have r2b := ad_bits_lt (ad_aH A)
  refine ad_M1 (k := 0) rfl (by simp [Value.category]) rfl (Nat.le_of_ble_eq_true rfl) ?_
  simp only [List.map_cons, List.map_nil, List.replicate, List.cons_append, List.nil_append]
  refine ad_aload_n dX4_hasRoom_0 rfl ?_
  refine gf_X4_31 rfl (by omega) dX4_hasRoom_1 ?_
  refine ad_bipush dX4_hasRoom_4 rfl ?_
  refine ad_icmp_ge 13 dX4_hasRoom_6 (by decide) (by omega) (by omega) (fun h6 => ?_) (fun h6 => ?_)
  · skip
    refine ad_iconst dX4_hasRoom_13 ?_
    exact ad_ret0 dX4_hasRoom_14 rfl (⟨ad_pv_f (by omega), rfl⟩)
  · show ad_R _ _ _ _ 9 _ _ _
    refine ad_iconst dX4_hasRoom_9 ?_
    refine ad_goto 14 dX4_hasRoom_10 (by decide) ?_
    exact ad_ret1 dX4_hasRoom_14 rfl (⟨ad_pv_t (by omega), rfl⟩)
/-- reach of a number that may be none, as bits -/
def ad_rOf (A : ad_Ar) (v : Int) (w : Nat) : Bool := decide (0 ≤ v ∧ v < ad_aC A) && ad_reach (ad_aP A) (ad_aQ A) v.toNat w
theorem c_X4_reachOf {g : ad_G} {d : Nat} {σ : ad_Mem} {s : Nat} {A : ad_Ar} (hs : s < 3) (hr : ad_rC σ s A) (hw : ad_wA A) {v : Int} (hv : ad_rng v) : ad_Q g mX4_reachOf d [ad_rf g 4 s, ad_iv v] σ (fun x m => x = ad_iv (ad_bits (ad_rOf A v) : Int) ∧ m = σ) := by
  have hr0 := hr
  have hw0 := hw
  obtain ⟨r1, r2, r3, r4, r5, r6, r7, r8⟩ := hr
  obtain ⟨w1, w2, w3, w4, w5, w6, w7, w8, w9⟩ := hw
  have r2b := ad_bits_lt (ad_aH A)
  refine ad_M1 (k := 0) rfl (by simp [Value.category]) rfl (Nat.le_of_ble_eq_true rfl) ?_
  simp only [List.map_cons, List.map_nil, List.replicate, List.cons_append, List.nil_append]
  refine ad_iload_n dX4_reachOf_0 rfl ?_
  refine ad_if_lt 30 dX4_reachOf_1 (by decide) (by omega) (fun h1 => ?_) (fun h1 => ?_)
  · skip
    refine ad_iconst dX4_reachOf_30 ?_
    exact ad_reti dX4_reachOf_31 rfl (by first | exact ⟨by congr 3; funext w; unfold ad_rOf; rw [decide_eq_true (by omega), Bool.true_and], rfl⟩ | exact ⟨by rw [show ad_rOf A v = fun _ => false from by funext w; unfold ad_rOf; rw [decide_eq_false (by omega), Bool.false_and]]; rfl, rfl⟩)
  · show ad_R _ _ _ _ 4 _ _ _
    refine ad_iload_n dX4_reachOf_4 rfl ?_
    refine ad_aload_n dX4_reachOf_5 rfl ?_
    refine gf_X4_31 rfl (by omega) dX4_reachOf_6 ?_
    refine ad_icmp_ge 30 dX4_reachOf_9 (by decide) (by omega) (by omega) (fun h9 => ?_) (fun h9 => ?_)
    · skip
      refine ad_iconst dX4_reachOf_30 ?_
      exact ad_reti dX4_reachOf_31 rfl (by first | exact ⟨by congr 3; funext w; unfold ad_rOf; rw [decide_eq_true (by omega), Bool.true_and], rfl⟩ | exact ⟨by rw [show ad_rOf A v = fun _ => false from by funext w; unfold ad_rOf; rw [decide_eq_false (by omega), Bool.false_and]]; rfl, rfl⟩)
    · show ad_R _ _ _ _ 12 _ _ _
      refine ad_iload_n dX4_reachOf_12 rfl ?_
      refine ad_bipush dX4_reachOf_13 rfl ?_
      refine ad_icmp_ge 30 dX4_reachOf_15 (by decide) (by omega) (by omega) (fun h15 => ?_) (fun h15 => ?_)
      · skip
        refine ad_iconst dX4_reachOf_30 ?_
        exact ad_reti dX4_reachOf_31 rfl (by first | exact ⟨by congr 3; funext w; unfold ad_rOf; rw [decide_eq_true (by omega), Bool.true_and], rfl⟩ | exact ⟨by rw [show ad_rOf A v = fun _ => false from by funext w; unfold ad_rOf; rw [decide_eq_false (by omega), Bool.false_and]]; rfl, rfl⟩)
      · show ad_R _ _ _ _ 18 _ _ _
        refine ad_aload_n dX4_reachOf_18 rfl ?_
        refine gf_X4_11 rfl (by omega) dX4_reachOf_19 ?_
        refine ad_iload_n dX4_reachOf_22 rfl ?_
        refine ad_aald dX4_reachOf_23 (by omega) (by omega) (by omega) ?_
        refine gf_X4_87 rfl (by omega) dX4_reachOf_24 ?_
        rw [(r7 v.toNat (by omega)).2.2]
        refine ad_goto 31 dX4_reachOf_27 (by decide) ?_
        exact ad_reti dX4_reachOf_31 rfl (by first | exact ⟨by congr 3; funext w; unfold ad_rOf; rw [decide_eq_true (by omega), Bool.true_and], rfl⟩ | exact ⟨by rw [show ad_rOf A v = fun _ => false from by funext w; unfold ad_rOf; rw [decide_eq_false (by omega), Bool.false_and]]; rfl, rfl⟩)
theorem c_X4_bitOf {g : ad_G} {d : Nat} {σ : ad_Mem} {v : Int} (hv : -1 ≤ v ∧ v < 10) : ad_Q g mX4_bitOf d [ad_iv v] σ (fun x m => x = ad_iv (ad_bits (fun w => decide ((w : Int) = v)) : Int) ∧ m = σ) := by
  refine ad_M1 (k := 0) rfl (by simp [Value.category]) rfl (Nat.le_of_ble_eq_true rfl) ?_
  simp only [List.map_cons, List.map_nil, List.replicate, List.cons_append, List.nil_append]
  refine ad_iload_n dX4_bitOf_0 rfl ?_
  refine ad_iconst dX4_bitOf_1 ?_
  refine ad_icmp_ne 9 dX4_bitOf_2 (by decide) (by omega) (by omega) (fun h2 => ?_) (fun h2 => ?_)
  · skip
    refine ad_iconst dX4_bitOf_9 ?_
    refine ad_iload_n dX4_bitOf_10 rfl ?_
    refine ad_ishl dX4_bitOf_11 ?_
    exact ad_reti dX4_bitOf_12 rfl (by
      have hh : ∀ n : Nat, n < 10 → 2 ^ n = ad_bits (fun w => decide ((w : Int) = (n : Int))) := by decide +kernel
      have hz : 0 = ad_bits (fun w => decide ((w : Int) = -1)) := by decide +kernel
      first | exact ⟨by rw [show v = -1 by omega, ← hz]; rfl, rfl⟩ | exact ⟨by rw [show v = ((v.toNat : Nat) : Int) by omega, ad_shl_n (by omega), ← hh v.toNat (by omega)], rfl⟩)
  · show ad_R _ _ _ _ 5 _ _ _
    refine ad_iconst dX4_bitOf_5 ?_
    refine ad_goto 12 dX4_bitOf_6 (by decide) ?_
    exact ad_reti dX4_bitOf_12 rfl (by
      have hh : ∀ n : Nat, n < 10 → 2 ^ n = ad_bits (fun w => decide ((w : Int) = (n : Int))) := by decide +kernel
      have hz : 0 = ad_bits (fun w => decide ((w : Int) = -1)) := by decide +kernel
      first | exact ⟨by rw [show v = -1 by omega, ← hz]; rfl, rfl⟩ | exact ⟨by rw [show v = ((v.toNat : Nat) : Int) by omega, ad_shl_n (by omega), ← hh v.toNat (by omega)], rfl⟩)
