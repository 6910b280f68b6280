/-! ===== what a store answers, by loops over its versions ===== -/
def ad_cst (A : ad_Ar) (v : Nat) : Int := if ad_aB A v = -1 then 1 + (ad_aL A v).length else ad_dc (ad_aT A v)
def ad_cstH (A : ad_Ar) (v : Nat) : Int := if ad_aH A v = true then ad_cst A v else 0
def ad_all (A : ad_Ar) : Int := ad_sm (ad_cstH A) 10
def ad_depH (A : ad_Ar) (v : Nat) : Int := if ad_aH A v = true then (ad_dep A v : Int) else 0
def ad_deep (A : ad_Ar) : Int := ad_mx (ad_depH A) 10
def ad_whl (A : ad_Ar) (v : Nat) : Bool := ad_aH A v && decide (ad_aB A v = -1)
/-- the first from i on, at most k on -/
def ad_lst (p : Nat → Bool) : Nat → Nat → Nat
  | 0, i => i
  | k + 1, i => if p i = true then i else ad_lst p k (i + 1)
def ad_twin (A : ad_Ar) (v : Nat) : Nat := ad_lst (fun o => ad_aH A o && decide (ad_aL A o = ad_aL A v)) v 0
def ad_ctsH (A : ad_Ar) (v : Nat) : Int := if ad_aH A v = true ∧ ad_twin A v = v then 1 else 0
def ad_cts (A : ad_Ar) : Int := ad_sm (ad_ctsH A) 10
def ad_an (f : Nat → Nat → Bool) : Nat → Nat → Bool
  | 0, _ => false
  | n + 1, w => ad_an f n w || f n w
def ad_rsF (A : ad_Ar) (q : Nat → Bool) (v w : Nat) : Bool := q v && ad_rOf A v w
def ad_prF (A : ad_Ar) (q : Nat → Bool) (v w : Nat) : Bool := q v && (decide ((w : Int) = ad_aP A v) || decide ((w : Int) = ad_aQ A v))
def ad_hdF (A : ad_Ar) (h w : Nat) : Bool := ad_rOf A (ad_aE A h) w
def ad_sw (A : ad_Ar) (sent known : Nat → Bool) (v : Nat) : Bool := sent v && ad_aH A v && decide (ad_aB A v ≠ -1) && !known (ad_aB A v).toNat
def ad_scH (A : ad_Ar) (sent known : Nat → Bool) (v : Nat) : Int := if (sent v && ad_aH A v) = true then (if ad_sw A sent known v = true then 1 + (ad_aL A v).length else ad_cst A v) else 0
theorem ad_cst_mem {σ : ad_Mem} {s : Nat} {A : ad_Ar} (hr : ad_rC σ s A) (hw : ad_wA A) {v : Nat} (h : ad_aH A v = true) : (if σ 6 (10 * s + v) 6 = -1 then 1 + σ 2 (10 * s + v) 1 else 1 + σ 0 (10 * s + v) 2 + σ 0 (10 * s + v) 3) = ad_cst A v ∧ 1 + σ 2 (10 * s + v) 1 = 1 + ((ad_aL A v).length : Int) := by
  obtain ⟨g1, g2, g3, g4⟩ := hr.2.2.2.2.2.1 v h
  have hv := ad_rC_rng hr hw h
  have hl := ad_nl_len σ (10 * s + v)
  rw [g1] at hl
  refine ⟨?_, by omega⟩
  unfold ad_cst
  rw [g3]
  by_cases hb : ad_aB A v = -1
  · rw [if_pos hb, if_pos hb]; omega
  · rw [if_neg hb, if_neg hb]
    have hd := (hr.2.2.2.2.1 v hv.1).2
    have hdl := ad_ds_len σ (10 * s + v)
    rw [g4 hb] at hdl
    have h3 := hd.2.2.1
    rw [g4 hb] at h3
    have h0 := hd.1
    unfold ad_dc
    rw [h3]
    omega
theorem ad_cst_rng {σ : ad_Mem} {s : Nat} {A : ad_Ar} (hr : ad_rC σ s A) (hw : ad_wA A) {v : Nat} (h : ad_aH A v = true) : 0 ≤ ad_cst A v ∧ ad_cst A v ≤ 25 := by
  have hv := ad_rC_rng hr hw h
  have h1 := (hw.2.2.1 v h).1
  unfold ad_cst
  by_cases hb : ad_aB A v = -1
  · rw [if_pos hb]; omega
  · rw [if_neg hb]
    have hd := (hr.2.2.2.2.1 v hv.1).2
    have hdl := ad_ds_len σ (10 * s + v)
    rw [(hr.2.2.2.2.2.1 v h).2.2.2 hb] at hdl
    have := ad_nc_le (ad_aT A v)
    have h0 := hd.1
    have h2 := hd.2.1
    unfold ad_dc
    omega
theorem ad_sm_rng {f : Nat → Int} {M : Int} (h : ∀ i, 0 ≤ f i ∧ f i ≤ M) : ∀ n, 0 ≤ ad_sm f n ∧ ad_sm f n ≤ n * M
  | 0 => by simp [ad_sm]
  | n + 1 => by
    have h1 := ad_sm_rng h n
    have h2 := h n
    rw [ad_sm, show ((n + 1 : Nat) : Int) * M = n * M + M by rw [Int.natCast_add, Int.add_mul]; simp]
    omega
theorem ad_cstH_rng {σ : ad_Mem} {s : Nat} {A : ad_Ar} (hr : ad_rC σ s A) (hw : ad_wA A) (i : Nat) : 0 ≤ ad_cstH A i ∧ ad_cstH A i ≤ 25 := by
  unfold ad_cstH
  by_cases h : ad_aH A i = true
  · rw [if_pos h]; exact ad_cst_rng hr hw h
  · rw [if_neg h]; omega
theorem ad_an_rng {f : Nat → Nat → Bool} {n w : Nat} (h : ad_an f n w = true) : ∃ i, i < n ∧ f i w = true := by
  induction n with
  | zero => cases h
  | succ n ih =>
    rw [ad_an, Bool.or_eq_true] at h
    rcases h with h | h
    · obtain ⟨i, h1, h2⟩ := ih h; exact ⟨i, by omega, h2⟩
    · exact ⟨n, by omega, h⟩
theorem ad_an_of {f : Nat → Nat → Bool} {n w i : Nat} (h : i < n) (hf : f i w = true) : ad_an f n w = true := by
  induction n with
  | zero => omega
  | succ n ih =>
    rw [ad_an, Bool.or_eq_true]
    by_cases hi : i = n
    · subst hi; exact Or.inr hf
    · exact Or.inl (ih (by omega))
theorem ad_an_end {f : Nat → Nat → Bool} {c : Nat} (h : ∀ i, c ≤ i → ∀ w, f i w = false) : ∀ k, ad_an f (c + k) = ad_an f c
  | 0 => rfl
  | k + 1 => by
    funext w
    show (ad_an f (c + k) w || f (c + k) w) = _
    rw [ad_an_end h k, h _ (by omega), Bool.or_false]
theorem c_X4_costOfAll {g : ad_G} {d : Nat} {σ : ad_Mem} {s : Nat} {A : ad_Ar} (hs : s < 3) (hr : ad_rC σ s A) (hw : ad_wA A) (h2d : 2 ≤ d) : ad_Q g mX4_costOfAll d [ad_rf g 4 s] σ (fun x m => x = ad_iv (ad_all A) ∧ m = σ) := by
  have hr0 := hr
  have hw0 := hw
  obtain ⟨r1, r2, r3, r4, r5, r6, r7, r8⟩ := hr
  obtain ⟨w1, w2, w3, w4, w5, w6, w7, w8, w9⟩ := hw
  have r2b := ad_bits_lt (ad_aH A)
  refine ad_M1 (k := 2) rfl (by simp [Value.category]) rfl (Nat.le_of_ble_eq_true rfl) ?_
  simp only [List.map_cons, List.map_nil, List.replicate, List.cons_append, List.nil_append]
  have lp : ∀ (n : Nat) (v : Int) (a : Int), (0 ≤ v) → (v ≤ ad_aC A) → (a = ad_sm (ad_cstH A) v.toNat) → (ad_aC A - v).toNat ≤ n → ad_R g mX4_costOfAll d (ad_ZQ mX4_costOfAll (fun x m => x = ad_iv (ad_all A) ∧ m = σ)) 4 [some (ad_rf g 4 s), some (ad_iv a), some (ad_iv v)] [] σ := by
    intro n
    induction n with
    | zero =>
      intro v a hv0 hv1 hI hn
      refine ad_iload_n dX4_costOfAll_4 rfl ?_
      refine ad_aload_n dX4_costOfAll_5 rfl ?_
      refine gf_X4_31 rfl (by omega) dX4_costOfAll_6 ?_
      refine ad_icmp_ge 38 dX4_costOfAll_9 (by decide) (by omega) (by omega) (fun h9 => ?_) (fun h9 => ?_)
      · skip
        refine ad_iload_n dX4_costOfAll_38 rfl ?_
        exact ad_reti dX4_costOfAll_39 rfl (by
          have hz := ad_sm_end (f := ad_cstH A) (c := ad_aC A) (fun i hi => if_neg (fun q => by have := w2 i q; omega)) (10 - ad_aC A)
          rw [show ad_aC A + (10 - ad_aC A) = 10 by omega] at hz
          exact ⟨by rw [hI, ad_all, hz]; congr 2; omega, rfl⟩)
      · show ad_R _ _ _ _ 12 _ _ _
        exfalso; omega
    | succ n ih =>
      intro v a hv0 hv1 hI hn
      refine ad_iload_n dX4_costOfAll_4 rfl ?_
      refine ad_aload_n dX4_costOfAll_5 rfl ?_
      refine gf_X4_31 rfl (by omega) dX4_costOfAll_6 ?_
      refine ad_icmp_ge 38 dX4_costOfAll_9 (by decide) (by omega) (by omega) (fun h9 => ?_) (fun h9 => ?_)
      · skip
        refine ad_iload_n dX4_costOfAll_38 rfl ?_
        exact ad_reti dX4_costOfAll_39 rfl (by
          have hz := ad_sm_end (f := ad_cstH A) (c := ad_aC A) (fun i hi => if_neg (fun q => by have := w2 i q; omega)) (10 - ad_aC A)
          rw [show ad_aC A + (10 - ad_aC A) = 10 by omega] at hz
          exact ⟨by rw [hI, ad_all, hz]; congr 2; omega, rfl⟩)
      · show ad_R _ _ _ _ 12 _ _ _
        refine ad_aload_n dX4_costOfAll_12 rfl ?_
        refine ad_iload_n dX4_costOfAll_13 rfl ?_
        refine ad_cv1f rfl cl_X4_57 dX4_costOfAll_14 (c_X4_holds hs hr0 hw0 (by omega)) (by omega) (by show _ < 3; omega) (Nat.le_of_ble_eq_true rfl) ?_
        refine ad_ifp_eq 32 dX4_costOfAll_17 (by decide) (fun h17 => ?_) (fun h17 => ?_)
        · skip
          refine ad_iinc dX4_costOfAll_32 rfl (by decide) rfl (by dsimp only [ad_set]) ?_
          refine ad_goto 4 dX4_costOfAll_35 (by decide) ?_
          refine ih (v + 1) _ (by omega) (by omega) ?_ (by omega)
          rw [hI, show (v + 1).toNat = v.toNat + 1 by omega, ad_sm, ad_cstH]
          first
          | rw [if_pos h17.2]
          | (rw [if_neg (fun q => h17 ⟨hv0, q⟩)]; omega)
        · show ad_R _ _ _ _ 20 _ _ _
          refine ad_iload_n dX4_costOfAll_20 rfl ?_
          refine ad_aload_n dX4_costOfAll_21 rfl ?_
          refine gf_X4_11 rfl (by omega) dX4_costOfAll_22 ?_
          refine ad_iload_n dX4_costOfAll_25 rfl ?_
          refine ad_aald dX4_costOfAll_26 (by omega) (by omega) (by omega) ?_
          refine ad_cv0f rfl cl_X4_157 dX4_costOfAll_27 (c_X6_cost (by omega) (by omega) (by have := ad_rC_rng hr0 hw0 h17.2; omega)) (by omega) (by show _ < 30; omega) (Nat.le_of_ble_eq_true rfl) ?_
          rw [(ad_cst_mem hr0 hw0 h17.2).1]
          refine ad_iadd dX4_costOfAll_30 ?_
          refine ad_istore_n dX4_costOfAll_31 (by decide) rfl (by dsimp only [ad_set]) ?_
          refine ad_iinc dX4_costOfAll_32 rfl (by decide) rfl (by dsimp only [ad_set]) ?_
          refine ad_goto 4 dX4_costOfAll_35 (by decide) ?_
          refine ih (v + 1) _ (by omega) (by omega) ?_ (by omega)
          rw [hI, show (v + 1).toNat = v.toNat + 1 by omega, ad_sm, ad_cstH]
          first
          | rw [if_pos h17.2]
          | (rw [if_neg (fun q => h17 ⟨hv0, q⟩)]; omega)
  refine ad_iconst dX4_costOfAll_0 ?_
  refine ad_istore_n dX4_costOfAll_1 (by decide) rfl (by dsimp only [ad_set]) ?_
  refine ad_iconst dX4_costOfAll_2 ?_
  refine ad_istore_n dX4_costOfAll_3 (by decide) rfl (by dsimp only [ad_set]) ?_
  exact lp (ad_aC A) 0 0 (by omega) (by omega) rfl (by omega)
theorem c_X4_greatestDepth {g : ad_G} {d : Nat} {σ : ad_Mem} {s : Nat} {A : ad_Ar} (hs : s < 3) (hr : ad_rC σ s A) (hw : ad_wA A) (h3d : 3 ≤ d) : ad_Q g mX4_greatestDepth d [ad_rf g 4 s] σ (fun x m => x = ad_iv (ad_deep A) ∧ m = σ) := by
  have hr0 := hr
  have hw0 := hw
  obtain ⟨r1, r2, r3, r4, r5, r6, r7, r8⟩ := hr
  obtain ⟨w1, w2, w3, w4, w5, w6, w7, w8, w9⟩ := hw
  have r2b := ad_bits_lt (ad_aH A)
  refine ad_M1 (k := 2) rfl (by simp [Value.category]) rfl (Nat.le_of_ble_eq_true rfl) ?_
  simp only [List.map_cons, List.map_nil, List.replicate, List.cons_append, List.nil_append]
  have lp : ∀ (n : Nat) (v : Int) (a : Int), (0 ≤ v) → (v ≤ ad_aC A) → (0 ≤ a ∧ a ≤ 8) → (a = ad_mx (ad_depH A) v.toNat) → (ad_aC A - v).toNat ≤ n → ad_R g mX4_greatestDepth d (ad_ZQ mX4_greatestDepth (fun x m => x = ad_iv (ad_deep A) ∧ m = σ)) 4 [some (ad_rf g 4 s), some (ad_iv a), some (ad_iv v)] [] σ := by
    intro n
    induction n with
    | zero =>
      intro v a hv0 hv1 ha hI hn
      refine ad_iload_n dX4_greatestDepth_4 rfl ?_
      refine ad_aload_n dX4_greatestDepth_5 rfl ?_
      refine gf_X4_31 rfl (by omega) dX4_greatestDepth_6 ?_
      refine ad_icmp_ge 36 dX4_greatestDepth_9 (by decide) (by omega) (by omega) (fun h9 => ?_) (fun h9 => ?_)
      · skip
        refine ad_iload_n dX4_greatestDepth_36 rfl ?_
        exact ad_reti dX4_greatestDepth_37 rfl (by
          have hz := ad_mx_end (f := ad_depH A) (c := ad_aC A) (fun i hi => if_neg (fun q => by have := w2 i q; omega)) (10 - ad_aC A)
          rw [show ad_aC A + (10 - ad_aC A) = 10 by omega] at hz
          exact ⟨by rw [hI, ad_deep, hz]; congr 2; omega, rfl⟩)
      · show ad_R _ _ _ _ 12 _ _ _
        exfalso; omega
    | succ n ih =>
      intro v a hv0 hv1 ha hI hn
      refine ad_iload_n dX4_greatestDepth_4 rfl ?_
      refine ad_aload_n dX4_greatestDepth_5 rfl ?_
      refine gf_X4_31 rfl (by omega) dX4_greatestDepth_6 ?_
      refine ad_icmp_ge 36 dX4_greatestDepth_9 (by decide) (by omega) (by omega) (fun h9 => ?_) (fun h9 => ?_)
      · skip
        refine ad_iload_n dX4_greatestDepth_36 rfl ?_
        exact ad_reti dX4_greatestDepth_37 rfl (by
          have hz := ad_mx_end (f := ad_depH A) (c := ad_aC A) (fun i hi => if_neg (fun q => by have := w2 i q; omega)) (10 - ad_aC A)
          rw [show ad_aC A + (10 - ad_aC A) = 10 by omega] at hz
          exact ⟨by rw [hI, ad_deep, hz]; congr 2; omega, rfl⟩)
      · show ad_R _ _ _ _ 12 _ _ _
        refine ad_aload_n dX4_greatestDepth_12 rfl ?_
        refine ad_iload_n dX4_greatestDepth_13 rfl ?_
        refine ad_cv1f rfl cl_X4_57 dX4_greatestDepth_14 (c_X4_holds hs hr0 hw0 (by omega)) (by omega) (by show _ < 3; omega) (Nat.le_of_ble_eq_true rfl) ?_
        refine ad_ifp_eq 30 dX4_greatestDepth_17 (by decide) (fun h17 => ?_) (fun h17 => ?_)
        · skip
          refine ad_iinc dX4_greatestDepth_30 rfl (by decide) rfl (by dsimp only [ad_set]) ?_
          refine ad_goto 4 dX4_greatestDepth_33 (by decide) ?_
          refine ih (v + 1) _ (by omega) (by omega) (by omega) ?_ (by omega)
          rw [hI, show (v + 1).toNat = v.toNat + 1 by omega, ad_mx, ad_depH]
          first
          | rw [if_pos h17.2]
          | (rw [if_neg (fun q => h17 ⟨hv0, q⟩)]; rw [← hI]; omega)
        · show ad_R _ _ _ _ 20 _ _ _
          refine ad_iload_n dX4_greatestDepth_20 rfl ?_
          refine ad_aload_n dX4_greatestDepth_21 rfl ?_
          refine ad_iload_n dX4_greatestDepth_22 rfl ?_
          refine ad_cv1f rfl cl_X4_110 dX4_greatestDepth_23 ((by
            have hq := c_X4_depthOf (g := g) (d := d - 1) hs hr0 hw0 (by omega) h17.2
            rw [show ((v.toNat : Nat) : Int) = v by omega] at hq
            exact hq)) (by omega) (by show _ < 3; omega) (Nat.le_of_ble_eq_true rfl) ?_
          have hdf := (ad_dep_facts hw0 h17.2).1
          refine ad_mmax rfl lk_X4_151 dX4_greatestDepth_26 (by omega) (by omega) (by omega) (Nat.le_of_ble_eq_true rfl) ?_
          refine ad_istore_n dX4_greatestDepth_29 (by decide) rfl (by dsimp only [ad_set]) ?_
          refine ad_iinc dX4_greatestDepth_30 rfl (by decide) rfl (by dsimp only [ad_set]) ?_
          refine ad_goto 4 dX4_greatestDepth_33 (by decide) ?_
          refine ih (v + 1) _ (by omega) (by omega) (by omega) ?_ (by omega)
          rw [hI, show (v + 1).toNat = v.toNat + 1 by omega, ad_mx, ad_depH]
          first
          | rw [if_pos h17.2]
          | (rw [if_neg (fun q => h17 ⟨hv0, q⟩)]; rw [← hI]; omega)
  refine ad_iconst dX4_greatestDepth_0 ?_
  refine ad_istore_n dX4_greatestDepth_1 (by decide) rfl (by dsimp only [ad_set]) ?_
  refine ad_iconst dX4_greatestDepth_2 ?_
  refine ad_istore_n dX4_greatestDepth_3 (by decide) rfl (by dsimp only [ad_set]) ?_
  exact lp (ad_aC A) 0 0 (by omega) (by omega) (by omega) rfl (by omega)
theorem c_X4_wholes {g : ad_G} {d : Nat} {σ : ad_Mem} {s : Nat} {A : ad_Ar} (hs : s < 3) (hr : ad_rC σ s A) (hw : ad_wA A) (h2d : 2 ≤ d) : ad_Q g mX4_wholes d [ad_rf g 4 s] σ (fun x m => x = ad_iv (ad_bits (ad_whl A) : Nat) ∧ m = σ) := by
  have hr0 := hr
  have hw0 := hw
  obtain ⟨r1, r2, r3, r4, r5, r6, r7, r8⟩ := hr
  obtain ⟨w1, w2, w3, w4, w5, w6, w7, w8, w9⟩ := hw
  have r2b := ad_bits_lt (ad_aH A)
  refine ad_M1 (k := 2) rfl (by simp [Value.category]) rfl (Nat.le_of_ble_eq_true rfl) ?_
  simp only [List.map_cons, List.map_nil, List.replicate, List.cons_append, List.nil_append]
  have lp : ∀ (n : Nat) (v : Int) (a : Int), (0 ≤ v) → (v ≤ ad_aC A) → (a = (ad_bN (ad_whl A) v.toNat : Nat)) → (ad_aC A - v).toNat ≤ n → ad_R g mX4_wholes d (ad_ZQ mX4_wholes (fun x m => x = ad_iv (ad_bits (ad_whl A) : Nat) ∧ m = σ)) 4 [some (ad_rf g 4 s), some (ad_iv a), some (ad_iv v)] [] σ := by
    intro n
    induction n with
    | zero =>
      intro v a hv0 hv1 hI hn
      refine ad_iload_n dX4_wholes_4 rfl ?_
      refine ad_aload_n dX4_wholes_5 rfl ?_
      refine gf_X4_31 rfl (by omega) dX4_wholes_6 ?_
      refine ad_icmp_ge 44 dX4_wholes_9 (by decide) (by omega) (by omega) (fun h9 => ?_) (fun h9 => ?_)
      · skip
        refine ad_iload_n dX4_wholes_44 rfl ?_
        exact ad_reti dX4_wholes_45 rfl (by
          have hz := ad_bN_end (p := ad_whl A) (c := ad_aC A) (fun i hi => by
            cases hq : ad_aH A i with
            | false => simp [ad_whl, hq]
            | true => have := w2 i hq; omega) (10 - ad_aC A)
          rw [show ad_aC A + (10 - ad_aC A) = 10 by omega] at hz
          exact ⟨by rw [hI, show v.toNat = ad_aC A by omega, ← hz]; rfl, rfl⟩)
      · show ad_R _ _ _ _ 12 _ _ _
        exfalso; omega
    | succ n ih =>
      intro v a hv0 hv1 hI hn
      refine ad_iload_n dX4_wholes_4 rfl ?_
      refine ad_aload_n dX4_wholes_5 rfl ?_
      refine gf_X4_31 rfl (by omega) dX4_wholes_6 ?_
      refine ad_icmp_ge 44 dX4_wholes_9 (by decide) (by omega) (by omega) (fun h9 => ?_) (fun h9 => ?_)
      · skip
        refine ad_iload_n dX4_wholes_44 rfl ?_
        exact ad_reti dX4_wholes_45 rfl (by
          have hz := ad_bN_end (p := ad_whl A) (c := ad_aC A) (fun i hi => by
            cases hq : ad_aH A i with
            | false => simp [ad_whl, hq]
            | true => have := w2 i hq; omega) (10 - ad_aC A)
          rw [show ad_aC A + (10 - ad_aC A) = 10 by omega] at hz
          exact ⟨by rw [hI, show v.toNat = ad_aC A by omega, ← hz]; rfl, rfl⟩)
      · show ad_R _ _ _ _ 12 _ _ _
        refine ad_aload_n dX4_wholes_12 rfl ?_
        refine ad_iload_n dX4_wholes_13 rfl ?_
        refine ad_cv1f rfl cl_X4_57 dX4_wholes_14 (c_X4_holds hs hr0 hw0 (by omega)) (by omega) (by show _ < 3; omega) (Nat.le_of_ble_eq_true rfl) ?_
        refine ad_ifp_eq 38 dX4_wholes_17 (by decide) (fun h17 => ?_) (fun h17 => ?_)
        · skip
          refine ad_iinc dX4_wholes_38 rfl (by decide) rfl (by dsimp only [ad_set]) ?_
          refine ad_goto 4 dX4_wholes_41 (by decide) ?_
          refine ih (v + 1) _ (by omega) (by omega) ?_ (by omega)
          rw [hI, show (v + 1).toNat = v.toNat + 1 by omega]
          rw [ad_bN_n (by simp [ad_whl]; intro q; exact absurd ⟨hv0, q⟩ h17)]
        · show ad_R _ _ _ _ 20 _ _ _
          refine ad_aload_n dX4_wholes_20 rfl ?_
          refine gf_X4_11 rfl (by omega) dX4_wholes_21 ?_
          refine ad_iload_n dX4_wholes_24 rfl ?_
          refine ad_aald dX4_wholes_25 (by omega) (by omega) (by omega) ?_
          refine ad_cv0f rfl cl_X4_160 dX4_wholes_26 (c_X6_isWhole (by omega) (by have := ad_rC_rng hr0 hw0 h17.2; omega)) (by omega) (by show _ < 30; omega) (Nat.le_of_ble_eq_true rfl) ?_
          rw [(r6 _ h17.2).2.2.1]
          refine ad_ifp_eq 38 dX4_wholes_29 (by decide) (fun h29 => ?_) (fun h29 => ?_)
          · skip
            refine ad_iinc dX4_wholes_38 rfl (by decide) rfl (by dsimp only [ad_set]) ?_
            refine ad_goto 4 dX4_wholes_41 (by decide) ?_
            refine ih (v + 1) _ (by omega) (by omega) ?_ (by omega)
            rw [hI, show (v + 1).toNat = v.toNat + 1 by omega]
            rw [ad_bN_n (by simp [ad_whl, h29])]
          · show ad_R _ _ _ _ 32 _ _ _
            refine ad_iload_n dX4_wholes_32 rfl ?_
            refine ad_iconst dX4_wholes_33 ?_
            refine ad_iload_n dX4_wholes_34 rfl ?_
            refine ad_ishl dX4_wholes_35 ?_
            refine ad_ior dX4_wholes_36 ?_
            refine ad_istore_n dX4_wholes_37 (by decide) rfl (by dsimp only [ad_set]) ?_
            refine ad_iinc dX4_wholes_38 rfl (by decide) rfl (by dsimp only [ad_set]) ?_
            refine ad_goto 4 dX4_wholes_41 (by decide) ?_
            refine ih (v + 1) _ (by omega) (by omega) ?_ (by omega)
            rw [hI, show (v + 1).toNat = v.toNat + 1 by omega]
            rw [← ad_or_bN (by omega) (by simp [ad_whl, h17.2, h29]), show ((v.toNat : Nat) : Int) = v by omega]
  refine ad_iconst dX4_wholes_0 ?_
  refine ad_istore_n dX4_wholes_1 (by decide) rfl (by dsimp only [ad_set]) ?_
  refine ad_iconst dX4_wholes_2 ?_
  refine ad_istore_n dX4_wholes_3 (by decide) rfl (by dsimp only [ad_set]) ?_
  exact lp (ad_aC A) 0 0 (by omega) (by omega) rfl (by omega)
theorem c_X4_leastTwin {g : ad_G} {d : Nat} {σ : ad_Mem} {s : Nat} {A : ad_Ar} (hs : s < 3) (hr : ad_rC σ s A) (hw : ad_wA A) {v : Nat} (h3d : 3 ≤ d) (hv : ad_aH A v = true) : ad_Q g mX4_leastTwin d [ad_rf g 4 s, ad_iv (v : Int)] σ (fun x m => x = ad_iv (ad_twin A v : Nat) ∧ m = σ) := by
  have hr0 := hr
  have hw0 := hw
  obtain ⟨r1, r2, r3, r4, r5, r6, r7, r8⟩ := hr
  obtain ⟨w1, w2, w3, w4, w5, w6, w7, w8, w9⟩ := hw
  have r2b := ad_bits_lt (ad_aH A)
  have hvv := w2 v hv
  refine ad_M1 (k := 1) rfl (by simp [Value.category]) rfl (Nat.le_of_ble_eq_true rfl) ?_
  simp only [List.map_cons, List.map_nil, List.replicate, List.cons_append, List.nil_append]
  have lp : ∀ (n : Nat) (i : Int), (0 ≤ i) → (i ≤ v) → (ad_twin A v = ad_lst (fun o => ad_aH A o && decide (ad_aL A o = ad_aL A v)) (v - i.toNat) i.toNat) → (v - i).toNat ≤ n → ad_R g mX4_leastTwin d (ad_ZQ mX4_leastTwin (fun x m => x = ad_iv (ad_twin A v : Nat) ∧ m = σ)) 2 [some (ad_rf g 4 s), some (ad_iv (v : Int)), some (ad_iv i)] [] σ := by
    intro n
    induction n with
    | zero =>
      intro i hi0 hi1 hI hn
      refine ad_iload_n dX4_leastTwin_2 rfl ?_
      refine ad_iload_n dX4_leastTwin_3 rfl ?_
      refine ad_icmp_ge 47 dX4_leastTwin_4 (by decide) (by omega) (by omega) (fun h4 => ?_) (fun h4 => ?_)
      · skip
        refine ad_iload_n dX4_leastTwin_47 rfl ?_
        exact ad_reti dX4_leastTwin_48 rfl (⟨by rw [hI, show v - i.toNat = 0 by omega]; show _ = ad_iv (i.toNat : Nat); congr 1; omega, rfl⟩)
      · show ad_R _ _ _ _ 7 _ _ _
        exfalso; omega
    | succ n ih =>
      intro i hi0 hi1 hI hn
      refine ad_iload_n dX4_leastTwin_2 rfl ?_
      refine ad_iload_n dX4_leastTwin_3 rfl ?_
      refine ad_icmp_ge 47 dX4_leastTwin_4 (by decide) (by omega) (by omega) (fun h4 => ?_) (fun h4 => ?_)
      · skip
        refine ad_iload_n dX4_leastTwin_47 rfl ?_
        exact ad_reti dX4_leastTwin_48 rfl (⟨by rw [hI, show v - i.toNat = 0 by omega]; show _ = ad_iv (i.toNat : Nat); congr 1; omega, rfl⟩)
      · show ad_R _ _ _ _ 7 _ _ _
        refine ad_aload_n dX4_leastTwin_7 rfl ?_
        refine ad_iload_n dX4_leastTwin_8 rfl ?_
        refine ad_cv1f rfl cl_X4_57 dX4_leastTwin_9 (c_X4_holds hs hr0 hw0 (by omega)) (by omega) (by show _ < 3; omega) (Nat.le_of_ble_eq_true rfl) ?_
        refine ad_ifp_eq 41 dX4_leastTwin_12 (by decide) (fun h12 => ?_) (fun h12 => ?_)
        · skip
          refine ad_iinc dX4_leastTwin_41 rfl (by decide) rfl (by dsimp only [ad_set]) ?_
          refine ad_goto 2 dX4_leastTwin_44 (by decide) ?_
          refine ih (i + 1) (by omega) (by omega) ?_ (by omega)
          obtain ⟨k, hk⟩ : ∃ k, v - i.toNat = k + 1 := ⟨v - i.toNat - 1, by omega⟩
          rw [hI, hk, ad_lst, show v - (i + 1).toNat = k by omega, show (i + 1).toNat = i.toNat + 1 by omega]
          rw [if_neg (by simp; intro q; exact absurd ⟨hi0, q⟩ h12)]
        · show ad_R _ _ _ _ 15 _ _ _
          refine ad_aload_n dX4_leastTwin_15 rfl ?_
          refine gf_X4_11 rfl (by omega) dX4_leastTwin_16 ?_
          refine ad_iload_n dX4_leastTwin_19 rfl ?_
          refine ad_aald dX4_leastTwin_20 (by omega) (by omega) (by omega) ?_
          refine gf_X4_61 rfl (by omega) dX4_leastTwin_21 ?_
          refine ad_aload_n dX4_leastTwin_24 rfl ?_
          refine gf_X4_11 rfl (by omega) dX4_leastTwin_25 ?_
          refine ad_iload_n dX4_leastTwin_28 rfl ?_
          refine ad_aald dX4_leastTwin_29 (by omega) (by omega) (by omega) ?_
          rw [Int.toNat_natCast]
          refine gf_X4_61 rfl (by omega) dX4_leastTwin_30 ?_
          refine ad_cv1f rfl cl_X4_164 dX4_leastTwin_33 (c_X2_isSameAs (by omega) (by omega) (by omega) (r5 i.toNat (by omega)).1 (r5 v (by omega)).1) (by omega) (by show _ < 36; omega) (Nat.le_of_ble_eq_true rfl) ?_
          rw [(r6 _ h12.2).1, (r6 _ hv).1]
          refine ad_ifp_eq 41 dX4_leastTwin_36 (by decide) (fun h36 => ?_) (fun h36 => ?_)
          · skip
            refine ad_iinc dX4_leastTwin_41 rfl (by decide) rfl (by dsimp only [ad_set]) ?_
            refine ad_goto 2 dX4_leastTwin_44 (by decide) ?_
            refine ih (i + 1) (by omega) (by omega) ?_ (by omega)
            obtain ⟨k, hk⟩ : ∃ k, v - i.toNat = k + 1 := ⟨v - i.toNat - 1, by omega⟩
            rw [hI, hk, ad_lst, show v - (i + 1).toNat = k by omega, show (i + 1).toNat = i.toNat + 1 by omega]
            rw [if_neg (by simp [h36])]
          · show ad_R _ _ _ _ 39 _ _ _
            refine ad_iload_n dX4_leastTwin_39 rfl ?_
            exact ad_reti dX4_leastTwin_40 rfl (⟨by rw [hI]; obtain ⟨k, hk⟩ : ∃ k, v - i.toNat = k + 1 := ⟨v - i.toNat - 1, by omega⟩; rw [hk, ad_lst, if_pos (by simp [h12.2, h36])]; congr 1; omega, rfl⟩)
  refine ad_iconst dX4_leastTwin_0 ?_
  refine ad_istore_n dX4_leastTwin_1 (by decide) rfl (by dsimp only [ad_set]) ?_
  exact lp v 0 (by omega) (by omega) rfl (by omega)
theorem ad_lst_le (p : Nat → Bool) : ∀ v i, ad_lst p v i ≤ i + v
  | 0, i => Nat.le_refl i
  | k + 1, i => by
    have := ad_lst_le p k (i + 1)
    rw [ad_lst]; split <;> omega
theorem c_X4_contents {g : ad_G} {d : Nat} {σ : ad_Mem} {s : Nat} {A : ad_Ar} (hs : s < 3) (hr : ad_rC σ s A) (hw : ad_wA A) (h4d : 4 ≤ d) : ad_Q g mX4_contents d [ad_rf g 4 s] σ (fun x m => x = ad_iv (ad_cts A) ∧ m = σ) := by
  have hr0 := hr
  have hw0 := hw
  obtain ⟨r1, r2, r3, r4, r5, r6, r7, r8⟩ := hr
  obtain ⟨w1, w2, w3, w4, w5, w6, w7, w8, w9⟩ := hw
  have r2b := ad_bits_lt (ad_aH A)
  refine ad_M1 (k := 2) rfl (by simp [Value.category]) rfl (Nat.le_of_ble_eq_true rfl) ?_
  simp only [List.map_cons, List.map_nil, List.replicate, List.cons_append, List.nil_append]
  have lp : ∀ (n : Nat) (v : Int) (a : Int), (0 ≤ v) → (v ≤ ad_aC A) → (a = ad_sm (ad_ctsH A) v.toNat) → (ad_aC A - v).toNat ≤ n → ad_R g mX4_contents d (ad_ZQ mX4_contents (fun x m => x = ad_iv (ad_cts A) ∧ m = σ)) 4 [some (ad_rf g 4 s), some (ad_iv a), some (ad_iv v)] [] σ := by
    intro n
    induction n with
    | zero =>
      intro v a hv0 hv1 hI hn
      refine ad_iload_n dX4_contents_4 rfl ?_
      refine ad_aload_n dX4_contents_5 rfl ?_
      refine gf_X4_31 rfl (by omega) dX4_contents_6 ?_
      refine ad_icmp_ge 38 dX4_contents_9 (by decide) (by omega) (by omega) (fun h9 => ?_) (fun h9 => ?_)
      · skip
        refine ad_iload_n dX4_contents_38 rfl ?_
        exact ad_reti dX4_contents_39 rfl (by
          have hz := ad_sm_end (f := ad_ctsH A) (c := ad_aC A) (fun i hi => if_neg (fun q => by have := w2 i q.1; omega)) (10 - ad_aC A)
          rw [show ad_aC A + (10 - ad_aC A) = 10 by omega] at hz
          exact ⟨by rw [hI, ad_cts, hz]; congr 2; omega, rfl⟩)
      · show ad_R _ _ _ _ 12 _ _ _
        exfalso; omega
    | succ n ih =>
      intro v a hv0 hv1 hI hn
      refine ad_iload_n dX4_contents_4 rfl ?_
      refine ad_aload_n dX4_contents_5 rfl ?_
      refine gf_X4_31 rfl (by omega) dX4_contents_6 ?_
      refine ad_icmp_ge 38 dX4_contents_9 (by decide) (by omega) (by omega) (fun h9 => ?_) (fun h9 => ?_)
      · skip
        refine ad_iload_n dX4_contents_38 rfl ?_
        exact ad_reti dX4_contents_39 rfl (by
          have hz := ad_sm_end (f := ad_ctsH A) (c := ad_aC A) (fun i hi => if_neg (fun q => by have := w2 i q.1; omega)) (10 - ad_aC A)
          rw [show ad_aC A + (10 - ad_aC A) = 10 by omega] at hz
          exact ⟨by rw [hI, ad_cts, hz]; congr 2; omega, rfl⟩)
      · show ad_R _ _ _ _ 12 _ _ _
        refine ad_aload_n dX4_contents_12 rfl ?_
        refine ad_iload_n dX4_contents_13 rfl ?_
        refine ad_cv1f rfl cl_X4_57 dX4_contents_14 (c_X4_holds hs hr0 hw0 (by omega)) (by omega) (by show _ < 3; omega) (Nat.le_of_ble_eq_true rfl) ?_
        refine ad_ifp_eq 32 dX4_contents_17 (by decide) (fun h17 => ?_) (fun h17 => ?_)
        · skip
          refine ad_iinc dX4_contents_32 rfl (by decide) rfl (by dsimp only [ad_set]) ?_
          refine ad_goto 4 dX4_contents_35 (by decide) ?_
          refine ih (v + 1) _ (by omega) (by omega) ?_ (by omega)
          rw [hI, show (v + 1).toNat = v.toNat + 1 by omega, ad_sm, ad_ctsH]
          first
          | (rw [if_pos ⟨h17.2, by omega⟩]; done)
          | (rw [if_neg (fun q => h26 (by omega))]; omega)
          | (rw [if_neg (fun q => h17 ⟨hv0, q.1⟩)]; omega)
        · show ad_R _ _ _ _ 20 _ _ _
          refine ad_aload_n dX4_contents_20 rfl ?_
          refine ad_iload_n dX4_contents_21 rfl ?_
          refine ad_cv1f rfl cl_X4_168 dX4_contents_22 ((by
            have hq := c_X4_leastTwin (g := g) (d := d - 1) hs hr0 hw0 (by omega) h17.2
            rw [show ((v.toNat : Nat) : Int) = v by omega] at hq
            exact hq)) (by omega) (by show _ < 3; omega) (Nat.le_of_ble_eq_true rfl) ?_
          have htw : ad_twin A v.toNat ≤ v.toNat := (by have := ad_lst_le (fun o => ad_aH A o && decide (ad_aL A o = ad_aL A v.toNat)) v.toNat 0; unfold ad_twin; omega)
          refine ad_iload_n dX4_contents_25 rfl ?_
          refine ad_icmp_ne 32 dX4_contents_26 (by decide) (by omega) (by omega) (fun h26 => ?_) (fun h26 => ?_)
          · skip
            refine ad_iinc dX4_contents_32 rfl (by decide) rfl (by dsimp only [ad_set]) ?_
            refine ad_goto 4 dX4_contents_35 (by decide) ?_
            refine ih (v + 1) _ (by omega) (by omega) ?_ (by omega)
            rw [hI, show (v + 1).toNat = v.toNat + 1 by omega, ad_sm, ad_ctsH]
            first
            | (rw [if_pos ⟨h17.2, by omega⟩]; done)
            | (rw [if_neg (fun q => h26 (by omega))]; omega)
            | (rw [if_neg (fun q => h17 ⟨hv0, q.1⟩)]; omega)
          · show ad_R _ _ _ _ 29 _ _ _
            refine ad_iinc dX4_contents_29 rfl (by decide) rfl (by dsimp only [ad_set]) ?_
            refine ad_iinc dX4_contents_32 rfl (by decide) rfl (by dsimp only [ad_set]) ?_
            refine ad_goto 4 dX4_contents_35 (by decide) ?_
            refine ih (v + 1) _ (by omega) (by omega) ?_ (by omega)
            rw [hI, show (v + 1).toNat = v.toNat + 1 by omega, ad_sm, ad_ctsH]
            first
            | (rw [if_pos ⟨h17.2, by omega⟩]; done)
            | (rw [if_neg (fun q => h26 (by omega))]; omega)
            | (rw [if_neg (fun q => h17 ⟨hv0, q.1⟩)]; omega)
  refine ad_iconst dX4_contents_0 ?_
  refine ad_istore_n dX4_contents_1 (by decide) rfl (by dsimp only [ad_set]) ?_
  refine ad_iconst dX4_contents_2 ?_
  refine ad_istore_n dX4_contents_3 (by decide) rfl (by dsimp only [ad_set]) ?_
  exact lp (ad_aC A) 0 0 (by omega) (by omega) rfl (by omega)
