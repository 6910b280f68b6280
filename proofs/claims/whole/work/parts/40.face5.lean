/-! ===== common, generations, fetch, wrong, hurt, mean, lost ===== -/
/-- the greatest below n, or -9 -/
def ad_top (p : Nat → Bool) : Nat → Int
  | 0 => -9
  | n + 1 => if p n = true then (n : Int) else ad_top p n
def ad_bth (A : ad_Ar) (a b w : Nat) : Bool := ad_reach (ad_aP A) (ad_aQ A) a w && ad_reach (ad_aP A) (ad_aQ A) b w
def ad_m_common (C : ad_C7) (a b : Int) : Int × ad_C7 :=
  if ¬ (0 ≤ a ∧ ad_aH (ad_cA C) a.toNat = true) ∨ ¬ (0 ≤ b ∧ ad_aH (ad_cA C) b.toNat = true) then ad_no C 1
  else (ad_top (ad_bth (ad_cA C) a.toNat b.toNat) 10, C)
/-- generations back -/
def ad_gen (A : ad_Ar) (q : Nat → Bool) : Nat → Nat → Bool
  | 0, w => q w
  | n + 1, w => ad_gen A q n w || ad_an (ad_prF A (fun i => decide (i < 10) && ad_gen A q n i)) 10 w
theorem ad_bits_fn (p : Nat → Bool) : (fun i => ((ad_bits p : Nat) : Int).toNat.testBit i) = fun i => decide (i < 10) && p i := by
  funext i
  rw [Int.toNat_natCast, ad_bits_tb]
theorem ad_bits_fix {p : Nat → Bool} (h : ∀ i, p i = true → i < 10) : (fun i => ((ad_bits p : Nat) : Int).toNat.testBit i) = p := by
  rw [ad_bits_fn]
  funext i
  by_cases hp : p i = true
  · rw [hp]; simp [h i hp]
  · rw [Bool.eq_false_iff.mpr hp]; simp
def ad_m_generations (C : ad_C7) (h n : Int) : Int × ad_C7 :=
  if ¬ (0 ≤ h ∧ h < 4) then ad_no C 1
  else if n < 0 then ad_no C 4
  else if 9 < n then ad_no C 6
  else if ad_aE (ad_cA C) h.toNat = -1 then (0, C)
  else ((ad_bits (ad_gen (ad_cA C) (fun w => w == (ad_aE (ad_cA C) h.toNat).toNat) n.toNat) : Nat), C)
def ad_had (A : ad_Ar) (m : Int) : Nat → Bool := ad_an (ad_rsF A (fun i => m.toNat.testBit i)) 10
def ad_snt (A : ad_Ar) (t : Nat) (m : Int) (w : Nat) : Bool := (ad_reach (ad_aP A) (ad_aQ A) t w && ad_aH A w) && !ad_had A m w
def ad_knw (A : ad_Ar) (t : Nat) (m : Int) (w : Nat) : Bool := (ad_snt A t m w || ad_had A m w) && ad_aH A w
def ad_m_fetch (C : ad_C7) (h m w : Int) : Int × ad_C7 :=
  if ¬ (0 ≤ h ∧ h < 4) then ad_no C 1
  else if m < 0 then ad_no C 4
  else if 1023 < m then ad_no C 6
  else if w < 0 ∨ 2 < w then ad_no C 2
  else if ad_aE (ad_cA C) h.toNat = -1 then (0, C)
  else if w = 0 then ((ad_bits (ad_snt (ad_cA C) (ad_aE (ad_cA C) h.toNat).toNat m) : Nat), C)
  else if w = 1 then (ad_sm (ad_scH (ad_cA C) (ad_snt (ad_cA C) (ad_aE (ad_cA C) h.toNat).toNat m) (ad_knw (ad_cA C) (ad_aE (ad_cA C) h.toNat).toNat m)) 10, C)
  else ((ad_pp (ad_sw (ad_cA C) (ad_snt (ad_cA C) (ad_aE (ad_cA C) h.toNat).toNat m) (ad_knw (ad_cA C) (ad_aE (ad_cA C) h.toNat).toNat m)) 10 : Nat), C)
def ad_wr (A : ad_Ar) (v : Nat) : Bool := ad_aH A v && decide (¬ ad_hs (ad_aL A v) = ad_aG A v)
def ad_m_wrong (C : ad_C7) : Int × ad_C7 := ((ad_bits (ad_wr (ad_cA C)) : Nat), C)
def ad_hu (A : ad_Ar) (v o : Nat) : Bool := ad_aH A o && ad_need A (o : Int) v
def ad_m_hurt (C : ad_C7) (v : Int) : Int × ad_C7 :=
  if ¬ (0 ≤ v ∧ ad_aH (ad_cA C) v.toNat = true) then ad_no C 1 else ((ad_bits (ad_hu (ad_cA C) v.toNat) : Nat), C)
def ad_nol (C : ad_C7) (n : Nat) : Int × ad_C7 := (4000000000000000000 + (n : Int), ad_rfz C n)
def ad_m_mean (C : ad_C7) (p : Int) : Int × ad_C7 :=
  if p < 0 ∨ 1 < p then ad_nol C 2
  else if Nat.gcd (ad_all (ad_cA C)).toNat (ad_pp (ad_aH (ad_cA C)) 10) = 0 then (p, C)
  else if p = 0 then (ad_all (ad_cA C) / (Nat.gcd (ad_all (ad_cA C)).toNat (ad_pp (ad_aH (ad_cA C)) 10) : Nat), C)
  else ((ad_pp (ad_aH (ad_cA C)) 10 : Int) / (Nat.gcd (ad_all (ad_cA C)).toNat (ad_pp (ad_aH (ad_cA C)) 10) : Nat), C)
def ad_m_lost (C : ad_C7) (h t p : Int) : Int × ad_C7 :=
  if ¬ (0 ≤ h ∧ h < 4) then ad_nol C 1
  else if ad_aE (ad_cA C) h.toNat = -1 then ad_nol C 3
  else if t < 2 then ad_nol C 4
  else if 20 < t then ad_nol C 6
  else if p < 0 ∨ 1 < p then ad_nol C 2
  else ((if p = 0 then t - 1 else t) ^ (ad_pp (fun w => ad_need (ad_cA C) (ad_aE (ad_cA C) h.toNat) w && decide (w < 6)) 10), C)
theorem ad_all_rng {σ : ad_Mem} {s : Nat} {A : ad_Ar} (hr : ad_rC σ s A) (hw : ad_wA A) : 0 ≤ ad_all A ∧ ad_all A ≤ 250 := by
  have h1 : ∀ v, 0 ≤ ad_cstH A v ∧ ad_cstH A v ≤ 25 := fun v => by
    unfold ad_cstH
    by_cases h : ad_aH A v = true
    · rw [if_pos h, ← (ad_cst_mem hr hw h).1]
      have hv := ad_rC_rng hr hw h
      have hd := (hr.2.2.2.2.1 v hv.1).2
      have hn := ad_nc_le (ad_ds σ (10 * s + v))
      rw [ad_ds_len, ← hd.2.2.1] at hn
      have := hd.1
      have := hd.2.1
      split <;> omega
    · rw [if_neg h]; omega
  have h2 : ∀ n : Nat, 0 ≤ ad_sm (ad_cstH A) n ∧ ad_sm (ad_cstH A) n ≤ 25 * n := by
    intro n
    induction n with
    | zero => exact ⟨Int.le_refl 0, Int.le_refl 0⟩
    | succ n ih =>
      have := h1 n
      rw [ad_sm]
      omega
  have := h2 10
  unfold ad_all
  omega
theorem c_X7_greatestDivisor {g : ad_G} {d : Nat} {σ : ad_Mem} {a b : Int} (ha : 0 ≤ a ∧ a ≤ 2147483647) (hb : 0 ≤ b ∧ b ≤ 10) : ad_Q g mX7_greatestDivisor d [ad_iv a, ad_iv b] σ (fun x m => x = ad_iv (Nat.gcd a.toNat b.toNat : Nat) ∧ m = σ) := by
  refine ad_M1 (k := 4) rfl (by simp [Value.category]) rfl (Nat.le_of_ble_eq_true rfl) ?_
  simp only [List.map_cons, List.map_nil, List.replicate, List.cons_append, List.nil_append]
  have lp : ∀ (n : Nat) (i : Int) (x : Int) (y : Int) (z : Option Value), (0 ≤ i) → (i + y ≤ b) → (0 ≤ x ∧ x ≤ 2147483647) → (0 ≤ y) → (Nat.gcd x.toNat y.toNat = Nat.gcd a.toNat b.toNat) → (y).toNat ≤ n → ad_R g mX7_greatestDivisor d (ad_ZQ mX7_greatestDivisor (fun x m => x = ad_iv (Nat.gcd a.toNat b.toNat : Nat) ∧ m = σ)) 7 [some (ad_iv a), some (ad_iv b), some (ad_iv x), some (ad_iv y), some (ad_iv i), z] [] σ := by
    intro n
    induction n with
    | zero =>
      intro i x y z i0 i1 x0 y0 e hn
      refine ad_iload dX7_greatestDivisor_7 rfl ?_
      refine ad_bipush dX7_greatestDivisor_9 rfl ?_
      refine ad_icmp_ge 34 dX7_greatestDivisor_11 (by decide) (by omega) (by omega) (fun h11 => ?_) (fun h11 => ?_)
      · skip
        refine ad_iload_n dX7_greatestDivisor_34 rfl ?_
        exact ad_reti dX7_greatestDivisor_35 rfl (by exfalso; omega)
      · show ad_R _ _ _ _ 14 _ _ _
        refine ad_iload_n dX7_greatestDivisor_14 rfl ?_
        refine ad_if_eq 34 dX7_greatestDivisor_15 (by decide) (by omega) (fun h15 => ?_) (fun h15 => ?_)
        · skip
          refine ad_iload_n dX7_greatestDivisor_34 rfl ?_
          exact ad_reti dX7_greatestDivisor_35 rfl (by
            rw [show y = 0 by omega] at e
            rw [← e, show (0 : Int).toNat = 0 from rfl, Nat.gcd_zero_right]
            exact ⟨by rw [Int.toNat_of_nonneg x0.1], rfl⟩)
        · show ad_R _ _ _ _ 18 _ _ _
          exfalso; omega
    | succ n ih =>
      intro i x y z i0 i1 x0 y0 e hn
      refine ad_iload dX7_greatestDivisor_7 rfl ?_
      refine ad_bipush dX7_greatestDivisor_9 rfl ?_
      refine ad_icmp_ge 34 dX7_greatestDivisor_11 (by decide) (by omega) (by omega) (fun h11 => ?_) (fun h11 => ?_)
      · skip
        refine ad_iload_n dX7_greatestDivisor_34 rfl ?_
        exact ad_reti dX7_greatestDivisor_35 rfl (by exfalso; omega)
      · show ad_R _ _ _ _ 14 _ _ _
        refine ad_iload_n dX7_greatestDivisor_14 rfl ?_
        refine ad_if_eq 34 dX7_greatestDivisor_15 (by decide) (by omega) (fun h15 => ?_) (fun h15 => ?_)
        · skip
          refine ad_iload_n dX7_greatestDivisor_34 rfl ?_
          exact ad_reti dX7_greatestDivisor_35 rfl (by
            rw [show y = 0 by omega] at e
            rw [← e, show (0 : Int).toNat = 0 from rfl, Nat.gcd_zero_right]
            exact ⟨by rw [Int.toNat_of_nonneg x0.1], rfl⟩)
        · show ad_R _ _ _ _ 18 _ _ _
          refine ad_iload_n dX7_greatestDivisor_18 rfl ?_
          refine ad_iload_n dX7_greatestDivisor_19 rfl ?_
          refine ad_irem dX7_greatestDivisor_20 (by omega) (by omega) ?_
          rw [ad_rem_h x0.1 x0.2 (by omega) (by omega)]
          refine ad_istore dX7_greatestDivisor_21 (by decide) rfl (by dsimp only [ad_set]) ?_
          refine ad_iload_n dX7_greatestDivisor_23 rfl ?_
          refine ad_istore_n dX7_greatestDivisor_24 (by decide) rfl (by dsimp only [ad_set]) ?_
          refine ad_iload dX7_greatestDivisor_25 rfl ?_
          refine ad_istore_n dX7_greatestDivisor_27 (by decide) rfl (by dsimp only [ad_set]) ?_
          refine ad_iinc dX7_greatestDivisor_28 rfl (by decide) rfl (by dsimp only [ad_set]) ?_
          refine ad_goto 7 dX7_greatestDivisor_31 (by decide) ?_
          have hm1 := Int.emod_nonneg x (show y ≠ 0 by omega)
          have hm2 := Int.emod_lt_of_pos x (show 0 < y by omega)
          refine ih (i + 1) _ _ _ (by omega) (by omega) ⟨by omega, by omega⟩ (by omega) ?_ (by omega)
          rw [← e]
          obtain ⟨u, rfl⟩ := Int.eq_ofNat_of_zero_le x0.1
          obtain ⟨w, rfl⟩ := Int.eq_ofNat_of_zero_le y0
          rw [show ((u : Int) % (w : Int)).toNat = u % w from by rw [← Int.natCast_emod, Int.toNat_natCast], Int.toNat_natCast, Int.toNat_natCast, Nat.gcd_comm, ← Nat.gcd_rec, Nat.gcd_comm]
  refine ad_iload_n dX7_greatestDivisor_0 rfl ?_
  refine ad_istore_n dX7_greatestDivisor_1 (by decide) rfl (by dsimp only [ad_set]) ?_
  refine ad_iload_n dX7_greatestDivisor_2 rfl ?_
  refine ad_istore_n dX7_greatestDivisor_3 (by decide) rfl (by dsimp only [ad_set]) ?_
  refine ad_iconst dX7_greatestDivisor_4 ?_
  refine ad_istore dX7_greatestDivisor_5 (by decide) rfl (by dsimp only [ad_set]) ?_
  exact lp b.toNat 0 _ _ _ (by omega) (by omega) ha hb.1 rfl (by omega)
theorem c_X7_common {g : ad_G} {d : Nat} {σ : ad_Mem} {C : ad_C7} {a b : Int} (hC : ad_c7 σ C) (ha : ad_rng a) (hb : ad_rng b) (h6d : 6 ≤ d) : ad_Q g mX7_common d [ad_rf g 7 0, ad_iv a, ad_iv b] σ (fun x m => ad_an7 σ x m (ad_m_common C a b)) := by
  have hC0 := hC
  obtain ⟨a1, a2, a3, a4, a5, a6, a7, a8, a9⟩ := hC0
  obtain ⟨z1, z2, z3, z4⟩ := ad_c7_sz hC
  obtain ⟨r1, r2, r3, r4, r5, r6, r7, r8⟩ := a1.1
  obtain ⟨w1, w2, w3, w4, w5, w6, w7, w8, w9⟩ := a1.2
  refine ad_M1 (k := 2) rfl (by simp [Value.category]) rfl (Nat.le_of_ble_eq_true rfl) ?_
  simp only [List.map_cons, List.map_nil, List.replicate, List.cons_append, List.nil_append]
  have lp : ∀ (n : Nat) (i : Int), (-1 ≤ i) → (i ≤ 9) → (ad_top (ad_bth (ad_cA C) a.toNat b.toNat) 10 = ad_top (ad_bth (ad_cA C) a.toNat b.toNat) (i + 1).toNat) → (0 ≤ a ∧ ad_aH (ad_cA C) a.toNat = true) → (0 ≤ b ∧ ad_aH (ad_cA C) b.toNat = true) → (i + 1).toNat ≤ n → ad_R g mX7_common d (ad_ZQ mX7_common (fun x m => ad_an7 σ x m (ad_m_common C a b))) 58 [some (ad_rf g 7 0), some (ad_iv a), some (ad_iv b), some (ad_iv ((ad_bits (ad_bth (ad_cA C) a.toNat b.toNat) : Nat) : Int)), some (ad_iv i)] [] σ := by
    intro n
    induction n with
    | zero =>
      intro i i0 i1 e k8 k19 hn
      have hblt := ad_bits_lt (ad_bth (ad_cA C) a.toNat b.toNat)
      refine ad_iload dX7_common_58 rfl ?_
      refine ad_if_lt 82 dX7_common_60 (by decide) (by omega) (fun h60 => ?_) (fun h60 => ?_)
      · skip
        refine ad_bipush dX7_common_82 rfl ?_
        exact ad_reti dX7_common_84 rfl (by
          rw [show (i + 1).toNat = 0 by omega, ad_top] at e
          have e2 : ad_m_common C a b = (ad_top (ad_bth (ad_cA C) a.toNat b.toNat) 10, C) := by
            unfold ad_m_common
            rw [if_neg (fun q => q.elim (fun z => z k8) (fun z => z k19))]
          rw [e2]
          exact ⟨by rw [e], hC, ad_fr.refl⟩)
      · show ad_R _ _ _ _ 63 _ _ _
        exfalso; omega
    | succ n ih =>
      intro i i0 i1 e k8 k19 hn
      have hblt := ad_bits_lt (ad_bth (ad_cA C) a.toNat b.toNat)
      refine ad_iload dX7_common_58 rfl ?_
      refine ad_if_lt 82 dX7_common_60 (by decide) (by omega) (fun h60 => ?_) (fun h60 => ?_)
      · skip
        refine ad_bipush dX7_common_82 rfl ?_
        exact ad_reti dX7_common_84 rfl (by
          rw [show (i + 1).toNat = 0 by omega, ad_top] at e
          have e2 : ad_m_common C a b = (ad_top (ad_bth (ad_cA C) a.toNat b.toNat) 10, C) := by
            unfold ad_m_common
            rw [if_neg (fun q => q.elim (fun z => z k8) (fun z => z k19))]
          rw [e2]
          exact ⟨by rw [e], hC, ad_fr.refl⟩)
      · show ad_R _ _ _ _ 63 _ _ _
        refine ad_iload_n dX7_common_63 rfl ?_
        refine ad_iload dX7_common_64 rfl ?_
        refine ad_ishr dX7_common_66 ?_
        refine ad_iconst dX7_common_67 ?_
        refine ad_iand dX7_common_68 ?_
        rw [ad_bitI ⟨by omega, by omega⟩ ⟨by omega, by omega⟩]
        refine ad_iconst dX7_common_69 ?_
        refine ad_icmp_ne_p1 76 dX7_common_70 (by decide) (fun h70 => ?_) (fun h70 => ?_)
        · skip
          refine ad_iinc dX7_common_76 rfl (by decide) rfl (by dsimp only [ad_set]) ?_
          refine ad_goto 58 dX7_common_79 (by decide) ?_
          refine ih (i - 1) (by omega) (by omega) ?_ k8 k19 (by omega)
          rw [e, show (i + 1).toNat = i.toNat + 1 by omega, show (i - 1 + 1).toNat = i.toNat by omega, ad_top, if_neg (fun q => h70 ((ad_bits_tbI _ (by omega)).mpr ⟨by omega, q⟩))]
        · show ad_R _ _ _ _ 73 _ _ _
          refine ad_iload dX7_common_73 rfl ?_
          exact ad_reti dX7_common_75 rfl (by
            have hbb := (ad_bits_tbI _ (by omega)).mp h70
            have e3 : ad_top (ad_bth (ad_cA C) a.toNat b.toNat) (i.toNat + 1) = ((i.toNat : Nat) : Int) := if_pos hbb.2
            rw [show (i + 1).toNat = i.toNat + 1 by omega, e3] at e
            have e2 : ad_m_common C a b = (ad_top (ad_bth (ad_cA C) a.toNat b.toNat) 10, C) := by
              unfold ad_m_common
              rw [if_neg (fun q => q.elim (fun z => z k8) (fun z => z k19))]
            rw [e2]
            exact ⟨by rw [e]; congr 1; dsimp only; omega, hC, ad_fr.refl⟩)
  refine ad_aload_n dX7_common_0 rfl ?_
  refine gf_X7_10 rfl dX7_common_1 ?_
  refine ad_iload_n dX7_common_4 rfl ?_
  refine ad_cv1f rfl cl_X7_109 dX7_common_5 (c_X4_holds (by decide) a1.1 a1.2 ha) (by omega) (by show _ < 3; omega) (Nat.le_of_ble_eq_true rfl) ?_
  refine ad_ifp_eq 22 dX7_common_8 (by decide) (fun h8 => ?_) (fun h8 => ?_)
  · skip
    refine ad_aload_n dX7_common_22 rfl ?_
    refine ad_iconst dX7_common_23 ?_
    refine ad_cv1q rfl cl_X7_67 dX7_common_24 (c_X7_refuse hC (by decide)) (by omega) (by show _ < 1; omega) (Nat.le_of_ble_eq_true rfl) (fun x24 s24 q24 => ?_)
    obtain ⟨rfl, c24, f24⟩ := q24
    exact ad_reti dX7_common_27 rfl (by
      have e : ad_m_common C a b = ad_no C 1 := by
        unfold ad_m_common
        (repeat' split) <;> first | with_reducible rfl | contradiction | (exfalso; omega) | rfl | (exfalso; simp_all; omega) | (simp_all; done)
      rw [e]
      exact ⟨rfl, c24, f24⟩)
  · show ad_R _ _ _ _ 11 _ _ _
    refine ad_aload_n dX7_common_11 rfl ?_
    refine gf_X7_10 rfl dX7_common_12 ?_
    refine ad_iload_n dX7_common_15 rfl ?_
    refine ad_cv1f rfl cl_X7_109 dX7_common_16 (c_X4_holds (by decide) a1.1 a1.2 hb) (by omega) (by show _ < 3; omega) (Nat.le_of_ble_eq_true rfl) ?_
    refine ad_ifp_ne 28 dX7_common_19 (by decide) (fun h19 => ?_) (fun h19 => ?_)
    · skip
      have ha10 := w2 _ h8.2
      have hb10 := w2 _ h19.2
      refine ad_aload_n dX7_common_28 rfl ?_
      refine gf_X7_10 rfl dX7_common_29 ?_
      refine gf_X7_113 rfl (by omega) dX7_common_32 ?_
      refine ad_iload_n dX7_common_35 rfl ?_
      refine ad_aald dX7_common_36 (by omega) (by omega) (by omega) ?_
      refine gf_X7_236 rfl (by omega) dX7_common_37 ?_
      refine ad_aload_n dX7_common_40 rfl ?_
      refine gf_X7_10 rfl dX7_common_41 ?_
      refine gf_X7_113 rfl (by omega) dX7_common_44 ?_
      refine ad_iload_n dX7_common_47 rfl ?_
      refine ad_aald dX7_common_48 (by omega) (by omega) (by omega) ?_
      refine gf_X7_236 rfl (by omega) dX7_common_49 ?_
      refine ad_iand dX7_common_52 ?_
      rw [(r7 a.toNat (w2 _ h8.2)).2.2, (r7 b.toNat (w2 _ h19.2)).2.2, ad_and_bits]
      change ad_R _ _ _ _ _ _ [ad_iv ((ad_bits (ad_bth (ad_cA C) a.toNat b.toNat) : Nat) : Int)] _
      refine ad_istore_n dX7_common_53 (by decide) rfl (by dsimp only [ad_set]) ?_
      refine ad_bipush dX7_common_54 rfl ?_
      refine ad_istore dX7_common_56 (by decide) rfl (by dsimp only [ad_set]) ?_
      exact lp 10 9 (by omega) (by omega) rfl h8 h19 (by omega)
    · show ad_R _ _ _ _ 22 _ _ _
      refine ad_aload_n dX7_common_22 rfl ?_
      refine ad_iconst dX7_common_23 ?_
      refine ad_cv1q rfl cl_X7_67 dX7_common_24 (c_X7_refuse hC (by decide)) (by omega) (by show _ < 1; omega) (Nat.le_of_ble_eq_true rfl) (fun x24 s24 q24 => ?_)
      obtain ⟨rfl, c24, f24⟩ := q24
      exact ad_reti dX7_common_27 rfl (by
        have e : ad_m_common C a b = ad_no C 1 := by
          unfold ad_m_common
          (repeat' split) <;> first | with_reducible rfl | contradiction | (exfalso; omega) | rfl | (exfalso; simp_all; omega) | (simp_all; done)
        rw [e]
        exact ⟨rfl, c24, f24⟩)
theorem c_X7_wrong {g : ad_G} {d : Nat} {σ : ad_Mem} {C : ad_C7} (hC : ad_c7 σ C) (h6d : 6 ≤ d) : ad_Q g mX7_wrong d [ad_rf g 7 0] σ (fun x m => ad_an7 σ x m (ad_m_wrong C)) := by
  have hC0 := hC
  obtain ⟨a1, a2, a3, a4, a5, a6, a7, a8, a9⟩ := hC0
  obtain ⟨z1, z2, z3, z4⟩ := ad_c7_sz hC
  obtain ⟨r1, r2, r3, r4, r5, r6, r7, r8⟩ := a1.1
  obtain ⟨w1, w2, w3, w4, w5, w6, w7, w8, w9⟩ := a1.2
  refine ad_M1 (k := 2) rfl (by simp [Value.category]) rfl (Nat.le_of_ble_eq_true rfl) ?_
  simp only [List.map_cons, List.map_nil, List.replicate, List.cons_append, List.nil_append]
  have lp : ∀ (n : Nat) (v : Int) (a : Int), (0 ≤ v) → (v ≤ ad_aC (ad_cA C)) → (a = (ad_bN (ad_wr (ad_cA C)) v.toNat : Nat)) → (ad_aC (ad_cA C) - v).toNat ≤ n → ad_R g mX7_wrong d (ad_ZQ mX7_wrong (fun x m => ad_an7 σ x m (ad_m_wrong C))) 4 [some (ad_rf g 7 0), some (ad_iv a), some (ad_iv v)] [] σ := by
    intro n
    induction n with
    | zero =>
      intro v a hv0 hv1 hI hn
      refine ad_iload_n dX7_wrong_4 rfl ?_
      refine ad_aload_n dX7_wrong_5 rfl ?_
      refine gf_X7_10 rfl dX7_wrong_6 ?_
      refine gf_X7_224 rfl (by omega) dX7_wrong_9 ?_
      refine ad_icmp_ge 53 dX7_wrong_12 (by decide) (by omega) (by omega) (fun h12 => ?_) (fun h12 => ?_)
      · skip
        refine ad_iload_n dX7_wrong_53 rfl ?_
        exact ad_reti dX7_wrong_54 rfl (by
          have hz := ad_bN_end (p := ad_wr (ad_cA C)) (c := ad_aC (ad_cA C)) (fun i hi => by
            cases hq : ad_aH (ad_cA C) i with
            | false => simp [ad_wr, hq]
            | true => have := w2 i hq; omega) (10 - ad_aC (ad_cA C))
          rw [show ad_aC (ad_cA C) + (10 - ad_aC (ad_cA C)) = 10 by omega] at hz
          have hz2 : a = ((ad_bits (ad_wr (ad_cA C)) : Nat) : Int) := by rw [hI, show v.toNat = ad_aC (ad_cA C) by omega, ← hz]; rfl
          exact ⟨by rw [hz2]; rfl, hC, ad_fr.refl⟩)
      · show ad_R _ _ _ _ 15 _ _ _
        exfalso; omega
    | succ n ih =>
      intro v a hv0 hv1 hI hn
      refine ad_iload_n dX7_wrong_4 rfl ?_
      refine ad_aload_n dX7_wrong_5 rfl ?_
      refine gf_X7_10 rfl dX7_wrong_6 ?_
      refine gf_X7_224 rfl (by omega) dX7_wrong_9 ?_
      refine ad_icmp_ge 53 dX7_wrong_12 (by decide) (by omega) (by omega) (fun h12 => ?_) (fun h12 => ?_)
      · skip
        refine ad_iload_n dX7_wrong_53 rfl ?_
        exact ad_reti dX7_wrong_54 rfl (by
          have hz := ad_bN_end (p := ad_wr (ad_cA C)) (c := ad_aC (ad_cA C)) (fun i hi => by
            cases hq : ad_aH (ad_cA C) i with
            | false => simp [ad_wr, hq]
            | true => have := w2 i hq; omega) (10 - ad_aC (ad_cA C))
          rw [show ad_aC (ad_cA C) + (10 - ad_aC (ad_cA C)) = 10 by omega] at hz
          have hz2 : a = ((ad_bits (ad_wr (ad_cA C)) : Nat) : Int) := by rw [hI, show v.toNat = ad_aC (ad_cA C) by omega, ← hz]; rfl
          exact ⟨by rw [hz2]; rfl, hC, ad_fr.refl⟩)
      · show ad_R _ _ _ _ 15 _ _ _
        refine ad_aload_n dX7_wrong_15 rfl ?_
        refine gf_X7_10 rfl dX7_wrong_16 ?_
        refine ad_iload_n dX7_wrong_19 rfl ?_
        refine ad_cv1f rfl cl_X7_109 dX7_wrong_20 (c_X4_holds (by decide) a1.1 a1.2 (by omega)) (by omega) (by show _ < 3; omega) (Nat.le_of_ble_eq_true rfl) ?_
        refine ad_ifp_eq 47 dX7_wrong_23 (by decide) (fun h23 => ?_) (fun h23 => ?_)
        · skip
          refine ad_iinc dX7_wrong_47 rfl (by decide) rfl (by dsimp only [ad_set]) ?_
          refine ad_goto 4 dX7_wrong_50 (by decide) ?_
          refine ih (v + 1) _ (by omega) (by omega) ?_ (by omega)
          rw [hI, show (v + 1).toNat = v.toNat + 1 by omega]
          rw [ad_bN_n (by simp [ad_wr]; intro q; exact absurd ⟨hv0, q⟩ h23)]
        · show ad_R _ _ _ _ 26 _ _ _
          refine ad_aload_n dX7_wrong_26 rfl ?_
          refine gf_X7_10 rfl dX7_wrong_27 ?_
          refine gf_X7_113 rfl (by omega) dX7_wrong_30 ?_
          refine ad_iload_n dX7_wrong_33 rfl ?_
          refine ad_aald dX7_wrong_34 (by omega) (by omega) (by omega) ?_
          refine ad_cv0f rfl cl_X7_195 dX7_wrong_35 (c_X6_isSound (by omega) (by omega) (r5 _ (by omega)).1 (by rw [(r6 _ h23.2).2.1]; have := (w3 _ h23.2).2; omega)) (by omega) (by show _ < 30; omega) (Nat.le_of_ble_eq_true rfl) ?_
          rw [(r6 _ h23.2).2.1, (r6 _ h23.2).1]
          refine ad_ifp_ne 47 dX7_wrong_38 (by decide) (fun h38 => ?_) (fun h38 => ?_)
          · skip
            refine ad_iinc dX7_wrong_47 rfl (by decide) rfl (by dsimp only [ad_set]) ?_
            refine ad_goto 4 dX7_wrong_50 (by decide) ?_
            refine ih (v + 1) _ (by omega) (by omega) ?_ (by omega)
            rw [hI, show (v + 1).toNat = v.toNat + 1 by omega]
            rw [ad_bN_n (by simp [ad_wr, h38])]
          · show ad_R _ _ _ _ 41 _ _ _
            refine ad_iload_n dX7_wrong_41 rfl ?_
            refine ad_iconst dX7_wrong_42 ?_
            refine ad_iload_n dX7_wrong_43 rfl ?_
            refine ad_ishl dX7_wrong_44 ?_
            refine ad_ior dX7_wrong_45 ?_
            refine ad_istore_n dX7_wrong_46 (by decide) rfl (by dsimp only [ad_set]) ?_
            refine ad_iinc dX7_wrong_47 rfl (by decide) rfl (by dsimp only [ad_set]) ?_
            refine ad_goto 4 dX7_wrong_50 (by decide) ?_
            refine ih (v + 1) _ (by omega) (by omega) ?_ (by omega)
            rw [hI, show (v + 1).toNat = v.toNat + 1 by omega]
            rw [← ad_or_bN (by omega) (by simp [ad_wr, h23.2, h38]), show ((v.toNat : Nat) : Int) = v by omega]
  refine ad_iconst dX7_wrong_0 ?_
  refine ad_istore_n dX7_wrong_1 (by decide) rfl (by dsimp only [ad_set]) ?_
  refine ad_iconst dX7_wrong_2 ?_
  refine ad_istore_n dX7_wrong_3 (by decide) rfl (by dsimp only [ad_set]) ?_
  exact lp (ad_aC (ad_cA C)) 0 0 (by omega) (by omega) rfl (by omega)
theorem c_X7_hurt {g : ad_G} {d : Nat} {σ : ad_Mem} {C : ad_C7} {u : Int} (hC : ad_c7 σ C) (hv : ad_rng u) (h6d : 6 ≤ d) : ad_Q g mX7_hurt d [ad_rf g 7 0, ad_iv u] σ (fun x m => ad_an7 σ x m (ad_m_hurt C u)) := by
  have hC0 := hC
  obtain ⟨a1, a2, a3, a4, a5, a6, a7, a8, a9⟩ := hC0
  obtain ⟨z1, z2, z3, z4⟩ := ad_c7_sz hC
  obtain ⟨r1, r2, r3, r4, r5, r6, r7, r8⟩ := a1.1
  obtain ⟨w1, w2, w3, w4, w5, w6, w7, w8, w9⟩ := a1.2
  refine ad_M1 (k := 2) rfl (by simp [Value.category]) rfl (Nat.le_of_ble_eq_true rfl) ?_
  simp only [List.map_cons, List.map_nil, List.replicate, List.cons_append, List.nil_append]
  have lp : ∀ (n : Nat) (v : Int) (a : Int), (0 ≤ v) → (v ≤ ad_aC (ad_cA C)) → (a = (ad_bN (ad_hu (ad_cA C) u.toNat) v.toNat : Nat)) → (0 ≤ u ∧ ad_aH (ad_cA C) u.toNat = true) → (ad_aC (ad_cA C) - v).toNat ≤ n → ad_R g mX7_hurt d (ad_ZQ mX7_hurt (fun x m => ad_an7 σ x m (ad_m_hurt C u))) 21 [some (ad_rf g 7 0), some (ad_iv u), some (ad_iv a), some (ad_iv v)] [] σ := by
    intro n
    induction n with
    | zero =>
      intro v a hv0 hv1 hI k8 hn
      refine ad_iload_n dX7_hurt_21 rfl ?_
      refine ad_aload_n dX7_hurt_22 rfl ?_
      refine gf_X7_10 rfl dX7_hurt_23 ?_
      refine gf_X7_224 rfl (by omega) dX7_hurt_26 ?_
      refine ad_icmp_ge 71 dX7_hurt_29 (by decide) (by omega) (by omega) (fun h29 => ?_) (fun h29 => ?_)
      · skip
        refine ad_iload_n dX7_hurt_71 rfl ?_
        exact ad_reti dX7_hurt_72 rfl (by
          have hz := ad_bN_end (p := ad_hu (ad_cA C) u.toNat) (c := ad_aC (ad_cA C)) (fun i hi => by
            cases hq : ad_aH (ad_cA C) i with
            | false => simp [ad_hu, hq]
            | true => have := w2 i hq; omega) (10 - ad_aC (ad_cA C))
          rw [show ad_aC (ad_cA C) + (10 - ad_aC (ad_cA C)) = 10 by omega] at hz
          have hz2 : a = ((ad_bits (ad_hu (ad_cA C) u.toNat) : Nat) : Int) := by rw [hI, show v.toNat = ad_aC (ad_cA C) by omega, ← hz]; rfl
          have e : ad_m_hurt C u = (((ad_bits (ad_hu (ad_cA C) u.toNat) : Nat) : Int), C) := by
            unfold ad_m_hurt
            rw [if_neg (fun q => q k8)]
          rw [e]
          exact ⟨by rw [hz2], hC, ad_fr.refl⟩)
      · show ad_R _ _ _ _ 32 _ _ _
        exfalso; omega
    | succ n ih =>
      intro v a hv0 hv1 hI k8 hn
      refine ad_iload_n dX7_hurt_21 rfl ?_
      refine ad_aload_n dX7_hurt_22 rfl ?_
      refine gf_X7_10 rfl dX7_hurt_23 ?_
      refine gf_X7_224 rfl (by omega) dX7_hurt_26 ?_
      refine ad_icmp_ge 71 dX7_hurt_29 (by decide) (by omega) (by omega) (fun h29 => ?_) (fun h29 => ?_)
      · skip
        refine ad_iload_n dX7_hurt_71 rfl ?_
        exact ad_reti dX7_hurt_72 rfl (by
          have hz := ad_bN_end (p := ad_hu (ad_cA C) u.toNat) (c := ad_aC (ad_cA C)) (fun i hi => by
            cases hq : ad_aH (ad_cA C) i with
            | false => simp [ad_hu, hq]
            | true => have := w2 i hq; omega) (10 - ad_aC (ad_cA C))
          rw [show ad_aC (ad_cA C) + (10 - ad_aC (ad_cA C)) = 10 by omega] at hz
          have hz2 : a = ((ad_bits (ad_hu (ad_cA C) u.toNat) : Nat) : Int) := by rw [hI, show v.toNat = ad_aC (ad_cA C) by omega, ← hz]; rfl
          have e : ad_m_hurt C u = (((ad_bits (ad_hu (ad_cA C) u.toNat) : Nat) : Int), C) := by
            unfold ad_m_hurt
            rw [if_neg (fun q => q k8)]
          rw [e]
          exact ⟨by rw [hz2], hC, ad_fr.refl⟩)
      · show ad_R _ _ _ _ 32 _ _ _
        refine ad_aload_n dX7_hurt_32 rfl ?_
        refine gf_X7_10 rfl dX7_hurt_33 ?_
        refine ad_iload_n dX7_hurt_36 rfl ?_
        refine ad_cv1f rfl cl_X7_109 dX7_hurt_37 (c_X4_holds (by decide) a1.1 a1.2 (by omega)) (by omega) (by show _ < 3; omega) (Nat.le_of_ble_eq_true rfl) ?_
        refine ad_ifp_eq 65 dX7_hurt_40 (by decide) (fun h40 => ?_) (fun h40 => ?_)
        · skip
          refine ad_iinc dX7_hurt_65 rfl (by decide) rfl (by dsimp only [ad_set]) ?_
          refine ad_goto 21 dX7_hurt_68 (by decide) ?_
          refine ih (v + 1) _ (by omega) (by omega) ?_ k8 (by omega)
          rw [hI, show (v + 1).toNat = v.toNat + 1 by omega]
          rw [ad_bN_n (by simp [ad_hu]; intro q; exact absurd ⟨hv0, q⟩ h40)]
        · show ad_R _ _ _ _ 43 _ _ _
          refine ad_aload_n dX7_hurt_43 rfl ?_
          refine gf_X7_10 rfl dX7_hurt_44 ?_
          refine ad_iload_n dX7_hurt_47 rfl ?_
          refine ad_cv1f rfl cl_X7_259 dX7_hurt_48 (c_X4_neededBy (by decide) a1.1 a1.2 (by omega) (by omega)) (by omega) (by show _ < 3; omega) (Nat.le_of_ble_eq_true rfl) ?_
          have hnl := ad_bits_lt (ad_need (ad_cA C) v)
          have hu10 := w2 _ k8.2
          refine ad_iload_n dX7_hurt_51 rfl ?_
          refine ad_ishr dX7_hurt_52 ?_
          refine ad_iconst dX7_hurt_53 ?_
          refine ad_iand dX7_hurt_54 ?_
          rw [ad_bitI ⟨by omega, by omega⟩ ⟨by omega, by omega⟩]
          refine ad_iconst dX7_hurt_55 ?_
          refine ad_icmp_ne_p1 65 dX7_hurt_56 (by decide) (fun h56 => ?_) (fun h56 => ?_)
          · skip
            refine ad_iinc dX7_hurt_65 rfl (by decide) rfl (by dsimp only [ad_set]) ?_
            refine ad_goto 21 dX7_hurt_68 (by decide) ?_
            refine ih (v + 1) _ (by omega) (by omega) ?_ k8 (by omega)
            rw [hI, show (v + 1).toNat = v.toNat + 1 by omega]
            rw [ad_bN_n (fun q => h56 ((ad_bits_tbI _ k8.1).mpr ⟨by omega, by have := (Bool.and_eq_true_iff.mp q).2; rwa [show ((v.toNat : Nat) : Int) = v by omega] at this⟩))]
          · show ad_R _ _ _ _ 59 _ _ _
            refine ad_iload_n dX7_hurt_59 rfl ?_
            refine ad_iconst dX7_hurt_60 ?_
            refine ad_iload_n dX7_hurt_61 rfl ?_
            refine ad_ishl dX7_hurt_62 ?_
            refine ad_ior dX7_hurt_63 ?_
            refine ad_istore_n dX7_hurt_64 (by decide) rfl (by dsimp only [ad_set]) ?_
            refine ad_iinc dX7_hurt_65 rfl (by decide) rfl (by dsimp only [ad_set]) ?_
            refine ad_goto 21 dX7_hurt_68 (by decide) ?_
            refine ih (v + 1) _ (by omega) (by omega) ?_ k8 (by omega)
            rw [hI, show (v + 1).toNat = v.toNat + 1 by omega]
            rw [← ad_or_bN (by omega) (by have := ((ad_bits_tbI _ k8.1).mp h56).2; exact Bool.and_eq_true_iff.mpr ⟨h40.2, by rw [show ((v.toNat : Nat) : Int) = v by omega]; exact this⟩), show ((v.toNat : Nat) : Int) = v by omega]
  refine ad_aload_n dX7_hurt_0 rfl ?_
  refine gf_X7_10 rfl dX7_hurt_1 ?_
  refine ad_iload_n dX7_hurt_4 rfl ?_
  refine ad_cv1f rfl cl_X7_109 dX7_hurt_5 (c_X4_holds (by decide) a1.1 a1.2 hv) (by omega) (by show _ < 3; omega) (Nat.le_of_ble_eq_true rfl) ?_
  refine ad_ifp_ne 17 dX7_hurt_8 (by decide) (fun h8 => ?_) (fun h8 => ?_)
  · skip
    refine ad_iconst dX7_hurt_17 ?_
    refine ad_istore_n dX7_hurt_18 (by decide) rfl (by dsimp only [ad_set]) ?_
    refine ad_iconst dX7_hurt_19 ?_
    refine ad_istore_n dX7_hurt_20 (by decide) rfl (by dsimp only [ad_set]) ?_
    exact lp (ad_aC (ad_cA C)) 0 0 (by omega) (by omega) rfl h8 (by omega)
  · show ad_R _ _ _ _ 11 _ _ _
    refine ad_aload_n dX7_hurt_11 rfl ?_
    refine ad_iconst dX7_hurt_12 ?_
    refine ad_cv1q rfl cl_X7_67 dX7_hurt_13 (c_X7_refuse hC (by decide)) (by omega) (by show _ < 1; omega) (Nat.le_of_ble_eq_true rfl) (fun x13 s13 q13 => ?_)
    obtain ⟨rfl, c13, f13⟩ := q13
    exact ad_reti dX7_hurt_16 rfl (by
      have e : ad_m_hurt C u = ad_no C 1 := by
        unfold ad_m_hurt
        (repeat' split) <;> first | with_reducible rfl | contradiction | (exfalso; omega) | rfl | (exfalso; simp_all; omega) | (simp_all; done)
      rw [e]
      exact ⟨rfl, c13, f13⟩)
