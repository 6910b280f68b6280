/-! ===== bestBase, best, whatIs ===== -/
def ad_bb (A : ad_Ar) (v : Nat) : Nat → Int × Int
  | 0 => (-9, -9)
  | n + 1 => if n ≠ v ∧ ad_aH A n = true then (if (ad_bb A v n).1 = -9 ∨ ad_c2 A n v < (ad_bb A v n).2 then ((n : Int), ad_c2 A n v) else ad_bb A v n) else ad_bb A v n
theorem ad_bb_end {A : ad_Ar} {v c : Nat} (h : ∀ i, ad_aH A i = true → i < c) : ∀ k, ad_bb A v (c + k) = ad_bb A v c
  | 0 => rfl
  | k + 1 => by
    show ad_bb A v (c + k + 1) = _
    rw [ad_bb, if_neg (fun q => by have := h _ q.2; omega), ad_bb_end h k]
def ad_m_bestBase (C : ad_C7) (v w : Int) : Int × ad_C7 :=
  if ¬ (0 ≤ v ∧ ad_aH (ad_cA C) v.toNat = true) then ad_no C 1
  else if w < 0 ∨ 1 < w then ad_no C 2
  else (if w = 0 then (ad_bb (ad_cA C) v.toNat 10).1 else (ad_bb (ad_cA C) v.toNat 10).2, C)
/-- what the i-th choice costs -/
def ad_bc7 (A : ad_Ar) (w : Int) (i : Int) : Int := if w = 0 then ad_all (ad_rpk A (ad_aK A) (ad_aF A) i) else ad_all (ad_rpk A i (ad_aF A) (ad_aN A))
def ad_b7 (A : ad_Ar) (w : Int) : Nat → Int × Int
  | 0 => (0, 2147483647)
  | n + 1 => if ad_bc7 A w n < (ad_b7 A w n).2 then ((n : Int), ad_bc7 A w n) else ad_b7 A w n
def ad_m_best (C : ad_C7) (w : Int) : Int × ad_C7 := if w < 0 ∨ 1 < w then ad_no C 2 else ((ad_b7 (ad_cA C) w (if w = 0 then 9 else 6)).1, C)
def ad_tld (A : ad_Ar) (R : List Int) (k f b : Int) : Bool := decide (∀ i, i < R.length → R.getD i 0 = if i < 10 then (ad_pln A k f b).1 i else 11)
def ad_wi (A : ad_Ar) (R : List Int) (w : Int) (i : Nat) : Bool := if w = 0 then ad_tld A R i (ad_aF A) (ad_aN A) else ad_tld A R (ad_aK A) i (ad_aN A)
def ad_m_whatIs (C : ad_C7) (w : Int) : Int × ad_C7 := if w < 0 ∨ 1 < w then ad_no C 2 else ((ad_bN (ad_wi (ad_cA C) (ad_cR C) w) (if w = 0 then 6 else 10) : Nat), C)
theorem ad_tld_iff {σ : ad_Mem} {A : ad_Ar} {R : List Int} {k f b : Int} (h : ad_nl σ 35 = R) (hs : σ 2 35 1 = R.length) (hb : ∀ u, u < 10 → σ 14 0 u = (ad_pln A k f b).1 u) : (∀ i : Nat, (i : Int) < σ 2 35 1 → σ 12 35 i = if i < 10 then σ 14 0 i else 11) ↔ ad_tld A R k f b = true := by
  unfold ad_tld
  rw [decide_eq_true_iff]
  have e : ∀ i, i < R.length → R.getD i 0 = σ 12 35 i := fun i hi => by
    rw [List.getD_eq_getElem?_getD, ← h, ad_nl_at σ 35 i (by omega)]; rfl
  constructor
  · intro q i hi
    rw [e i hi, q i (by omega)]
    by_cases h10 : i < 10
    · rw [if_pos h10, if_pos h10, hb i h10]
    · rw [if_neg h10, if_neg h10]
  · intro q i hi
    rw [← e i (by omega), q i (by omega)]
    by_cases h10 : i < 10
    · rw [if_pos h10, if_pos h10, hb i h10]
    · rw [if_neg h10, if_neg h10]
theorem c_X7_bestBase {g : ad_G} {d : Nat} {σ : ad_Mem} {C : ad_C7} {u w : Int} (hC : ad_c7 σ C) (hv : ad_rng u) (hw : ad_rng w) (h6d : 6 ≤ d) : ad_Q g mX7_bestBase d [ad_rf g 7 0, ad_iv u, ad_iv w] σ (fun x m => ad_an7 σ x m (ad_m_bestBase C u w)) := by
  have hC0 := hC
  obtain ⟨a1, a2, a3, a4, a5, a6, a7, a8, a9⟩ := hC0
  obtain ⟨z1, z2, z3, z4⟩ := ad_c7_sz hC
  obtain ⟨r1, r2, r3, r4, r5, r6, r7, r8⟩ := a1.1
  obtain ⟨w1, w2, w3, w4, w5, w6, w7, w8, w9⟩ := a1.2
  refine ad_M1 (k := 3) rfl (by simp [Value.category]) rfl (Nat.le_of_ble_eq_true rfl) ?_
  simp only [List.map_cons, List.map_nil, List.replicate, List.cons_append, List.nil_append]
  have lp : ∀ (n : Nat) (v : Int) (x : Int) (y : Int) (σ1 : ad_Mem), (ad_c7 σ1 C) → (ad_fr ad_f7 σ σ1) → (0 ≤ v) → (v ≤ ad_aC (ad_cA C)) → ((-9 ≤ x ∧ x ≤ 10) ∧ (-9 ≤ y ∧ y ≤ 25)) → (x = (ad_bb (ad_cA C) u.toNat v.toNat).1 ∧ y = (ad_bb (ad_cA C) u.toNat v.toNat).2) → (0 ≤ u ∧ ad_aH (ad_cA C) u.toNat = true) → (0 ≤ w ∧ w ≤ 1) → (ad_aC (ad_cA C) - v).toNat ≤ n → ad_R g mX7_bestBase d (ad_ZQ mX7_bestBase (fun x m => ad_an7 σ x m (ad_m_bestBase C u w))) 43 [some (ad_rf g 7 0), some (ad_iv u), some (ad_iv w), some (ad_iv x), some (ad_iv y), some (ad_iv v)] [] σ1 := by
    intro n
    induction n with
    | zero =>
      intro v x y σ1 c1 f1 hv0 hv1 hr hI k8 kw hn
      have hC0 := c1
      obtain ⟨a1, a2, a3, a4, a5, a6, a7, a8, a9⟩ := hC0
      obtain ⟨z1, z2, z3, z4⟩ := ad_c7_sz c1
      obtain ⟨r1, r2, r3, r4, r5, r6, r7, r8⟩ := a1.1
      obtain ⟨w1, w2, w3, w4, w5, w6, w7, w8, w9⟩ := a1.2
      have hu10 := w2 _ k8.2
      refine ad_iload dX7_bestBase_43 rfl ?_
      refine ad_aload_n dX7_bestBase_45 rfl ?_
      refine gf_X7_10 rfl dX7_bestBase_46 ?_
      refine gf_X7_224 rfl (by omega) dX7_bestBase_49 ?_
      refine ad_icmp_ge 141 dX7_bestBase_52 (by decide) (by omega) (by omega) (fun h52 => ?_) (fun h52 => ?_)
      · skip
        refine ad_iload_n dX7_bestBase_141 rfl ?_
        refine ad_if_ne 149 dX7_bestBase_142 (by decide) (by omega) (fun h142 => ?_) (fun h142 => ?_)
        · skip
          refine ad_iload dX7_bestBase_149 rfl ?_
          exact ad_reti dX7_bestBase_151 rfl (by
            have hz := ad_bb_end (v := u.toNat) w2 (10 - ad_aC (ad_cA C))
            rw [show ad_aC (ad_cA C) + (10 - ad_aC (ad_cA C)) = 10 by omega] at hz
            rw [show v.toNat = ad_aC (ad_cA C) by omega, ← hz] at hI
            have e : ad_m_bestBase C u w = (if w = 0 then (ad_bb (ad_cA C) u.toNat 10).1 else (ad_bb (ad_cA C) u.toNat 10).2, C) := by
              unfold ad_m_bestBase
              rw [if_neg (fun q => q k8), if_neg (by omega)]
            rw [e]
            exact ⟨by rw [if_neg (by omega), ← hI.2], c1, f1⟩)
        · show ad_R _ _ _ _ 145 _ _ _
          refine ad_iload_n dX7_bestBase_145 rfl ?_
          refine ad_goto 151 dX7_bestBase_146 (by decide) ?_
          exact ad_reti dX7_bestBase_151 rfl (by
            have hz := ad_bb_end (v := u.toNat) w2 (10 - ad_aC (ad_cA C))
            rw [show ad_aC (ad_cA C) + (10 - ad_aC (ad_cA C)) = 10 by omega] at hz
            rw [show v.toNat = ad_aC (ad_cA C) by omega, ← hz] at hI
            have e : ad_m_bestBase C u w = (if w = 0 then (ad_bb (ad_cA C) u.toNat 10).1 else (ad_bb (ad_cA C) u.toNat 10).2, C) := by
              unfold ad_m_bestBase
              rw [if_neg (fun q => q k8), if_neg (by omega)]
            rw [e]
            exact ⟨by rw [if_pos (by omega), ← hI.1], c1, f1⟩)
      · show ad_R _ _ _ _ 55 _ _ _
        exfalso; omega
    | succ n ih =>
      intro v x y σ1 c1 f1 hv0 hv1 hr hI k8 kw hn
      have hC0 := c1
      obtain ⟨a1, a2, a3, a4, a5, a6, a7, a8, a9⟩ := hC0
      obtain ⟨z1, z2, z3, z4⟩ := ad_c7_sz c1
      obtain ⟨r1, r2, r3, r4, r5, r6, r7, r8⟩ := a1.1
      obtain ⟨w1, w2, w3, w4, w5, w6, w7, w8, w9⟩ := a1.2
      have hu10 := w2 _ k8.2
      refine ad_iload dX7_bestBase_43 rfl ?_
      refine ad_aload_n dX7_bestBase_45 rfl ?_
      refine gf_X7_10 rfl dX7_bestBase_46 ?_
      refine gf_X7_224 rfl (by omega) dX7_bestBase_49 ?_
      refine ad_icmp_ge 141 dX7_bestBase_52 (by decide) (by omega) (by omega) (fun h52 => ?_) (fun h52 => ?_)
      · skip
        refine ad_iload_n dX7_bestBase_141 rfl ?_
        refine ad_if_ne 149 dX7_bestBase_142 (by decide) (by omega) (fun h142 => ?_) (fun h142 => ?_)
        · skip
          refine ad_iload dX7_bestBase_149 rfl ?_
          exact ad_reti dX7_bestBase_151 rfl (by
            have hz := ad_bb_end (v := u.toNat) w2 (10 - ad_aC (ad_cA C))
            rw [show ad_aC (ad_cA C) + (10 - ad_aC (ad_cA C)) = 10 by omega] at hz
            rw [show v.toNat = ad_aC (ad_cA C) by omega, ← hz] at hI
            have e : ad_m_bestBase C u w = (if w = 0 then (ad_bb (ad_cA C) u.toNat 10).1 else (ad_bb (ad_cA C) u.toNat 10).2, C) := by
              unfold ad_m_bestBase
              rw [if_neg (fun q => q k8), if_neg (by omega)]
            rw [e]
            exact ⟨by rw [if_neg (by omega), ← hI.2], c1, f1⟩)
        · show ad_R _ _ _ _ 145 _ _ _
          refine ad_iload_n dX7_bestBase_145 rfl ?_
          refine ad_goto 151 dX7_bestBase_146 (by decide) ?_
          exact ad_reti dX7_bestBase_151 rfl (by
            have hz := ad_bb_end (v := u.toNat) w2 (10 - ad_aC (ad_cA C))
            rw [show ad_aC (ad_cA C) + (10 - ad_aC (ad_cA C)) = 10 by omega] at hz
            rw [show v.toNat = ad_aC (ad_cA C) by omega, ← hz] at hI
            have e : ad_m_bestBase C u w = (if w = 0 then (ad_bb (ad_cA C) u.toNat 10).1 else (ad_bb (ad_cA C) u.toNat 10).2, C) := by
              unfold ad_m_bestBase
              rw [if_neg (fun q => q k8), if_neg (by omega)]
            rw [e]
            exact ⟨by rw [if_pos (by omega), ← hI.1], c1, f1⟩)
      · show ad_R _ _ _ _ 55 _ _ _
        refine ad_iload dX7_bestBase_55 rfl ?_
        refine ad_iload_n dX7_bestBase_57 rfl ?_
        refine ad_icmp_eq 135 dX7_bestBase_58 (by decide) (by omega) (by omega) (fun h58 => ?_) (fun h58 => ?_)
        · skip
          refine ad_iinc dX7_bestBase_135 rfl (by decide) rfl (by dsimp only [ad_set]) ?_
          refine ad_goto 43 dX7_bestBase_138 (by decide) ?_
          have hN : x = (ad_bb (ad_cA C) u.toNat (v + 1).toNat).1 ∧ y = (ad_bb (ad_cA C) u.toNat (v + 1).toNat).2 := by
            rw [show (v + 1).toNat = v.toNat + 1 by omega, ad_bb, if_neg (fun q => by omega)]; exact hI
          exact ih (v + 1) _ _ σ1 c1 f1 (by omega) (by omega) hr hN k8 kw (by omega)
        · show ad_R _ _ _ _ 61 _ _ _
          refine ad_aload_n dX7_bestBase_61 rfl ?_
          refine gf_X7_10 rfl dX7_bestBase_62 ?_
          refine ad_iload dX7_bestBase_65 rfl ?_
          refine ad_cv1f rfl cl_X7_109 dX7_bestBase_67 (c_X4_holds (by decide) a1.1 a1.2 (by omega)) (by omega) (by show _ < 3; omega) (Nat.le_of_ble_eq_true rfl) ?_
          refine ad_ifp_eq 135 dX7_bestBase_70 (by decide) (fun h70 => ?_) (fun h70 => ?_)
          · skip
            refine ad_iinc dX7_bestBase_135 rfl (by decide) rfl (by dsimp only [ad_set]) ?_
            refine ad_goto 43 dX7_bestBase_138 (by decide) ?_
            have hN : x = (ad_bb (ad_cA C) u.toNat (v + 1).toNat).1 ∧ y = (ad_bb (ad_cA C) u.toNat (v + 1).toNat).2 := by
              rw [show (v + 1).toNat = v.toNat + 1 by omega, ad_bb, if_neg (fun q => h70 ⟨hv0, q.2⟩)]; exact hI
            exact ih (v + 1) _ _ σ1 c1 f1 (by omega) (by omega) hr hN k8 kw (by omega)
          · show ad_R _ _ _ _ 73 _ _ _
            refine ad_aload_n dX7_bestBase_73 rfl ?_
            refine gf_X7_32 rfl dX7_bestBase_74 ?_
            refine ad_aload_n dX7_bestBase_77 rfl ?_
            refine gf_X7_10 rfl dX7_bestBase_78 ?_
            refine gf_X7_113 rfl (by omega) dX7_bestBase_81 ?_
            refine ad_iload dX7_bestBase_84 rfl ?_
            refine ad_aald dX7_bestBase_86 (by omega) (by omega) (by omega) ?_
            refine gf_X7_117 rfl (by omega) dX7_bestBase_87 ?_
            refine ad_aload_n dX7_bestBase_90 rfl ?_
            refine gf_X7_10 rfl dX7_bestBase_91 ?_
            refine gf_X7_113 rfl (by omega) dX7_bestBase_94 ?_
            refine ad_iload_n dX7_bestBase_97 rfl ?_
            refine ad_aald dX7_bestBase_98 (by omega) (by omega) (by omega) ?_
            refine gf_X7_117 rfl (by omega) dX7_bestBase_99 ?_
            refine ad_cv2v rfl cl_X7_208 dX7_bestBase_102 (c_X0_make (by omega) (by omega) (by omega) (by omega) (r5 _ (by omega)).1 (r5 _ (by omega)).1 (by rw [ad_sz a1.1 a1.2 k8.2]; have := (w3 _ k8.2).1; omega) a6.2) (by omega) (by show _ < 32; omega) (Nat.le_of_ble_eq_true rfl) (fun s102 q102 => ?_)
            obtain ⟨t1, t2, t3⟩ := q102
            rw [(r6 _ h70.2).1, (r6 _ k8.2).1] at t2
            have c2 : ad_c7 s102 C := by
              have ev : ∀ k i, ¬ ad_Td 31 k i → s102 k i = σ1 k i := t1
              refine ad_c7_same c1 (t1.mono (fun k i z => by unfold ad_Td at z; unfold ad_TX; omega)) (fun k i hk => ev k i (fun z => by unfold ad_Ts at hk; unfold ad_Td at z; omega)) (ad_rK_congr (fun k i hk => ev k i (fun z => by unfold ad_Ts at hk; unfold ad_Td at z; omega)) a4.2) (ad_dr_congr (ev _ _ (fun z => by unfold ad_Td at z; omega)) (ev _ _ (fun z => by unfold ad_Td at z; omega)) a6.1) t3.2.2.2
            have f2 : ad_fr ad_f7 σ s102 := f1.trans (t1.mono (fun k i z => by unfold ad_Td at z; unfold ad_f7; omega))
            have hcc : 1 + s102 0 31 2 + s102 0 31 3 = ad_c2 (ad_cA C) v.toNat u.toNat := ad_dw_c2 t3 t2
            have hcr := ad_c2_rng a1.2 (u := v.toNat) k8.2
            refine ad_iload_n dX7_bestBase_105 rfl ?_
            refine ad_bipush dX7_bestBase_106 rfl ?_
            refine ad_icmp_eq 123 dX7_bestBase_108 (by decide) (by omega) (by omega) (fun h108 => ?_) (fun h108 => ?_)
            · skip
              refine ad_iload dX7_bestBase_123 rfl ?_
              refine ad_istore_n dX7_bestBase_125 (by decide) rfl (by dsimp only [ad_set]) ?_
              refine ad_aload_n dX7_bestBase_126 rfl ?_
              refine gf_X7_32 rfl dX7_bestBase_127 ?_
              refine ad_cv0f rfl cl_X7_211 dX7_bestBase_130 (c_X0_cost (by omega)) (by omega) (by show _ < 32; omega) (Nat.le_of_ble_eq_true rfl) ?_
              refine ad_istore dX7_bestBase_133 (by decide) rfl (by dsimp only [ad_set]) ?_
              refine ad_iinc dX7_bestBase_135 rfl (by decide) rfl (by dsimp only [ad_set]) ?_
              refine ad_goto 43 dX7_bestBase_138 (by decide) ?_
              have hN : v = (ad_bb (ad_cA C) u.toNat (v + 1).toNat).1 ∧ 1 + s102 0 31 2 + s102 0 31 3 = (ad_bb (ad_cA C) u.toNat (v + 1).toNat).2 := by
                rw [show (v + 1).toNat = v.toNat + 1 by omega, ad_bb, if_pos ⟨by omega, h70.2⟩, if_pos (by rw [← hI.1, ← hI.2]; omega)]; exact ⟨by show v = ((v.toNat : Nat) : Int); omega, hcc⟩
              exact ih (v + 1) _ _ s102 c2 f2 (by omega) (by omega) ⟨⟨by omega, by omega⟩, ⟨by omega, by omega⟩⟩ hN k8 kw (by omega)
            · show ad_R _ _ _ _ 111 _ _ _
              refine ad_aload_n dX7_bestBase_111 rfl ?_
              refine gf_X7_32 rfl dX7_bestBase_112 ?_
              refine ad_cv0f rfl cl_X7_211 dX7_bestBase_115 (c_X0_cost (by omega)) (by omega) (by show _ < 32; omega) (Nat.le_of_ble_eq_true rfl) ?_
              refine ad_iload dX7_bestBase_118 rfl ?_
              refine ad_icmp_ge 135 dX7_bestBase_120 (by decide) (by omega) (by omega) (fun h120 => ?_) (fun h120 => ?_)
              · skip
                refine ad_iinc dX7_bestBase_135 rfl (by decide) rfl (by dsimp only [ad_set]) ?_
                refine ad_goto 43 dX7_bestBase_138 (by decide) ?_
                have hN : x = (ad_bb (ad_cA C) u.toNat (v + 1).toNat).1 ∧ y = (ad_bb (ad_cA C) u.toNat (v + 1).toNat).2 := by
                  rw [show (v + 1).toNat = v.toNat + 1 by omega, ad_bb, if_pos ⟨by omega, h70.2⟩, if_neg (by rw [← hI.1, ← hI.2]; omega)]; exact hI
                exact ih (v + 1) _ _ s102 c2 f2 (by omega) (by omega) hr hN k8 kw (by omega)
              · show ad_R _ _ _ _ 123 _ _ _
                refine ad_iload dX7_bestBase_123 rfl ?_
                refine ad_istore_n dX7_bestBase_125 (by decide) rfl (by dsimp only [ad_set]) ?_
                refine ad_aload_n dX7_bestBase_126 rfl ?_
                refine gf_X7_32 rfl dX7_bestBase_127 ?_
                refine ad_cv0f rfl cl_X7_211 dX7_bestBase_130 (c_X0_cost (by omega)) (by omega) (by show _ < 32; omega) (Nat.le_of_ble_eq_true rfl) ?_
                refine ad_istore dX7_bestBase_133 (by decide) rfl (by dsimp only [ad_set]) ?_
                refine ad_iinc dX7_bestBase_135 rfl (by decide) rfl (by dsimp only [ad_set]) ?_
                refine ad_goto 43 dX7_bestBase_138 (by decide) ?_
                have hN : v = (ad_bb (ad_cA C) u.toNat (v + 1).toNat).1 ∧ 1 + s102 0 31 2 + s102 0 31 3 = (ad_bb (ad_cA C) u.toNat (v + 1).toNat).2 := by
                  rw [show (v + 1).toNat = v.toNat + 1 by omega, ad_bb, if_pos ⟨by omega, h70.2⟩, if_pos (by rw [← hI.1, ← hI.2]; omega)]; exact ⟨by show v = ((v.toNat : Nat) : Int); omega, hcc⟩
                exact ih (v + 1) _ _ s102 c2 f2 (by omega) (by omega) ⟨⟨by omega, by omega⟩, ⟨by omega, by omega⟩⟩ hN k8 kw (by omega)
  refine ad_aload_n dX7_bestBase_0 rfl ?_
  refine gf_X7_10 rfl dX7_bestBase_1 ?_
  refine ad_iload_n dX7_bestBase_4 rfl ?_
  refine ad_cv1f rfl cl_X7_109 dX7_bestBase_5 (c_X4_holds (by decide) a1.1 a1.2 hv) (by omega) (by show _ < 3; omega) (Nat.le_of_ble_eq_true rfl) ?_
  refine ad_ifp_ne 17 dX7_bestBase_8 (by decide) (fun h8 => ?_) (fun h8 => ?_)
  · skip
    refine ad_iload_n dX7_bestBase_17 rfl ?_
    refine ad_if_lt 26 dX7_bestBase_18 (by decide) (by omega) (fun h18 => ?_) (fun h18 => ?_)
    · skip
      refine ad_aload_n dX7_bestBase_26 rfl ?_
      refine ad_bipush dX7_bestBase_27 rfl ?_
      refine ad_cv1q rfl cl_X7_67 dX7_bestBase_29 (c_X7_refuse hC (by decide)) (by omega) (by show _ < 1; omega) (Nat.le_of_ble_eq_true rfl) (fun x29 s29 q29 => ?_)
      obtain ⟨rfl, c29, f29⟩ := q29
      exact ad_reti dX7_bestBase_32 rfl (by
        have e : ad_m_bestBase C u w = ad_no C 2 := by
          unfold ad_m_bestBase
          (repeat' split) <;> first | with_reducible rfl | contradiction | (exfalso; omega) | rfl | (exfalso; simp_all; omega) | (simp_all; done)
        rw [e]
        exact ⟨rfl, c29, f29⟩)
    · show ad_R _ _ _ _ 21 _ _ _
      refine ad_iload_n dX7_bestBase_21 rfl ?_
      refine ad_iconst dX7_bestBase_22 ?_
      refine ad_icmp_le 33 dX7_bestBase_23 (by decide) (by omega) (by omega) (fun h23 => ?_) (fun h23 => ?_)
      · skip
        refine ad_bipush dX7_bestBase_33 rfl ?_
        refine ad_istore_n dX7_bestBase_35 (by decide) rfl (by dsimp only [ad_set]) ?_
        refine ad_bipush dX7_bestBase_36 rfl ?_
        refine ad_istore dX7_bestBase_38 (by decide) rfl (by dsimp only [ad_set]) ?_
        refine ad_iconst dX7_bestBase_40 ?_
        refine ad_istore dX7_bestBase_41 (by decide) rfl (by dsimp only [ad_set]) ?_
        exact lp (ad_aC (ad_cA C)) 0 _ _ σ hC ad_fr.refl (by omega) (by omega) (by omega) ⟨rfl, rfl⟩ h8 (by omega) (by omega)
      · show ad_R _ _ _ _ 26 _ _ _
        refine ad_aload_n dX7_bestBase_26 rfl ?_
        refine ad_bipush dX7_bestBase_27 rfl ?_
        refine ad_cv1q rfl cl_X7_67 dX7_bestBase_29 (c_X7_refuse hC (by decide)) (by omega) (by show _ < 1; omega) (Nat.le_of_ble_eq_true rfl) (fun x29 s29 q29 => ?_)
        obtain ⟨rfl, c29, f29⟩ := q29
        exact ad_reti dX7_bestBase_32 rfl (by
          have e : ad_m_bestBase C u w = ad_no C 2 := by
            unfold ad_m_bestBase
            (repeat' split) <;> first | with_reducible rfl | contradiction | (exfalso; omega) | rfl | (exfalso; simp_all; omega) | (simp_all; done)
          rw [e]
          exact ⟨rfl, c29, f29⟩)
  · show ad_R _ _ _ _ 11 _ _ _
    refine ad_aload_n dX7_bestBase_11 rfl ?_
    refine ad_iconst dX7_bestBase_12 ?_
    refine ad_cv1q rfl cl_X7_67 dX7_bestBase_13 (c_X7_refuse hC (by decide)) (by omega) (by show _ < 1; omega) (Nat.le_of_ble_eq_true rfl) (fun x13 s13 q13 => ?_)
    obtain ⟨rfl, c13, f13⟩ := q13
    exact ad_reti dX7_bestBase_16 rfl (by
      have e : ad_m_bestBase C u w = ad_no C 1 := by
        unfold ad_m_bestBase
        (repeat' split) <;> first | with_reducible rfl | contradiction | (exfalso; omega) | rfl | (exfalso; simp_all; omega) | (simp_all; done)
      rw [e]
      exact ⟨rfl, c13, f13⟩)
theorem c_X7_best {g : ad_G} {d : Nat} {σ : ad_Mem} {C : ad_C7} {w : Int} (hC : ad_c7 σ C) (hw : ad_rng w) (h6d : 6 ≤ d) : ad_Q g mX7_best d [ad_rf g 7 0, ad_iv w] σ (fun x m => ad_an7 σ x m (ad_m_best C w)) := by
  have hC0 := hC
  obtain ⟨a1, a2, a3, a4, a5, a6, a7, a8, a9⟩ := hC0
  obtain ⟨z1, z2, z3, z4⟩ := ad_c7_sz hC
  obtain ⟨r1, r2, r3, r4, r5, r6, r7, r8⟩ := a1.1
  obtain ⟨w1, w2, w3, w4, w5, w6, w7, w8, w9⟩ := a1.2
  refine ad_M1 (k := 4) rfl (by simp [Value.category]) rfl (Nat.le_of_ble_eq_true rfl) ?_
  simp only [List.map_cons, List.map_nil, List.replicate, List.cons_append, List.nil_append]
  have lp : ∀ (n : Nat) (v : Int) (x : Int) (y : Int) (σ1 : ad_Mem), (ad_c7 σ1 C) → (ad_fr ad_f7 σ σ1) → (σ1 3 0 5 = ((0 : Nat) : Int) + 1) → (ad_cch σ1 (ad_cA C)) → (0 ≤ v) → (v ≤ if w = 0 then 9 else 6) → (0 ≤ y ∧ y ≤ 2147483647) → (x = (ad_b7 (ad_cA C) w v.toNat).1 ∧ y = (ad_b7 (ad_cA C) w v.toNat).2) → (0 ≤ w ∧ w ≤ 1) → ((if w = 0 then 9 else 6) - v).toNat ≤ n → ad_R g mX7_best d (ad_ZQ mX7_best (fun x m => ad_an7 σ x m (ad_m_best C w))) 48 [some (ad_rf g 7 0), some (ad_iv w), some (ad_iv (if w = 0 then 9 else 6)), some (ad_iv x), some (ad_iv y), some (ad_iv v)] [] σ1 := by
    intro n
    induction n with
    | zero =>
      intro v x y σ1 c1 f1 g1 g2 hv0 hv1 hr hI kw hn
      have hC0 := c1
      obtain ⟨a1, a2, a3, a4, a5, a6, a7, a8, a9⟩ := hC0
      obtain ⟨z1, z2, z3, z4⟩ := ad_c7_sz c1
      obtain ⟨r1, r2, r3, r4, r5, r6, r7, r8⟩ := a1.1
      obtain ⟨w1, w2, w3, w4, w5, w6, w7, w8, w9⟩ := a1.2
      refine ad_iload dX7_best_48 rfl ?_
      refine ad_iload_n dX7_best_50 rfl ?_
      refine ad_icmp_ge 137 dX7_best_51 (by decide) (by omega) (by omega) (fun h51 => ?_) (fun h51 => ?_)
      · skip
        refine ad_iload_n dX7_best_137 rfl ?_
        exact ad_reti dX7_best_138 rfl (by
          have e : ad_m_best C w = ((ad_b7 (ad_cA C) w (if w = 0 then 9 else 6)).1, C) := by
            unfold ad_m_best
            rw [if_neg (by omega)]
          rw [e, hI.1, show v.toNat = if w = 0 then 9 else 6 by split <;> omega]
          exact ⟨rfl, c1, f1⟩)
      · show ad_R _ _ _ _ 54 _ _ _
        exfalso; omega
    | succ n ih =>
      intro v x y σ1 c1 f1 g1 g2 hv0 hv1 hr hI kw hn
      have hC0 := c1
      obtain ⟨a1, a2, a3, a4, a5, a6, a7, a8, a9⟩ := hC0
      obtain ⟨z1, z2, z3, z4⟩ := ad_c7_sz c1
      obtain ⟨r1, r2, r3, r4, r5, r6, r7, r8⟩ := a1.1
      obtain ⟨w1, w2, w3, w4, w5, w6, w7, w8, w9⟩ := a1.2
      refine ad_iload dX7_best_48 rfl ?_
      refine ad_iload_n dX7_best_50 rfl ?_
      refine ad_icmp_ge 137 dX7_best_51 (by decide) (by omega) (by omega) (fun h51 => ?_) (fun h51 => ?_)
      · skip
        refine ad_iload_n dX7_best_137 rfl ?_
        exact ad_reti dX7_best_138 rfl (by
          have e : ad_m_best C w = ((ad_b7 (ad_cA C) w (if w = 0 then 9 else 6)).1, C) := by
            unfold ad_m_best
            rw [if_neg (by omega)]
          rw [e, hI.1, show v.toNat = if w = 0 then 9 else 6 by split <;> omega]
          exact ⟨rfl, c1, f1⟩)
      · show ad_R _ _ _ _ 54 _ _ _
        refine ad_iload_n dX7_best_54 rfl ?_
        refine ad_if_ne 84 dX7_best_55 (by decide) (by omega) (fun h55 => ?_) (fun h55 => ?_)
        · skip
          refine ad_aload_n dX7_best_84 rfl ?_
          refine gf_X7_25 rfl dX7_best_85 ?_
          refine ad_iload dX7_best_88 rfl ?_
          refine ad_aload_n dX7_best_90 rfl ?_
          refine gf_X7_10 rfl dX7_best_91 ?_
          refine gf_X7_145 rfl (by omega) dX7_best_94 ?_
          rw [r3.2.1]
          refine ad_aload_n dX7_best_97 rfl ?_
          refine gf_X7_10 rfl dX7_best_98 ?_
          refine gf_X7_148 rfl (by omega) dX7_best_101 ?_
          rw [r3.2.2]
          refine ad_cv3v rfl cl_X7_154 dX7_best_104 (c_X3_make (s := 0) (by decide) a1.1 a1.2 (by omega) g1 (by omega) w8.2.1 w8.2.2 g2 a6.1) (by omega) (by show _ < 1; omega) (Nat.le_of_ble_eq_true rfl) (fun s104 q104 => ?_)
          obtain ⟨M1, M2, M3⟩ := ad_pS_all a1.2 w8.2.1.1 w8.2.2 q104.1
          have M4 := ad_c7_pS c1 q104.2 q104.1
          have f2 := f1.trans (ad_TP_fr7 q104.2)
          have hbc : s104 3 0 10 = ad_bc7 (ad_cA C) w ((v.toNat : Nat) : Int) := by
            rw [show ((v.toNat : Nat) : Int) = v by omega, M1]
            unfold ad_bc7
            rw [if_neg (by omega)]
          have hpr : 0 ≤ s104 3 0 10 ∧ s104 3 0 10 ≤ 2147483647 := by
            have hh := (ad_pl_rng a1.2 (k := v) (f := ad_aF (ad_cA C)) (b := ad_aN (ad_cA C)) (l := ad_ordL (ad_cA C) (v)) (by omega) ad_ordL_in w8.2.1.1 _ (Nat.le_refl _)).2.2.1
            have hl := ad_ordL_len (ad_cA C) (v)
            rw [q104.1.2.2.2.2.2.2.2.1.1]
            omega
          refine ad_aload_n dX7_best_107 rfl ?_
          refine gf_X7_25 rfl dX7_best_108 ?_
          refine gf_X7_215 rfl dX7_best_111 ?_
          refine ad_iload dX7_best_114 rfl ?_
          refine ad_icmp_ge 131 dX7_best_116 (by decide) (by omega) (by omega) (fun h116 => ?_) (fun h116 => ?_)
          · skip
            refine ad_iinc dX7_best_131 rfl (by decide) rfl (by dsimp only [ad_set]) ?_
            refine ad_goto 48 dX7_best_134 (by decide) ?_
            have hN : x = (ad_b7 (ad_cA C) w (v + 1).toNat).1 ∧ y = (ad_b7 (ad_cA C) w (v + 1).toNat).2 := by
              rw [show (v + 1).toNat = v.toNat + 1 by omega, ad_b7, if_neg (by rw [← hI.2, ← hbc]; omega)]; exact hI
            exact ih (v + 1) _ _ s104 M4 f2 q104.1.2.1 q104.1.2.2.2.2.2.2.2.2.1 (by omega) (by omega) hr hN kw (by omega)
          · show ad_R _ _ _ _ 119 _ _ _
            refine ad_aload_n dX7_best_119 rfl ?_
            refine gf_X7_25 rfl dX7_best_120 ?_
            refine gf_X7_215 rfl dX7_best_123 ?_
            refine ad_istore dX7_best_126 (by decide) rfl (by dsimp only [ad_set]) ?_
            refine ad_iload dX7_best_128 rfl ?_
            refine ad_istore_n dX7_best_130 (by decide) rfl (by dsimp only [ad_set]) ?_
            refine ad_iinc dX7_best_131 rfl (by decide) rfl (by dsimp only [ad_set]) ?_
            refine ad_goto 48 dX7_best_134 (by decide) ?_
            have hN : v = (ad_b7 (ad_cA C) w (v + 1).toNat).1 ∧ s104 3 0 10 = (ad_b7 (ad_cA C) w (v + 1).toNat).2 := by
              rw [show (v + 1).toNat = v.toNat + 1 by omega, ad_b7, if_pos (by rw [← hI.2, ← hbc]; omega)]; exact ⟨by show v = ((v.toNat : Nat) : Int); omega, hbc⟩
            exact ih (v + 1) _ _ s104 M4 f2 q104.1.2.1 q104.1.2.2.2.2.2.2.2.2.1 (by omega) (by omega) hpr hN kw (by omega)
        · show ad_R _ _ _ _ 58 _ _ _
          refine ad_aload_n dX7_best_58 rfl ?_
          refine gf_X7_25 rfl dX7_best_59 ?_
          refine ad_aload_n dX7_best_62 rfl ?_
          refine gf_X7_10 rfl dX7_best_63 ?_
          refine gf_X7_142 rfl (by omega) dX7_best_66 ?_
          rw [r3.1]
          refine ad_aload_n dX7_best_69 rfl ?_
          refine gf_X7_10 rfl dX7_best_70 ?_
          refine gf_X7_145 rfl (by omega) dX7_best_73 ?_
          rw [r3.2.1]
          refine ad_iload dX7_best_76 rfl ?_
          refine ad_cv3v rfl cl_X7_154 dX7_best_78 (c_X3_make (s := 0) (by decide) a1.1 a1.2 (by omega) g1 w8.1 w8.2.1 (by omega) g2 a6.1) (by omega) (by show _ < 1; omega) (Nat.le_of_ble_eq_true rfl) (fun s78 q78 => ?_)
          obtain ⟨M1, M2, M3⟩ := ad_pS_all a1.2 w8.2.1.1 (by omega) q78.1
          have M4 := ad_c7_pS c1 q78.2 q78.1
          have f2 := f1.trans (ad_TP_fr7 q78.2)
          have hbc : s78 3 0 10 = ad_bc7 (ad_cA C) w ((v.toNat : Nat) : Int) := by
            rw [show ((v.toNat : Nat) : Int) = v by omega, M1]
            unfold ad_bc7
            rw [if_pos (by omega)]
          have hpr : 0 ≤ s78 3 0 10 ∧ s78 3 0 10 ≤ 2147483647 := by
            have hh := (ad_pl_rng a1.2 (k := ad_aK (ad_cA C)) (f := ad_aF (ad_cA C)) (b := v) (l := ad_ordL (ad_cA C) (ad_aK (ad_cA C))) (by omega) ad_ordL_in w8.2.1.1 _ (Nat.le_refl _)).2.2.1
            have hl := ad_ordL_len (ad_cA C) (ad_aK (ad_cA C))
            rw [q78.1.2.2.2.2.2.2.2.1.1]
            omega
          refine ad_goto 107 dX7_best_81 (by decide) ?_
          refine ad_aload_n dX7_best_107 rfl ?_
          refine gf_X7_25 rfl dX7_best_108 ?_
          refine gf_X7_215 rfl dX7_best_111 ?_
          refine ad_iload dX7_best_114 rfl ?_
          refine ad_icmp_ge 131 dX7_best_116 (by decide) (by omega) (by omega) (fun h116 => ?_) (fun h116 => ?_)
          · skip
            refine ad_iinc dX7_best_131 rfl (by decide) rfl (by dsimp only [ad_set]) ?_
            refine ad_goto 48 dX7_best_134 (by decide) ?_
            have hN : x = (ad_b7 (ad_cA C) w (v + 1).toNat).1 ∧ y = (ad_b7 (ad_cA C) w (v + 1).toNat).2 := by
              rw [show (v + 1).toNat = v.toNat + 1 by omega, ad_b7, if_neg (by rw [← hI.2, ← hbc]; omega)]; exact hI
            exact ih (v + 1) _ _ s78 M4 f2 q78.1.2.1 q78.1.2.2.2.2.2.2.2.2.1 (by omega) (by omega) hr hN kw (by omega)
          · show ad_R _ _ _ _ 119 _ _ _
            refine ad_aload_n dX7_best_119 rfl ?_
            refine gf_X7_25 rfl dX7_best_120 ?_
            refine gf_X7_215 rfl dX7_best_123 ?_
            refine ad_istore dX7_best_126 (by decide) rfl (by dsimp only [ad_set]) ?_
            refine ad_iload dX7_best_128 rfl ?_
            refine ad_istore_n dX7_best_130 (by decide) rfl (by dsimp only [ad_set]) ?_
            refine ad_iinc dX7_best_131 rfl (by decide) rfl (by dsimp only [ad_set]) ?_
            refine ad_goto 48 dX7_best_134 (by decide) ?_
            have hN : v = (ad_b7 (ad_cA C) w (v + 1).toNat).1 ∧ s78 3 0 10 = (ad_b7 (ad_cA C) w (v + 1).toNat).2 := by
              rw [show (v + 1).toNat = v.toNat + 1 by omega, ad_b7, if_pos (by rw [← hI.2, ← hbc]; omega)]; exact ⟨by show v = ((v.toNat : Nat) : Int); omega, hbc⟩
            exact ih (v + 1) _ _ s78 M4 f2 q78.1.2.1 q78.1.2.2.2.2.2.2.2.2.1 (by omega) (by omega) hpr hN kw (by omega)
  refine ad_iload_n dX7_best_0 rfl ?_
  refine ad_if_lt 9 dX7_best_1 (by decide) (by omega) (fun h1 => ?_) (fun h1 => ?_)
  · skip
    refine ad_aload_n dX7_best_9 rfl ?_
    refine ad_bipush dX7_best_10 rfl ?_
    refine ad_cv1q rfl cl_X7_67 dX7_best_12 (c_X7_refuse hC (by decide)) (by omega) (by show _ < 1; omega) (Nat.le_of_ble_eq_true rfl) (fun x12 s12 q12 => ?_)
    obtain ⟨rfl, c12, f12⟩ := q12
    exact ad_reti dX7_best_15 rfl (by
      have e : ad_m_best C w = ad_no C 2 := by
        unfold ad_m_best
        (repeat' split) <;> first | with_reducible rfl | contradiction | (exfalso; omega) | rfl | (exfalso; simp_all; omega) | (simp_all; done)
      rw [e]
      exact ⟨rfl, c12, f12⟩)
  · show ad_R _ _ _ _ 4 _ _ _
    refine ad_iload_n dX7_best_4 rfl ?_
    refine ad_iconst dX7_best_5 ?_
    refine ad_icmp_le 16 dX7_best_6 (by decide) (by omega) (by omega) (fun h6 => ?_) (fun h6 => ?_)
    · skip
      refine ad_iload_n dX7_best_16 rfl ?_
      refine ad_if_ne 25 dX7_best_17 (by decide) (by omega) (fun h17 => ?_) (fun h17 => ?_)
      · skip
        refine ad_bipush dX7_best_25 rfl ?_
        refine ad_istore_n dX7_best_27 (by decide) rfl (by dsimp only [ad_set]) ?_
        refine ad_iconst dX7_best_28 ?_
        refine ad_istore_n dX7_best_29 (by decide) rfl (by dsimp only [ad_set]) ?_
        refine ad_ldc (n := 2147483647) dX7_best_30 kc_X7_223 ?_
        refine ad_istore dX7_best_32 (by decide) rfl (by dsimp only [ad_set]) ?_
        refine ad_aload_n dX7_best_34 rfl ?_
        refine gf_X7_25 rfl dX7_best_35 ?_
        refine ad_aload_n dX7_best_38 rfl ?_
        refine gf_X7_10 rfl dX7_best_39 ?_
        refine ad_cv1v rfl cl_X7_151 dX7_best_42 (c_X3_learn (s := 0) (by decide)) (by omega) (by show _ < 1; omega) (Nat.le_of_ble_eq_true rfl) (fun s42 q42 => ?_)
        obtain ⟨L1, L2, L3⟩ := ad_lrn q42
        have L4 := ad_c7_plan hC L1 (L3 a6.1)
        have L5 := L4.1.1
        have L6 := L5.2.2.1
        refine ad_iconst dX7_best_45 ?_
        refine ad_istore dX7_best_46 (by decide) rfl (by dsimp only [ad_set]) ?_
        rw [show (if w = 0 then (9 : Int) else 6) = 6 from if_neg (by omega)] at lp
        exact lp 6 0 _ _ _ L4 (ad_TP_fr7 L1) q42.1 (L2 _ a1.2) (by omega) (by omega) (by omega) ⟨rfl, rfl⟩ (by omega) (by omega)
      · show ad_R _ _ _ _ 20 _ _ _
        refine ad_bipush dX7_best_20 rfl ?_
        refine ad_goto 27 dX7_best_22 (by decide) ?_
        refine ad_istore_n dX7_best_27 (by decide) rfl (by dsimp only [ad_set]) ?_
        refine ad_iconst dX7_best_28 ?_
        refine ad_istore_n dX7_best_29 (by decide) rfl (by dsimp only [ad_set]) ?_
        refine ad_ldc (n := 2147483647) dX7_best_30 kc_X7_223 ?_
        refine ad_istore dX7_best_32 (by decide) rfl (by dsimp only [ad_set]) ?_
        refine ad_aload_n dX7_best_34 rfl ?_
        refine gf_X7_25 rfl dX7_best_35 ?_
        refine ad_aload_n dX7_best_38 rfl ?_
        refine gf_X7_10 rfl dX7_best_39 ?_
        refine ad_cv1v rfl cl_X7_151 dX7_best_42 (c_X3_learn (s := 0) (by decide)) (by omega) (by show _ < 1; omega) (Nat.le_of_ble_eq_true rfl) (fun s42 q42 => ?_)
        obtain ⟨L1, L2, L3⟩ := ad_lrn q42
        have L4 := ad_c7_plan hC L1 (L3 a6.1)
        have L5 := L4.1.1
        have L6 := L5.2.2.1
        refine ad_iconst dX7_best_45 ?_
        refine ad_istore dX7_best_46 (by decide) rfl (by dsimp only [ad_set]) ?_
        rw [show (if w = 0 then (9 : Int) else 6) = 9 from if_pos (by omega)] at lp
        exact lp 9 0 _ _ _ L4 (ad_TP_fr7 L1) q42.1 (L2 _ a1.2) (by omega) (by omega) (by omega) ⟨rfl, rfl⟩ (by omega) (by omega)
    · show ad_R _ _ _ _ 9 _ _ _
      refine ad_aload_n dX7_best_9 rfl ?_
      refine ad_bipush dX7_best_10 rfl ?_
      refine ad_cv1q rfl cl_X7_67 dX7_best_12 (c_X7_refuse hC (by decide)) (by omega) (by show _ < 1; omega) (Nat.le_of_ble_eq_true rfl) (fun x12 s12 q12 => ?_)
      obtain ⟨rfl, c12, f12⟩ := q12
      exact ad_reti dX7_best_15 rfl (by
        have e : ad_m_best C w = ad_no C 2 := by
          unfold ad_m_best
          (repeat' split) <;> first | with_reducible rfl | contradiction | (exfalso; omega) | rfl | (exfalso; simp_all; omega) | (simp_all; done)
        rw [e]
        exact ⟨rfl, c12, f12⟩)
theorem c_X7_whatIs {g : ad_G} {d : Nat} {σ : ad_Mem} {C : ad_C7} {w : Int} (hC : ad_c7 σ C) (hw : ad_rng w) (h6d : 6 ≤ d) : ad_Q g mX7_whatIs d [ad_rf g 7 0, ad_iv w] σ (fun x m => ad_an7 σ x m (ad_m_whatIs C w)) := by
  have hC0 := hC
  obtain ⟨a1, a2, a3, a4, a5, a6, a7, a8, a9⟩ := hC0
  obtain ⟨z1, z2, z3, z4⟩ := ad_c7_sz hC
  obtain ⟨r1, r2, r3, r4, r5, r6, r7, r8⟩ := a1.1
  obtain ⟨w1, w2, w3, w4, w5, w6, w7, w8, w9⟩ := a1.2
  refine ad_M1 (k := 3) rfl (by simp [Value.category]) rfl (Nat.le_of_ble_eq_true rfl) ?_
  simp only [List.map_cons, List.map_nil, List.replicate, List.cons_append, List.nil_append]
  have lp : ∀ (n : Nat) (v : Int) (a : Int) (σ1 : ad_Mem), (ad_c7 σ1 C) → (ad_fr ad_f7 σ σ1) → (σ1 3 0 5 = ((0 : Nat) : Int) + 1) → (ad_cch σ1 (ad_cA C)) → (0 ≤ v) → (v ≤ if w = 0 then 6 else 10) → (a = (ad_bN (ad_wi (ad_cA C) (ad_cR C) w) v.toNat : Nat)) → (0 ≤ w ∧ w ≤ 1) → ((if w = 0 then 6 else 10) - v).toNat ≤ n → ad_R g mX7_whatIs d (ad_ZQ mX7_whatIs (fun x m => ad_an7 σ x m (ad_m_whatIs C w))) 44 [some (ad_rf g 7 0), some (ad_iv w), some (ad_iv (if w = 0 then 6 else 10)), some (ad_iv a), some (ad_iv v)] [] σ1 := by
    intro n
    induction n with
    | zero =>
      intro v a σ1 c1 f1 g1 g2 hv0 hv1 hI kw hn
      have hC0 := c1
      obtain ⟨a1, a2, a3, a4, a5, a6, a7, a8, a9⟩ := hC0
      obtain ⟨z1, z2, z3, z4⟩ := ad_c7_sz c1
      obtain ⟨r1, r2, r3, r4, r5, r6, r7, r8⟩ := a1.1
      obtain ⟨w1, w2, w3, w4, w5, w6, w7, w8, w9⟩ := a1.2
      refine ad_iload dX7_whatIs_44 rfl ?_
      refine ad_iload_n dX7_whatIs_46 rfl ?_
      refine ad_icmp_ge 130 dX7_whatIs_47 (by decide) (by omega) (by omega) (fun h47 => ?_) (fun h47 => ?_)
      · skip
        refine ad_iload_n dX7_whatIs_130 rfl ?_
        exact ad_reti dX7_whatIs_131 rfl (by
          have e : ad_m_whatIs C w = (((ad_bN (ad_wi (ad_cA C) (ad_cR C) w) (if w = 0 then 6 else 10) : Nat) : Int), C) := by
            unfold ad_m_whatIs
            rw [if_neg (by omega)]
          rw [e, hI, show v.toNat = if w = 0 then 6 else 10 by split <;> omega]
          exact ⟨rfl, c1, f1⟩)
      · show ad_R _ _ _ _ 50 _ _ _
        exfalso; omega
    | succ n ih =>
      intro v a σ1 c1 f1 g1 g2 hv0 hv1 hI kw hn
      have hC0 := c1
      obtain ⟨a1, a2, a3, a4, a5, a6, a7, a8, a9⟩ := hC0
      obtain ⟨z1, z2, z3, z4⟩ := ad_c7_sz c1
      obtain ⟨r1, r2, r3, r4, r5, r6, r7, r8⟩ := a1.1
      obtain ⟨w1, w2, w3, w4, w5, w6, w7, w8, w9⟩ := a1.2
      refine ad_iload dX7_whatIs_44 rfl ?_
      refine ad_iload_n dX7_whatIs_46 rfl ?_
      refine ad_icmp_ge 130 dX7_whatIs_47 (by decide) (by omega) (by omega) (fun h47 => ?_) (fun h47 => ?_)
      · skip
        refine ad_iload_n dX7_whatIs_130 rfl ?_
        exact ad_reti dX7_whatIs_131 rfl (by
          have e : ad_m_whatIs C w = (((ad_bN (ad_wi (ad_cA C) (ad_cR C) w) (if w = 0 then 6 else 10) : Nat) : Int), C) := by
            unfold ad_m_whatIs
            rw [if_neg (by omega)]
          rw [e, hI, show v.toNat = if w = 0 then 6 else 10 by split <;> omega]
          exact ⟨rfl, c1, f1⟩)
      · show ad_R _ _ _ _ 50 _ _ _
        refine ad_iload_n dX7_whatIs_50 rfl ?_
        refine ad_if_ne 80 dX7_whatIs_51 (by decide) (by omega) (fun h51 => ?_) (fun h51 => ?_)
        · skip
          refine ad_aload_n dX7_whatIs_80 rfl ?_
          refine gf_X7_25 rfl dX7_whatIs_81 ?_
          refine ad_aload_n dX7_whatIs_84 rfl ?_
          refine gf_X7_10 rfl dX7_whatIs_85 ?_
          refine gf_X7_142 rfl (by omega) dX7_whatIs_88 ?_
          rw [r3.1]
          refine ad_iload dX7_whatIs_91 rfl ?_
          refine ad_aload_n dX7_whatIs_93 rfl ?_
          refine gf_X7_10 rfl dX7_whatIs_94 ?_
          refine gf_X7_148 rfl (by omega) dX7_whatIs_97 ?_
          rw [r3.2.2]
          refine ad_cv3v rfl cl_X7_154 dX7_whatIs_100 (c_X3_make (s := 0) (by decide) a1.1 a1.2 (by omega) g1 w8.1 (by omega) w8.2.2 g2 a6.1) (by omega) (by show _ < 1; omega) (Nat.le_of_ble_eq_true rfl) (fun s100 q100 => ?_)
          have M4 := ad_c7_pS c1 q100.2 q100.1
          have f2 := f1.trans (ad_TP_fr7 q100.2)
          obtain ⟨N1, N2, N3⟩ := ad_pS_bs a1.2 (by omega) w8.2.2 q100.1
          have hwi : (ad_wi (ad_cA C) (ad_cR C) w) v.toNat = ad_tld (ad_cA C) (ad_cR C) (ad_aK (ad_cA C)) v (ad_aN (ad_cA C)) := by
            unfold ad_wi
            rw [if_neg (by omega), show ((v.toNat : Nat) : Int) = v by omega]
          refine ad_aload_n dX7_whatIs_103 rfl ?_
          refine gf_X7_25 rfl dX7_whatIs_104 ?_
          refine ad_aload_n dX7_whatIs_107 rfl ?_
          refine gf_X7_48 rfl dX7_whatIs_108 ?_
          have hdd : Decidable (∀ i : Nat, (i : Int) < s100 2 35 1 → s100 12 35 i = if i < 10 then s100 14 0 i else 11) := Classical.propDecidable _
          refine ad_cv1f rfl cl_X7_269 dX7_whatIs_111 (c_X3_isTold (hdec := hdd) (by omega) (by omega) M4.2.2.2.2.1.2.2 (by have := (ad_c7_sz M4).2.2; omega) (fun u hu => by rw [N1 u hu]; exact N2 u hu)) (by omega) (by show _ < 1; omega) (Nat.le_of_ble_eq_true rfl) ?_
          have hti := ad_tld_iff M4.2.2.2.2.2.2.2.1.1 (ad_c7_sz M4).2.2.1 N1
          refine ad_ifp_eq 124 dX7_whatIs_114 (by decide) (fun h114 => ?_) (fun h114 => ?_)
          · skip
            refine ad_iinc dX7_whatIs_124 rfl (by decide) rfl (by dsimp only [ad_set]) ?_
            refine ad_goto 44 dX7_whatIs_127 (by decide) ?_
            refine ih (v + 1) _ s100 M4 f2 q100.1.2.1 q100.1.2.2.2.2.2.2.2.2.1 (by omega) (by omega) ?_ kw (by omega)
            rw [hI, show (v + 1).toNat = v.toNat + 1 by omega]
            rw [ad_bN_n (by rw [hwi, ← hti]; exact h114)]
          · show ad_R _ _ _ _ 117 _ _ _
            refine ad_iload_n dX7_whatIs_117 rfl ?_
            refine ad_iconst dX7_whatIs_118 ?_
            refine ad_iload dX7_whatIs_119 rfl ?_
            refine ad_ishl dX7_whatIs_121 ?_
            refine ad_ior dX7_whatIs_122 ?_
            refine ad_istore_n dX7_whatIs_123 (by decide) rfl (by dsimp only [ad_set]) ?_
            refine ad_iinc dX7_whatIs_124 rfl (by decide) rfl (by dsimp only [ad_set]) ?_
            refine ad_goto 44 dX7_whatIs_127 (by decide) ?_
            refine ih (v + 1) _ s100 M4 f2 q100.1.2.1 q100.1.2.2.2.2.2.2.2.2.1 (by omega) (by omega) ?_ kw (by omega)
            rw [hI, show (v + 1).toNat = v.toNat + 1 by omega]
            rw [← ad_or_bN (by omega) (by rw [hwi, ← hti]; exact h114), show ((v.toNat : Nat) : Int) = v by omega]
        · show ad_R _ _ _ _ 54 _ _ _
          refine ad_aload_n dX7_whatIs_54 rfl ?_
          refine gf_X7_25 rfl dX7_whatIs_55 ?_
          refine ad_iload dX7_whatIs_58 rfl ?_
          refine ad_aload_n dX7_whatIs_60 rfl ?_
          refine gf_X7_10 rfl dX7_whatIs_61 ?_
          refine gf_X7_145 rfl (by omega) dX7_whatIs_64 ?_
          rw [r3.2.1]
          refine ad_aload_n dX7_whatIs_67 rfl ?_
          refine gf_X7_10 rfl dX7_whatIs_68 ?_
          refine gf_X7_148 rfl (by omega) dX7_whatIs_71 ?_
          rw [r3.2.2]
          refine ad_cv3v rfl cl_X7_154 dX7_whatIs_74 (c_X3_make (s := 0) (by decide) a1.1 a1.2 (by omega) g1 (by omega) w8.2.1 w8.2.2 g2 a6.1) (by omega) (by show _ < 1; omega) (Nat.le_of_ble_eq_true rfl) (fun s74 q74 => ?_)
          have M4 := ad_c7_pS c1 q74.2 q74.1
          have f2 := f1.trans (ad_TP_fr7 q74.2)
          obtain ⟨N1, N2, N3⟩ := ad_pS_bs a1.2 w8.2.1.1 w8.2.2 q74.1
          have hwi : (ad_wi (ad_cA C) (ad_cR C) w) v.toNat = ad_tld (ad_cA C) (ad_cR C) v (ad_aF (ad_cA C)) (ad_aN (ad_cA C)) := by
            unfold ad_wi
            rw [if_pos (by omega), show ((v.toNat : Nat) : Int) = v by omega]
          refine ad_goto 103 dX7_whatIs_77 (by decide) ?_
          refine ad_aload_n dX7_whatIs_103 rfl ?_
          refine gf_X7_25 rfl dX7_whatIs_104 ?_
          refine ad_aload_n dX7_whatIs_107 rfl ?_
          refine gf_X7_48 rfl dX7_whatIs_108 ?_
          have hdd : Decidable (∀ i : Nat, (i : Int) < s74 2 35 1 → s74 12 35 i = if i < 10 then s74 14 0 i else 11) := Classical.propDecidable _
          refine ad_cv1f rfl cl_X7_269 dX7_whatIs_111 (c_X3_isTold (hdec := hdd) (by omega) (by omega) M4.2.2.2.2.1.2.2 (by have := (ad_c7_sz M4).2.2; omega) (fun u hu => by rw [N1 u hu]; exact N2 u hu)) (by omega) (by show _ < 1; omega) (Nat.le_of_ble_eq_true rfl) ?_
          have hti := ad_tld_iff M4.2.2.2.2.2.2.2.1.1 (ad_c7_sz M4).2.2.1 N1
          refine ad_ifp_eq 124 dX7_whatIs_114 (by decide) (fun h114 => ?_) (fun h114 => ?_)
          · skip
            refine ad_iinc dX7_whatIs_124 rfl (by decide) rfl (by dsimp only [ad_set]) ?_
            refine ad_goto 44 dX7_whatIs_127 (by decide) ?_
            refine ih (v + 1) _ s74 M4 f2 q74.1.2.1 q74.1.2.2.2.2.2.2.2.2.1 (by omega) (by omega) ?_ kw (by omega)
            rw [hI, show (v + 1).toNat = v.toNat + 1 by omega]
            rw [ad_bN_n (by rw [hwi, ← hti]; exact h114)]
          · show ad_R _ _ _ _ 117 _ _ _
            refine ad_iload_n dX7_whatIs_117 rfl ?_
            refine ad_iconst dX7_whatIs_118 ?_
            refine ad_iload dX7_whatIs_119 rfl ?_
            refine ad_ishl dX7_whatIs_121 ?_
            refine ad_ior dX7_whatIs_122 ?_
            refine ad_istore_n dX7_whatIs_123 (by decide) rfl (by dsimp only [ad_set]) ?_
            refine ad_iinc dX7_whatIs_124 rfl (by decide) rfl (by dsimp only [ad_set]) ?_
            refine ad_goto 44 dX7_whatIs_127 (by decide) ?_
            refine ih (v + 1) _ s74 M4 f2 q74.1.2.1 q74.1.2.2.2.2.2.2.2.2.1 (by omega) (by omega) ?_ kw (by omega)
            rw [hI, show (v + 1).toNat = v.toNat + 1 by omega]
            rw [← ad_or_bN (by omega) (by rw [hwi, ← hti]; exact h114), show ((v.toNat : Nat) : Int) = v by omega]
  refine ad_iload_n dX7_whatIs_0 rfl ?_
  refine ad_if_lt 9 dX7_whatIs_1 (by decide) (by omega) (fun h1 => ?_) (fun h1 => ?_)
  · skip
    refine ad_aload_n dX7_whatIs_9 rfl ?_
    refine ad_bipush dX7_whatIs_10 rfl ?_
    refine ad_cv1q rfl cl_X7_67 dX7_whatIs_12 (c_X7_refuse hC (by decide)) (by omega) (by show _ < 1; omega) (Nat.le_of_ble_eq_true rfl) (fun x12 s12 q12 => ?_)
    obtain ⟨rfl, c12, f12⟩ := q12
    exact ad_reti dX7_whatIs_15 rfl (by
      have e : ad_m_whatIs C w = ad_no C 2 := by
        unfold ad_m_whatIs
        (repeat' split) <;> first | with_reducible rfl | contradiction | (exfalso; omega) | rfl | (exfalso; simp_all; omega) | (simp_all; done)
      rw [e]
      exact ⟨rfl, c12, f12⟩)
  · show ad_R _ _ _ _ 4 _ _ _
    refine ad_iload_n dX7_whatIs_4 rfl ?_
    refine ad_iconst dX7_whatIs_5 ?_
    refine ad_icmp_le 16 dX7_whatIs_6 (by decide) (by omega) (by omega) (fun h6 => ?_) (fun h6 => ?_)
    · skip
      refine ad_iload_n dX7_whatIs_16 rfl ?_
      refine ad_if_ne 25 dX7_whatIs_17 (by decide) (by omega) (fun h17 => ?_) (fun h17 => ?_)
      · skip
        refine ad_bipush dX7_whatIs_25 rfl ?_
        refine ad_istore_n dX7_whatIs_27 (by decide) rfl (by dsimp only [ad_set]) ?_
        refine ad_iconst dX7_whatIs_28 ?_
        refine ad_istore_n dX7_whatIs_29 (by decide) rfl (by dsimp only [ad_set]) ?_
        refine ad_aload_n dX7_whatIs_30 rfl ?_
        refine gf_X7_25 rfl dX7_whatIs_31 ?_
        refine ad_aload_n dX7_whatIs_34 rfl ?_
        refine gf_X7_10 rfl dX7_whatIs_35 ?_
        refine ad_cv1v rfl cl_X7_151 dX7_whatIs_38 (c_X3_learn (s := 0) (by decide)) (by omega) (by show _ < 1; omega) (Nat.le_of_ble_eq_true rfl) (fun s38 q38 => ?_)
        obtain ⟨L1, L2, L3⟩ := ad_lrn q38
        have L4 := ad_c7_plan hC L1 (L3 a6.1)
        have L5 := L4.1.1
        have L6 := L5.2.2.1
        refine ad_iconst dX7_whatIs_41 ?_
        refine ad_istore dX7_whatIs_42 (by decide) rfl (by dsimp only [ad_set]) ?_
        rw [show (if w = 0 then (6 : Int) else 10) = 10 from if_neg (by omega)] at lp
        exact lp 10 0 _ _ L4 (ad_TP_fr7 L1) q38.1 (L2 _ a1.2) (by omega) (by omega) rfl (by omega) (by omega)
      · show ad_R _ _ _ _ 20 _ _ _
        refine ad_bipush dX7_whatIs_20 rfl ?_
        refine ad_goto 27 dX7_whatIs_22 (by decide) ?_
        refine ad_istore_n dX7_whatIs_27 (by decide) rfl (by dsimp only [ad_set]) ?_
        refine ad_iconst dX7_whatIs_28 ?_
        refine ad_istore_n dX7_whatIs_29 (by decide) rfl (by dsimp only [ad_set]) ?_
        refine ad_aload_n dX7_whatIs_30 rfl ?_
        refine gf_X7_25 rfl dX7_whatIs_31 ?_
        refine ad_aload_n dX7_whatIs_34 rfl ?_
        refine gf_X7_10 rfl dX7_whatIs_35 ?_
        refine ad_cv1v rfl cl_X7_151 dX7_whatIs_38 (c_X3_learn (s := 0) (by decide)) (by omega) (by show _ < 1; omega) (Nat.le_of_ble_eq_true rfl) (fun s38 q38 => ?_)
        obtain ⟨L1, L2, L3⟩ := ad_lrn q38
        have L4 := ad_c7_plan hC L1 (L3 a6.1)
        have L5 := L4.1.1
        have L6 := L5.2.2.1
        refine ad_iconst dX7_whatIs_41 ?_
        refine ad_istore dX7_whatIs_42 (by decide) rfl (by dsimp only [ad_set]) ?_
        rw [show (if w = 0 then (6 : Int) else 10) = 6 from if_pos (by omega)] at lp
        exact lp 6 0 _ _ L4 (ad_TP_fr7 L1) q38.1 (L2 _ a1.2) (by omega) (by omega) rfl (by omega) (by omega)
    · show ad_R _ _ _ _ 9 _ _ _
      refine ad_aload_n dX7_whatIs_9 rfl ?_
      refine ad_bipush dX7_whatIs_10 rfl ?_
      refine ad_cv1q rfl cl_X7_67 dX7_whatIs_12 (c_X7_refuse hC (by decide)) (by omega) (by show _ < 1; omega) (Nat.le_of_ble_eq_true rfl) (fun x12 s12 q12 => ?_)
      obtain ⟨rfl, c12, f12⟩ := q12
      exact ad_reti dX7_whatIs_15 rfl (by
        have e : ad_m_whatIs C w = ad_no C 2 := by
          unfold ad_m_whatIs
          (repeat' split) <;> first | with_reducible rfl | contradiction | (exfalso; omega) | rfl | (exfalso; simp_all; omega) | (simp_all; done)
        rw [e]
        exact ⟨rfl, c12, f12⟩)
