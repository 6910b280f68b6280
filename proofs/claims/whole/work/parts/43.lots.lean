/-! ===== draws, lots ===== -/
def ad_nz (z : Int) : Int := z * 1664525 + 1013904223
def ad_bl (z m : Int) : Int := ad_and (ad_nz z) 2147483647 / 256 % m
theorem ad_and_pos (x : Int) : 0 ≤ ad_and x 2147483647 ∧ ad_and x 2147483647 ≤ 2147483647 := by
  have h1 : Int32.ofInt x = Int32.ofInt (((Int32.ofInt x).toBitVec.toNat : Nat) : Int) := by
    rw [ad_iN, ← Int32.toBitVec_inj]
    show _ = BitVec.ofNat 32 _
    rw [BitVec.ofNat_toNat]
    simp
  have h2 : ad_and x 2147483647 = ad_and ((2147483647 : Nat) : Int) (((Int32.ofInt x).toBitVec.toNat : Nat) : Int) := by
    unfold ad_and
    rw [← h1, Int32.and_comm]
    rfl
  have h3 : (2147483647 &&& (Int32.ofInt x).toBitVec.toNat) ≤ 2147483647 := Nat.and_le_left
  rw [h2, ad_and_n (by decide)]
  omega
theorem ad_bl_rng (z : Int) {m : Int} (hm : 0 < m) : 0 ≤ ad_bl z m ∧ ad_bl z m < m := ⟨Int.emod_nonneg _ (by omega), Int.emod_lt_of_pos _ hm⟩
theorem ad_pp_zero {p : Nat → Bool} : ∀ n, ad_pp p n = 0 → ∀ i, i < n → p i = false
  | 0, _, _, h => absurd h (Nat.not_lt_zero _)
  | n + 1, h, i, hi => by
    rw [ad_pp] at h
    by_cases hp : p n = true
    · rw [if_pos hp] at h; omega
    · by_cases hin : i = n
      · rw [hin]; exact Bool.eq_false_iff.mpr hp
      · exact ad_pp_zero n (by omega) i (by omega)
theorem ad_pp_bits {p : Nat → Bool} (h : ad_bits p ≠ 0) : 0 < ad_pp p 10 := by
  rcases Nat.eq_zero_or_pos (ad_pp p 10) with h0 | h0
  · exfalso
    apply h
    rw [← ad_bits_0]
    exact ad_bits_congr (fun i hi => ad_pp_zero 10 h0 i hi)
  · exact h0
def ad_lv1 (A : ad_Ar) (z : Int) : Nat := ad_nth (ad_aH A) 10 0 (ad_bl z (ad_pp (ad_aH A) 10 : Nat)).toNat
def ad_lt1 (A : ad_Ar) (z : Int) : ad_Ar := ad_add A (ad_edl (ad_aL A (ad_lv1 A z)) (ad_bl (ad_nz z) (ad_aL A (ad_lv1 A z)).length).toNat (ad_bl (ad_nz (ad_nz z)) 8)) (ad_lv1 A z : Int) (-1)
def ad_lt : Nat → ad_Ar → Int → ad_Ar × Int
  | 0, A, z => (A, z)
  | n + 1, A, z => if ad_aC A < 10 then (if ad_bits (ad_aH A) = 0 then ad_lt n (ad_add A [0] (-1) (-1)) z else ad_lt n (ad_lt1 A z) (ad_nz (ad_nz (ad_nz z)))) else (A, z)
theorem ad_c7_tr {σ m : ad_Mem} {C : ad_C7} {T : ad_Ar} (h : ad_c7 σ C) (hf : ad_fr (fun k i => ad_Ts 2 k i ∨ k = 1) σ m) (hr : ad_rC m 2 T) : ad_c7 m C ∧ ad_fr ad_f7 σ m := by
  have ev : ∀ k i, ¬ (ad_Ts 2 k i ∨ k = 1) → m k i = σ k i := hf
  refine ⟨ad_c7_same h (hf.mono (fun k i z => by unfold ad_TX; rcases z with z | z; exact Or.inr (Or.inr (Or.inr z)); exact Or.inl (Or.inl z))) (fun k i hk => ev k i (fun z => by unfold ad_Ts at hk z; omega)) hr.K (ad_dr_congr ?_ ?_ h.2.2.2.2.2.1.1) (ad_dr_congr ?_ ?_ h.2.2.2.2.2.1.2), hf.mono (fun k i z => by unfold ad_Ts at z; unfold ad_f7; omega)⟩
  all_goals exact ev _ _ (fun z => by unfold ad_Ts at z; omega)
theorem ad_nth0 {H : Nat → Bool} {k : Nat} (h : k < ad_pp H 10) : ad_nth H 10 0 k < 10 ∧ H (ad_nth H 10 0 k) = true := by
  have := ad_nth_in H 10 0 k (by show 0 + k < ad_pp H (0 + 10); rw [show 0 + 10 = 10 from rfl]; omega)
  exact ⟨by omega, this.2.1⟩
theorem c_X1_below {g : ad_G} {d : Nat} {σ : ad_Mem} {z m : Int} (hz : σ 1 0 0 = z) (hm : 1 ≤ m ∧ m ≤ 2147483647) : ad_Q g mX1_below d [ad_rf g 1 0, ad_iv m] σ (fun x s => x = ad_iv (ad_bl z m) ∧ s 1 0 0 = ad_nz z ∧ ∀ k i, k ≠ 1 → s k i = σ k i) := by
  refine ad_M1 (k := 0) rfl (by simp [Value.category]) rfl (Nat.le_of_ble_eq_true rfl) ?_
  simp only [List.map_cons, List.map_nil, List.replicate, List.cons_append, List.nil_append]
  refine ad_aload_n dX1_below_0 rfl ?_
  refine ad_aload_n dX1_below_1 rfl ?_
  refine gf_X1_9 rfl dX1_below_2 ?_
  refine ad_ldc (n := 1664525) dX1_below_5 kc_X1_15 ?_
  refine ad_imul dX1_below_7 ?_
  refine ad_ldc (n := 1013904223) dX1_below_8 kc_X1_16 ?_
  refine ad_iadd dX1_below_10 ?_
  refine pf_X1_9 rfl dX1_below_11 ?_
  refine ad_iload_n dX1_below_14 rfl ?_
  refine ad_if_le 34 dX1_below_15 (by decide) (by omega) (fun h15 => ?_) (fun h15 => ?_)
  · skip
    refine ad_iconst dX1_below_34 ?_
    exact ad_reti dX1_below_35 rfl (by exfalso; omega)
  · show ad_R _ _ _ _ 18 _ _ _
    refine ad_aload_n dX1_below_18 rfl ?_
    refine gf_X1_9 rfl dX1_below_19 ?_
    rw [show ∀ (a : ad_Mem) x, ad_st a 1 0 0 x 1 0 0 = x from fun a x => by simp [ad_st], hz]
    rw [show z * 1664525 + 1013904223 = ad_nz z from rfl]
    have hap := ad_and_pos (ad_nz z)
    refine ad_ldc (n := 2147483647) dX1_below_22 kc_X1_17 ?_
    refine ad_iand dX1_below_24 ?_
    refine ad_sipush dX1_below_25 rfl ?_
    refine ad_idiv dX1_below_28 (by omega) (by omega) ?_
    rw [ad_div_h hap.1 hap.2 (by omega) (by omega)]
    have hd0 := Int.ediv_nonneg hap.1 (show (0 : Int) ≤ 256 by omega)
    have hd1 := Int.ediv_le_self (256 : Int) hap.1
    refine ad_iload_n dX1_below_29 rfl ?_
    refine ad_irem dX1_below_30 (by omega) (by omega) ?_
    rw [ad_rem_h hd0 (by omega) (by omega) (by omega)]
    refine ad_goto 35 dX1_below_31 (by decide) ?_
    exact ad_reti dX1_below_35 rfl (⟨rfl, by simp [ad_st], fun k i hk => by funext c; simp [ad_st, hk]⟩)
theorem c_X7_drawLot {g : ad_G} {d : Nat} {σ : ad_Mem} {C : ad_C7} {z : Int} (hC : ad_c7 σ C) (h6d : 6 ≤ d) (hz : σ 1 0 0 = z) : ad_V g mX7_drawLot d [ad_rf g 7 0] σ (fun m => ad_c7 m C ∧ ad_fr ad_f7 σ m ∧ m 1 0 0 = (ad_lt 6 (ad_cA C) z).2 ∧ m 3 0 10 = ad_all (ad_rp (ad_lt 6 (ad_cA C) z).1) ∧ m 3 0 12 = (ad_pp (ad_whl (ad_rp (ad_lt 6 (ad_cA C) z).1)) 10 : Nat)) := by
  have hC0 := hC
  obtain ⟨a1, a2, a3, a4, a5, a6, a7, a8, a9⟩ := hC0
  obtain ⟨z1, z2, z3, z4⟩ := ad_c7_sz hC
  obtain ⟨r1, r2, r3, r4, r5, r6, r7, r8⟩ := a1.1
  obtain ⟨w1, w2, w3, w4, w5, w6, w7, w8, w9⟩ := a1.2
  refine ad_M1 (k := 3) rfl (by simp [Value.category]) rfl (Nat.le_of_ble_eq_true rfl) ?_
  simp only [List.map_cons, List.map_nil, List.replicate, List.cons_append, List.nil_append]
  have fin : ∀ (u v : Option Value) (i : Int) (T : ad_Ar) (σ1 : ad_Mem), ad_c7 σ1 C → ad_fr ad_f7 σ σ1 → ad_rC σ1 2 T → ad_wA T → ad_lt 6 (ad_cA C) z = (T, σ1 1 0 0) → ad_R g mX7_drawLot d (ad_ZV mX7_drawLot (fun m => ad_c7 m C ∧ ad_fr ad_f7 σ m ∧ m 1 0 0 = (ad_lt 6 (ad_cA C) z).2 ∧ m 3 0 10 = ad_all (ad_rp (ad_lt 6 (ad_cA C) z).1) ∧ m 3 0 12 = (ad_pp (ad_whl (ad_rp (ad_lt 6 (ad_cA C) z).1)) 10 : Nat))) 116 [some (ad_rf g 7 0), some (ad_iv i), u, v] [] σ1 := by
    intro u v i T σ1 c1 f1 t1 t2 e
    have w8 := t2.2.2.2.2.2.2.2.1
    refine ad_aload_n dX7_drawLot_116 rfl ?_
    refine gf_X7_25 rfl dX7_drawLot_117 ?_
    refine ad_aload_n dX7_drawLot_120 rfl ?_
    refine gf_X7_19 rfl dX7_drawLot_121 ?_
    refine ad_cv1v rfl cl_X7_151 dX7_drawLot_124 (c_X3_learn (s := 2) (by decide)) (by omega) (by show _ < 1; omega) (Nat.le_of_ble_eq_true rfl) (fun s124 q124 => ?_)
    obtain ⟨L1, L2, L3⟩ := ad_lrn q124
    have L4 := ad_c7_plan c1 L1 (L3 c1.2.2.2.2.2.1.1)
    have L5 : ad_rC s124 2 T := ad_rC_congr t2 (fun k i hk => L1 k i (fun z => by unfold ad_Ts at hk; unfold ad_TP at z; omega)) t1
    have L6 := L5.2.2.1
    refine ad_aload_n dX7_drawLot_127 rfl ?_
    refine gf_X7_25 rfl dX7_drawLot_128 ?_
    refine ad_aload_n dX7_drawLot_131 rfl ?_
    refine gf_X7_19 rfl dX7_drawLot_132 ?_
    refine gf_X7_142 rfl (by omega) dX7_drawLot_135 ?_
    rw [L6.1]
    refine ad_aload_n dX7_drawLot_138 rfl ?_
    refine gf_X7_19 rfl dX7_drawLot_139 ?_
    refine gf_X7_145 rfl (by omega) dX7_drawLot_142 ?_
    rw [L6.2.1]
    refine ad_aload_n dX7_drawLot_145 rfl ?_
    refine gf_X7_19 rfl dX7_drawLot_146 ?_
    refine gf_X7_148 rfl (by omega) dX7_drawLot_149 ?_
    rw [L6.2.2]
    refine ad_cv3v rfl cl_X7_154 dX7_drawLot_152 (c_X3_make (s := 2) (by decide) L5 t2 (by omega) q124.1 w8.1 w8.2.1 w8.2.2 (L2 _ t2) (L3 c1.2.2.2.2.2.1.1)) (by omega) (by show _ < 1; omega) (Nat.le_of_ble_eq_true rfl) (fun s152 q152 => ?_)
    obtain ⟨M1, M2, M3⟩ := ad_pS_all t2 w8.2.1.1 w8.2.2 q152.1
    have M4 := ad_c7_pS L4 q152.2 q152.1
    exact ad_retv dX7_drawLot_155 rfl (by
      rw [e]
      refine ⟨M4, f1.trans ((ad_TP_fr7 L1).trans (ad_TP_fr7 q152.2)), ?_, M1, M3⟩
      rw [q152.2 1 0 (fun z => by unfold ad_TP at z; omega), L1 1 0 (fun z => by unfold ad_TP at z; omega)])
  have lp : ∀ (n : Nat) (u v : Option Value) (i : Int) (T : ad_Ar) (σ1 : ad_Mem), (0 ≤ i) → (i ≤ 6) → (ad_c7 σ1 C) → (ad_fr ad_f7 σ σ1) → (ad_rC σ1 2 T) → (ad_wA T) → (ad_lt (6 - i.toNat) T (σ1 1 0 0) = ad_lt 6 (ad_cA C) z) → (6 - i).toNat ≤ n → ad_R g mX7_drawLot d (ad_ZV mX7_drawLot (fun m => ad_c7 m C ∧ ad_fr ad_f7 σ m ∧ m 1 0 0 = (ad_lt 6 (ad_cA C) z).2 ∧ m 3 0 10 = ad_all (ad_rp (ad_lt 6 (ad_cA C) z).1) ∧ m 3 0 12 = (ad_pp (ad_whl (ad_rp (ad_lt 6 (ad_cA C) z).1)) 10 : Nat))) 13 [some (ad_rf g 7 0), some (ad_iv i), u, v] [] σ1 := by
    intro n
    induction n with
    | zero =>
      intro u v i T σ1 i0 i1 c1 f1 t1 t2 hI hn
      refine ad_iload_n dX7_drawLot_13 rfl ?_
      refine ad_bipush dX7_drawLot_14 rfl ?_
      refine ad_icmp_ge 116 dX7_drawLot_16 (by decide) (by omega) (by omega) (fun h16 => ?_) (fun h16 => ?_)
      · skip
        have e : ad_lt 6 (ad_cA C) z = (T, σ1 1 0 0) := by
          rw [← hI]
          rw [show 6 - i.toNat = 0 by omega, ad_lt]
        exact fin u v i T σ1 c1 f1 t1 t2 e
      · show ad_R _ _ _ _ 19 _ _ _
        exfalso; omega
    | succ n ih =>
      intro u v i T σ1 i0 i1 c1 f1 t1 t2 hI hn
      refine ad_iload_n dX7_drawLot_13 rfl ?_
      refine ad_bipush dX7_drawLot_14 rfl ?_
      refine ad_icmp_ge 116 dX7_drawLot_16 (by decide) (by omega) (by omega) (fun h16 => ?_) (fun h16 => ?_)
      · skip
        have e : ad_lt 6 (ad_cA C) z = (T, σ1 1 0 0) := by
          rw [← hI]
          rw [show 6 - i.toNat = 0 by omega, ad_lt]
        exact fin u v i T σ1 c1 f1 t1 t2 e
      · show ad_R _ _ _ _ 19 _ _ _
        refine ad_aload_n dX7_drawLot_19 rfl ?_
        refine gf_X7_19 rfl dX7_drawLot_20 ?_
        refine ad_cv0f rfl cl_X7_122 dX7_drawLot_23 (c_X4_hasRoom (by decide) t1 t2) (by omega) (by show _ < 3; omega) (Nat.le_of_ble_eq_true rfl) ?_
        refine ad_ifp_eq 116 dX7_drawLot_26 (by decide) (fun h26 => ?_) (fun h26 => ?_)
        · skip
          have e : ad_lt 6 (ad_cA C) z = (T, σ1 1 0 0) := by
            rw [← hI]
            rw [show 6 - i.toNat = (5 - i.toNat) + 1 by omega, ad_lt, if_neg h26]
          exact fin u v i T σ1 c1 f1 t1 t2 e
        · show ad_R _ _ _ _ 29 _ _ _
          refine ad_aload_n dX7_drawLot_29 rfl ?_
          refine gf_X7_19 rfl dX7_drawLot_30 ?_
          refine gf_X7_233 rfl (by omega) dX7_drawLot_33 ?_
          rw [t1.2.1]
          refine ad_if_ne 50 dX7_drawLot_36 (by decide) (by have := ad_bits_lt (ad_aH T); omega) (fun h36 => ?_) (fun h36 => ?_)
          · skip
            have hne : ad_bits (ad_aH T) ≠ 0 := by omega
            have hpp := ad_pp_bits hne
            have hpl := ad_pp_le (ad_aH T) 10
            have hb1 := ad_bl_rng (σ1 1 0 0) (m := ((ad_pp (ad_aH T) 10 : Nat) : Int)) (by omega)
            have hnt := ad_nth0 (H := ad_aH T) (k := (ad_bl (σ1 1 0 0) ((ad_pp (ad_aH T) 10 : Nat) : Int)).toNat) (by omega)
            obtain ⟨V, hV⟩ : ∃ V, V = ad_lv1 T (σ1 1 0 0) := ⟨_, rfl⟩
            change (ad_nth (ad_aH T) 10 0 (ad_bl (σ1 1 0 0) (ad_pp (ad_aH T) 10 : Nat)).toNat) < 10 ∧ ad_aH T (ad_nth (ad_aH T) 10 0 (ad_bl (σ1 1 0 0) (ad_pp (ad_aH T) 10 : Nat)).toNat) = true at hnt
            rw [show (ad_nth (ad_aH T) 10 0 (ad_bl (σ1 1 0 0) (ad_pp (ad_aH T) 10 : Nat)).toNat) = V from hV.symm] at hnt
            have hl := (t2.2.2.1 V hnt.2).1
            have hb2 := ad_bl_rng (ad_nz (σ1 1 0 0)) (m := ((ad_aL T V).length : Int)) (by omega)
            have hb3 := ad_bl_rng (ad_nz (ad_nz (σ1 1 0 0))) (m := 8) (by omega)
            refine ad_aload_n dX7_drawLot_50 rfl ?_
            refine gf_X7_19 rfl dX7_drawLot_51 ?_
            refine ad_aload_n dX7_drawLot_54 rfl ?_
            refine gf_X7_55 rfl dX7_drawLot_55 ?_
            refine ad_aload_n dX7_drawLot_58 rfl ?_
            refine gf_X7_19 rfl dX7_drawLot_59 ?_
            refine gf_X7_233 rfl (by omega) dX7_drawLot_62 ?_
            rw [t1.2.1]
            refine ad_cs1f rfl cl_X7_254 dX7_drawLot_65 (c_bitCount (ad_bits_lt _)) (by omega) (Nat.le_of_ble_eq_true rfl) ?_
            rw [ad_ones_bits]
            refine ad_cv1q rfl cl_X7_292 dX7_drawLot_68 (c_X1_below (z := σ1 1 0 0) rfl (by omega)) (by omega) (by show _ < 1; omega) (Nat.le_of_ble_eq_true rfl) (fun x68 s68 q68 => ?_)
            obtain ⟨rfl, q68b, q68c⟩ := q68
            have k68 : ∀ k i, k ≠ 1 → s68 k i = σ1 k i := q68c
            have tr68 : ad_rC s68 2 T := ad_rC_congr t2 (fun k i hk => k68 k i (fun z => by unfold ad_Ts at hk; omega)) t1
            refine ad_cv1f rfl cl_X7_295 dX7_drawLot_71 ((by
              have hz := c_X4_heldAt (g := g) (d := d - 1) (k := (ad_bl (σ1 1 0 0) ((ad_pp (ad_aH T) 10 : Nat) : Int)).toNat) (by decide) tr68 t2 (by omega) (by omega)
              rw [Int.toNat_of_nonneg hb1.1, show (ad_nth (ad_aH T) 10 0 (ad_bl (σ1 1 0 0) (ad_pp (ad_aH T) 10 : Nat)).toNat) = V from hV.symm] at hz
              exact hz)) (by omega) (by show _ < 3; omega) (Nat.le_of_ble_eq_true rfl) ?_
            refine ad_istore_n dX7_drawLot_74 (by decide) rfl (by dsimp only [ad_set]) ?_
            refine ad_aload_n dX7_drawLot_75 rfl ?_
            refine gf_X7_55 rfl dX7_drawLot_76 ?_
            refine ad_aload_n dX7_drawLot_79 rfl ?_
            refine gf_X7_19 rfl dX7_drawLot_80 ?_
            refine ad_iload_n dX7_drawLot_83 rfl ?_
            refine ad_cv1f rfl cl_X7_298 dX7_drawLot_84 (c_X4_lettersOf (by decide) tr68 t2 hnt.2 (by omega)) (by omega) (by show _ < 3; omega) (Nat.le_of_ble_eq_true rfl) ?_
            refine ad_cv1q rfl cl_X7_292 dX7_drawLot_87 (c_X1_below (z := ad_nz (σ1 1 0 0)) q68b (by omega)) (by omega) (by show _ < 1; omega) (Nat.le_of_ble_eq_true rfl) (fun x87 s87 q87 => ?_)
            obtain ⟨rfl, q87b, q87c⟩ := q87
            have k87 : ∀ k i, k ≠ 1 → s87 k i = σ1 k i := fun k i hk => (q87c k i hk).trans (k68 k i hk)
            have tr87 : ad_rC s87 2 T := ad_rC_congr t2 (fun k i hk => k87 k i (fun z => by unfold ad_Ts at hk; omega)) t1
            refine ad_istore_n dX7_drawLot_90 (by decide) rfl (by dsimp only [ad_set]) ?_
            refine ad_aload_n dX7_drawLot_91 rfl ?_
            refine gf_X7_19 rfl dX7_drawLot_92 ?_
            refine ad_iload_n dX7_drawLot_95 rfl ?_
            refine ad_iload_n dX7_drawLot_96 rfl ?_
            refine ad_aload_n dX7_drawLot_97 rfl ?_
            refine gf_X7_55 rfl dX7_drawLot_98 ?_
            refine ad_bipush dX7_drawLot_101 rfl ?_
            refine ad_cv1q rfl cl_X7_292 dX7_drawLot_103 (c_X1_below (z := ad_nz (ad_nz (σ1 1 0 0))) q87b (by omega)) (by omega) (by show _ < 1; omega) (Nat.le_of_ble_eq_true rfl) (fun x103 s103 q103 => ?_)
            obtain ⟨rfl, q103b, q103c⟩ := q103
            have k103 : ∀ k i, k ≠ 1 → s103 k i = σ1 k i := fun k i hk => (q103c k i hk).trans (k87 k i hk)
            have tr103 : ad_rC s103 2 T := ad_rC_congr t2 (fun k i hk => k103 k i (fun z => by unfold ad_Ts at hk; omega)) t1
            refine ad_cv3q rfl cl_X7_125 dX7_drawLot_106 (c_X4_comesEdited (by decide) tr103 t2 (by omega) h26 hnt.2 ⟨hb2.1, by omega⟩ ⟨hb3.1, by omega⟩ (fun q => by omega) (by omega)) (by omega) (by show _ < 3; omega) (Nat.le_of_ble_eq_true rfl) (fun x106 s106 q106 => ?_)
            obtain ⟨rfl, p1, p2⟩ := q106
            refine ad_pop dX7_drawLot_109 rfl ?_
            refine ad_iinc dX7_drawLot_110 rfl (by decide) rfl (by dsimp only [ad_set]) ?_
            refine ad_goto 13 dX7_drawLot_113 (by decide) ?_
            have e : ad_lt (6 - (i + 1).toNat) (ad_add T (ad_edl (ad_aL T V) (ad_bl (ad_nz (σ1 1 0 0)) ((ad_aL T V).length : Int)).toNat (ad_bl (ad_nz (ad_nz (σ1 1 0 0))) 8)) (V : Int) (-1)) (s106 1 0 0) = ad_lt 6 (ad_cA C) z := by
              rw [← hI, show 6 - i.toNat = (6 - (i + 1).toNat) + 1 by omega, ad_lt, if_pos h26, if_neg hne, p2 1 0 (fun z => by unfold ad_Ts at z; omega), q103b]
              unfold ad_lt1
              rw [← hV]
            have hc := ad_c7_tr c1 (fun k i z => (p2 k i (fun q => z (Or.inl q))).trans (k103 k i (fun q => z (Or.inr q)))) p1
            exact ih _ _ (i + 1) _ _ (by omega) (by omega) hc.1 (f1.trans hc.2) p1 (ad_wA_add t2 h26 (ad_edl_ok hl (by omega) ⟨hb3.1, by omega⟩ (fun q => by omega) (by omega)) (by have := t2.2.1 V hnt.2; omega) (by omega)) e (by omega)
          · show ad_R _ _ _ _ 39 _ _ _
            refine ad_aload_n dX7_drawLot_39 rfl ?_
            refine gf_X7_19 rfl dX7_drawLot_40 ?_
            refine ad_cv0q rfl cl_X7_289 dX7_drawLot_43 (c_X4_comesAlone (by decide) t1 t2 (by omega) h26) (by omega) (by show _ < 3; omega) (Nat.le_of_ble_eq_true rfl) (fun x43 s43 q43 => ?_)
            obtain ⟨rfl, p1, p2⟩ := q43
            refine ad_pop dX7_drawLot_46 rfl ?_
            refine ad_goto 110 dX7_drawLot_47 (by decide) ?_
            refine ad_iinc dX7_drawLot_110 rfl (by decide) rfl (by dsimp only [ad_set]) ?_
            refine ad_goto 13 dX7_drawLot_113 (by decide) ?_
            have e : ad_lt (6 - (i + 1).toNat) (ad_add T [0] (-1) (-1)) (s43 1 0 0) = ad_lt 6 (ad_cA C) z := by
              rw [← hI, show 6 - i.toNat = (6 - (i + 1).toNat) + 1 by omega, ad_lt, if_pos h26, if_pos (by omega), p2 1 0 (fun z => by unfold ad_Ts at z; omega)]
            have hc := ad_c7_tr c1 (p2.mono (fun k i z => Or.inl z)) p1
            exact ih _ _ (i + 1) _ _ (by omega) (by omega) hc.1 (f1.trans hc.2) p1 (ad_wA_add t2 h26 (by simp) (by omega) (by omega)) e (by omega)
  refine ad_aload_n dX7_drawLot_0 rfl ?_
  refine gf_X7_19 rfl dX7_drawLot_1 ?_
  refine ad_aload_n dX7_drawLot_4 rfl ?_
  refine gf_X7_10 rfl dX7_drawLot_5 ?_
  refine ad_cv1v rfl cl_X7_89 dX7_drawLot_8 (c_X4_copyFrom (by decide) (by decide) (by decide) a1.1 a1.2 a4.2 (by omega)) (by omega) (by show _ < 3; omega) (Nat.le_of_ble_eq_true rfl) (fun s8 q8 => ?_)
  refine ad_iconst dX7_drawLot_11 ?_
  refine ad_istore_n dX7_drawLot_12 (by decide) rfl (by dsimp only [ad_set]) ?_
  have hc := ad_c7_tr hC (q8.2.mono (fun k i z => Or.inl z)) q8.1
  exact lp 6 _ _ 0 _ s8 (by omega) (by omega) hc.1 hc.2 q8.1 a1.2 (by rw [q8.2 1 0 (fun z => by unfold ad_Ts at z; omega), hz]; rfl) (by omega)
