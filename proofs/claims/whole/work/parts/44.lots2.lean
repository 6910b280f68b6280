/-! ===== lots ===== -/
def ad_zs (A : ad_Ar) (z : Int) : Nat → Int
  | 0 => z
  | n + 1 => (ad_lt 6 A (ad_zs A z n)).2
def ad_sl (A : ad_Ar) (z w : Int) : Nat → Int
  | 0 => 0
  | n + 1 => ad_sl A z w n + if w = 0 then ad_all (ad_rp (ad_lt 6 A (ad_zs A z n)).1) else (ad_pp (ad_whl (ad_rp (ad_lt 6 A (ad_zs A z n)).1)) 10 : Nat)
def ad_m_lots (C : ad_C7) (y z w : Int) : Int × ad_C7 :=
  if y < 1 then ad_no C 4 else if 20 < y then ad_no C 6 else if w < 0 ∨ 1 < w then ad_no C 2 else (ad_sl (ad_cA C) z w y.toNat, C)
theorem c_X7_lots {g : ad_G} {d : Nat} {σ : ad_Mem} {C : ad_C7} {y z w : Int} (hC : ad_c7 σ C) (hy : ad_rng y) (hw : ad_rng w) (h7d : 7 ≤ d) : ad_Q g mX7_lots d [ad_rf g 7 0, ad_iv y, ad_iv z, ad_iv w] σ (fun x m => ad_an7 σ x m (ad_m_lots C y z w)) := by
  have hC0 := hC
  obtain ⟨a1, a2, a3, a4, a5, a6, a7, a8, a9⟩ := hC0
  obtain ⟨z1, z2, z3, z4⟩ := ad_c7_sz hC
  obtain ⟨r1, r2, r3, r4, r5, r6, r7, r8⟩ := a1.1
  obtain ⟨w1, w2, w3, w4, w5, w6, w7, w8, w9⟩ := a1.2
  refine ad_M1 (k := 2) rfl (by simp [Value.category]) rfl (Nat.le_of_ble_eq_true rfl) ?_
  simp only [List.map_cons, List.map_nil, List.replicate, List.cons_append, List.nil_append]
  have lp : ∀ (n : Nat) (i : Int) (a : Int) (σ1 : ad_Mem), (0 ≤ i) → (i ≤ y) → (ad_c7 σ1 C) → (ad_fr ad_f7 σ σ1) → (σ1 1 0 0 = ad_zs (ad_cA C) z i.toNat) → (a = ad_sl (ad_cA C) z w i.toNat) → (1 ≤ y ∧ y ≤ 20) → (0 ≤ w ∧ w ≤ 1) → (y - i).toNat ≤ n → ad_R g mX7_lots d (ad_ZQ mX7_lots (fun x m => ad_an7 σ x m (ad_m_lots C y z w))) 55 [some (ad_rf g 7 0), some (ad_iv y), some (ad_iv z), some (ad_iv w), some (ad_iv a), some (ad_iv i)] [] σ1 := by
    intro n
    induction n with
    | zero =>
      intro i a σ1 i0 i1 c1 f1 hz hI ky kw hn
      refine ad_iload dX7_lots_55 rfl ?_
      refine ad_iload_n dX7_lots_57 rfl ?_
      refine ad_icmp_ge 97 dX7_lots_58 (by decide) (by omega) (by omega) (fun h58 => ?_) (fun h58 => ?_)
      · skip
        refine ad_iload dX7_lots_97 rfl ?_
        exact ad_reti dX7_lots_99 rfl (by
          have e : ad_m_lots C y z w = (ad_sl (ad_cA C) z w y.toNat, C) := by
            unfold ad_m_lots
            rw [if_neg (by omega), if_neg (by omega), if_neg (by omega)]
          rw [e, hI, show i = y by omega]
          exact ⟨rfl, c1, f1⟩)
      · show ad_R _ _ _ _ 61 _ _ _
        exfalso; omega
    | succ n ih =>
      intro i a σ1 i0 i1 c1 f1 hz hI ky kw hn
      refine ad_iload dX7_lots_55 rfl ?_
      refine ad_iload_n dX7_lots_57 rfl ?_
      refine ad_icmp_ge 97 dX7_lots_58 (by decide) (by omega) (by omega) (fun h58 => ?_) (fun h58 => ?_)
      · skip
        refine ad_iload dX7_lots_97 rfl ?_
        exact ad_reti dX7_lots_99 rfl (by
          have e : ad_m_lots C y z w = (ad_sl (ad_cA C) z w y.toNat, C) := by
            unfold ad_m_lots
            rw [if_neg (by omega), if_neg (by omega), if_neg (by omega)]
          rw [e, hI, show i = y by omega]
          exact ⟨rfl, c1, f1⟩)
      · show ad_R _ _ _ _ 61 _ _ _
        refine ad_aload_n dX7_lots_61 rfl ?_
        refine ad_cv0v rfl cl_X7_280 dX7_lots_62 (c_X7_drawLot c1 (by omega) hz) (by omega) (by show _ < 1; omega) (Nat.le_of_ble_eq_true rfl) (fun s62 q62 => ?_)
        obtain ⟨D1, D2, D3, D4, D5⟩ := q62
        refine ad_iload dX7_lots_65 rfl ?_
        refine ad_iload_n dX7_lots_67 rfl ?_
        refine ad_if_ne 81 dX7_lots_68 (by decide) (by omega) (fun h68 => ?_) (fun h68 => ?_)
        · skip
          refine ad_aload_n dX7_lots_81 rfl ?_
          refine gf_X7_25 rfl dX7_lots_82 ?_
          refine gf_X7_220 rfl dX7_lots_85 ?_
          refine ad_iadd dX7_lots_88 ?_
          refine ad_istore dX7_lots_89 (by decide) rfl (by dsimp only [ad_set]) ?_
          refine ad_iinc dX7_lots_91 rfl (by decide) rfl (by dsimp only [ad_set]) ?_
          refine ad_goto 55 dX7_lots_94 (by decide) ?_
          refine ih (i + 1) _ _ (by omega) (by omega) D1 (f1.trans D2) ?_ ?_ ky kw (by omega)
          · rw [show (i + 1).toNat = i.toNat + 1 by omega]; exact D3
          · rw [show (i + 1).toNat = i.toNat + 1 by omega, ad_sl, if_neg (by omega), ← hI, D5]
        · show ad_R _ _ _ _ 71 _ _ _
          refine ad_aload_n dX7_lots_71 rfl ?_
          refine gf_X7_25 rfl dX7_lots_72 ?_
          refine gf_X7_215 rfl dX7_lots_75 ?_
          refine ad_goto 88 dX7_lots_78 (by decide) ?_
          refine ad_iadd dX7_lots_88 ?_
          refine ad_istore dX7_lots_89 (by decide) rfl (by dsimp only [ad_set]) ?_
          refine ad_iinc dX7_lots_91 rfl (by decide) rfl (by dsimp only [ad_set]) ?_
          refine ad_goto 55 dX7_lots_94 (by decide) ?_
          refine ih (i + 1) _ _ (by omega) (by omega) D1 (f1.trans D2) ?_ ?_ ky kw (by omega)
          · rw [show (i + 1).toNat = i.toNat + 1 by omega]; exact D3
          · rw [show (i + 1).toNat = i.toNat + 1 by omega, ad_sl, if_pos (by omega), ← hI, D4]
  refine ad_iload_n dX7_lots_0 rfl ?_
  refine ad_iconst dX7_lots_1 ?_
  refine ad_icmp_ge 12 dX7_lots_2 (by decide) (by omega) (by omega) (fun h2 => ?_) (fun h2 => ?_)
  · skip
    refine ad_iload_n dX7_lots_12 rfl ?_
    refine ad_bipush dX7_lots_13 rfl ?_
    refine ad_icmp_le 25 dX7_lots_15 (by decide) (by omega) (by omega) (fun h15 => ?_) (fun h15 => ?_)
    · skip
      refine ad_iload_n dX7_lots_25 rfl ?_
      refine ad_if_lt 34 dX7_lots_26 (by decide) (by omega) (fun h26 => ?_) (fun h26 => ?_)
      · skip
        refine ad_aload_n dX7_lots_34 rfl ?_
        refine ad_bipush dX7_lots_35 rfl ?_
        refine ad_cv1q rfl cl_X7_67 dX7_lots_37 (c_X7_refuse hC (by decide)) (by omega) (by show _ < 1; omega) (Nat.le_of_ble_eq_true rfl) (fun x37 s37 q37 => ?_)
        obtain ⟨rfl, c37, f37⟩ := q37
        exact ad_reti dX7_lots_40 rfl (by
          have e : ad_m_lots C y z w = ad_no C 2 := by
            unfold ad_m_lots
            (repeat' split) <;> first | with_reducible rfl | contradiction | (exfalso; omega) | rfl | (exfalso; simp_all; omega) | (simp_all; done)
          rw [e]
          exact ⟨rfl, c37, f37⟩)
      · show ad_R _ _ _ _ 29 _ _ _
        refine ad_iload_n dX7_lots_29 rfl ?_
        refine ad_iconst dX7_lots_30 ?_
        refine ad_icmp_le 41 dX7_lots_31 (by decide) (by omega) (by omega) (fun h31 => ?_) (fun h31 => ?_)
        · skip
          refine ad_aload_n dX7_lots_41 rfl ?_
          refine gf_X7_55 rfl dX7_lots_42 ?_
          refine ad_iload_n dX7_lots_45 rfl ?_
          refine pf_X7_277 rfl dX7_lots_46 ?_
          refine ad_iconst dX7_lots_49 ?_
          refine ad_istore dX7_lots_50 (by decide) rfl (by dsimp only [ad_set]) ?_
          refine ad_iconst dX7_lots_52 ?_
          refine ad_istore dX7_lots_53 (by decide) rfl (by dsimp only [ad_set]) ?_
          have fz : ad_fr ad_TX σ (ad_st σ 1 0 0 z) := ad_fr.st (Or.inl (Or.inl rfl))
          have e1 : ∀ k i, k ≠ 1 → ad_st σ 1 0 0 z k i = σ k i := fun k i hk => by funext c; simp [ad_st, hk]
          have c1 : ad_c7 (ad_st σ 1 0 0 z) C := ad_c7_same hC fz (fun k i hk => e1 k i (fun z => by unfold ad_Ts at hk; omega)) (ad_rK_congr (fun k i hk => e1 k i (fun z => by unfold ad_Ts at hk; omega)) a4.2) (ad_dr_congr (e1 _ _ (by decide)) (e1 _ _ (by decide)) a6.1) (ad_dr_congr (e1 _ _ (by decide)) (e1 _ _ (by decide)) a6.2)
          exact lp y.toNat 0 0 _ (by omega) (by omega) c1 (ad_f7_st (by decide)) (by simp [ad_st, ad_zs]) rfl (by omega) (by omega) (by omega)
        · show ad_R _ _ _ _ 34 _ _ _
          refine ad_aload_n dX7_lots_34 rfl ?_
          refine ad_bipush dX7_lots_35 rfl ?_
          refine ad_cv1q rfl cl_X7_67 dX7_lots_37 (c_X7_refuse hC (by decide)) (by omega) (by show _ < 1; omega) (Nat.le_of_ble_eq_true rfl) (fun x37 s37 q37 => ?_)
          obtain ⟨rfl, c37, f37⟩ := q37
          exact ad_reti dX7_lots_40 rfl (by
            have e : ad_m_lots C y z w = ad_no C 2 := by
              unfold ad_m_lots
              (repeat' split) <;> first | with_reducible rfl | contradiction | (exfalso; omega) | rfl | (exfalso; simp_all; omega) | (simp_all; done)
            rw [e]
            exact ⟨rfl, c37, f37⟩)
    · show ad_R _ _ _ _ 18 _ _ _
      refine ad_aload_n dX7_lots_18 rfl ?_
      refine ad_bipush dX7_lots_19 rfl ?_
      refine ad_cv1q rfl cl_X7_67 dX7_lots_21 (c_X7_refuse hC (by decide)) (by omega) (by show _ < 1; omega) (Nat.le_of_ble_eq_true rfl) (fun x21 s21 q21 => ?_)
      obtain ⟨rfl, c21, f21⟩ := q21
      exact ad_reti dX7_lots_24 rfl (by
        have e : ad_m_lots C y z w = ad_no C 6 := by
          unfold ad_m_lots
          (repeat' split) <;> first | with_reducible rfl | contradiction | (exfalso; omega) | rfl | (exfalso; simp_all; omega) | (simp_all; done)
        rw [e]
        exact ⟨rfl, c21, f21⟩)
  · show ad_R _ _ _ _ 5 _ _ _
    refine ad_aload_n dX7_lots_5 rfl ?_
    refine ad_bipush dX7_lots_6 rfl ?_
    refine ad_cv1q rfl cl_X7_67 dX7_lots_8 (c_X7_refuse hC (by decide)) (by omega) (by show _ < 1; omega) (Nat.le_of_ble_eq_true rfl) (fun x8 s8 q8 => ?_)
    obtain ⟨rfl, c8, f8⟩ := q8
    exact ad_reti dX7_lots_11 rfl (by
      have e : ad_m_lots C y z w = ad_no C 4 := by
        unfold ad_m_lots
        (repeat' split) <;> first | with_reducible rfl | contradiction | (exfalso; omega) | rfl | (exfalso; simp_all; omega) | (simp_all; done)
      rw [e]
      exact ⟨rfl, c8, f8⟩)
