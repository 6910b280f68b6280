/-! ===== the reference's constructor ===== -/
abbrev mkeys : List (Nat × Nat) := [(8, 0), (21, 0), (22, 0), (23, 0), (24, 0), (25, 0), (26, 0), (27, 0), (28, 0), (29, 0), (30, 0), (31, 0), (32, 0), (33, 0)]
theorem mk_X8 {l : Launch} {D : va_G} {cI cV : ClassId} {d : Nat} (hd0 : 2 ≤ d) : nb_M l D cI cV mX8_init d 8 df8 [] 13 2380 (nb_B l D cI cV mkeys 8 0) := by
  refine nb_M_of 1 (by simp [Value.category]) rfl rfl rfl (Nat.le_of_ble_eq_true rfl) (fun h0 sz => ?_)
  simp only [List.map_cons, List.map_nil, List.replicate, List.cons_append, List.nil_append]
  have hend : ∀ (q1 q2 q3 q4 q5 q6 q7 q8 q9 q10 q11 q12 q13 : Nat) (f : Nat → Int32), (∀ c, f c = if 501 ≤ c ∧ c < 501 + 4 then Int32.ofInt (-9) else 0) → nb_R l D cI cV mX8_init d (va_A [(h0, .inr (8, df8))] sz) 13 2380 (nb_Z mX8_init 13 2380 h0 (nb_B l D cI cV mkeys 8 0)) 137 [some (.ref h0), some (ad_iv ((4 : Nat) : Int))] [] ((h0, .inr (8, [.ref q1, .ref q2, .ref q3, .ref q4, .ref q5, .ref q6, .ref q7, .ref q8, .ref q9, .ref q10, .ref q11, .ref q12, .ref q13, .int 0, .int 0, .int 0, .int 0, .int 0, .int 0, .int 0, .int 0])) :: (q1, .inl (cI, 520, .inl (f))) :: [(q2, .inl (cI, 520, .inl (fun _ => 0))), (q3, .inl (cI, 520, .inl (fun _ => 0))), (q4, .inl (cI, 520, .inl (fun _ => 0))), (q5, .inl (cI, 8, .inl (fun _ => 0))), (q6, .inl (cI, 96, .inl (fun _ => 0))), (q7, .inl (cI, 12, .inl (fun _ => 0))), (q8, .inl (cI, 120, .inl (fun _ => 0))), (q9, .inl (cI, 10, .inl (fun _ => 0))), (q10, .inl (cI, 24, .inl (fun _ => 0))), (q11, .inl (cI, 10, .inl (fun _ => 0))), (q12, .inl (cI, 10, .inl (fun _ => 0))), (q13, .inl (cI, 10, .inl (fun _ => 0)))]) 13 2380 := by
    intro q1 q2 q3 q4 q5 q6 q7 q8 q9 q10 q11 q12 q13 f hf
    refine nb_aload_n dX8_init_137 rfl ?_
    refine nb_get 0 rfl fl_X8_9 dX8_init_138 rfl rfl ?_
    refine nb_sipush dX8_init_141 rfl ?_
    refine nb_iconst dX8_init_144 ?_
    refine nb_iast (f := f) (N := 520) (ws1 := ((h0, .inr (8, [.ref q1, .ref q2, .ref q3, .ref q4, .ref q5, .ref q6, .ref q7, .ref q8, .ref q9, .ref q10, .ref q11, .ref q12, .ref q13, .int 0, .int 0, .int 0, .int 0, .int 0, .int 0, .int 0, .int 0])) :: (q1, .inl (cI, 520, .inl (upd f ((507 : Int)).toNat (Int32.ofInt 4)))) :: [(q2, .inl (cI, 520, .inl (fun _ => 0))), (q3, .inl (cI, 520, .inl (fun _ => 0))), (q4, .inl (cI, 520, .inl (fun _ => 0))), (q5, .inl (cI, 8, .inl (fun _ => 0))), (q6, .inl (cI, 96, .inl (fun _ => 0))), (q7, .inl (cI, 12, .inl (fun _ => 0))), (q8, .inl (cI, 120, .inl (fun _ => 0))), (q9, .inl (cI, 10, .inl (fun _ => 0))), (q10, .inl (cI, 24, .inl (fun _ => 0))), (q11, .inl (cI, 10, .inl (fun _ => 0))), (q12, .inl (cI, 10, .inl (fun _ => 0))), (q13, .inl (cI, 10, .inl (fun _ => 0)))])) 1 dX8_init_145 rfl (by decide) (by decide) (by decide) rfl ?_
    have ef : upd f ((507 : Int)).toNat (Int32.ofInt 4) = fun j => Int32.ofInt (sg0 21 0 j) := by
      funext c
      show (if c = 507 then Int32.ofInt 4 else f c) = Int32.ofInt (if 501 ≤ c ∧ c < 505 then -9 else if c = 507 then 4 else 0)
      by_cases h1 : c = 507
      · rw [if_pos h1, if_neg (by omega), if_pos h1]
      · rw [if_neg h1, hf c]
        by_cases h2 : 501 ≤ c ∧ c < 505
        · rw [if_pos h2, if_pos h2]
        · rw [if_neg h2, if_neg h2, if_neg h1]; rfl
    rw [ef]
    exact nb_stop ⟨dX8_init_146, rfl, by omega, by omega, fun k _ => if k = 8 then h0 else if k = 21 then q1 else if k = 22 then q2 else if k = 23 then q3 else if k = 24 then q4 else if k = 25 then q5 else if k = 26 then q6 else if k = 27 then q7 else if k = 28 then q8 else if k = 29 then q9 else if k = 30 then q10 else if k = 31 then q11 else if k = 32 then q12 else q13, rfl, rfl⟩
  have hloop : ∀ (q1 q2 q3 q4 q5 q6 q7 q8 q9 q10 q11 q12 q13 n i : Nat) (f : Nat → Int32), i ≤ 4 → 4 - i ≤ n → (∀ c, f c = if 501 ≤ c ∧ c < 501 + i then Int32.ofInt (-9) else 0) → nb_R l D cI cV mX8_init d (va_A [(h0, .inr (8, df8))] sz) 13 2380 (nb_Z mX8_init 13 2380 h0 (nb_B l D cI cV mkeys 8 0)) 114 [some (.ref h0), some (ad_iv (i : Int))] [] ((h0, .inr (8, [.ref q1, .ref q2, .ref q3, .ref q4, .ref q5, .ref q6, .ref q7, .ref q8, .ref q9, .ref q10, .ref q11, .ref q12, .ref q13, .int 0, .int 0, .int 0, .int 0, .int 0, .int 0, .int 0, .int 0])) :: (q1, .inl (cI, 520, .inl (f))) :: [(q2, .inl (cI, 520, .inl (fun _ => 0))), (q3, .inl (cI, 520, .inl (fun _ => 0))), (q4, .inl (cI, 520, .inl (fun _ => 0))), (q5, .inl (cI, 8, .inl (fun _ => 0))), (q6, .inl (cI, 96, .inl (fun _ => 0))), (q7, .inl (cI, 12, .inl (fun _ => 0))), (q8, .inl (cI, 120, .inl (fun _ => 0))), (q9, .inl (cI, 10, .inl (fun _ => 0))), (q10, .inl (cI, 24, .inl (fun _ => 0))), (q11, .inl (cI, 10, .inl (fun _ => 0))), (q12, .inl (cI, 10, .inl (fun _ => 0))), (q13, .inl (cI, 10, .inl (fun _ => 0)))]) 13 2380 := by
    intro q1 q2 q3 q4 q5 q6 q7 q8 q9 q10 q11 q12 q13 n
    induction n with
    | zero =>
      intro i f hi hn hf
      refine nb_iload_n dX8_init_114 rfl ?_
      refine nb_iconst dX8_init_115 ?_
      refine nb_icmp_ge 137 dX8_init_116 (by decide) (by constructor <;> omega) (by decide) (fun h => ?_) (fun h => ?_)
      · obtain rfl : i = 4 := by omega
        exact hend q1 q2 q3 q4 q5 q6 q7 q8 q9 q10 q11 q12 q13 f hf
      · exfalso; omega
    | succ n ih =>
      intro i f hi hn hf
      refine nb_iload_n dX8_init_114 rfl ?_
      refine nb_iconst dX8_init_115 ?_
      refine nb_icmp_ge 137 dX8_init_116 (by decide) (by constructor <;> omega) (by decide) (fun h => ?_) (fun h => ?_)
      · obtain rfl : i = 4 := by omega
        exact hend q1 q2 q3 q4 q5 q6 q7 q8 q9 q10 q11 q12 q13 f hf
      · refine nb_aload_n dX8_init_119 rfl ?_
        refine nb_get 0 rfl fl_X8_9 dX8_init_120 rfl rfl ?_
        refine nb_sipush dX8_init_123 rfl ?_
        refine nb_iload_n dX8_init_126 rfl ?_
        refine nb_iadd dX8_init_127 ?_
        refine nb_bipush dX8_init_128 rfl ?_
        refine nb_iast (f := f) (N := 520) (ws1 := ((h0, .inr (8, [.ref q1, .ref q2, .ref q3, .ref q4, .ref q5, .ref q6, .ref q7, .ref q8, .ref q9, .ref q10, .ref q11, .ref q12, .ref q13, .int 0, .int 0, .int 0, .int 0, .int 0, .int 0, .int 0, .int 0])) :: (q1, .inl (cI, 520, .inl (upd f (501 + (i : Int)).toNat (Int32.ofInt (-9))))) :: [(q2, .inl (cI, 520, .inl (fun _ => 0))), (q3, .inl (cI, 520, .inl (fun _ => 0))), (q4, .inl (cI, 520, .inl (fun _ => 0))), (q5, .inl (cI, 8, .inl (fun _ => 0))), (q6, .inl (cI, 96, .inl (fun _ => 0))), (q7, .inl (cI, 12, .inl (fun _ => 0))), (q8, .inl (cI, 120, .inl (fun _ => 0))), (q9, .inl (cI, 10, .inl (fun _ => 0))), (q10, .inl (cI, 24, .inl (fun _ => 0))), (q11, .inl (cI, 10, .inl (fun _ => 0))), (q12, .inl (cI, 10, .inl (fun _ => 0))), (q13, .inl (cI, 10, .inl (fun _ => 0)))])) 1 dX8_init_130 rfl (by omega) (by omega) (by omega) rfl ?_
        refine nb_iinc dX8_init_131 rfl (by decide) rfl (by dsimp only [ad_set]) ?_
        refine nb_goto 114 dX8_init_134 (by decide) ?_
        exact ih (i + 1) _ (by omega) (by omega) (fun c => by
          show (if c = (501 + (i : Int)).toNat then Int32.ofInt (-9) else f c) = _
          by_cases hc : c = (501 + (i : Int)).toNat
          · rw [if_pos hc, if_pos (by omega)]
          · rw [if_neg hc, hf c]
            by_cases h2 : 501 ≤ c ∧ c < 501 + i
            · rw [if_pos h2, if_pos (by omega)]
            · rw [if_neg h2, if_neg (by omega)])
  refine nb_aload_n dX8_init_0 rfl ?_
  refine nb_objInit nl_X8_obj nw_oi nw_oc dX8_init_1 (by omega) (Nat.le_of_ble_eq_true rfl) ?_
  refine nb_aload_n dX8_init_4 rfl ?_
  refine nb_sipush dX8_init_5 rfl ?_
  refine nb_newa (N := 520) dX8_init_8 nw_ai (by omega) (by omega) (by omega) (by omega) (fun q1 => ?_)
  refine nb_put (ws1 := ((h0, .inr (8, [.ref q1, .null, .null, .null, .null, .null, .null, .null, .null, .null, .null, .null, .null, .int 0, .int 0, .int 0, .int 0, .int 0, .int 0, .int 0, .int 0])) :: ([] ++ [(q1, .inl (cI, 520, .inl (fun _ => 0)))]))) 0 rfl fl_X8_9 tyX8 tyX8_ok nmX8 (by first | exact Or.inl rfl | exact Or.inr ⟨rfl, rfl⟩) rfl rfl rfl (Nat.le_of_ble_eq_true rfl) dX8_init_10 rfl ?_
  refine nb_aload_n dX8_init_13 rfl ?_
  refine nb_sipush dX8_init_14 rfl ?_
  refine nb_newa (N := 520) dX8_init_17 nw_ai (by omega) (by omega) (by omega) (by omega) (fun q2 => ?_)
  refine nb_put (ws1 := ((h0, .inr (8, [.ref q1, .ref q2, .null, .null, .null, .null, .null, .null, .null, .null, .null, .null, .null, .int 0, .int 0, .int 0, .int 0, .int 0, .int 0, .int 0, .int 0])) :: (([] ++ [(q1, .inl (cI, 520, .inl (fun _ => 0)))]) ++ [(q2, .inl (cI, 520, .inl (fun _ => 0)))]))) 0 rfl fl_X8_13 tyX8 tyX8_ok nmX8 (by first | exact Or.inl rfl | exact Or.inr ⟨rfl, rfl⟩) rfl rfl rfl (Nat.le_of_ble_eq_true rfl) dX8_init_19 rfl ?_
  refine nb_aload_n dX8_init_22 rfl ?_
  refine nb_sipush dX8_init_23 rfl ?_
  refine nb_newa (N := 520) dX8_init_26 nw_ai (by omega) (by omega) (by omega) (by omega) (fun q3 => ?_)
  refine nb_put (ws1 := ((h0, .inr (8, [.ref q1, .ref q2, .ref q3, .null, .null, .null, .null, .null, .null, .null, .null, .null, .null, .int 0, .int 0, .int 0, .int 0, .int 0, .int 0, .int 0, .int 0])) :: ((([] ++ [(q1, .inl (cI, 520, .inl (fun _ => 0)))]) ++ [(q2, .inl (cI, 520, .inl (fun _ => 0)))]) ++ [(q3, .inl (cI, 520, .inl (fun _ => 0)))]))) 0 rfl fl_X8_16 tyX8 tyX8_ok nmX8 (by first | exact Or.inl rfl | exact Or.inr ⟨rfl, rfl⟩) rfl rfl rfl (Nat.le_of_ble_eq_true rfl) dX8_init_28 rfl ?_
  refine nb_aload_n dX8_init_31 rfl ?_
  refine nb_sipush dX8_init_32 rfl ?_
  refine nb_newa (N := 520) dX8_init_35 nw_ai (by omega) (by omega) (by omega) (by omega) (fun q4 => ?_)
  refine nb_put (ws1 := ((h0, .inr (8, [.ref q1, .ref q2, .ref q3, .ref q4, .null, .null, .null, .null, .null, .null, .null, .null, .null, .int 0, .int 0, .int 0, .int 0, .int 0, .int 0, .int 0, .int 0])) :: (((([] ++ [(q1, .inl (cI, 520, .inl (fun _ => 0)))]) ++ [(q2, .inl (cI, 520, .inl (fun _ => 0)))]) ++ [(q3, .inl (cI, 520, .inl (fun _ => 0)))]) ++ [(q4, .inl (cI, 520, .inl (fun _ => 0)))]))) 0 rfl fl_X8_19 tyX8 tyX8_ok nmX8 (by first | exact Or.inl rfl | exact Or.inr ⟨rfl, rfl⟩) rfl rfl rfl (Nat.le_of_ble_eq_true rfl) dX8_init_37 rfl ?_
  refine nb_aload_n dX8_init_40 rfl ?_
  refine nb_bipush dX8_init_41 rfl ?_
  refine nb_newa (N := 8) dX8_init_43 nw_ai (by omega) (by omega) (by omega) (by omega) (fun q5 => ?_)
  refine nb_put (ws1 := ((h0, .inr (8, [.ref q1, .ref q2, .ref q3, .ref q4, .ref q5, .null, .null, .null, .null, .null, .null, .null, .null, .int 0, .int 0, .int 0, .int 0, .int 0, .int 0, .int 0, .int 0])) :: ((((([] ++ [(q1, .inl (cI, 520, .inl (fun _ => 0)))]) ++ [(q2, .inl (cI, 520, .inl (fun _ => 0)))]) ++ [(q3, .inl (cI, 520, .inl (fun _ => 0)))]) ++ [(q4, .inl (cI, 520, .inl (fun _ => 0)))]) ++ [(q5, .inl (cI, 8, .inl (fun _ => 0)))]))) 0 rfl fl_X8_22 tyX8 tyX8_ok nmX8 (by first | exact Or.inl rfl | exact Or.inr ⟨rfl, rfl⟩) rfl rfl rfl (Nat.le_of_ble_eq_true rfl) dX8_init_45 rfl ?_
  refine nb_aload_n dX8_init_48 rfl ?_
  refine nb_bipush dX8_init_49 rfl ?_
  refine nb_newa (N := 96) dX8_init_51 nw_ai (by omega) (by omega) (by omega) (by omega) (fun q6 => ?_)
  refine nb_put (ws1 := ((h0, .inr (8, [.ref q1, .ref q2, .ref q3, .ref q4, .ref q5, .ref q6, .null, .null, .null, .null, .null, .null, .null, .int 0, .int 0, .int 0, .int 0, .int 0, .int 0, .int 0, .int 0])) :: (((((([] ++ [(q1, .inl (cI, 520, .inl (fun _ => 0)))]) ++ [(q2, .inl (cI, 520, .inl (fun _ => 0)))]) ++ [(q3, .inl (cI, 520, .inl (fun _ => 0)))]) ++ [(q4, .inl (cI, 520, .inl (fun _ => 0)))]) ++ [(q5, .inl (cI, 8, .inl (fun _ => 0)))]) ++ [(q6, .inl (cI, 96, .inl (fun _ => 0)))]))) 0 rfl fl_X8_25 tyX8 tyX8_ok nmX8 (by first | exact Or.inl rfl | exact Or.inr ⟨rfl, rfl⟩) rfl rfl rfl (Nat.le_of_ble_eq_true rfl) dX8_init_53 rfl ?_
  refine nb_aload_n dX8_init_56 rfl ?_
  refine nb_bipush dX8_init_57 rfl ?_
  refine nb_newa (N := 12) dX8_init_59 nw_ai (by omega) (by omega) (by omega) (by omega) (fun q7 => ?_)
  refine nb_put (ws1 := ((h0, .inr (8, [.ref q1, .ref q2, .ref q3, .ref q4, .ref q5, .ref q6, .ref q7, .null, .null, .null, .null, .null, .null, .int 0, .int 0, .int 0, .int 0, .int 0, .int 0, .int 0, .int 0])) :: ((((((([] ++ [(q1, .inl (cI, 520, .inl (fun _ => 0)))]) ++ [(q2, .inl (cI, 520, .inl (fun _ => 0)))]) ++ [(q3, .inl (cI, 520, .inl (fun _ => 0)))]) ++ [(q4, .inl (cI, 520, .inl (fun _ => 0)))]) ++ [(q5, .inl (cI, 8, .inl (fun _ => 0)))]) ++ [(q6, .inl (cI, 96, .inl (fun _ => 0)))]) ++ [(q7, .inl (cI, 12, .inl (fun _ => 0)))]))) 0 rfl fl_X8_28 tyX8 tyX8_ok nmX8 (by first | exact Or.inl rfl | exact Or.inr ⟨rfl, rfl⟩) rfl rfl rfl (Nat.le_of_ble_eq_true rfl) dX8_init_61 rfl ?_
  refine nb_aload_n dX8_init_64 rfl ?_
  refine nb_bipush dX8_init_65 rfl ?_
  refine nb_newa (N := 120) dX8_init_67 nw_ai (by omega) (by omega) (by omega) (by omega) (fun q8 => ?_)
  refine nb_put (ws1 := ((h0, .inr (8, [.ref q1, .ref q2, .ref q3, .ref q4, .ref q5, .ref q6, .ref q7, .ref q8, .null, .null, .null, .null, .null, .int 0, .int 0, .int 0, .int 0, .int 0, .int 0, .int 0, .int 0])) :: (((((((([] ++ [(q1, .inl (cI, 520, .inl (fun _ => 0)))]) ++ [(q2, .inl (cI, 520, .inl (fun _ => 0)))]) ++ [(q3, .inl (cI, 520, .inl (fun _ => 0)))]) ++ [(q4, .inl (cI, 520, .inl (fun _ => 0)))]) ++ [(q5, .inl (cI, 8, .inl (fun _ => 0)))]) ++ [(q6, .inl (cI, 96, .inl (fun _ => 0)))]) ++ [(q7, .inl (cI, 12, .inl (fun _ => 0)))]) ++ [(q8, .inl (cI, 120, .inl (fun _ => 0)))]))) 0 rfl fl_X8_31 tyX8 tyX8_ok nmX8 (by first | exact Or.inl rfl | exact Or.inr ⟨rfl, rfl⟩) rfl rfl rfl (Nat.le_of_ble_eq_true rfl) dX8_init_69 rfl ?_
  refine nb_aload_n dX8_init_72 rfl ?_
  refine nb_bipush dX8_init_73 rfl ?_
  refine nb_newa (N := 10) dX8_init_75 nw_ai (by omega) (by omega) (by omega) (by omega) (fun q9 => ?_)
  refine nb_put (ws1 := ((h0, .inr (8, [.ref q1, .ref q2, .ref q3, .ref q4, .ref q5, .ref q6, .ref q7, .ref q8, .ref q9, .null, .null, .null, .null, .int 0, .int 0, .int 0, .int 0, .int 0, .int 0, .int 0, .int 0])) :: ((((((((([] ++ [(q1, .inl (cI, 520, .inl (fun _ => 0)))]) ++ [(q2, .inl (cI, 520, .inl (fun _ => 0)))]) ++ [(q3, .inl (cI, 520, .inl (fun _ => 0)))]) ++ [(q4, .inl (cI, 520, .inl (fun _ => 0)))]) ++ [(q5, .inl (cI, 8, .inl (fun _ => 0)))]) ++ [(q6, .inl (cI, 96, .inl (fun _ => 0)))]) ++ [(q7, .inl (cI, 12, .inl (fun _ => 0)))]) ++ [(q8, .inl (cI, 120, .inl (fun _ => 0)))]) ++ [(q9, .inl (cI, 10, .inl (fun _ => 0)))]))) 0 rfl fl_X8_34 tyX8 tyX8_ok nmX8 (by first | exact Or.inl rfl | exact Or.inr ⟨rfl, rfl⟩) rfl rfl rfl (Nat.le_of_ble_eq_true rfl) dX8_init_77 rfl ?_
  refine nb_aload_n dX8_init_80 rfl ?_
  refine nb_bipush dX8_init_81 rfl ?_
  refine nb_newa (N := 24) dX8_init_83 nw_ai (by omega) (by omega) (by omega) (by omega) (fun q10 => ?_)
  refine nb_put (ws1 := ((h0, .inr (8, [.ref q1, .ref q2, .ref q3, .ref q4, .ref q5, .ref q6, .ref q7, .ref q8, .ref q9, .ref q10, .null, .null, .null, .int 0, .int 0, .int 0, .int 0, .int 0, .int 0, .int 0, .int 0])) :: (((((((((([] ++ [(q1, .inl (cI, 520, .inl (fun _ => 0)))]) ++ [(q2, .inl (cI, 520, .inl (fun _ => 0)))]) ++ [(q3, .inl (cI, 520, .inl (fun _ => 0)))]) ++ [(q4, .inl (cI, 520, .inl (fun _ => 0)))]) ++ [(q5, .inl (cI, 8, .inl (fun _ => 0)))]) ++ [(q6, .inl (cI, 96, .inl (fun _ => 0)))]) ++ [(q7, .inl (cI, 12, .inl (fun _ => 0)))]) ++ [(q8, .inl (cI, 120, .inl (fun _ => 0)))]) ++ [(q9, .inl (cI, 10, .inl (fun _ => 0)))]) ++ [(q10, .inl (cI, 24, .inl (fun _ => 0)))]))) 0 rfl fl_X8_37 tyX8 tyX8_ok nmX8 (by first | exact Or.inl rfl | exact Or.inr ⟨rfl, rfl⟩) rfl rfl rfl (Nat.le_of_ble_eq_true rfl) dX8_init_85 rfl ?_
  refine nb_aload_n dX8_init_88 rfl ?_
  refine nb_bipush dX8_init_89 rfl ?_
  refine nb_newa (N := 10) dX8_init_91 nw_ai (by omega) (by omega) (by omega) (by omega) (fun q11 => ?_)
  refine nb_put (ws1 := ((h0, .inr (8, [.ref q1, .ref q2, .ref q3, .ref q4, .ref q5, .ref q6, .ref q7, .ref q8, .ref q9, .ref q10, .ref q11, .null, .null, .int 0, .int 0, .int 0, .int 0, .int 0, .int 0, .int 0, .int 0])) :: ((((((((((([] ++ [(q1, .inl (cI, 520, .inl (fun _ => 0)))]) ++ [(q2, .inl (cI, 520, .inl (fun _ => 0)))]) ++ [(q3, .inl (cI, 520, .inl (fun _ => 0)))]) ++ [(q4, .inl (cI, 520, .inl (fun _ => 0)))]) ++ [(q5, .inl (cI, 8, .inl (fun _ => 0)))]) ++ [(q6, .inl (cI, 96, .inl (fun _ => 0)))]) ++ [(q7, .inl (cI, 12, .inl (fun _ => 0)))]) ++ [(q8, .inl (cI, 120, .inl (fun _ => 0)))]) ++ [(q9, .inl (cI, 10, .inl (fun _ => 0)))]) ++ [(q10, .inl (cI, 24, .inl (fun _ => 0)))]) ++ [(q11, .inl (cI, 10, .inl (fun _ => 0)))]))) 0 rfl fl_X8_40 tyX8 tyX8_ok nmX8 (by first | exact Or.inl rfl | exact Or.inr ⟨rfl, rfl⟩) rfl rfl rfl (Nat.le_of_ble_eq_true rfl) dX8_init_93 rfl ?_
  refine nb_aload_n dX8_init_96 rfl ?_
  refine nb_bipush dX8_init_97 rfl ?_
  refine nb_newa (N := 10) dX8_init_99 nw_ai (by omega) (by omega) (by omega) (by omega) (fun q12 => ?_)
  refine nb_put (ws1 := ((h0, .inr (8, [.ref q1, .ref q2, .ref q3, .ref q4, .ref q5, .ref q6, .ref q7, .ref q8, .ref q9, .ref q10, .ref q11, .ref q12, .null, .int 0, .int 0, .int 0, .int 0, .int 0, .int 0, .int 0, .int 0])) :: (((((((((((([] ++ [(q1, .inl (cI, 520, .inl (fun _ => 0)))]) ++ [(q2, .inl (cI, 520, .inl (fun _ => 0)))]) ++ [(q3, .inl (cI, 520, .inl (fun _ => 0)))]) ++ [(q4, .inl (cI, 520, .inl (fun _ => 0)))]) ++ [(q5, .inl (cI, 8, .inl (fun _ => 0)))]) ++ [(q6, .inl (cI, 96, .inl (fun _ => 0)))]) ++ [(q7, .inl (cI, 12, .inl (fun _ => 0)))]) ++ [(q8, .inl (cI, 120, .inl (fun _ => 0)))]) ++ [(q9, .inl (cI, 10, .inl (fun _ => 0)))]) ++ [(q10, .inl (cI, 24, .inl (fun _ => 0)))]) ++ [(q11, .inl (cI, 10, .inl (fun _ => 0)))]) ++ [(q12, .inl (cI, 10, .inl (fun _ => 0)))]))) 0 rfl fl_X8_43 tyX8 tyX8_ok nmX8 (by first | exact Or.inl rfl | exact Or.inr ⟨rfl, rfl⟩) rfl rfl rfl (Nat.le_of_ble_eq_true rfl) dX8_init_101 rfl ?_
  refine nb_aload_n dX8_init_104 rfl ?_
  refine nb_bipush dX8_init_105 rfl ?_
  refine nb_newa (N := 10) dX8_init_107 nw_ai (by omega) (by omega) (by omega) (by omega) (fun q13 => ?_)
  refine nb_put (ws1 := ((h0, .inr (8, [.ref q1, .ref q2, .ref q3, .ref q4, .ref q5, .ref q6, .ref q7, .ref q8, .ref q9, .ref q10, .ref q11, .ref q12, .ref q13, .int 0, .int 0, .int 0, .int 0, .int 0, .int 0, .int 0, .int 0])) :: ((((((((((((([] ++ [(q1, .inl (cI, 520, .inl (fun _ => 0)))]) ++ [(q2, .inl (cI, 520, .inl (fun _ => 0)))]) ++ [(q3, .inl (cI, 520, .inl (fun _ => 0)))]) ++ [(q4, .inl (cI, 520, .inl (fun _ => 0)))]) ++ [(q5, .inl (cI, 8, .inl (fun _ => 0)))]) ++ [(q6, .inl (cI, 96, .inl (fun _ => 0)))]) ++ [(q7, .inl (cI, 12, .inl (fun _ => 0)))]) ++ [(q8, .inl (cI, 120, .inl (fun _ => 0)))]) ++ [(q9, .inl (cI, 10, .inl (fun _ => 0)))]) ++ [(q10, .inl (cI, 24, .inl (fun _ => 0)))]) ++ [(q11, .inl (cI, 10, .inl (fun _ => 0)))]) ++ [(q12, .inl (cI, 10, .inl (fun _ => 0)))]) ++ [(q13, .inl (cI, 10, .inl (fun _ => 0)))]))) 0 rfl fl_X8_46 tyX8 tyX8_ok nmX8 (by first | exact Or.inl rfl | exact Or.inr ⟨rfl, rfl⟩) rfl rfl rfl (Nat.le_of_ble_eq_true rfl) dX8_init_109 rfl ?_
  refine nb_iconst dX8_init_112 ?_
  refine nb_istore_n dX8_init_113 (by decide) rfl (by dsimp only [ad_set]) ?_
  exact hloop q1 q2 q3 q4 q5 q6 q7 q8 q9 q10 q11 q12 q13 4 0 (fun _ => 0) (by omega) (by omega) (fun c => by rw [if_neg (by omega)])
