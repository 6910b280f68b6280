/-! ===== the class's constructor 2 ===== -/
def ckeys : List (Nat × Nat) := (7, 0) :: ((((((((([] ++ skeys 0) ++ skeys 1) ++ skeys 2) ++ pkeys) ++ dkeys) ++ tkeys) ++ nkeys) ++ [(1, 0)]) ++ [(20, 0)])
def mk_A (h0 : Nat) (a1 a2 a3 a4 a5 a6 a7 a8 : Nat → Nat → Nat) (q9 : Nat) : Nat → Nat → Nat → Nat := fun b => match b with
  | 0 => a1 | 1 => a2 | 2 => a3 | 3 => a4 | 4 => a5 | 5 => a6 | 6 => a7 | 7 => a8 | 8 => fun _ _ => h0 | _ => fun _ _ => q9
theorem mk_join {l : Launch} {D : va_G} {cI cV : ClassId} (h0 : Nat) (a1 a2 a3 a4 a5 a6 a7 a8 : Nat → Nat → Nat) (q9 : Nat) : nb_B2 l D cI cV ckeys 7 0 h0 ((h0, .inr (7, [.ref (a1 4 0), .ref (a2 4 1), .ref (a3 4 2), .ref (a4 3 0), .ref (a5 0 31), .ref (a6 5 0), .ref (a7 2 35), .ref (a8 1 0), .ref q9, ad_iv 0])) :: ((((((((([] ++ (skeys 0).map (nb_e l D cI cV a1)) ++ (skeys 1).map (nb_e l D cI cV a2)) ++ (skeys 2).map (nb_e l D cI cV a3)) ++ pkeys.map (nb_e l D cI cV a4)) ++ dkeys.map (nb_e l D cI cV a5)) ++ tkeys.map (nb_e l D cI cV a6)) ++ nkeys.map (nb_e l D cI cV a7)) ++ [(1, 0)].map (nb_e l D cI cV a8)) ++ [(q9, .inl (cI, 7, .inl (fun _ => 0)))])) := by
  obtain ⟨s1, s2, s3, s4, s5, s6, s7, s8, s9⟩ := selok_all
  obtain ⟨A, hA⟩ : ∃ A, A = mk_A h0 a1 a2 a3 a4 a5 a6 a7 a8 q9 := ⟨_, rfl⟩
  have p1 := nb_sel (l := l) (D := D) (cI := cI) (cV := cV) s1 (A := A) (a := a1) (by rw [hA]; rfl)
  have p2 := nb_sel (l := l) (D := D) (cI := cI) (cV := cV) s2 (A := A) (a := a2) (by rw [hA]; rfl)
  have p3 := nb_sel (l := l) (D := D) (cI := cI) (cV := cV) s3 (A := A) (a := a3) (by rw [hA]; rfl)
  have p4 := nb_sel (l := l) (D := D) (cI := cI) (cV := cV) s4 (A := A) (a := a4) (by rw [hA]; rfl)
  have p5 := nb_sel (l := l) (D := D) (cI := cI) (cV := cV) s5 (A := A) (a := a5) (by rw [hA]; rfl)
  have p6 := nb_sel (l := l) (D := D) (cI := cI) (cV := cV) s6 (A := A) (a := a6) (by rw [hA]; rfl)
  have p7 := nb_sel (l := l) (D := D) (cI := cI) (cV := cV) s7 (A := A) (a := a7) (by rw [hA]; rfl)
  have p8 := nb_sel (l := l) (D := D) (cI := cI) (cV := cV) s8 (A := A) (a := a8) (by rw [hA]; rfl)
  have p9 := nb_sel (l := l) (D := D) (cI := cI) (cV := cV) s9 (A := A) (a := fun _ _ => q9) (by rw [hA]; rfl)
  have e9 : ([(q9, .inl (cI, 7, .inl (fun _ => 0)))] : va_W) = [(20, 0)].map (nb_e l D cI cV (fun _ _ => q9)) := rfl
  have e8 : ∀ i j, A 8 i j = h0 := fun i j => by rw [hA]; rfl
  rw [e9]
  refine ⟨fun k i => A (sel (k, i)) k i, e8 _ _, ?_, fun H hP q hq => ?_⟩
  · rw [List.map_cons, List.map_append, List.map_append, List.map_append, List.map_append, List.map_append, List.map_append, List.map_append, List.map_append, List.map_append, p1.1, p2.1, p3.1, p4.1, p5.1, p6.1, p7.1, p8.1, p9.1]
    show _ = A 8 7 0 :: List.map (fun q : Nat × Nat => A (sel q) q.1 q.2) ((((((((([] ++ skeys 0) ++ skeys 1) ++ skeys 2) ++ pkeys) ++ dkeys) ++ tkeys) ++ nkeys) ++ [(1, 0)]) ++ [(20, 0)])
    rw [e8, List.map_append, List.map_append, List.map_append, List.map_append, List.map_append, List.map_append, List.map_append, List.map_append, List.map_append]
    rfl
  · have hP0 := hP 0 _ rfl
    have hPr : va_P D vwCl _ H := fun k x hk => hP (k + 1) x hk
    obtain ⟨hPr, g9⟩ := va_P_app hPr
    obtain ⟨hPr, g8⟩ := va_P_app hPr
    obtain ⟨hPr, g7⟩ := va_P_app hPr
    obtain ⟨hPr, g6⟩ := va_P_app hPr
    obtain ⟨hPr, g5⟩ := va_P_app hPr
    obtain ⟨hPr, g4⟩ := va_P_app hPr
    obtain ⟨hPr, g3⟩ := va_P_app hPr
    obtain ⟨hPr, g2⟩ := va_P_app hPr
    obtain ⟨hPr, g1⟩ := va_P_app hPr
    unfold ckeys at hq
    rcases List.mem_cons.mp hq with rfl | hq
    · subst hA; exact hP0
    rcases List.mem_append.mp hq with hq | hq
    rcases List.mem_append.mp hq with hq | hq
    rcases List.mem_append.mp hq with hq | hq
    rcases List.mem_append.mp hq with hq | hq
    rcases List.mem_append.mp hq with hq | hq
    rcases List.mem_append.mp hq with hq | hq
    rcases List.mem_append.mp hq with hq | hq
    rcases List.mem_append.mp hq with hq | hq
    rcases List.mem_append.mp hq with hq | hq
    · cases hq
    · exact p1.2 H g1 q hq
    · exact p2.2 H g2 q hq
    · exact p3.2 H g3 q hq
    · exact p4.2 H g4 q hq
    · exact p5.2 H g5 q hq
    · exact p6.2 H g6 q hq
    · exact p7.2 H g7 q hq
    · exact p8.2 H g8 q hq
    · exact p9.2 H g9 q hq
theorem mk_X7 {l : Launch} {D : va_G} {cI cV : ClassId} {d : Nat} (hd0 : 6 ≤ d) : nb_M l D cI cV mX7_init d 7 df7 [] 215 1913 (nb_B2 l D cI cV ckeys 7 0) := by
  refine nb_M_of 0 (by simp [Value.category]) rfl rfl rfl (Nat.le_of_ble_eq_true rfl) (fun h0 sz => ?_)
  simp only [List.map_cons, List.map_nil, List.replicate, List.cons_append, List.nil_append]
  refine nb_aload_n dX7_init_0 rfl ?_
  refine nb_objInit nl_X7_obj nw_oi nw_oc dX7_init_1 (by omega) (Nat.le_of_ble_eq_true rfl) ?_
  refine nb_aload_n dX7_init_4 rfl ?_
  refine nb_new (ci := 4) (fs := df4) tyX4 dX7_init_5 tyX4_ok nc_X7_7 ni_X4.2.1 ni_X4.2.2 ad_inX4 rfl df4_ok (by omega) (by omega) (fun q1 => ?_)
  refine nb_dup dX7_init_8 rfl ?_
  have hm1 := (mk_X4 (l := l) (D := D) (cI := cI) (cV := cV) (s := 0) (by decide) (d := d - 1) (by omega))
  refine nb_init (j := 0) (S := [.ref q1, .ref h0]) hm1 (by omega) nm_X7_9 ni_X4.1.1 ni_X4.1.2.1 rfl ni_X4.1.2.2 ⟨by decide, by decide, by decide +kernel⟩ (by decide) rfl (As := []) rfl rfl dX7_init_9 (Nat.le_of_ble_eq_true rfl) (by omega) (by omega) (fun b1 hb1 => ?_)
  obtain ⟨a1, rfl, rfl⟩ := hb1
  refine nb_put (ws1 := ((h0, .inr (7, [.ref (a1 4 0), .null, .null, .null, .null, .null, .null, .null, .null, .int 0])) :: ([] ++ (skeys 0).map (nb_e l D cI cV a1)))) 0 rfl fl_X7_10 tyX7 tyX7_ok nmX7 (by first | exact Or.inl rfl | exact Or.inr ⟨rfl, rfl⟩) rfl rfl rfl (Nat.le_of_ble_eq_true rfl) dX7_init_12 rfl ?_
  refine nb_aload_n dX7_init_15 rfl ?_
  refine nb_new (ci := 4) (fs := df4) tyX4 dX7_init_16 tyX4_ok nc_X7_7 ni_X4.2.1 ni_X4.2.2 ad_inX4 rfl df4_ok (by omega) (by omega) (fun q2 => ?_)
  refine nb_dup dX7_init_19 rfl ?_
  have hm2 := (mk_X4 (l := l) (D := D) (cI := cI) (cV := cV) (s := 1) (by decide) (d := d - 1) (by omega))
  refine nb_init (j := 0) (S := [.ref q2, .ref h0]) hm2 (by omega) nm_X7_9 ni_X4.1.1 ni_X4.1.2.1 rfl ni_X4.1.2.2 ⟨by decide, by decide, by decide +kernel⟩ (by decide) rfl (As := []) rfl rfl dX7_init_20 (Nat.le_of_ble_eq_true rfl) (by omega) (by omega) (fun b2 hb2 => ?_)
  obtain ⟨a2, rfl, rfl⟩ := hb2
  refine nb_put (ws1 := ((h0, .inr (7, [.ref (a1 4 0), .ref (a2 4 1), .null, .null, .null, .null, .null, .null, .null, .int 0])) :: (([] ++ (skeys 0).map (nb_e l D cI cV a1)) ++ (skeys 1).map (nb_e l D cI cV a2)))) 0 rfl fl_X7_16 tyX7 tyX7_ok nmX7 (by first | exact Or.inl rfl | exact Or.inr ⟨rfl, rfl⟩) rfl rfl rfl (Nat.le_of_ble_eq_true rfl) dX7_init_23 rfl ?_
  refine nb_aload_n dX7_init_26 rfl ?_
  refine nb_new (ci := 4) (fs := df4) tyX4 dX7_init_27 tyX4_ok nc_X7_7 ni_X4.2.1 ni_X4.2.2 ad_inX4 rfl df4_ok (by omega) (by omega) (fun q3 => ?_)
  refine nb_dup dX7_init_30 rfl ?_
  have hm3 := (mk_X4 (l := l) (D := D) (cI := cI) (cV := cV) (s := 2) (by decide) (d := d - 1) (by omega))
  refine nb_init (j := 0) (S := [.ref q3, .ref h0]) hm3 (by omega) nm_X7_9 ni_X4.1.1 ni_X4.1.2.1 rfl ni_X4.1.2.2 ⟨by decide, by decide, by decide +kernel⟩ (by decide) rfl (As := []) rfl rfl dX7_init_31 (Nat.le_of_ble_eq_true rfl) (by omega) (by omega) (fun b3 hb3 => ?_)
  obtain ⟨a3, rfl, rfl⟩ := hb3
  refine nb_put (ws1 := ((h0, .inr (7, [.ref (a1 4 0), .ref (a2 4 1), .ref (a3 4 2), .null, .null, .null, .null, .null, .null, .int 0])) :: ((([] ++ (skeys 0).map (nb_e l D cI cV a1)) ++ (skeys 1).map (nb_e l D cI cV a2)) ++ (skeys 2).map (nb_e l D cI cV a3)))) 0 rfl fl_X7_19 tyX7 tyX7_ok nmX7 (by first | exact Or.inl rfl | exact Or.inr ⟨rfl, rfl⟩) rfl rfl rfl (Nat.le_of_ble_eq_true rfl) dX7_init_34 rfl ?_
  refine nb_aload_n dX7_init_37 rfl ?_
  refine nb_new (ci := 3) (fs := df3) tyX3 dX7_init_38 tyX3_ok nc_X7_22 ni_X3.2.1 ni_X3.2.2 ad_inX3 rfl df3_ok (by omega) (by omega) (fun q4 => ?_)
  refine nb_dup dX7_init_41 rfl ?_
  have hm4 := (mk_X3 (l := l) (D := D) (cI := cI) (cV := cV) (d := d - 1) (by omega))
  refine nb_init (j := 0) (S := [.ref q4, .ref h0]) hm4 (by omega) nm_X7_24 ni_X3.1.1 ni_X3.1.2.1 rfl ni_X3.1.2.2 ⟨by decide, by decide, by decide +kernel⟩ (by decide) rfl (As := []) rfl rfl dX7_init_42 (Nat.le_of_ble_eq_true rfl) (by omega) (by omega) (fun b4 hb4 => ?_)
  obtain ⟨a4, rfl, rfl⟩ := hb4
  refine nb_put (ws1 := ((h0, .inr (7, [.ref (a1 4 0), .ref (a2 4 1), .ref (a3 4 2), .ref (a4 3 0), .null, .null, .null, .null, .null, .int 0])) :: (((([] ++ (skeys 0).map (nb_e l D cI cV a1)) ++ (skeys 1).map (nb_e l D cI cV a2)) ++ (skeys 2).map (nb_e l D cI cV a3)) ++ pkeys.map (nb_e l D cI cV a4)))) 0 rfl fl_X7_25 tyX7 tyX7_ok nmX7 (by first | exact Or.inl rfl | exact Or.inr ⟨rfl, rfl⟩) rfl rfl rfl (Nat.le_of_ble_eq_true rfl) dX7_init_45 rfl ?_
  refine nb_aload_n dX7_init_48 rfl ?_
  refine nb_new (ci := 0) (fs := df0) tyX0 dX7_init_49 tyX0_ok nc_X7_29 ni_X0.2.1 ni_X0.2.2 ad_inX0 rfl df0_ok (by omega) (by omega) (fun q5 => ?_)
  refine nb_dup dX7_init_52 rfl ?_
  have hm5 := (mk_X0 (l := l) (D := D) (cI := cI) (cV := cV) (j := 31) (d := d - 1) (by omega))
  refine nb_init (j := 0) (S := [.ref q5, .ref h0]) hm5 (by omega) nm_X7_31 ni_X0.1.1 ni_X0.1.2.1 rfl ni_X0.1.2.2 ⟨by decide, by decide, by decide +kernel⟩ (by decide) rfl (As := []) rfl rfl dX7_init_53 (Nat.le_of_ble_eq_true rfl) (by omega) (by omega) (fun b5 hb5 => ?_)
  obtain ⟨a5, rfl, rfl⟩ := hb5
  refine nb_put (ws1 := ((h0, .inr (7, [.ref (a1 4 0), .ref (a2 4 1), .ref (a3 4 2), .ref (a4 3 0), .ref (a5 0 31), .null, .null, .null, .null, .int 0])) :: ((((([] ++ (skeys 0).map (nb_e l D cI cV a1)) ++ (skeys 1).map (nb_e l D cI cV a2)) ++ (skeys 2).map (nb_e l D cI cV a3)) ++ pkeys.map (nb_e l D cI cV a4)) ++ dkeys.map (nb_e l D cI cV a5)))) 0 rfl fl_X7_32 tyX7 tyX7_ok nmX7 (by first | exact Or.inl rfl | exact Or.inr ⟨rfl, rfl⟩) rfl rfl rfl (Nat.le_of_ble_eq_true rfl) dX7_init_56 rfl ?_
  refine nb_aload_n dX7_init_59 rfl ?_
  refine nb_new (ci := 5) (fs := df5) tyX5 dX7_init_60 tyX5_ok nc_X7_36 ni_X5.2.1 ni_X5.2.2 ad_inX5 rfl df5_ok (by omega) (by omega) (fun q6 => ?_)
  refine nb_dup dX7_init_63 rfl ?_
  have hm6 := (mk_X5 (l := l) (D := D) (cI := cI) (cV := cV) (d := d - 1) (by omega))
  refine nb_init (j := 0) (S := [.ref q6, .ref h0]) hm6 (by omega) nm_X7_38 ni_X5.1.1 ni_X5.1.2.1 rfl ni_X5.1.2.2 ⟨by decide, by decide, by decide +kernel⟩ (by decide) rfl (As := []) rfl rfl dX7_init_64 (Nat.le_of_ble_eq_true rfl) (by omega) (by omega) (fun b6 hb6 => ?_)
  obtain ⟨a6, rfl, rfl⟩ := hb6
  refine nb_put (ws1 := ((h0, .inr (7, [.ref (a1 4 0), .ref (a2 4 1), .ref (a3 4 2), .ref (a4 3 0), .ref (a5 0 31), .ref (a6 5 0), .null, .null, .null, .int 0])) :: (((((([] ++ (skeys 0).map (nb_e l D cI cV a1)) ++ (skeys 1).map (nb_e l D cI cV a2)) ++ (skeys 2).map (nb_e l D cI cV a3)) ++ pkeys.map (nb_e l D cI cV a4)) ++ dkeys.map (nb_e l D cI cV a5)) ++ tkeys.map (nb_e l D cI cV a6)))) 0 rfl fl_X7_39 tyX7 tyX7_ok nmX7 (by first | exact Or.inl rfl | exact Or.inr ⟨rfl, rfl⟩) rfl rfl rfl (Nat.le_of_ble_eq_true rfl) dX7_init_67 rfl ?_
  refine nb_aload_n dX7_init_70 rfl ?_
  refine nb_new (ci := 2) (fs := df2) tyX2 dX7_init_71 tyX2_ok nc_X7_43 ni_X2.2.1 ni_X2.2.2 ad_inX2 rfl df2_ok (by omega) (by omega) (fun q7 => ?_)
  refine nb_dup dX7_init_74 rfl ?_
  refine nb_bipush dX7_init_75 rfl ?_
  have hm7 := (mk_X2 (l := l) (D := D) (cI := cI) (cV := cV) (j := 35) (N := 12) rfl (by decide) (d := d - 1) (by omega))
  refine nb_init (j := 1) (S := [.ref q7, .ref h0]) hm7 (by omega) nm_X7_45 ni_X2.1.1 ni_X2.1.2.1 rfl ni_X2.1.2.2 ⟨by decide, by decide, by decide +kernel⟩ (by decide) rfl (As := [ad_iv ((12 : Nat) : Int)]) rfl rfl dX7_init_77 (Nat.le_of_ble_eq_true rfl) (by omega) (by omega) (fun b7 hb7 => ?_)
  obtain ⟨a7, rfl, rfl⟩ := hb7
  refine nb_put (ws1 := ((h0, .inr (7, [.ref (a1 4 0), .ref (a2 4 1), .ref (a3 4 2), .ref (a4 3 0), .ref (a5 0 31), .ref (a6 5 0), .ref (a7 2 35), .null, .null, .int 0])) :: ((((((([] ++ (skeys 0).map (nb_e l D cI cV a1)) ++ (skeys 1).map (nb_e l D cI cV a2)) ++ (skeys 2).map (nb_e l D cI cV a3)) ++ pkeys.map (nb_e l D cI cV a4)) ++ dkeys.map (nb_e l D cI cV a5)) ++ tkeys.map (nb_e l D cI cV a6)) ++ nkeys.map (nb_e l D cI cV a7)))) 0 rfl fl_X7_48 tyX7 tyX7_ok nmX7 (by first | exact Or.inl rfl | exact Or.inr ⟨rfl, rfl⟩) rfl rfl rfl (Nat.le_of_ble_eq_true rfl) dX7_init_80 rfl ?_
  refine nb_aload_n dX7_init_83 rfl ?_
  refine nb_new (ci := 1) (fs := df1) tyX1 dX7_init_84 tyX1_ok nc_X7_52 ni_X1.2.1 ni_X1.2.2 ad_inX1 rfl df1_ok (by omega) (by omega) (fun q8 => ?_)
  refine nb_dup dX7_init_87 rfl ?_
  have hm8 := (mk_X1 (l := l) (D := D) (cI := cI) (cV := cV) (d := d - 1) (by omega))
  refine nb_init (j := 0) (S := [.ref q8, .ref h0]) hm8 (by omega) nm_X7_54 ni_X1.1.1 ni_X1.1.2.1 rfl ni_X1.1.2.2 ⟨by decide, by decide, by decide +kernel⟩ (by decide) rfl (As := []) rfl rfl dX7_init_88 (Nat.le_of_ble_eq_true rfl) (by omega) (by omega) (fun b8 hb8 => ?_)
  obtain ⟨a8, rfl, rfl⟩ := hb8
  refine nb_put (ws1 := ((h0, .inr (7, [.ref (a1 4 0), .ref (a2 4 1), .ref (a3 4 2), .ref (a4 3 0), .ref (a5 0 31), .ref (a6 5 0), .ref (a7 2 35), .ref (a8 1 0), .null, .int 0])) :: (((((((([] ++ (skeys 0).map (nb_e l D cI cV a1)) ++ (skeys 1).map (nb_e l D cI cV a2)) ++ (skeys 2).map (nb_e l D cI cV a3)) ++ pkeys.map (nb_e l D cI cV a4)) ++ dkeys.map (nb_e l D cI cV a5)) ++ tkeys.map (nb_e l D cI cV a6)) ++ nkeys.map (nb_e l D cI cV a7)) ++ [(1, 0)].map (nb_e l D cI cV a8)))) 0 rfl fl_X7_55 tyX7 tyX7_ok nmX7 (by first | exact Or.inl rfl | exact Or.inr ⟨rfl, rfl⟩) rfl rfl rfl (Nat.le_of_ble_eq_true rfl) dX7_init_91 rfl ?_
  refine nb_aload_n dX7_init_94 rfl ?_
  refine nb_bipush dX7_init_95 rfl ?_
  refine nb_newa (N := 7) dX7_init_97 nw_ai (by omega) (by omega) (by omega) (by omega) (fun q9 => ?_)
  refine nb_put (ws1 := ((h0, .inr (7, [.ref (a1 4 0), .ref (a2 4 1), .ref (a3 4 2), .ref (a4 3 0), .ref (a5 0 31), .ref (a6 5 0), .ref (a7 2 35), .ref (a8 1 0), .ref q9, .int 0])) :: ((((((((([] ++ (skeys 0).map (nb_e l D cI cV a1)) ++ (skeys 1).map (nb_e l D cI cV a2)) ++ (skeys 2).map (nb_e l D cI cV a3)) ++ pkeys.map (nb_e l D cI cV a4)) ++ dkeys.map (nb_e l D cI cV a5)) ++ tkeys.map (nb_e l D cI cV a6)) ++ nkeys.map (nb_e l D cI cV a7)) ++ [(1, 0)].map (nb_e l D cI cV a8)) ++ [(q9, .inl (cI, 7, .inl (fun _ => 0)))]))) 0 rfl fl_X7_59 tyX7 tyX7_ok nmX7 (by first | exact Or.inl rfl | exact Or.inr ⟨rfl, rfl⟩) rfl rfl rfl (Nat.le_of_ble_eq_true rfl) dX7_init_99 rfl ?_
  refine nb_aload_n dX7_init_102 rfl ?_
  refine nb_iconst dX7_init_103 ?_
  refine nb_put (ws1 := ((h0, .inr (7, [.ref (a1 4 0), .ref (a2 4 1), .ref (a3 4 2), .ref (a4 3 0), .ref (a5 0 31), .ref (a6 5 0), .ref (a7 2 35), .ref (a8 1 0), .ref q9, ad_iv 0])) :: ((((((((([] ++ (skeys 0).map (nb_e l D cI cV a1)) ++ (skeys 1).map (nb_e l D cI cV a2)) ++ (skeys 2).map (nb_e l D cI cV a3)) ++ pkeys.map (nb_e l D cI cV a4)) ++ dkeys.map (nb_e l D cI cV a5)) ++ tkeys.map (nb_e l D cI cV a6)) ++ nkeys.map (nb_e l D cI cV a7)) ++ [(1, 0)].map (nb_e l D cI cV a8)) ++ [(q9, .inl (cI, 7, .inl (fun _ => 0)))]))) 0 rfl fl_X7_63 tyX7 tyX7_ok nmX7 (by first | exact Or.inl rfl | exact Or.inr ⟨rfl, rfl⟩) rfl rfl rfl (Nat.le_of_ble_eq_true rfl) dX7_init_104 rfl ?_
  refine nb_stop ⟨dX7_init_107, rfl, by omega, by omega, ?_⟩
  exact mk_join h0 a1 a2 a3 a4 a5 a6 a7 a8 q9
