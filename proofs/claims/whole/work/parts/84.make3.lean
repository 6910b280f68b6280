theorem mk_X3 {l : Launch} {D : va_G} {cI cV : ClassId} {d : Nat}  (hd0 : 4 ≤ d) : nb_M l D cI cV mX3_init d 3 df3 [] 7 158 (nb_B l D cI cV [(3, 0), (13, 0), (14, 0), (15, 0), (16, 0), (0, 30), (10, 30), (11, 30)] 3 0) := by
  refine nb_M_of 0 (by simp [Value.category]) rfl rfl rfl (Nat.le_of_ble_eq_true rfl) (fun h0 sz => ?_)
  simp only [List.map_cons, List.map_nil, List.replicate, List.cons_append, List.nil_append]
  refine nb_aload_n dX3_init_0 rfl ?_
  refine nb_objInit nl_X3_obj nw_oi nw_oc dX3_init_1 (by omega) (Nat.le_of_ble_eq_true rfl) ?_
  refine nb_aload_n dX3_init_4 rfl ?_
  refine nb_bipush dX3_init_5 rfl ?_
  refine nb_newa (N := 10) dX3_init_7 nw_ai (by omega) (by omega) (by omega) (by omega) (fun q1 => ?_)
  refine nb_put (ws1 := ((h0, .inr (3, [.ref q1, .null, .null, .null, .null, .null, .int 0, .int 0, .int 0, .int 0, .int 0, .int 0, .int 0])) :: ([] ++ [(q1, .inl (cI, 10, .inl (fun _ => 0)))]))) 0 rfl fl_X3_9 tyX3 tyX3_ok nmX3 (by first | exact Or.inl rfl | exact Or.inr ⟨rfl, rfl⟩) rfl rfl rfl (Nat.le_of_ble_eq_true rfl) dX3_init_9 rfl ?_
  refine nb_aload_n dX3_init_12 rfl ?_
  refine nb_bipush dX3_init_13 rfl ?_
  refine nb_newa (N := 10) dX3_init_15 nw_ai (by omega) (by omega) (by omega) (by omega) (fun q2 => ?_)
  refine nb_put (ws1 := ((h0, .inr (3, [.ref q1, .ref q2, .null, .null, .null, .null, .int 0, .int 0, .int 0, .int 0, .int 0, .int 0, .int 0])) :: (([] ++ [(q1, .inl (cI, 10, .inl (fun _ => 0)))]) ++ [(q2, .inl (cI, 10, .inl (fun _ => 0)))]))) 0 rfl fl_X3_15 tyX3 tyX3_ok nmX3 (by first | exact Or.inl rfl | exact Or.inr ⟨rfl, rfl⟩) rfl rfl rfl (Nat.le_of_ble_eq_true rfl) dX3_init_17 rfl ?_
  refine nb_aload_n dX3_init_20 rfl ?_
  refine nb_bipush dX3_init_21 rfl ?_
  refine nb_newa (N := 10) dX3_init_23 nw_ai (by omega) (by omega) (by omega) (by omega) (fun q3 => ?_)
  refine nb_put (ws1 := ((h0, .inr (3, [.ref q1, .ref q2, .ref q3, .null, .null, .null, .int 0, .int 0, .int 0, .int 0, .int 0, .int 0, .int 0])) :: ((([] ++ [(q1, .inl (cI, 10, .inl (fun _ => 0)))]) ++ [(q2, .inl (cI, 10, .inl (fun _ => 0)))]) ++ [(q3, .inl (cI, 10, .inl (fun _ => 0)))]))) 0 rfl fl_X3_18 tyX3 tyX3_ok nmX3 (by first | exact Or.inl rfl | exact Or.inr ⟨rfl, rfl⟩) rfl rfl rfl (Nat.le_of_ble_eq_true rfl) dX3_init_25 rfl ?_
  refine nb_aload_n dX3_init_28 rfl ?_
  refine nb_bipush dX3_init_29 rfl ?_
  refine nb_newa (N := 100) dX3_init_31 nw_ai (by omega) (by omega) (by omega) (by omega) (fun q4 => ?_)
  refine nb_put (ws1 := ((h0, .inr (3, [.ref q1, .ref q2, .ref q3, .ref q4, .null, .null, .int 0, .int 0, .int 0, .int 0, .int 0, .int 0, .int 0])) :: (((([] ++ [(q1, .inl (cI, 10, .inl (fun _ => 0)))]) ++ [(q2, .inl (cI, 10, .inl (fun _ => 0)))]) ++ [(q3, .inl (cI, 10, .inl (fun _ => 0)))]) ++ [(q4, .inl (cI, 100, .inl (fun _ => 0)))]))) 0 rfl fl_X3_21 tyX3 tyX3_ok nmX3 (by first | exact Or.inl rfl | exact Or.inr ⟨rfl, rfl⟩) rfl rfl rfl (Nat.le_of_ble_eq_true rfl) dX3_init_33 rfl ?_
  refine nb_aload_n dX3_init_36 rfl ?_
  refine nb_new (ci := 0) (fs := df0) tyX0 dX3_init_37 tyX0_ok nc_X3_24 ni_X0.2.1 ni_X0.2.2 ad_inX0 rfl df0_ok (by omega) (by omega) (fun q5 => ?_)
  refine nb_dup dX3_init_40 rfl ?_
  have hm5 := (mk_X0 (l := l) (D := D) (cI := cI) (cV := cV) (j := 30) (d := d - 1) (by omega))
  refine nb_init (j := 0) (S := [.ref q5, .ref h0]) hm5 (by omega) nm_X3_26 ni_X0.1.1 ni_X0.1.2.1 rfl ni_X0.1.2.2 ⟨by decide, by decide, by decide +kernel⟩ (by decide) rfl (As := []) rfl rfl dX3_init_41 (Nat.le_of_ble_eq_true rfl) (by omega) (by omega) (fun b5 hb5 => ?_)
  obtain ⟨a5, rfl, rfl⟩ := hb5
  refine nb_put (ws1 := ((h0, .inr (3, [.ref q1, .ref q2, .ref q3, .ref q4, .ref (a5 0 30), .null, .int 0, .int 0, .int 0, .int 0, .int 0, .int 0, .int 0])) :: ((((([] ++ [(q1, .inl (cI, 10, .inl (fun _ => 0)))]) ++ [(q2, .inl (cI, 10, .inl (fun _ => 0)))]) ++ [(q3, .inl (cI, 10, .inl (fun _ => 0)))]) ++ [(q4, .inl (cI, 100, .inl (fun _ => 0)))]) ++ [(0, 30), (10, 30), (11, 30)].map (nb_e l D cI cV a5)))) 0 rfl fl_X3_27 tyX3 tyX3_ok nmX3 (by first | exact Or.inl rfl | exact Or.inr ⟨rfl, rfl⟩) rfl rfl rfl (Nat.le_of_ble_eq_true rfl) dX3_init_44 rfl ?_
  refine nb_aload_n dX3_init_47 rfl ?_
  refine nb_null dX3_init_48 ?_
  refine nb_put (ws1 := ((h0, .inr (3, [.ref q1, .ref q2, .ref q3, .ref q4, .ref (a5 0 30), .null, .int 0, .int 0, .int 0, .int 0, .int 0, .int 0, .int 0])) :: ((((([] ++ [(q1, .inl (cI, 10, .inl (fun _ => 0)))]) ++ [(q2, .inl (cI, 10, .inl (fun _ => 0)))]) ++ [(q3, .inl (cI, 10, .inl (fun _ => 0)))]) ++ [(q4, .inl (cI, 100, .inl (fun _ => 0)))]) ++ [(0, 30), (10, 30), (11, 30)].map (nb_e l D cI cV a5)))) 0 rfl fl_X3_31 tyX3 tyX3_ok nmX3 (by first | exact Or.inl rfl | exact Or.inr ⟨rfl, rfl⟩) rfl rfl rfl (Nat.le_of_ble_eq_true rfl) dX3_init_49 rfl ?_
  exact nb_stop ⟨dX3_init_52, rfl, by omega, by omega, ⟨fun k i => if k = 3 then h0 else if k = 13 then q1 else if k = 14 then q2 else if k = 15 then q3 else if k = 16 then q4 else a5 k i, rfl, rfl⟩⟩
