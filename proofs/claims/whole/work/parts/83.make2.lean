/-! ===== the constructors ===== -/
/-- the memory behind the constructors -/
def sg0 : ad_Mem := fun k _ c => match k with
  | 4 => if c = 7 then 4 else 0
  | 6 => if c = 2 ∨ c = 3 ∨ c = 6 then -1 else 0
  | 19 => if c < 4 then -1 else 0
  | 21 => if 501 ≤ c ∧ c < 505 then -9 else if c = 507 then 4 else 0
  | _ => 0
abbrev nb_g (l : Launch) (D : va_G) (cI cV : ClassId) (ad : Nat → Nat → Nat) : ad_G := (l, ad, D, (cI, cV), fun _ => 0, fun _ => 0)
def nb_e (l : Launch) (D : va_G) (cI cV : ClassId) (ad : Nat → Nat → Nat) (q : Nat × Nat) : Nat × va_E := (ad q.1 q.2, ad_ent (nb_g l D cI cV ad) q.1 q.2 (sg0 q.1 q.2))
/-- a block of cells with these keys, the first the object itself -/
def nb_B (l : Launch) (D : va_G) (cI cV : ClassId) (keys : List (Nat × Nat)) (k i : Nat) (h0 : Nat) (blk : va_W) : Prop := ∃ ad : Nat → Nat → Nat, ad k i = h0 ∧ blk = keys.map (nb_e l D cI cV ad)
theorem mk_X2 {l : Launch} {D : va_G} {cI cV : ClassId} {d : Nat} {j N : Nat} (hN : ad_len 12 j = N) (h1 : N ≤ 1000) (hd0 : 2 ≤ d) : nb_M l D cI cV mX2_init d 2 df2 [ad_iv (N : Int)] 1 N (nb_B l D cI cV [(2, j), (12, j)] 2 j) := by
  refine nb_M_of 0 (by simp [Value.category]) rfl rfl rfl (Nat.le_of_ble_eq_true rfl) (fun h0 sz => ?_)
  simp only [List.map_cons, List.map_nil, List.replicate, List.cons_append, List.nil_append]
  refine nb_aload_n dX2_init_0 rfl ?_
  refine nb_objInit nl_X2_obj nw_oi nw_oc dX2_init_1 (by omega) (Nat.le_of_ble_eq_true rfl) ?_
  refine nb_aload_n dX2_init_4 rfl ?_
  refine nb_iconst dX2_init_5 ?_
  refine nb_iload_n dX2_init_6 rfl ?_
  refine nb_mmax rfl lk_X2_9 dX2_init_7 (by decide) (by constructor <;> omega) (by omega) (by omega) (by omega) (Nat.le_of_ble_eq_true rfl) ?_
  refine nb_newa (N := N) dX2_init_10 nw_ai (by omega) (by omega) (by omega) (by omega) (fun q1 => ?_)
  refine nb_put (ws1 := ((h0, .inr (2, [.ref q1, .int 0])) :: ([] ++ [(q1, .inl (cI, N, .inl (fun _ => 0)))]))) 0 rfl fl_X2_15 tyX2 tyX2_ok nmX2 (by first | exact Or.inl rfl | exact Or.inr ⟨rfl, rfl⟩) rfl rfl rfl (Nat.le_of_ble_eq_true rfl) dX2_init_12 rfl ?_
  refine nb_aload_n dX2_init_15 rfl ?_
  refine nb_iconst dX2_init_16 ?_
  refine nb_put (ws1 := ((h0, .inr (2, [.ref q1, ad_iv 0])) :: ([] ++ [(q1, .inl (cI, N, .inl (fun _ => 0)))]))) 0 rfl fl_X2_21 tyX2 tyX2_ok nmX2 (by first | exact Or.inl rfl | exact Or.inr ⟨rfl, rfl⟩) rfl rfl rfl (Nat.le_of_ble_eq_true rfl) dX2_init_17 rfl ?_
  exact nb_stop ⟨dX2_init_20, rfl, by omega, by omega, ⟨fun k _ => if k = 2 then h0 else q1, rfl, by
      show _ = ([(h0, .inr (2, [.ref q1, .int 0])), (q1, .inl (cI, ad_len 12 j, .inl (fun _ => 0)))] : va_W)
      rw [hN]; rfl⟩⟩
theorem mk_X0 {l : Launch} {D : va_G} {cI cV : ClassId} {d : Nat} {j : Nat} (hd0 : 1 ≤ d) : nb_M l D cI cV mX0_init d 0 df0 [] 2 24 (nb_B l D cI cV [(0, j), (10, j), (11, j)] 0 j) := by
  refine nb_M_of 0 (by simp [Value.category]) rfl rfl rfl (Nat.le_of_ble_eq_true rfl) (fun h0 sz => ?_)
  simp only [List.map_cons, List.map_nil, List.replicate, List.cons_append, List.nil_append]
  refine nb_aload_n dX0_init_0 rfl ?_
  refine nb_objInit nl_X0_obj nw_oi nw_oc dX0_init_1 (by omega) (Nat.le_of_ble_eq_true rfl) ?_
  refine nb_aload_n dX0_init_4 rfl ?_
  refine nb_bipush dX0_init_5 rfl ?_
  refine nb_newa (N := 12) dX0_init_7 nw_ai (by omega) (by omega) (by omega) (by omega) (fun q1 => ?_)
  refine nb_put (ws1 := ((h0, .inr (0, [.ref q1, .null, .int 0, .int 0])) :: ([] ++ [(q1, .inl (cI, 12, .inl (fun _ => 0)))]))) 0 rfl fl_X0_9 tyX0 tyX0_ok nmX0 (by first | exact Or.inl rfl | exact Or.inr ⟨rfl, rfl⟩) rfl rfl rfl (Nat.le_of_ble_eq_true rfl) dX0_init_9 rfl ?_
  refine nb_aload_n dX0_init_12 rfl ?_
  refine nb_bipush dX0_init_13 rfl ?_
  refine nb_newa (N := 12) dX0_init_15 nw_ai (by omega) (by omega) (by omega) (by omega) (fun q2 => ?_)
  refine nb_put (ws1 := ((h0, .inr (0, [.ref q1, .ref q2, .int 0, .int 0])) :: (([] ++ [(q1, .inl (cI, 12, .inl (fun _ => 0)))]) ++ [(q2, .inl (cI, 12, .inl (fun _ => 0)))]))) 0 rfl fl_X0_15 tyX0 tyX0_ok nmX0 (by first | exact Or.inl rfl | exact Or.inr ⟨rfl, rfl⟩) rfl rfl rfl (Nat.le_of_ble_eq_true rfl) dX0_init_17 rfl ?_
  refine nb_aload_n dX0_init_20 rfl ?_
  refine nb_iconst dX0_init_21 ?_
  refine nb_put (ws1 := ((h0, .inr (0, [.ref q1, .ref q2, ad_iv 0, .int 0])) :: (([] ++ [(q1, .inl (cI, 12, .inl (fun _ => 0)))]) ++ [(q2, .inl (cI, 12, .inl (fun _ => 0)))]))) 0 rfl fl_X0_18 tyX0 tyX0_ok nmX0 (by first | exact Or.inl rfl | exact Or.inr ⟨rfl, rfl⟩) rfl rfl rfl (Nat.le_of_ble_eq_true rfl) dX0_init_22 rfl ?_
  refine nb_aload_n dX0_init_25 rfl ?_
  refine nb_iconst dX0_init_26 ?_
  refine nb_put (ws1 := ((h0, .inr (0, [.ref q1, .ref q2, ad_iv 0, ad_iv 0])) :: (([] ++ [(q1, .inl (cI, 12, .inl (fun _ => 0)))]) ++ [(q2, .inl (cI, 12, .inl (fun _ => 0)))]))) 0 rfl fl_X0_22 tyX0 tyX0_ok nmX0 (by first | exact Or.inl rfl | exact Or.inr ⟨rfl, rfl⟩) rfl rfl rfl (Nat.le_of_ble_eq_true rfl) dX0_init_27 rfl ?_
  exact nb_stop ⟨dX0_init_30, rfl, by omega, by omega, ⟨fun k _ => if k = 0 then h0 else if k = 10 then q1 else q2, rfl, rfl⟩⟩
theorem mk_X1 {l : Launch} {D : va_G} {cI cV : ClassId} {d : Nat}  (hd0 : 1 ≤ d) : nb_M l D cI cV mX1_init d 1 df1 [] 0 0 (nb_B l D cI cV [(1, 0)] 1 0) := by
  refine nb_M_of 0 (by simp [Value.category]) rfl rfl rfl (Nat.le_of_ble_eq_true rfl) (fun h0 sz => ?_)
  simp only [List.map_cons, List.map_nil, List.replicate, List.cons_append, List.nil_append]
  refine nb_aload_n dX1_init_0 rfl ?_
  refine nb_objInit nl_X1_obj nw_oi nw_oc dX1_init_1 (by omega) (Nat.le_of_ble_eq_true rfl) ?_
  refine nb_aload_n dX1_init_4 rfl ?_
  refine nb_iconst dX1_init_5 ?_
  refine nb_put (ws1 := ((h0, .inr (1, [ad_iv 0])) :: [])) 0 rfl fl_X1_9 tyX1 tyX1_ok nmX1 (by first | exact Or.inl rfl | exact Or.inr ⟨rfl, rfl⟩) rfl rfl rfl (Nat.le_of_ble_eq_true rfl) dX1_init_6 rfl ?_
  exact nb_stop ⟨dX1_init_9, rfl, by omega, by omega, ⟨fun _ _ => h0, rfl, rfl⟩⟩
theorem mk_X6 {l : Launch} {D : va_G} {cI cV : ClassId} {d : Nat} {j : Nat} (hj : j < 30) (hd0 : 4 ≤ d) : nb_M l D cI cV mX6_init d 6 df6 [] 5 42 (nb_B l D cI cV [(6, j), (2, j), (12, j), (0, j), (10, j), (11, j)] 6 j) := by
  have hNj : ad_len 12 j = 12 := by show (if j = 33 then 96 else 12) = 12; rw [if_neg (by omega)]
  refine nb_M_of 0 (by simp [Value.category]) rfl rfl rfl (Nat.le_of_ble_eq_true rfl) (fun h0 sz => ?_)
  simp only [List.map_cons, List.map_nil, List.replicate, List.cons_append, List.nil_append]
  refine nb_aload_n dX6_init_0 rfl ?_
  refine nb_objInit nl_X6_obj nw_oi nw_oc dX6_init_1 (by omega) (Nat.le_of_ble_eq_true rfl) ?_
  refine nb_aload_n dX6_init_4 rfl ?_
  refine nb_new (ci := 2) (fs := df2) tyX2 dX6_init_5 tyX2_ok nc_X6_9 ni_X2.2.1 ni_X2.2.2 ad_inX2 rfl df2_ok (by omega) (by omega) (fun q1 => ?_)
  refine nb_dup dX6_init_8 rfl ?_
  refine nb_bipush dX6_init_9 rfl ?_
  have hm1 := (mk_X2 (l := l) (D := D) (cI := cI) (cV := cV) (j := j) (N := 12) hNj (by decide) (d := d - 1) (by omega))
  refine nb_init (j := 1) (S := [.ref q1, .ref h0]) hm1 (by omega) nm_X6_11 ni_X2.1.1 ni_X2.1.2.1 rfl ni_X2.1.2.2 ⟨by decide, by decide, by decide +kernel⟩ (by decide) rfl (As := [ad_iv ((12 : Nat) : Int)]) rfl rfl dX6_init_11 (Nat.le_of_ble_eq_true rfl) (by omega) (by omega) (fun b1 hb1 => ?_)
  obtain ⟨a1, rfl, rfl⟩ := hb1
  refine nb_put (ws1 := ((h0, .inr (6, [.ref (a1 2 j), .null, .int 0, .int 0, .int 0, .int 0, .int 0])) :: ([] ++ [(2, j), (12, j)].map (nb_e l D cI cV a1)))) 0 rfl fl_X6_14 tyX6 tyX6_ok nmX6 (by first | exact Or.inl rfl | exact Or.inr ⟨rfl, rfl⟩) rfl rfl rfl (Nat.le_of_ble_eq_true rfl) dX6_init_14 rfl ?_
  refine nb_aload_n dX6_init_17 rfl ?_
  refine nb_new (ci := 0) (fs := df0) tyX0 dX6_init_18 tyX0_ok nc_X6_20 ni_X0.2.1 ni_X0.2.2 ad_inX0 rfl df0_ok (by omega) (by omega) (fun q2 => ?_)
  refine nb_dup dX6_init_21 rfl ?_
  have hm2 := (mk_X0 (l := l) (D := D) (cI := cI) (cV := cV) (j := j) (d := d - 1) (by omega))
  refine nb_init (j := 0) (S := [.ref q2, .ref h0]) hm2 (by omega) nm_X6_22 ni_X0.1.1 ni_X0.1.2.1 rfl ni_X0.1.2.2 ⟨by decide, by decide, by decide +kernel⟩ (by decide) rfl (As := []) rfl rfl dX6_init_22 (Nat.le_of_ble_eq_true rfl) (by omega) (by omega) (fun b2 hb2 => ?_)
  obtain ⟨a2, rfl, rfl⟩ := hb2
  refine nb_put (ws1 := ((h0, .inr (6, [.ref (a1 2 j), .ref (a2 0 j), .int 0, .int 0, .int 0, .int 0, .int 0])) :: (([] ++ [(2, j), (12, j)].map (nb_e l D cI cV a1)) ++ [(0, j), (10, j), (11, j)].map (nb_e l D cI cV a2)))) 0 rfl fl_X6_23 tyX6 tyX6_ok nmX6 (by first | exact Or.inl rfl | exact Or.inr ⟨rfl, rfl⟩) rfl rfl rfl (Nat.le_of_ble_eq_true rfl) dX6_init_25 rfl ?_
  refine nb_aload_n dX6_init_28 rfl ?_
  refine nb_iconst dX6_init_29 ?_
  refine nb_put (ws1 := ((h0, .inr (6, [.ref (a1 2 j), .ref (a2 0 j), ad_iv (-1), .int 0, .int 0, .int 0, .int 0])) :: (([] ++ [(2, j), (12, j)].map (nb_e l D cI cV a1)) ++ [(0, j), (10, j), (11, j)].map (nb_e l D cI cV a2)))) 0 rfl fl_X6_27 tyX6 tyX6_ok nmX6 (by first | exact Or.inl rfl | exact Or.inr ⟨rfl, rfl⟩) rfl rfl rfl (Nat.le_of_ble_eq_true rfl) dX6_init_30 rfl ?_
  refine nb_aload_n dX6_init_33 rfl ?_
  refine nb_iconst dX6_init_34 ?_
  refine nb_put (ws1 := ((h0, .inr (6, [.ref (a1 2 j), .ref (a2 0 j), ad_iv (-1), ad_iv (-1), .int 0, .int 0, .int 0])) :: (([] ++ [(2, j), (12, j)].map (nb_e l D cI cV a1)) ++ [(0, j), (10, j), (11, j)].map (nb_e l D cI cV a2)))) 0 rfl fl_X6_31 tyX6 tyX6_ok nmX6 (by first | exact Or.inl rfl | exact Or.inr ⟨rfl, rfl⟩) rfl rfl rfl (Nat.le_of_ble_eq_true rfl) dX6_init_35 rfl ?_
  refine nb_aload_n dX6_init_38 rfl ?_
  refine nb_iconst dX6_init_39 ?_
  refine nb_put (ws1 := ((h0, .inr (6, [.ref (a1 2 j), .ref (a2 0 j), ad_iv (-1), ad_iv (-1), ad_iv 0, .int 0, .int 0])) :: (([] ++ [(2, j), (12, j)].map (nb_e l D cI cV a1)) ++ [(0, j), (10, j), (11, j)].map (nb_e l D cI cV a2)))) 0 rfl fl_X6_34 tyX6 tyX6_ok nmX6 (by first | exact Or.inl rfl | exact Or.inr ⟨rfl, rfl⟩) rfl rfl rfl (Nat.le_of_ble_eq_true rfl) dX6_init_40 rfl ?_
  refine nb_aload_n dX6_init_43 rfl ?_
  refine nb_iconst dX6_init_44 ?_
  refine nb_put (ws1 := ((h0, .inr (6, [.ref (a1 2 j), .ref (a2 0 j), ad_iv (-1), ad_iv (-1), ad_iv 0, ad_iv 0, .int 0])) :: (([] ++ [(2, j), (12, j)].map (nb_e l D cI cV a1)) ++ [(0, j), (10, j), (11, j)].map (nb_e l D cI cV a2)))) 0 rfl fl_X6_37 tyX6 tyX6_ok nmX6 (by first | exact Or.inl rfl | exact Or.inr ⟨rfl, rfl⟩) rfl rfl rfl (Nat.le_of_ble_eq_true rfl) dX6_init_45 rfl ?_
  refine nb_aload_n dX6_init_48 rfl ?_
  refine nb_iconst dX6_init_49 ?_
  refine nb_put (ws1 := ((h0, .inr (6, [.ref (a1 2 j), .ref (a2 0 j), ad_iv (-1), ad_iv (-1), ad_iv 0, ad_iv 0, ad_iv (-1)])) :: (([] ++ [(2, j), (12, j)].map (nb_e l D cI cV a1)) ++ [(0, j), (10, j), (11, j)].map (nb_e l D cI cV a2)))) 0 rfl fl_X6_40 tyX6 tyX6_ok nmX6 (by first | exact Or.inl rfl | exact Or.inr ⟨rfl, rfl⟩) rfl rfl rfl (Nat.le_of_ble_eq_true rfl) dX6_init_50 rfl ?_
  exact nb_stop ⟨dX6_init_53, rfl, by omega, by omega, ⟨fun k i => if k = 6 then h0 else if k = 2 ∨ k = 12 then a1 k i else a2 k i, rfl, rfl⟩⟩
theorem mk_X5 {l : Launch} {D : va_G} {cI cV : ClassId} {d : Nat}  (hd0 : 4 ≤ d) : nb_M l D cI cV mX5_init d 5 df5 [] 4 112 (nb_B l D cI cV [(5, 0), (2, 33), (12, 33), (2, 34), (12, 34)] 5 0) := by
  refine nb_M_of 0 (by simp [Value.category]) rfl rfl rfl (Nat.le_of_ble_eq_true rfl) (fun h0 sz => ?_)
  simp only [List.map_cons, List.map_nil, List.replicate, List.cons_append, List.nil_append]
  refine nb_aload_n dX5_init_0 rfl ?_
  refine nb_objInit nl_X5_obj nw_oi nw_oc dX5_init_1 (by omega) (Nat.le_of_ble_eq_true rfl) ?_
  refine nb_aload_n dX5_init_4 rfl ?_
  refine nb_new (ci := 2) (fs := df2) tyX2 dX5_init_5 tyX2_ok nc_X5_9 ni_X2.2.1 ni_X2.2.2 ad_inX2 rfl df2_ok (by omega) (by omega) (fun q1 => ?_)
  refine nb_dup dX5_init_8 rfl ?_
  refine nb_bipush dX5_init_9 rfl ?_
  have hm1 := (mk_X2 (l := l) (D := D) (cI := cI) (cV := cV) (j := 33) (N := 96) (by first | rfl | decide | assumption) (by decide) (d := d - 1) (by omega))
  refine nb_init (j := 1) (S := [.ref q1, .ref h0]) hm1 (by omega) nm_X5_11 ni_X2.1.1 ni_X2.1.2.1 rfl ni_X2.1.2.2 ⟨by decide, by decide, by decide +kernel⟩ (by decide) rfl (As := [ad_iv ((96 : Nat) : Int)]) rfl rfl dX5_init_11 (Nat.le_of_ble_eq_true rfl) (by omega) (by omega) (fun b1 hb1 => ?_)
  obtain ⟨a1, rfl, rfl⟩ := hb1
  refine nb_put (ws1 := ((h0, .inr (5, [.ref (a1 2 33), .null])) :: ([] ++ [(2, 33), (12, 33)].map (nb_e l D cI cV a1)))) 0 rfl fl_X5_14 tyX5 tyX5_ok nmX5 (by first | exact Or.inl rfl | exact Or.inr ⟨rfl, rfl⟩) rfl rfl rfl (Nat.le_of_ble_eq_true rfl) dX5_init_14 rfl ?_
  refine nb_aload_n dX5_init_17 rfl ?_
  refine nb_new (ci := 2) (fs := df2) tyX2 dX5_init_18 tyX2_ok nc_X5_9 ni_X2.2.1 ni_X2.2.2 ad_inX2 rfl df2_ok (by omega) (by omega) (fun q2 => ?_)
  refine nb_dup dX5_init_21 rfl ?_
  refine nb_bipush dX5_init_22 rfl ?_
  have hm2 := (mk_X2 (l := l) (D := D) (cI := cI) (cV := cV) (j := 34) (N := 12) (by first | rfl | decide | assumption) (by decide) (d := d - 1) (by omega))
  refine nb_init (j := 1) (S := [.ref q2, .ref h0]) hm2 (by omega) nm_X5_11 ni_X2.1.1 ni_X2.1.2.1 rfl ni_X2.1.2.2 ⟨by decide, by decide, by decide +kernel⟩ (by decide) rfl (As := [ad_iv ((12 : Nat) : Int)]) rfl rfl dX5_init_24 (Nat.le_of_ble_eq_true rfl) (by omega) (by omega) (fun b2 hb2 => ?_)
  obtain ⟨a2, rfl, rfl⟩ := hb2
  refine nb_put (ws1 := ((h0, .inr (5, [.ref (a1 2 33), .ref (a2 2 34)])) :: (([] ++ [(2, 33), (12, 33)].map (nb_e l D cI cV a1)) ++ [(2, 34), (12, 34)].map (nb_e l D cI cV a2)))) 0 rfl fl_X5_20 tyX5 tyX5_ok nmX5 (by first | exact Or.inl rfl | exact Or.inr ⟨rfl, rfl⟩) rfl rfl rfl (Nat.le_of_ble_eq_true rfl) dX5_init_27 rfl ?_
  exact nb_stop ⟨dX5_init_30, rfl, by omega, by omega, ⟨fun k i => if k = 5 then h0 else if i = 33 then a1 k i else a2 k i, rfl, rfl⟩⟩
