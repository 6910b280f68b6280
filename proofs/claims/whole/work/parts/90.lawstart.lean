/-! ===== the law makes both systems ===== -/
def law_Z (l : Launch) (D : va_G) (cI cV : ClassId) (b : Nat) (pc : Nat) (L : List (Option Value)) (S : List Value) (ws : va_W) (k n : Nat) : Prop := pc = 18 ∧ S = [] ∧ (k ≤ 600000 ∧ n ≤ 7302250) ∧ ∃ (h7 h8 : Nat) (w7 w8 : va_W), L = [some (.ref b), some (.ref h7), some (.ref h8), some (ad_iv 0)] ∧ ws = w7 ++ w8 ∧ nb_B2 l D cI cV ckeys 7 0 h7 w7 ∧ nb_B l D cI cV mkeys 8 0 h8 w8
theorem law_make {l : Launch} {D : va_G} {cI cV : ClassId} {d b : Nat} {A : Nat → Prop} (hd0 : 8 ≤ d) : nb_R l D cI cV mL_law d A 600000 7302250 (law_Z l D cI cV b) 0 [some (.ref b), none, none, none] [] [] 0 0 := by
  refine nb_new (ci := 7) (fs := df7) tyX7 dL_law_0 tyX7_ok nc_L_7 ni_X7.2.1 ni_X7.2.2 ad_inX7 rfl df7_ok (by omega) (by omega) (fun q1 => ?_)
  refine nb_dup dL_law_3 rfl ?_
  have hm7 := mk_X7 (l := l) (D := D) (cI := cI) (cV := cV) (d := d - 1) (by omega)
  refine nb_init (j := 0) (S := [.ref q1]) hm7 (by omega) nm_L_9 ni_X7.1.1 ni_X7.1.2.1 rfl ni_X7.1.2.2 ⟨by decide, by decide, by decide +kernel⟩ (by decide) rfl (As := []) rfl rfl dL_law_4 (Nat.le_of_ble_eq_true rfl) (by omega) (by omega) (fun w7 hw7 => ?_)
  refine nb_astore_n dL_law_7 (by decide) rfl (by dsimp only [ad_set]) ?_
  refine nb_new (ci := 8) (fs := df8) tyX8 dL_law_8 tyX8_ok nc_L_10 ni_X8.2.1 ni_X8.2.2 ad_inX8 rfl df8_ok (by omega) (by omega) (fun q2 => ?_)
  refine nb_dup dL_law_11 rfl ?_
  have hm8 := mk_X8 (l := l) (D := D) (cI := cI) (cV := cV) (d := d - 1) (by omega)
  refine nb_init (j := 0) (S := [.ref q2]) hm8 (by omega) nm_L_12 ni_X8.1.1 ni_X8.1.2.1 rfl ni_X8.1.2.2 ⟨by decide, by decide, by decide +kernel⟩ (by decide) rfl (As := []) rfl rfl dL_law_12 (Nat.le_of_ble_eq_true rfl) (by omega) (by omega) (fun w8 hw8 => ?_)
  refine nb_astore_n dL_law_15 (by decide) rfl (by dsimp only [ad_set]) ?_
  refine nb_iconst dL_law_16 ?_
  refine nb_istore_n dL_law_17 (by decide) rfl (by dsimp only [ad_set]) ?_
  exact nb_stop ⟨rfl, rfl, ⟨by omega, by omega⟩, q1, q2, w7, w8, rfl, rfl, hw7, hw8⟩
