/-! ===== Told: faults of form; archive ===== -/
/-- the first place that does not fit, of n signs of the form i from k on, from place p on; -1: none -/
def ad_fn (S : List Int) (i : Nat) : Nat → Nat → Int → Int
  | 0, _, _ => -1
  | n + 1, k, p => if ad_ft S (ad_sch i k) p = 0 then p else ad_fn S i n (k + 1) (p + ad_ft S (ad_sch i k) p)
def ad_fi (S : List Int) (p : Int) : Int := if ad_slen.getD (ad_fx (ad_sg S p)) 0 = 0 then p else ad_fn S (ad_fx (ad_sg S p)) (ad_slen.getD (ad_fx (ad_sg S p)) 0) 0 (p + 1)
def ad_pf (S : List Int) : Nat → Int → Int
  | 0, _ => -1
  | n + 1, p => if ad_fi S p ≠ -1 then ad_fi S p else if (S.length : Int) ≤ ad_pb S p then -1 else ad_pf S n (ad_pb S p)
/-- the statements from a place on, run -/
def ad_ar (S : List Int) : Nat → Int → ad_Ar → Int → Int × ad_Ar
  | 0, _, A, z => (z, A)
  | n + 1, p, A, z => if p < S.length then (if (ad_t_run A S p).isSome = true then ad_ar S n (ad_pb S p) ((ad_t_run A S p).getD A) (z + 1) else (-2000 - p, A)) else (z, A)
def ad_m_archive (C : ad_C7) : Int × ad_C7 :=
  if ad_pf (ad_cS C) ((ad_cS C).length + 1) 0 ≠ -1 then (-1000 - ad_pf (ad_cS C) ((ad_cS C).length + 1) 0, ad_sS C [])
  else if 0 ≤ (ad_ar (ad_cS C) (ad_cS C).length 0 (ad_cA C) 0).1 then ((ad_ar (ad_cS C) (ad_cS C).length 0 (ad_cA C) 0).1, ad_sS (ad_sA C (ad_ar (ad_cS C) (ad_cS C).length 0 (ad_cA C) 0).2) [])
  else ((ad_ar (ad_cS C) (ad_cS C).length 0 (ad_cA C) 0).1, ad_sS C [])
theorem ad_ft_rng (S : List Int) (c p : Int) : 0 ≤ ad_ft S c p ∧ ad_ft S c p ≤ 12 := by
  have h := ad_lf_ge S p
  unfold ad_ft
  repeat' split
  all_goals omega
theorem ad_fn_rng (S : List Int) (i : Nat) : ∀ (n k : Nat) (p : Int), 0 ≤ p → -1 ≤ ad_fn S i n k p ∧ ad_fn S i n k p ≤ p + 12 * n
  | 0, k, p, h => by simp only [ad_fn]; omega
  | n + 1, k, p, h => by
    have hr := ad_ft_rng S (ad_sch i k) p
    have ih := ad_fn_rng S i n (k + 1) (p + ad_ft S (ad_sch i k) p) (by omega)
    rw [ad_fn]
    split <;> omega
theorem ad_fi_rng (S : List Int) {p : Int} (h : 0 ≤ p) : -1 ≤ ad_fi S p ∧ ad_fi S p ≤ p + 61 := by
  have h5 := (ad_sln_ok _ (ad_fx_lt (ad_sg S p))).2
  have h2 := ad_fn_rng S (ad_fx (ad_sg S p)) (ad_slen.getD (ad_fx (ad_sg S p)) 0) 0 (p + 1) (by omega)
  unfold ad_fi
  split <;> omega
theorem ad_pbN_rng (S : List Int) : ∀ (n : Nat) (p : Int), p + 1 ≤ ad_pbN S n p ∧ ad_pbN S n p ≤ p + 1 + n
  | 0, p => by simp only [ad_pbN]; omega
  | n + 1, p => by
    have ih := ad_pbN_rng S n (p + 1)
    rw [ad_pbN]
    split <;> omega
theorem ad_pb_rng (S : List Int) {p : Int} (h : 0 ≤ p) : p + 1 ≤ ad_pb S p ∧ (ad_pb S p ≤ p + 1 ∨ ad_pb S p ≤ S.length + 1) := by
  have := ad_pbN_rng S (S.length - p).toNat p
  unfold ad_pb
  omega
theorem ad_sch_0 : ad_sch 0 0 = 112 ∧ ad_sch 0 1 = 112 ∧ ad_sch 0 2 = 115 ∧ ad_sch 2 0 = 100 ∧ ad_sch 2 1 = 100 ∧ ad_sch 5 0 = 100 ∧ ad_sch 5 1 = 100 ∧ ad_sch 5 2 = 100 ∧ ad_sch 5 3 = 108 := by decide +kernel
theorem ad_fn_go {S : List Int} {i n k : Nat} {p : Int} (hp : 0 ≤ p) (h : ad_fn S i (n + 1) k p = -1) : 1 ≤ ad_ft S (ad_sch i k) p ∧ ad_fn S i n (k + 1) (p + ad_ft S (ad_sch i k) p) = -1 := by
  have hr := ad_ft_rng S (ad_sch i k) p
  rw [ad_fn] at h
  by_cases hz : ad_ft S (ad_sch i k) p = 0
  · rw [if_pos hz] at h; omega
  · rw [if_neg hz] at h; exact ⟨by omega, h⟩
theorem ad_ft_1 {S : List Int} {c p : Int} (hc : c ≠ 115) : ad_ft S c p ≤ 1 := by
  unfold ad_ft
  repeat' split
  all_goals omega
theorem ad_fi_frm {S : List Int} {p : Int} (hp : 0 ≤ p) (h : ad_fi S p = -1) : ad_frm S p := by
  obtain ⟨s1, s2, s3, s4, s5, s6, s7, s8, s9⟩ := ad_sch_0
  unfold ad_fi at h
  refine ⟨fun hs => ?_, fun hs => ?_, fun hs => ?_⟩
  · rw [hs, show ad_fx 118 = 0 by rfl, if_neg (by decide)] at h
    obtain ⟨g1, h⟩ := ad_fn_go (by omega) (show ad_fn S 0 4 0 (p + 1) = -1 from h)
    rw [s1] at g1 h
    have := ad_ft_1 (S := S) (c := 112) (p := p + 1) (by decide)
    rw [show ad_ft S 112 (p + 1) = 1 by omega] at h
    obtain ⟨g2, h⟩ := ad_fn_go (by omega) h
    rw [s2] at g2 h
    have := ad_ft_1 (S := S) (c := 112) (p := p + 1 + 1) (by decide)
    rw [show ad_ft S 112 (p + 1 + 1) = 1 by omega] at h
    obtain ⟨g3, h⟩ := ad_fn_go (by omega) h
    rw [s3] at g3
    rw [show p + 1 + 1 + 1 = p + 3 by omega] at g3
    exact g3
  · rw [hs, show ad_fx 107 = 2 by rfl, if_neg (by decide)] at h
    obtain ⟨g1, h⟩ := ad_fn_go (by omega) (show ad_fn S 2 3 0 (p + 1) = -1 from h)
    rw [s4] at g1 h
    have := ad_ft_1 (S := S) (c := 100) (p := p + 1) (by decide)
    rw [show ad_ft S 100 (p + 1) = 1 by omega] at h
    obtain ⟨g2, h⟩ := ad_fn_go (by omega) h
    rw [s5, show p + 1 + 1 = p + 2 by omega] at g2
    unfold ad_ft at g2
    rw [if_pos rfl] at g2
    by_cases hz : ad_isD (ad_sg S (p + 2))
    · exact hz
    · rw [if_neg hz] at g2; omega
  · rw [hs, show ad_fx 120 = 5 by rfl, if_neg (by decide)] at h
    obtain ⟨g1, h⟩ := ad_fn_go (by omega) (show ad_fn S 5 5 0 (p + 1) = -1 from h)
    rw [s6] at g1 h
    have := ad_ft_1 (S := S) (c := 100) (p := p + 1) (by decide)
    rw [show ad_ft S 100 (p + 1) = 1 by omega] at h
    obtain ⟨g2, h⟩ := ad_fn_go (by omega) h
    rw [s7] at g2 h
    have := ad_ft_1 (S := S) (c := 100) (p := p + 1 + 1) (by decide)
    rw [show ad_ft S 100 (p + 1 + 1) = 1 by omega] at h
    obtain ⟨g3, h⟩ := ad_fn_go (by omega) h
    rw [s8] at g3 h
    have := ad_ft_1 (S := S) (c := 100) (p := p + 1 + 1 + 1) (by decide)
    rw [show ad_ft S 100 (p + 1 + 1 + 1) = 1 by omega] at h
    obtain ⟨g4, h⟩ := ad_fn_go (by omega) h
    rw [s9, show p + 1 + 1 + 1 + 1 = p + 4 by omega] at g4
    unfold ad_ft at g4
    rw [if_neg (by decide), if_pos rfl] at g4
    by_cases hz : ad_isL (ad_sg S (p + 4))
    · exact hz
    · rw [if_neg hz] at g4; omega
theorem c_X5_faultIn {g : ad_G} {d : Nat} {σ : ad_Mem} {S : List Int} (hw : ad_nw σ 33) (hS : ad_nl σ 33 = S) (hb : ∀ x ∈ S, 0 ≤ x ∧ x ≤ 255) {p : Int} (hp : 0 ≤ p ∧ p ≤ 110) (h4d : 4 ≤ d) : ad_Q g mX5_faultIn d [ad_rf g 5 0, ad_iv p] σ (fun x m => x = ad_iv (ad_fi S p) ∧ m = σ) := by
  have hx6 := ad_fx_lt (ad_sg S p)
  have hx5 := (ad_sln_ok _ hx6).2
  have hloop : ∀ (n : Nat) (k : Nat) (q : Int) (x5 : Option Value), (k ≤ ad_slen.getD (ad_fx (ad_sg S p)) 0 ∧ (ad_slen.getD (ad_fx (ad_sg S p)) 0 = 0 → k = 0)) → (0 ≤ q ∧ q ≤ 111 + 12 * k) → (ad_fi S p = if ad_slen.getD (ad_fx (ad_sg S p)) 0 = 0 then p else ad_fn S (ad_fx (ad_sg S p)) (ad_slen.getD (ad_fx (ad_sg S p)) 0 - k) k q) → (((ad_slen.getD (ad_fx (ad_sg S p)) 0 - k : Nat) : Int)).toNat ≤ n → ad_R g mX5_faultIn d (ad_ZQ mX5_faultIn (fun x m => x = ad_iv (ad_fi S p) ∧ m = σ)) 19 [some (ad_rf g 5 0), some (ad_iv p), some (ad_sK g (ad_fx (ad_sg S p))), some (ad_iv q), some (ad_iv (k : Int)), x5] [] σ := by
    intro n
    induction n with
    | zero =>
      intro k q x5 hk hq hrel hn
      refine ad_iload dX5_faultIn_19 rfl ?_
      refine ad_aload_n dX5_faultIn_21 rfl ?_
      refine ad_callT0 (own := RX5) rfl rfl lk_X5_41 (ad_in 380 (by decide +kernel) rfl) (ad_in 381 (by decide +kernel) rfl) cw_J0_length_8abf5 dX5_faultIn_22 hx6 (c_J0_length (by omega) hx6) (by omega) (Nat.le_of_ble_eq_true rfl) ?_
      refine ad_icmp_ge 59 dX5_faultIn_25 (by decide) (by omega) (by omega) (fun h25 => ?_) (fun h25 => ?_)
      · skip
        refine ad_aload_n dX5_faultIn_59 rfl ?_
        refine ad_callT0 (own := RX5) rfl rfl lk_X5_55 (ad_in 442 (by decide +kernel) rfl) (ad_in 443 (by decide +kernel) rfl) cw_J0_isEmpty_aae02 dX5_faultIn_60 hx6 (c_J0_isEmpty hx6) (by omega) (Nat.le_of_ble_eq_true rfl) ?_
        refine ad_ifp_eq 70 dX5_faultIn_63 (by decide) (fun h63 => ?_) (fun h63 => ?_)
        · skip
          refine ad_iconst dX5_faultIn_70 ?_
          exact ad_reti dX5_faultIn_71 rfl (by
            rw [hrel, if_neg h63, show ad_slen.getD (ad_fx (ad_sg S p)) 0 - k = 0 by omega, ad_fn]
            exact ⟨rfl, rfl⟩)
        · show ad_R _ _ _ _ 66 _ _ _
          refine ad_iload_n dX5_faultIn_66 rfl ?_
          refine ad_goto 71 dX5_faultIn_67 (by decide) ?_
          exact ad_reti dX5_faultIn_71 rfl (by
            rw [hrel, if_pos h63]
            exact ⟨rfl, rfl⟩)
      · show ad_R _ _ _ _ 28 _ _ _
        have hfr := ad_ft_rng S (ad_sch (ad_fx (ad_sg S p)) k) q
        exfalso; omega
    | succ n ih =>
      intro k q x5 hk hq hrel hn
      refine ad_iload dX5_faultIn_19 rfl ?_
      refine ad_aload_n dX5_faultIn_21 rfl ?_
      refine ad_callT0 (own := RX5) rfl rfl lk_X5_41 (ad_in 380 (by decide +kernel) rfl) (ad_in 381 (by decide +kernel) rfl) cw_J0_length_8abf5 dX5_faultIn_22 hx6 (c_J0_length (by omega) hx6) (by omega) (Nat.le_of_ble_eq_true rfl) ?_
      refine ad_icmp_ge 59 dX5_faultIn_25 (by decide) (by omega) (by omega) (fun h25 => ?_) (fun h25 => ?_)
      · skip
        refine ad_aload_n dX5_faultIn_59 rfl ?_
        refine ad_callT0 (own := RX5) rfl rfl lk_X5_55 (ad_in 442 (by decide +kernel) rfl) (ad_in 443 (by decide +kernel) rfl) cw_J0_isEmpty_aae02 dX5_faultIn_60 hx6 (c_J0_isEmpty hx6) (by omega) (Nat.le_of_ble_eq_true rfl) ?_
        refine ad_ifp_eq 70 dX5_faultIn_63 (by decide) (fun h63 => ?_) (fun h63 => ?_)
        · skip
          refine ad_iconst dX5_faultIn_70 ?_
          exact ad_reti dX5_faultIn_71 rfl (by
            rw [hrel, if_neg h63, show ad_slen.getD (ad_fx (ad_sg S p)) 0 - k = 0 by omega, ad_fn]
            exact ⟨rfl, rfl⟩)
        · show ad_R _ _ _ _ 66 _ _ _
          refine ad_iload_n dX5_faultIn_66 rfl ?_
          refine ad_goto 71 dX5_faultIn_67 (by decide) ?_
          exact ad_reti dX5_faultIn_71 rfl (by
            rw [hrel, if_pos h63]
            exact ⟨rfl, rfl⟩)
      · show ad_R _ _ _ _ 28 _ _ _
        have hfr := ad_ft_rng S (ad_sch (ad_fx (ad_sg S p)) k) q
        refine ad_aload_n dX5_faultIn_28 rfl ?_
        refine ad_aload_n dX5_faultIn_29 rfl ?_
        refine ad_iload dX5_faultIn_30 rfl ?_
        refine ad_callT1 (own := RX5) rfl rfl lk_X5_47 (ad_in 390 (by decide +kernel) rfl) (ad_in 391 (by decide +kernel) rfl) cw_J0_charAt_5068e dX5_faultIn_32 hx6 (c_J0_charAt (by omega) hx6 (by omega)) (by omega) (Nat.le_of_ble_eq_true rfl) ?_
        refine ad_iload_n dX5_faultIn_35 rfl ?_
        refine ad_cv2f rfl cl_X5_51 dX5_faultIn_36 (c_X5_fitting hw hS hb (by have := ad_sch_ok _ hx6 k (by omega); omega) (by omega) (by omega)) (by omega) (by show _ < 1; omega) (Nat.le_of_ble_eq_true rfl) ?_
        refine ad_istore dX5_faultIn_39 (by decide) rfl (by dsimp only [ad_set]) ?_
        refine ad_iload dX5_faultIn_41 rfl ?_
        refine ad_if_ne 48 dX5_faultIn_43 (by decide) (by omega) (fun h43 => ?_) (fun h43 => ?_)
        · skip
          refine ad_iload_n dX5_faultIn_48 rfl ?_
          refine ad_iload dX5_faultIn_49 rfl ?_
          refine ad_iadd dX5_faultIn_51 ?_
          refine ad_istore_n dX5_faultIn_52 (by decide) rfl (by dsimp only [ad_set]) ?_
          refine ad_iinc dX5_faultIn_53 rfl (by decide) rfl (by dsimp only [ad_set]) ?_
          refine ad_goto 19 dX5_faultIn_56 (by decide) ?_
          exact ih (k + 1) (q + ad_ft S (ad_sch (ad_fx (ad_sg S p)) k) q) _ (by omega) (by omega) (by
            rw [hrel, if_neg (by omega), if_neg (by omega), show ad_slen.getD (ad_fx (ad_sg S p)) 0 - k = ad_slen.getD (ad_fx (ad_sg S p)) 0 - (k + 1) + 1 by omega, ad_fn, if_neg h43]) (by omega)
        · show ad_R _ _ _ _ 46 _ _ _
          refine ad_iload_n dX5_faultIn_46 rfl ?_
          exact ad_reti dX5_faultIn_47 rfl (by rw [hrel, if_neg (by omega), show ad_slen.getD (ad_fx (ad_sg S p)) 0 - k = ad_slen.getD (ad_fx (ad_sg S p)) 0 - (k + 1) + 1 by omega, ad_fn, if_pos (by omega)]; exact ⟨rfl, rfl⟩)
  refine ad_M1 (k := 4) rfl (by simp [Value.category]) rfl (Nat.le_of_ble_eq_true rfl) ?_
  simp only [List.map_cons, List.map_nil, List.replicate, List.cons_append, List.nil_append]
  refine ad_aload_n dX5_faultIn_0 rfl ?_
  refine gf_X5_14 rfl dX5_faultIn_1 ?_
  refine ad_iload_n dX5_faultIn_4 rfl ?_
  refine ad_cv1f rfl cl_X5_34 dX5_faultIn_5 (c_X2_at (by omega) hw (by omega)) (by omega) (by show _ < 36; omega) (Nat.le_of_ble_eq_true rfl) ?_
  rw [ad_sg_at hw hS]
  have hsr := ad_sg_rng hb p
  refine ad_cs1f rfl cl_X5_37 dX5_faultIn_8 (c_X5_formOf (by omega)) (by omega) (Nat.le_of_ble_eq_true rfl) ?_
  refine ad_astore_n dX5_faultIn_11 (by decide) rfl (by dsimp only [ad_set]) ?_
  have hx6 := ad_fx_lt (ad_sg S p)
  have hx5 := (ad_sln_ok _ hx6).2
  have hk0 : ad_fi S p = if ad_slen.getD (ad_fx (ad_sg S p)) 0 = 0 then p else ad_fn S (ad_fx (ad_sg S p)) (ad_slen.getD (ad_fx (ad_sg S p)) 0 - 0) 0 (p + 1) := rfl
  refine ad_iload_n dX5_faultIn_12 rfl ?_
  refine ad_iconst dX5_faultIn_13 ?_
  refine ad_iadd dX5_faultIn_14 ?_
  refine ad_istore_n dX5_faultIn_15 (by decide) rfl (by dsimp only [ad_set]) ?_
  refine ad_iconst dX5_faultIn_16 ?_
  refine ad_istore dX5_faultIn_17 (by decide) rfl (by dsimp only [ad_set]) ?_
  exact hloop _ 0 (p + 1) none (by omega) (by omega) hk0 (Nat.le_refl _)
theorem c_X5_placeOfFault {g : ad_G} {d : Nat} {σ : ad_Mem} {S : List Int} (hw : ad_nw σ 33) (hS : ad_nl σ 33 = S) (hb : ∀ x ∈ S, 0 ≤ x ∧ x ≤ 255) (h96 : S.length ≤ 96) (h5d : 5 ≤ d) : ad_Q g mX5_placeOfFault d [ad_rf g 5 0] σ (fun x m => x = ad_iv (ad_pf S (S.length + 1) 0) ∧ m = σ) := by
  have hsz := ad_nw_sz hw hS
  have hloop : ∀ (n : Nat) (i : Nat) (p : Int) (x3 : Option Value), (i ≤ S.length + 1) → (0 ≤ p ∧ p ≤ S.length) → (ad_pf S (S.length + 1) 0 = ad_pf S (S.length + 1 - i) p) → (((S.length + 1 - i : Nat) : Int)).toNat ≤ n → ad_R g mX5_placeOfFault d (ad_ZQ mX5_placeOfFault (fun x m => x = ad_iv (ad_pf S (S.length + 1) 0) ∧ m = σ)) 4 [some (ad_rf g 5 0), some (ad_iv p), some (ad_iv (i : Int)), x3] [] σ := by
    intro n
    induction n with
    | zero =>
      intro i p x3 hi hp hrel hn
      refine ad_iload_n dX5_placeOfFault_4 rfl ?_
      refine ad_aload_n dX5_placeOfFault_5 rfl ?_
      refine gf_X5_14 rfl dX5_placeOfFault_6 ?_
      refine gf_X5_23 rfl (by omega) dX5_placeOfFault_9 ?_
      rw [hsz]
      refine ad_icmp_gt 53 dX5_placeOfFault_12 (by decide) (by omega) (by omega) (fun h12 => ?_) (fun h12 => ?_)
      · skip
        refine ad_iconst dX5_placeOfFault_53 ?_
        exact ad_reti dX5_placeOfFault_54 rfl (by rw [hrel, show S.length + 1 - i = 0 by omega, ad_pf]; exact ⟨rfl, rfl⟩)
      · show ad_R _ _ _ _ 15 _ _ _
        have hfr := ad_fi_rng S (p := p) (by omega)
        have hpb := ad_pb_rng S (p := p) (by omega)
        exfalso; omega
    | succ n ih =>
      intro i p x3 hi hp hrel hn
      refine ad_iload_n dX5_placeOfFault_4 rfl ?_
      refine ad_aload_n dX5_placeOfFault_5 rfl ?_
      refine gf_X5_14 rfl dX5_placeOfFault_6 ?_
      refine gf_X5_23 rfl (by omega) dX5_placeOfFault_9 ?_
      rw [hsz]
      refine ad_icmp_gt 53 dX5_placeOfFault_12 (by decide) (by omega) (by omega) (fun h12 => ?_) (fun h12 => ?_)
      · skip
        refine ad_iconst dX5_placeOfFault_53 ?_
        exact ad_reti dX5_placeOfFault_54 rfl (by rw [hrel, show S.length + 1 - i = 0 by omega, ad_pf]; exact ⟨rfl, rfl⟩)
      · show ad_R _ _ _ _ 15 _ _ _
        have hfr := ad_fi_rng S (p := p) (by omega)
        have hpb := ad_pb_rng S (p := p) (by omega)
        refine ad_aload_n dX5_placeOfFault_15 rfl ?_
        refine ad_iload_n dX5_placeOfFault_16 rfl ?_
        refine ad_cv1f rfl cl_X5_27 dX5_placeOfFault_17 (c_X5_faultIn hw hS hb (by omega) (by omega)) (by omega) (by show _ < 1; omega) (Nat.le_of_ble_eq_true rfl) ?_
        refine ad_istore_n dX5_placeOfFault_20 (by decide) rfl (by dsimp only [ad_set]) ?_
        refine ad_iload_n dX5_placeOfFault_21 rfl ?_
        refine ad_iconst dX5_placeOfFault_22 ?_
        refine ad_icmp_eq 28 dX5_placeOfFault_23 (by decide) (by omega) (by omega) (fun h23 => ?_) (fun h23 => ?_)
        · skip
          refine ad_aload_n dX5_placeOfFault_28 rfl ?_
          refine ad_iload_n dX5_placeOfFault_29 rfl ?_
          refine ad_cv1f rfl cl_X5_31 dX5_placeOfFault_30 (c_X5_placeBehind hw hS hb (by omega) (by omega)) (by omega) (by show _ < 1; omega) (Nat.le_of_ble_eq_true rfl) ?_
          refine ad_istore_n dX5_placeOfFault_33 (by decide) rfl (by dsimp only [ad_set]) ?_
          refine ad_iload_n dX5_placeOfFault_34 rfl ?_
          refine ad_aload_n dX5_placeOfFault_35 rfl ?_
          refine gf_X5_14 rfl dX5_placeOfFault_36 ?_
          refine gf_X5_23 rfl (by omega) dX5_placeOfFault_39 ?_
          rw [hsz]
          refine ad_icmp_lt 47 dX5_placeOfFault_42 (by decide) (by omega) (by omega) (fun h42 => ?_) (fun h42 => ?_)
          · skip
            refine ad_iinc dX5_placeOfFault_47 rfl (by decide) rfl (by dsimp only [ad_set]) ?_
            refine ad_goto 4 dX5_placeOfFault_50 (by decide) ?_
            exact ih (i + 1) (ad_pb S p) _ (by omega) (by omega) (by rw [hrel, show S.length + 1 - i = S.length + 1 - (i + 1) + 1 by omega, ad_pf, if_neg (by omega), if_neg (by omega)]) (by omega)
          · show ad_R _ _ _ _ 45 _ _ _
            refine ad_iconst dX5_placeOfFault_45 ?_
            exact ad_reti dX5_placeOfFault_46 rfl (by rw [hrel, show S.length + 1 - i = S.length + 1 - (i + 1) + 1 by omega, ad_pf, if_neg (by omega), if_pos (by omega)]; exact ⟨rfl, rfl⟩)
        · show ad_R _ _ _ _ 26 _ _ _
          refine ad_iload_n dX5_placeOfFault_26 rfl ?_
          exact ad_reti dX5_placeOfFault_27 rfl (by rw [hrel, show S.length + 1 - i = S.length + 1 - (i + 1) + 1 by omega, ad_pf, if_pos (by omega)]; exact ⟨rfl, rfl⟩)
  refine ad_M1 (k := 3) rfl (by simp [Value.category]) rfl (Nat.le_of_ble_eq_true rfl) ?_
  simp only [List.map_cons, List.map_nil, List.replicate, List.cons_append, List.nil_append]
  refine ad_iconst dX5_placeOfFault_0 ?_
  refine ad_istore_n dX5_placeOfFault_1 (by decide) rfl (by dsimp only [ad_set]) ?_
  refine ad_iconst dX5_placeOfFault_2 ?_
  refine ad_istore_n dX5_placeOfFault_3 (by decide) rfl (by dsimp only [ad_set]) ?_
  exact hloop _ 0 0 none (by omega) (by omega) rfl (Nat.le_refl _)
