/-! ===== the reference: lost, mean, fetch ===== -/
theorem ad_nol_eq (n : Nat) (C : ad_C7) (m : ad_Mem) {x : Value} {y : Int} (hx : x = ad_lv (4000000000000000000 - y)) (hy : y = -(n : Int)) : x = ad_lv (ad_nol C n).1 := by
  rw [hx, hy]; congr 2; show (4000000000000000000 : Int) - -(n : Int) = 4000000000000000000 + (n : Int); omega
theorem ad_cst_r8 {A : ad_Ar} (hw : ad_wA A) {v : Nat} (hv : ad_aH A v = true) : 0 ≤ ad_cst A v ∧ ad_cst A v ≤ 25 := by
  have hl := (hw.2.2.1 v hv).1
  have hT := ad_T12 hw hv
  have hn := ad_nc_le (ad_aT A v)
  unfold ad_cst ad_dc
  split <;> omega
theorem ad_all_r8 {A : ad_Ar} (hw : ad_wA A) : 0 ≤ ad_all A ∧ ad_all A ≤ 250 := by
  have h := ad_sm_rng (f := ad_cstH A) (M := 25) (fun i => by
    unfold ad_cstH
    by_cases hz : ad_aH A i = true
    · rw [if_pos hz]; exact ad_cst_r8 hw hz
    · rw [if_neg hz]; omega) 10
  unfold ad_all
  omega
theorem ad_all_none {A : ad_Ar} (h : ad_pp (ad_aH A) 10 = 0) : ad_all A = 0 := by
  have hz := ad_pp_zero (p := ad_aH A) 10 h
  have key : ∀ n, n ≤ 10 → ad_sm (ad_cstH A) n = 0 := by
    intro n
    induction n with
    | zero => intro _; rfl
    | succ n ih =>
      intro hn
      rw [ad_sm, ih (by omega)]
      unfold ad_cstH
      rw [if_neg (by rw [hz n (by omega)]; decide)]; rfl
  exact key 10 (Nat.le_refl _)
theorem ad_pp_10 (p : Nat → Bool) : ∀ n, ad_pp p n ≤ n := ad_pp_le p
theorem c_X8_mean {g : ad_G} {d : Nat} {σ : ad_Mem} {C : ad_C7} {p : Int} (hp : ad_rng p) (h70d : 70 ≤ d) (hC : ad_c8 σ C) (h16d : 16 ≤ d) : ad_Q g mX8_mean d [ad_rf g 8 0, ad_iv p] σ (fun x m => ad_al8 σ x m (ad_m_mean C p)) := by
  have hC0 := hC
  obtain ⟨a1, a2, a3, a4, a5, a6⟩ := hC0
  have hr := a1.1
  have hw := a1.2
  refine ad_M1 (k := 1) rfl (by simp [Value.category]) rfl (Nat.le_of_ble_eq_true rfl) ?_
  simp only [List.map_cons, List.map_nil, List.replicate, List.cons_append, List.nil_append]
  refine ad_iload_n dX8_mean_0 rfl ?_
  refine ad_iconst dX8_mean_1 ?_
  refine ad_iconst dX8_mean_2 ?_
  refine ad_cs3f rfl cl_X8_55 dX8_mean_3 (c_X8_isIn (by omega) (by omega) (by omega)) (by omega) (Nat.le_of_ble_eq_true rfl) ?_
  refine ad_ifp_ne 16 dX8_mean_6 (by decide) (fun h6 => ?_) (fun h6 => ?_)
  · skip
    refine ad_aload_n dX8_mean_16 rfl ?_
    refine ad_cv0f rfl cl_X8_142 dX8_mean_17 (c_X8_there hr (by omega)) (by omega) (by show _ < 1; omega) (Nat.le_of_ble_eq_true rfl) ?_
    refine ad_cs1f rfl cl_X8_148 dX8_mean_20 (c_X8_ones (ad_bits_lt _)) (by omega) (Nat.le_of_ble_eq_true rfl) ?_
    rw [ad_ones_bits]
    have hp10 := ad_pp_10 (ad_aH (ad_cA C)) 10
    refine ad_istore_n dX8_mean_23 (by decide) rfl (by dsimp only [ad_set]) ?_
    refine ad_iload_n dX8_mean_24 rfl ?_
    refine ad_if_ne 33 dX8_mean_25 (by decide) (by omega) (fun h25 => ?_) (fun h25 => ?_)
    · skip
      refine ad_aload_n dX8_mean_33 rfl ?_
      refine ad_cv0q rfl cl_X8_112 dX8_mean_34 (c_X8_cost hr hw (by omega)) (by omega) (by show _ < 1; omega) (Nat.le_of_ble_eq_true rfl) (fun x34 s34 q34 => ?_)
      obtain ⟨rfl, f34, g34⟩ := q34
      have hal := ad_all_r8 hw
      obtain ⟨al, hale⟩ : ∃ al : Nat, ad_all (ad_cA C) = (al : Int) := ⟨(ad_all (ad_cA C)).toNat, by omega⟩
      rw [hale]
      refine ad_i2l dX8_mean_37 (by constructor <;> omega) ?_
      refine ad_iload_n dX8_mean_38 rfl ?_
      refine ad_i2l dX8_mean_39 (by constructor <;> omega) ?_
      refine ad_iload_n dX8_mean_40 rfl ?_
      refine ad_cs3f rfl cl_X8_208 dX8_mean_41 (c_X8_part (k := 20) (a := al) (b := ad_pp (ad_aH (ad_cA C)) 10) (by have := Nat.mul_le_mul (show al ≤ 250 by omega) hp10; omega) (by omega) (by omega) (by omega) (by omega) (by omega)) (by omega) (Nat.le_of_ble_eq_true rfl) ?_
      exact ad_retl dX8_mean_44 rfl (by
            have hg := Nat.gcd_pos_of_pos_right al (show 0 < ad_pp (ad_aH (ad_cA C)) 10 by omega)
            have e : ad_m_mean C p = ((((if p = 0 then al else ad_pp (ad_aH (ad_cA C)) 10) / Nat.gcd al (ad_pp (ad_aH (ad_cA C)) 10) : Nat) : Int), C) := by
              unfold ad_m_mean
              rw [hale, Int.toNat_natCast, if_neg (by omega), if_neg (by omega)]
              by_cases hp0 : p = 0
              · rw [if_pos hp0, if_pos hp0, Int.natCast_ediv]
              · rw [if_neg hp0, if_neg hp0, Int.natCast_ediv]
            rw [e]
            exact ⟨rfl, ad_c8_fr hC (f34.mono (by decide) (by decide)), (f34.mono (by decide) (by decide))⟩)
    · show ad_R _ _ _ _ 28 _ _ _
      refine ad_iload_n dX8_mean_28 rfl ?_
      refine ad_i2l dX8_mean_29 (by omega) ?_
      refine ad_goto 44 dX8_mean_30 (by decide) ?_
      exact ad_retl dX8_mean_44 rfl (by
            have e : ad_m_mean C p = (p, C) := by
              have h0 : ad_pp (ad_aH (ad_cA C)) 10 = 0 := by omega
              unfold ad_m_mean
              rw [if_neg (by omega), if_pos (by rw [ad_all_none h0, h0]; rfl)]
            rw [e]
            exact ⟨rfl, hC, ad_f8.refl⟩)
  · show ad_R _ _ _ _ 9 _ _ _
    refine ad_aload_n dX8_mean_9 rfl ?_
    refine ad_bipush dX8_mean_10 rfl ?_
    refine ad_cv1q rfl cl_X8_204 dX8_mean_12 (c_X8_noLongC hC (by decide) (by omega)) (by omega) (by show _ < 1; omega) (Nat.le_of_ble_eq_true rfl) (fun x12 s12 q12 => ?_)
    obtain ⟨hx12, c12, f12⟩ := q12
    subst hx12
    exact ad_retl dX8_mean_15 rfl (by
      have e : ad_m_mean C p = ad_nol C 2 := by
        unfold ad_m_mean
        (repeat' split) <;> first | with_reducible rfl | contradiction | (exfalso; omega) | rfl | (exfalso; simp_all; omega) | (simp_all; done)
      rw [e]
      exact ⟨ad_nol_eq 2 C σ rfl (by decide), c12, (f12.mono (by decide) (by decide))⟩)
theorem c_X8_lost {g : ad_G} {d : Nat} {σ : ad_Mem} {C : ad_C7} {h t p : Int} (hh : ad_rng h) (ht : ad_rng t) (hp : ad_rng p) (h70d : 70 ≤ d) (hC : ad_c8 σ C) (h16d : 16 ≤ d) : ad_Q g mX8_lost d [ad_rf g 8 0, ad_iv h, ad_iv t, ad_iv p] σ (fun x m => ad_al8 σ x m (ad_m_lost C h t p)) := by
  have hC0 := hC
  obtain ⟨a1, a2, a3, a4, a5, a6⟩ := hC0
  have hr := a1.1
  have hw := a1.2
  refine ad_M1 (k := 5) rfl (by simp [Value.category]) rfl (Nat.le_of_ble_eq_true rfl) ?_
  simp only [List.map_cons, List.map_nil, List.replicate, List.cons_append, List.nil_append]
  refine ad_iload_n dX8_lost_0 rfl ?_
  refine ad_iconst dX8_lost_1 ?_
  refine ad_iconst dX8_lost_2 ?_
  refine ad_cs3f rfl cl_X8_55 dX8_lost_3 (c_X8_isIn (by omega) (by omega) (by omega)) (by omega) (Nat.le_of_ble_eq_true rfl) ?_
  refine ad_ifp_ne 15 dX8_lost_6 (by decide) (fun h6 => ?_) (fun h6 => ?_)
  · skip
    have hE := hw.2.2.2.2.2.2.1 h.toNat (by omega)
    have hEl := hr.2.1.2.1 h.toNat (by omega)
    have hEr : -1 ≤ ad_aE (ad_cA C) h.toNat ∧ ad_aE (ad_cA C) h.toNat ≤ 9 := by
      by_cases hz : ad_aE (ad_cA C) h.toNat = -1
      · omega
      · have := (hE.2 hz).1; omega
    have hElr := ad_lk_rng (v := ad_aE (ad_cA C) h.toNat) (by omega)
    have hEn := ad_lk_no hEr.1
    refine ad_aload_n dX8_lost_15 rfl ?_
    refine gf_X8_9 rfl dX8_lost_16 ?_
    refine ad_sipush dX8_lost_19 rfl ?_
    refine ad_iload_n dX8_lost_22 rfl ?_
    refine ad_iadd dX8_lost_23 ?_
    refine ad_ialj (501 + h.toNat) dX8_lost_24 (by decide) ⟨by decide, by decide⟩ (by omega) (by show _ < 520; omega) (hEl) ?_
    refine ad_bipush dX8_lost_25 rfl ?_
    refine ad_icmp_ne 37 dX8_lost_27 (by decide) (by omega) (by omega) (fun h27 => ?_) (fun h27 => ?_)
    · skip
      refine ad_iload_n dX8_lost_37 rfl ?_
      refine ad_iconst dX8_lost_38 ?_
      refine ad_icmp_ge 49 dX8_lost_39 (by decide) (by omega) (by omega) (fun h39 => ?_) (fun h39 => ?_)
      · skip
        refine ad_iload_n dX8_lost_49 rfl ?_
        refine ad_bipush dX8_lost_50 rfl ?_
        refine ad_icmp_le 62 dX8_lost_52 (by decide) (by omega) (by omega) (fun h52 => ?_) (fun h52 => ?_)
        · skip
          refine ad_iload_n dX8_lost_62 rfl ?_
          refine ad_iconst dX8_lost_63 ?_
          refine ad_iconst dX8_lost_64 ?_
          refine ad_cs3f rfl cl_X8_55 dX8_lost_65 (c_X8_isIn (by omega) (by omega) (by omega)) (by omega) (Nat.le_of_ble_eq_true rfl) ?_
          refine ad_ifp_ne 78 dX8_lost_68 (by decide) (fun h68 => ?_) (fun h68 => ?_)
          · skip
            have hEz : ad_aE (ad_cA C) h.toNat ≠ -1 := fun z => h27 (hEn.mpr z)
            obtain ⟨EE, hEv⟩ : ∃ EE : Nat, ad_aE (ad_cA C) h.toNat = (EE : Int) := ⟨(ad_aE (ad_cA C) h.toNat).toNat, by omega⟩
            have hEH := (hE.2 hEz).2
            rw [hEv, Int.toNat_natCast] at hEH
            have hEC := (hr.1.2 EE hEH).1
            have hc10 := hr.1.1
            obtain ⟨tn, rfl⟩ : ∃ tn : Nat, t = (tn : Int) := ⟨t.toNat, by omega⟩
            have hl : ∀ (n : Nat) (v : Nat), (v ≤ 6) → (((6 - v : Nat) : Int)).toNat ≤ n → ad_R g mX8_lost d (ad_ZQ mX8_lost (fun x m => ad_al8 σ x m (ad_m_lost C h (tn : Int) p))) 87 [some (ad_rf g 8 0), some (ad_iv h), some (ad_iv (tn : Int)), some (ad_iv p), some (ad_lv ((((tn - 1) ^ (ad_pp (fun w => ad_need (ad_cA C) (EE : Int) w && decide (w < 6)) v) : Nat)) : Int)), none, some (ad_lv (((tn ^ (ad_pp (fun w => ad_need (ad_cA C) (EE : Int) w && decide (w < 6)) v) : Nat)) : Int)), none, some (ad_iv (v : Int))] [] σ := by
              intro n
              induction n with
              | zero =>
                intro v hv hn
                refine ad_iload dX8_lost_87 rfl ?_
                refine ad_bipush dX8_lost_89 rfl ?_
                refine ad_icmp_ge 147 dX8_lost_91 (by decide) (by omega) (by omega) (fun h91 => ?_) (fun h91 => ?_)
                · skip
                  have hk6 : ad_pp (fun w => ad_need (ad_cA C) (EE : Int) w && decide (w < 6)) v ≤ 6 := by have := ad_pp_le (fun w => ad_need (ad_cA C) (EE : Int) w && decide (w < 6)) v; omega
                  have hb1 := Nat.pow_le_pow_left (show tn ≤ 20 by omega) (ad_pp (fun w => ad_need (ad_cA C) (EE : Int) w && decide (w < 6)) v)
                  have hb2 := Nat.pow_le_pow_right (show 0 < 20 by decide) hk6
                  have hbp : 0 < tn ^ (ad_pp (fun w => ad_need (ad_cA C) (EE : Int) w && decide (w < 6)) v) := Nat.pow_pos (by omega)
                  have ha1 := Nat.pow_le_pow_left (show tn - 1 ≤ tn by omega) (ad_pp (fun w => ad_need (ad_cA C) (EE : Int) w && decide (w < 6)) v)
                  have h206 : 20 ^ 6 = 64000000 := by decide
                  have hmul : (tn - 1) ^ (ad_pp (fun w => ad_need (ad_cA C) (EE : Int) w && decide (w < 6)) v) * tn ^ (ad_pp (fun w => ad_need (ad_cA C) (EE : Int) w && decide (w < 6)) v) < 2 ^ 60 := by
                    have := Nat.mul_le_mul (show (tn - 1) ^ (ad_pp (fun w => ad_need (ad_cA C) (EE : Int) w && decide (w < 6)) v) ≤ 64000000 by omega) (show tn ^ (ad_pp (fun w => ad_need (ad_cA C) (EE : Int) w && decide (w < 6)) v) ≤ 64000000 by omega)
                    omega
                  refine ad_lload dX8_lost_147 rfl ?_
                  refine ad_lload dX8_lost_149 rfl ?_
                  refine ad_iload_n dX8_lost_151 rfl ?_
                  refine ad_cs3f rfl cl_X8_208 dX8_lost_152 (c_X8_part (k := 60) hmul (by omega) (by omega) hbp (by omega) (by omega)) (by omega) (Nat.le_of_ble_eq_true rfl) ?_
                  exact ad_retl dX8_lost_155 rfl (by
                        have e : ad_m_lost C h (tn : Int) p = ((((if p = 0 then (tn - 1) ^ (ad_pp (fun w => ad_need (ad_cA C) (EE : Int) w && decide (w < 6)) v) else tn ^ (ad_pp (fun w => ad_need (ad_cA C) (EE : Int) w && decide (w < 6)) v)) / Nat.gcd ((tn - 1) ^ (ad_pp (fun w => ad_need (ad_cA C) (EE : Int) w && decide (w < 6)) v)) (tn ^ (ad_pp (fun w => ad_need (ad_cA C) (EE : Int) w && decide (w < 6)) v)) : Nat) : Int), C) := by
                          have hco : Nat.gcd ((tn - 1) ^ (ad_pp (fun w => ad_need (ad_cA C) (EE : Int) w && decide (w < 6)) v)) (tn ^ (ad_pp (fun w => ad_need (ad_cA C) (EE : Int) w && decide (w < 6)) v)) = 1 := Nat.Coprime.pow _ _ (by
                            have : Nat.gcd (tn - 1) tn = 1 := by
                              have h1 : tn = (tn - 1) + 1 := by omega
                              conv => lhs; rw [h1, Nat.add_sub_cancel]
                              rw [Nat.gcd_comm, Nat.gcd_rec]
                              simp
                            exact this)
                          have hcn : ad_pp (fun w => ad_need (ad_cA C) (EE : Int) w && decide (w < 6)) 10 = ad_pp (fun w => ad_need (ad_cA C) (EE : Int) w && decide (w < 6)) v := by
                            rw [show v = 6 by omega, show (10 : Nat) = 6 + 4 from rfl]
                            exact ad_pp_end (fun q hq => by rw [decide_eq_false (by omega), Bool.and_false]) 4
                          unfold ad_m_lost
                          rw [if_neg (by omega), if_neg hEz, if_neg (by omega), if_neg (by omega), if_neg (by omega), hEv, hcn, hco, Nat.div_one]
                          by_cases hp0 : p = 0
                          · rw [if_pos hp0, if_pos hp0, Int.natCast_pow, Int.natCast_sub (by omega)]; rfl
                          · rw [if_neg hp0, if_neg hp0, Int.natCast_pow]
                        rw [e]
                        exact ⟨rfl, hC, ad_f8.refl⟩)
                · show ad_R _ _ _ _ 94 _ _ _
                  exfalso; omega
              | succ n ih =>
                intro v hv hn
                refine ad_iload dX8_lost_87 rfl ?_
                refine ad_bipush dX8_lost_89 rfl ?_
                refine ad_icmp_ge 147 dX8_lost_91 (by decide) (by omega) (by omega) (fun h91 => ?_) (fun h91 => ?_)
                · skip
                  have hk6 : ad_pp (fun w => ad_need (ad_cA C) (EE : Int) w && decide (w < 6)) v ≤ 6 := by have := ad_pp_le (fun w => ad_need (ad_cA C) (EE : Int) w && decide (w < 6)) v; omega
                  have hb1 := Nat.pow_le_pow_left (show tn ≤ 20 by omega) (ad_pp (fun w => ad_need (ad_cA C) (EE : Int) w && decide (w < 6)) v)
                  have hb2 := Nat.pow_le_pow_right (show 0 < 20 by decide) hk6
                  have hbp : 0 < tn ^ (ad_pp (fun w => ad_need (ad_cA C) (EE : Int) w && decide (w < 6)) v) := Nat.pow_pos (by omega)
                  have ha1 := Nat.pow_le_pow_left (show tn - 1 ≤ tn by omega) (ad_pp (fun w => ad_need (ad_cA C) (EE : Int) w && decide (w < 6)) v)
                  have h206 : 20 ^ 6 = 64000000 := by decide
                  have hmul : (tn - 1) ^ (ad_pp (fun w => ad_need (ad_cA C) (EE : Int) w && decide (w < 6)) v) * tn ^ (ad_pp (fun w => ad_need (ad_cA C) (EE : Int) w && decide (w < 6)) v) < 2 ^ 60 := by
                    have := Nat.mul_le_mul (show (tn - 1) ^ (ad_pp (fun w => ad_need (ad_cA C) (EE : Int) w && decide (w < 6)) v) ≤ 64000000 by omega) (show tn ^ (ad_pp (fun w => ad_need (ad_cA C) (EE : Int) w && decide (w < 6)) v) ≤ 64000000 by omega)
                    omega
                  refine ad_lload dX8_lost_147 rfl ?_
                  refine ad_lload dX8_lost_149 rfl ?_
                  refine ad_iload_n dX8_lost_151 rfl ?_
                  refine ad_cs3f rfl cl_X8_208 dX8_lost_152 (c_X8_part (k := 60) hmul (by omega) (by omega) hbp (by omega) (by omega)) (by omega) (Nat.le_of_ble_eq_true rfl) ?_
                  exact ad_retl dX8_lost_155 rfl (by
                        have e : ad_m_lost C h (tn : Int) p = ((((if p = 0 then (tn - 1) ^ (ad_pp (fun w => ad_need (ad_cA C) (EE : Int) w && decide (w < 6)) v) else tn ^ (ad_pp (fun w => ad_need (ad_cA C) (EE : Int) w && decide (w < 6)) v)) / Nat.gcd ((tn - 1) ^ (ad_pp (fun w => ad_need (ad_cA C) (EE : Int) w && decide (w < 6)) v)) (tn ^ (ad_pp (fun w => ad_need (ad_cA C) (EE : Int) w && decide (w < 6)) v)) : Nat) : Int), C) := by
                          have hco : Nat.gcd ((tn - 1) ^ (ad_pp (fun w => ad_need (ad_cA C) (EE : Int) w && decide (w < 6)) v)) (tn ^ (ad_pp (fun w => ad_need (ad_cA C) (EE : Int) w && decide (w < 6)) v)) = 1 := Nat.Coprime.pow _ _ (by
                            have : Nat.gcd (tn - 1) tn = 1 := by
                              have h1 : tn = (tn - 1) + 1 := by omega
                              conv => lhs; rw [h1, Nat.add_sub_cancel]
                              rw [Nat.gcd_comm, Nat.gcd_rec]
                              simp
                            exact this)
                          have hcn : ad_pp (fun w => ad_need (ad_cA C) (EE : Int) w && decide (w < 6)) 10 = ad_pp (fun w => ad_need (ad_cA C) (EE : Int) w && decide (w < 6)) v := by
                            rw [show v = 6 by omega, show (10 : Nat) = 6 + 4 from rfl]
                            exact ad_pp_end (fun q hq => by rw [decide_eq_false (by omega), Bool.and_false]) 4
                          unfold ad_m_lost
                          rw [if_neg (by omega), if_neg hEz, if_neg (by omega), if_neg (by omega), if_neg (by omega), hEv, hcn, hco, Nat.div_one]
                          by_cases hp0 : p = 0
                          · rw [if_pos hp0, if_pos hp0, Int.natCast_pow, Int.natCast_sub (by omega)]; rfl
                          · rw [if_neg hp0, if_neg hp0, Int.natCast_pow]
                        rw [e]
                        exact ⟨rfl, hC, ad_f8.refl⟩)
                · show ad_R _ _ _ _ 94 _ _ _
                  refine ad_aload_n dX8_lost_94 rfl ?_
                  refine ad_iload dX8_lost_95 rfl ?_
                  refine ad_cv1f rfl cl_X8_59 dX8_lost_97 (c_X8_isThere hr (by omega) (by omega)) (by omega) (by show _ < 1; omega) (Nat.le_of_ble_eq_true rfl) ?_
                  refine ad_ifp_eq 141 dX8_lost_100 (by decide) (fun h100 => ?_) (fun h100 => ?_)
                  · skip
                    refine ad_iinc dX8_lost_141 rfl (by decide) rfl (by dsimp only [ad_set]) ?_
                    refine ad_goto 87 dX8_lost_144 (by decide) ?_
                    have hfn : ¬ (fun w => ad_need (ad_cA C) (EE : Int) w && decide (w < 6)) v = true := by
                      rw [Bool.and_eq_true]; intro z; exact h100 ⟨by omega, ad_need_H hw 8 EE v hEH (ad_dep_d hw hEH).1 z.1⟩
                    have e9 : ad_pp (fun w => ad_need (ad_cA C) (EE : Int) w && decide (w < 6)) (v + 1) = ad_pp (fun w => ad_need (ad_cA C) (EE : Int) w && decide (w < 6)) v := by rw [ad_pp, if_neg hfn]; rfl
                    have hz9 := ih (v + 1) (by omega) (by omega)
                    rw [e9] at hz9
                    exact hz9
                  · show ad_R _ _ _ _ 103 _ _ _
                    refine ad_aload_n dX8_lost_103 rfl ?_
                    refine ad_aload_n dX8_lost_104 rfl ?_
                    refine gf_X8_9 rfl dX8_lost_105 ?_
                    refine ad_sipush dX8_lost_108 rfl ?_
                    refine ad_iload_n dX8_lost_111 rfl ?_
                    refine ad_iadd dX8_lost_112 ?_
                    refine ad_ialj (501 + h.toNat) dX8_lost_113 (by decide) ⟨by decide, by decide⟩ (by omega) (by show _ < 520; omega) (hEl.trans ((ad_lk_ge hEz).trans hEv)) ?_
                    refine ad_iload dX8_lost_114 rfl ?_
                    refine ad_cv2f rfl cl_X8_197 dX8_lost_116 (c_X8_needs hr hw (by omega) 8 EE (d - 1) hEH (ad_dep_d hw hEH).1 (by omega)) (by omega) (by show _ < 1; omega) (Nat.le_of_ble_eq_true rfl) ?_
                    refine ad_ifp_ne 125 dX8_lost_119 (by decide) (fun h119 => ?_) (fun h119 => ?_)
                    · skip
                      have hfv : (fun w => ad_need (ad_cA C) (EE : Int) w && decide (w < 6)) v = true := by rw [Bool.and_eq_true]; exact ⟨h119, decide_eq_true (by omega)⟩
                      have hAs : ((((tn - 1) ^ (ad_pp (fun w => ad_need (ad_cA C) (EE : Int) w && decide (w < 6)) v) : Nat)) : Int) * ((tn : Int) - 1) = ((((tn - 1) ^ (ad_pp (fun w => ad_need (ad_cA C) (EE : Int) w && decide (w < 6)) (v + 1)) : Nat)) : Int) := by rw [ad_pp, if_pos hfv, Nat.pow_succ, Int.natCast_mul, Int.natCast_sub (by omega)]; rfl
                      have hBs : (((tn ^ (ad_pp (fun w => ad_need (ad_cA C) (EE : Int) w && decide (w < 6)) v) : Nat)) : Int) * (tn : Int) = (((tn ^ (ad_pp (fun w => ad_need (ad_cA C) (EE : Int) w && decide (w < 6)) (v + 1)) : Nat)) : Int) := by rw [ad_pp, if_pos hfv, Nat.pow_succ, Int.natCast_mul]
                      refine ad_lload dX8_lost_125 rfl ?_
                      refine ad_iload_n dX8_lost_127 rfl ?_
                      refine ad_iconst dX8_lost_128 ?_
                      refine ad_isub dX8_lost_129 ?_
                      refine ad_i2l dX8_lost_130 (by constructor <;> omega) ?_
                      refine ad_lmul dX8_lost_131 ?_
                      rw [hAs]
                      refine ad_lstore dX8_lost_132 (by decide) (Nat.le_of_ble_eq_true rfl) rfl (by dsimp only [ad_set]) ?_
                      refine ad_lload dX8_lost_134 rfl ?_
                      refine ad_iload_n dX8_lost_136 rfl ?_
                      refine ad_i2l dX8_lost_137 (by constructor <;> omega) ?_
                      refine ad_lmul dX8_lost_138 ?_
                      rw [hBs]
                      refine ad_lstore dX8_lost_139 (by decide) (Nat.le_of_ble_eq_true rfl) rfl (by dsimp only [ad_set]) ?_
                      refine ad_iinc dX8_lost_141 rfl (by decide) rfl (by dsimp only [ad_set]) ?_
                      refine ad_goto 87 dX8_lost_144 (by decide) ?_
                      exact ih (v + 1) (by omega) (by omega)
                    · show ad_R _ _ _ _ 122 _ _ _
                      refine ad_goto 141 dX8_lost_122 (by decide) ?_
                      refine ad_iinc dX8_lost_141 rfl (by decide) rfl (by dsimp only [ad_set]) ?_
                      refine ad_goto 87 dX8_lost_144 (by decide) ?_
                      have hfn : ¬ (fun w => ad_need (ad_cA C) (EE : Int) w && decide (w < 6)) v = true := by
                        rw [Bool.and_eq_true]; intro z; exact h119 z.1
                      have e9 : ad_pp (fun w => ad_need (ad_cA C) (EE : Int) w && decide (w < 6)) (v + 1) = ad_pp (fun w => ad_need (ad_cA C) (EE : Int) w && decide (w < 6)) v := by rw [ad_pp, if_neg hfn]; rfl
                      have hz9 := ih (v + 1) (by omega) (by omega)
                      rw [e9] at hz9
                      exact hz9
            refine ad_lconst dX8_lost_78 ?_
            refine ad_lstore dX8_lost_79 (by decide) (Nat.le_of_ble_eq_true rfl) rfl (by dsimp only [ad_set]) ?_
            refine ad_lconst dX8_lost_81 ?_
            refine ad_lstore dX8_lost_82 (by decide) (Nat.le_of_ble_eq_true rfl) rfl (by dsimp only [ad_set]) ?_
            refine ad_iconst dX8_lost_84 ?_
            refine ad_istore dX8_lost_85 (by decide) rfl (by dsimp only [ad_set]) ?_
            exact hl _ 0 (by omega) (Nat.le_refl _)
          · show ad_R _ _ _ _ 71 _ _ _
            refine ad_aload_n dX8_lost_71 rfl ?_
            refine ad_bipush dX8_lost_72 rfl ?_
            refine ad_cv1q rfl cl_X8_204 dX8_lost_74 (c_X8_noLongC hC (by decide) (by omega)) (by omega) (by show _ < 1; omega) (Nat.le_of_ble_eq_true rfl) (fun x74 s74 q74 => ?_)
            obtain ⟨hx74, c74, f74⟩ := q74
            subst hx74
            exact ad_retl dX8_lost_77 rfl (by
              have e : ad_m_lost C h t p = ad_nol C 2 := by
                unfold ad_m_lost
                rw [if_neg (by omega), if_neg (fun z => h27 (hEn.mpr z)), if_neg (by omega), if_neg (by omega), if_pos (by omega)]
              rw [e]
              exact ⟨ad_nol_eq 2 C σ rfl (by decide), c74, (f74.mono (by decide) (by decide))⟩)
        · show ad_R _ _ _ _ 55 _ _ _
          refine ad_aload_n dX8_lost_55 rfl ?_
          refine ad_bipush dX8_lost_56 rfl ?_
          refine ad_cv1q rfl cl_X8_204 dX8_lost_58 (c_X8_noLongC hC (by decide) (by omega)) (by omega) (by show _ < 1; omega) (Nat.le_of_ble_eq_true rfl) (fun x58 s58 q58 => ?_)
          obtain ⟨hx58, c58, f58⟩ := q58
          subst hx58
          exact ad_retl dX8_lost_61 rfl (by
            have e : ad_m_lost C h t p = ad_nol C 6 := by
              unfold ad_m_lost
              rw [if_neg (by omega), if_neg (fun z => h27 (hEn.mpr z)), if_neg (by omega), if_pos (by omega)]
            rw [e]
            exact ⟨ad_nol_eq 6 C σ rfl (by decide), c58, (f58.mono (by decide) (by decide))⟩)
      · show ad_R _ _ _ _ 42 _ _ _
        refine ad_aload_n dX8_lost_42 rfl ?_
        refine ad_bipush dX8_lost_43 rfl ?_
        refine ad_cv1q rfl cl_X8_204 dX8_lost_45 (c_X8_noLongC hC (by decide) (by omega)) (by omega) (by show _ < 1; omega) (Nat.le_of_ble_eq_true rfl) (fun x45 s45 q45 => ?_)
        obtain ⟨hx45, c45, f45⟩ := q45
        subst hx45
        exact ad_retl dX8_lost_48 rfl (by
          have e : ad_m_lost C h t p = ad_nol C 4 := by
            unfold ad_m_lost
            rw [if_neg (by omega), if_neg (fun z => h27 (hEn.mpr z)), if_pos (by omega)]
          rw [e]
          exact ⟨ad_nol_eq 4 C σ rfl (by decide), c45, (f45.mono (by decide) (by decide))⟩)
    · show ad_R _ _ _ _ 30 _ _ _
      refine ad_aload_n dX8_lost_30 rfl ?_
      refine ad_bipush dX8_lost_31 rfl ?_
      refine ad_cv1q rfl cl_X8_204 dX8_lost_33 (c_X8_noLongC hC (by decide) (by omega)) (by omega) (by show _ < 1; omega) (Nat.le_of_ble_eq_true rfl) (fun x33 s33 q33 => ?_)
      obtain ⟨hx33, c33, f33⟩ := q33
      subst hx33
      exact ad_retl dX8_lost_36 rfl (by
        have e : ad_m_lost C h t p = ad_nol C 3 := by
          unfold ad_m_lost
          rw [if_neg (by omega), if_pos (hEn.mp (Decidable.not_not.mp h27))]
        rw [e]
        exact ⟨ad_nol_eq 3 C σ rfl (by decide), c33, (f33.mono (by decide) (by decide))⟩)
  · show ad_R _ _ _ _ 9 _ _ _
    refine ad_aload_n dX8_lost_9 rfl ?_
    refine ad_iconst dX8_lost_10 ?_
    refine ad_cv1q rfl cl_X8_204 dX8_lost_11 (c_X8_noLongC hC (by decide) (by omega)) (by omega) (by show _ < 1; omega) (Nat.le_of_ble_eq_true rfl) (fun x11 s11 q11 => ?_)
    obtain ⟨hx11, c11, f11⟩ := q11
    subst hx11
    exact ad_retl dX8_lost_14 rfl (by
      have e : ad_m_lost C h t p = ad_nol C 1 := by
        unfold ad_m_lost
        (repeat' split) <;> first | with_reducible rfl | contradiction | (exfalso; omega) | rfl | (exfalso; simp_all; omega) | (simp_all; done)
      rw [e]
      exact ⟨ad_nol_eq 1 C σ rfl (by decide), c11, (f11.mono (by decide) (by decide))⟩)
