/-! ===== the reference: public methods 3 ===== -/
theorem ad_tbN (p : Nat → Bool) {v : Nat} (hv : v < 10) : ad_tb ((ad_bits p : Nat) : Int) (v : Int) ↔ p v = true := (ad_bits_tbI p (by omega)).trans ⟨fun z => by have := z.2; rw [Int.toNat_natCast] at this; exact this, fun z => ⟨by omega, by rw [Int.toNat_natCast]; exact z⟩⟩
theorem c_X8_ancestors {g : ad_G} {d : Nat} {σ : ad_Mem} {C : ad_C7} {v : Int} (hv : ad_rng v) (hC : ad_c8 σ C) (h16d : 16 ≤ d) : ad_Q g mX8_ancestors d [ad_rf g 8 0, ad_iv v] σ (fun x m => ad_an8 σ x m (ad_m_ancestors C v)) := by
  have hC0 := hC
  obtain ⟨a1, a2, a3, a4, a5, a6⟩ := hC0
  have hr := a1.1
  have hw := a1.2
  refine ad_M1 (k := 0) rfl (by simp [Value.category]) rfl (Nat.le_of_ble_eq_true rfl) ?_
  simp only [List.map_cons, List.map_nil, List.replicate, List.cons_append, List.nil_append]
  refine ad_aload_n dX8_ancestors_0 rfl ?_
  refine ad_iload_n dX8_ancestors_1 rfl ?_
  refine ad_cv1f rfl cl_X8_59 dX8_ancestors_2 (c_X8_isThere hr (by omega) (by omega)) (by omega) (by show _ < 1; omega) (Nat.le_of_ble_eq_true rfl) ?_
  refine ad_ifp_eq 22 dX8_ancestors_5 (by decide) (fun h5 => ?_) (fun h5 => ?_)
  · skip
    refine ad_aload_n dX8_ancestors_22 rfl ?_
    refine ad_iconst dX8_ancestors_23 ?_
    refine ad_cv1q rfl cl_X8_51 dX8_ancestors_24 (c_X8_noC hC (by decide)) (by omega) (by show _ < 1; omega) (Nat.le_of_ble_eq_true rfl) (fun x24 s24 q24 => ?_)
    obtain ⟨rfl, c24, f24⟩ := q24
    exact ad_reti dX8_ancestors_27 rfl (by
      have e : ad_m_ancestors C v = ad_no C 1 := by
        unfold ad_m_ancestors
        (repeat' split) <;> first | with_reducible rfl | contradiction | (exfalso; omega) | rfl | (exfalso; simp_all; omega) | (simp_all; done)
      rw [e]
      exact ⟨rfl, c24, (f24.mono (by decide) (by decide))⟩)
  · show ad_R _ _ _ _ 8 _ _ _
    obtain ⟨vn, rfl⟩ : ∃ zz : Nat, v = (zz : Int) := ⟨v.toNat, by omega⟩
    have vH : ad_aH (ad_cA C) vn = true := h5.2
    have vl := hr.1.2 vn vH
    have v10 : vn < 10 := by have := hr.1.1; omega
    refine ad_aload_n dX8_ancestors_8 rfl ?_
    refine ad_iload_n dX8_ancestors_9 rfl ?_
    refine ad_cv1f rfl cl_X8_139 dX8_ancestors_10 (c_X8_reachedFrom hr hw v10 (by omega)) (by omega) (by show _ < 1; omega) (Nat.le_of_ble_eq_true rfl) ?_
    refine ad_iconst dX8_ancestors_13 ?_
    refine ad_iload_n dX8_ancestors_14 rfl ?_
    refine ad_ishl dX8_ancestors_15 ?_
    rw [ad_one_bits v10]
    refine ad_iconst dX8_ancestors_16 ?_
    refine ad_ixor dX8_ancestors_17 ?_
    refine ad_iand dX8_ancestors_18 ?_
    rw [ad_not_bits]
    refine ad_goto 27 dX8_ancestors_19 (by decide) ?_
    exact ad_reti dX8_ancestors_27 rfl (by
      have e : ad_m_ancestors C (vn : Int) = (((ad_bits (fun w => ad_reach (ad_aP (ad_cA C)) (ad_aQ (ad_cA C)) vn w && !(w == vn)) : Nat) : Int), C) := by
        unfold ad_m_ancestors
        (repeat' split) <;> first | with_reducible rfl | contradiction | (exfalso; omega) | rfl | (exfalso; simp_all; omega) | (simp_all; done)
      rw [e]
      exact ⟨rfl, hC, ad_f8.refl⟩)
theorem c_X8_common {g : ad_G} {d : Nat} {σ : ad_Mem} {C : ad_C7} {a b : Int} (ha : ad_rng a) (hb : ad_rng b) (hC : ad_c8 σ C) (h16d : 16 ≤ d) : ad_Q g mX8_common d [ad_rf g 8 0, ad_iv a, ad_iv b] σ (fun x m => ad_an8 σ x m (ad_m_common C a b)) := by
  have hC0 := hC
  obtain ⟨a1, a2, a3, a4, a5, a6⟩ := hC0
  have hr := a1.1
  have hw := a1.2
  refine ad_M1 (k := 3) rfl (by simp [Value.category]) rfl (Nat.le_of_ble_eq_true rfl) ?_
  simp only [List.map_cons, List.map_nil, List.replicate, List.cons_append, List.nil_append]
  refine ad_aload_n dX8_common_0 rfl ?_
  refine ad_iload_n dX8_common_1 rfl ?_
  refine ad_cv1f rfl cl_X8_59 dX8_common_2 (c_X8_isThere hr (by omega) (by omega)) (by omega) (by show _ < 1; omega) (Nat.le_of_ble_eq_true rfl) ?_
  refine ad_ifp_eq 16 dX8_common_5 (by decide) (fun h5 => ?_) (fun h5 => ?_)
  · skip
    refine ad_aload_n dX8_common_16 rfl ?_
    refine ad_iconst dX8_common_17 ?_
    refine ad_cv1q rfl cl_X8_51 dX8_common_18 (c_X8_noC hC (by decide)) (by omega) (by show _ < 1; omega) (Nat.le_of_ble_eq_true rfl) (fun x18 s18 q18 => ?_)
    obtain ⟨rfl, c18, f18⟩ := q18
    exact ad_reti dX8_common_21 rfl (by
      have e : ad_m_common C a b = ad_no C 1 := by
        unfold ad_m_common
        (repeat' split) <;> first | with_reducible rfl | contradiction | (exfalso; omega) | rfl | (exfalso; simp_all; omega) | (simp_all; done)
      rw [e]
      exact ⟨rfl, c18, (f18.mono (by decide) (by decide))⟩)
  · show ad_R _ _ _ _ 8 _ _ _
    refine ad_aload_n dX8_common_8 rfl ?_
    refine ad_iload_n dX8_common_9 rfl ?_
    refine ad_cv1f rfl cl_X8_59 dX8_common_10 (c_X8_isThere hr (by omega) (by omega)) (by omega) (by show _ < 1; omega) (Nat.le_of_ble_eq_true rfl) ?_
    refine ad_ifp_ne 22 dX8_common_13 (by decide) (fun h13 => ?_) (fun h13 => ?_)
    · skip
      obtain ⟨an, rfl⟩ : ∃ zz : Nat, a = (zz : Int) := ⟨a.toNat, by omega⟩
      have aH : ad_aH (ad_cA C) an = true := h5.2
      have al := hr.1.2 an aH
      have a10 : an < 10 := by have := hr.1.1; omega
      obtain ⟨bn, rfl⟩ : ∃ zz : Nat, b = (zz : Int) := ⟨b.toNat, by omega⟩
      have bH : ad_aH (ad_cA C) bn = true := h13.2
      have bl := hr.1.2 bn bH
      have b10 : bn < 10 := by have := hr.1.1; omega
      have hbl := ad_bits_lt (ad_bth (ad_cA C) an bn)
      have hl : ∀ (n : Nat) (v : Nat) (z : Int), (v ≤ 10) → (z = ad_top (ad_bth (ad_cA C) an bn) v) → (((10 - v : Nat) : Int)).toNat ≤ n → ad_R g mX8_common d (ad_ZQ mX8_common (fun x m => ad_an8 σ x m (ad_m_common C (an : Int) (bn : Int)))) 41 [some (ad_rf g 8 0), some (ad_iv (an : Int)), some (ad_iv (bn : Int)), some (ad_iv ((ad_bits (ad_bth (ad_cA C) an bn) : Nat) : Int)), some (ad_iv z), some (ad_iv (v : Int))] [] σ := by
        intro n
        induction n with
        | zero =>
          intro v z hv hz hn
          refine ad_iload dX8_common_41 rfl ?_
          refine ad_bipush dX8_common_43 rfl ?_
          refine ad_icmp_ge 73 dX8_common_45 (by decide) (by omega) (by omega) (fun h45 => ?_) (fun h45 => ?_)
          · skip
            refine ad_iload dX8_common_73 rfl ?_
            exact ad_reti dX8_common_75 rfl (by
                  have e : ad_m_common C (an : Int) (bn : Int) = (ad_top (ad_bth (ad_cA C) an bn) 10, C) := by
                    unfold ad_m_common
                    rw [if_neg (fun z => z.elim (fun z => z h5) (fun z => z h13))]; rfl
                  rw [e, hz, show v = 10 by omega]
                  exact ⟨rfl, hC, ad_f8.refl⟩)
          · show ad_R _ _ _ _ 48 _ _ _
            have htb := ad_tbN (ad_bth (ad_cA C) an bn) (v := v) (by omega)
            exfalso; omega
        | succ n ih =>
          intro v z hv hz hn
          refine ad_iload dX8_common_41 rfl ?_
          refine ad_bipush dX8_common_43 rfl ?_
          refine ad_icmp_ge 73 dX8_common_45 (by decide) (by omega) (by omega) (fun h45 => ?_) (fun h45 => ?_)
          · skip
            refine ad_iload dX8_common_73 rfl ?_
            exact ad_reti dX8_common_75 rfl (by
                  have e : ad_m_common C (an : Int) (bn : Int) = (ad_top (ad_bth (ad_cA C) an bn) 10, C) := by
                    unfold ad_m_common
                    rw [if_neg (fun z => z.elim (fun z => z h5) (fun z => z h13))]; rfl
                  rw [e, hz, show v = 10 by omega]
                  exact ⟨rfl, hC, ad_f8.refl⟩)
          · show ad_R _ _ _ _ 48 _ _ _
            have htb := ad_tbN (ad_bth (ad_cA C) an bn) (v := v) (by omega)
            refine ad_iload_n dX8_common_48 rfl ?_
            refine ad_iload dX8_common_49 rfl ?_
            refine ad_ishr dX8_common_51 ?_
            refine ad_iconst dX8_common_52 ?_
            refine ad_iand dX8_common_53 ?_
            rw [ad_bitI (by omega) (by omega)]
            refine ad_iconst dX8_common_54 ?_
            refine ad_icmp_ne_p1 63 dX8_common_55 (by decide) (fun h55 => ?_) (fun h55 => ?_)
            · skip
              refine ad_iload dX8_common_63 rfl ?_
              refine ad_istore dX8_common_65 (by decide) rfl (by dsimp only [ad_set]) ?_
              refine ad_iinc dX8_common_67 rfl (by decide) rfl (by dsimp only [ad_set]) ?_
              refine ad_goto 41 dX8_common_70 (by decide) ?_
              exact ih (v + 1) _ (by omega) (by rw [ad_top, if_neg (fun z => h55 (htb.mpr z)), hz]) (by omega)
            · show ad_R _ _ _ _ 58 _ _ _
              refine ad_iload dX8_common_58 rfl ?_
              refine ad_goto 65 dX8_common_60 (by decide) ?_
              refine ad_istore dX8_common_65 (by decide) rfl (by dsimp only [ad_set]) ?_
              refine ad_iinc dX8_common_67 rfl (by decide) rfl (by dsimp only [ad_set]) ?_
              refine ad_goto 41 dX8_common_70 (by decide) ?_
              exact ih (v + 1) _ (by omega) (by rw [ad_top, if_pos (htb.mp h55)]) (by omega)
      refine ad_aload_n dX8_common_22 rfl ?_
      refine ad_iload_n dX8_common_23 rfl ?_
      refine ad_cv1f rfl cl_X8_139 dX8_common_24 (c_X8_reachedFrom hr hw a10 (by omega)) (by omega) (by show _ < 1; omega) (Nat.le_of_ble_eq_true rfl) ?_
      refine ad_aload_n dX8_common_27 rfl ?_
      refine ad_iload_n dX8_common_28 rfl ?_
      refine ad_cv1f rfl cl_X8_139 dX8_common_29 (c_X8_reachedFrom hr hw b10 (by omega)) (by omega) (by show _ < 1; omega) (Nat.le_of_ble_eq_true rfl) ?_
      refine ad_iand dX8_common_32 ?_
      rw [ad_and_bits]
      refine ad_istore_n dX8_common_33 (by decide) rfl (by dsimp only [ad_set]) ?_
      refine ad_bipush dX8_common_34 rfl ?_
      refine ad_istore dX8_common_36 (by decide) rfl (by dsimp only [ad_set]) ?_
      refine ad_iconst dX8_common_38 ?_
      refine ad_istore dX8_common_39 (by decide) rfl (by dsimp only [ad_set]) ?_
      exact hl _ 0 (-9) (by omega) rfl (Nat.le_refl _)
    · show ad_R _ _ _ _ 16 _ _ _
      refine ad_aload_n dX8_common_16 rfl ?_
      refine ad_iconst dX8_common_17 ?_
      refine ad_cv1q rfl cl_X8_51 dX8_common_18 (c_X8_noC hC (by decide)) (by omega) (by show _ < 1; omega) (Nat.le_of_ble_eq_true rfl) (fun x18 s18 q18 => ?_)
      obtain ⟨rfl, c18, f18⟩ := q18
      exact ad_reti dX8_common_21 rfl (by
        have e : ad_m_common C a b = ad_no C 1 := by
          unfold ad_m_common
          (repeat' split) <;> first | with_reducible rfl | contradiction | (exfalso; omega) | rfl | (exfalso; simp_all; omega) | (simp_all; done)
        rw [e]
        exact ⟨rfl, c18, (f18.mono (by decide) (by decide))⟩)
theorem ad_gen_wd (A : ad_Ar) (q : Nat → Bool) (n w : Nat) : ad_wd A (ad_gen A q n) w = ad_gen A q (n + 1) w := by
  show (ad_gen A q n w || ad_an (ad_prF A (ad_gen A q n)) 10 w) = (ad_gen A q n w || ad_an (ad_prF A (fun i => decide (i < 10) && ad_gen A q n i)) 10 w)
  congr 1
theorem c_X8_generations {g : ad_G} {d : Nat} {σ : ad_Mem} {C : ad_C7} {h y : Int} (hh : ad_rng h) (hy : ad_rng y) (hC : ad_c8 σ C) (h16d : 16 ≤ d) : ad_Q g mX8_generations d [ad_rf g 8 0, ad_iv h, ad_iv y] σ (fun x m => ad_an8 σ x m (ad_m_generations C h y)) := by
  have hC0 := hC
  obtain ⟨a1, a2, a3, a4, a5, a6⟩ := hC0
  have hr := a1.1
  have hw := a1.2
  refine ad_M1 (k := 2) rfl (by simp [Value.category]) rfl (Nat.le_of_ble_eq_true rfl) ?_
  simp only [List.map_cons, List.map_nil, List.replicate, List.cons_append, List.nil_append]
  refine ad_iload_n dX8_generations_0 rfl ?_
  refine ad_iconst dX8_generations_1 ?_
  refine ad_iconst dX8_generations_2 ?_
  refine ad_cs3f rfl cl_X8_55 dX8_generations_3 (c_X8_isIn (by omega) (by omega) (by omega)) (by omega) (Nat.le_of_ble_eq_true rfl) ?_
  refine ad_ifp_ne 15 dX8_generations_6 (by decide) (fun h6 => ?_) (fun h6 => ?_)
  · skip
    refine ad_iload_n dX8_generations_15 rfl ?_
    refine ad_if_ge 26 dX8_generations_16 (by decide) (by omega) (fun h16 => ?_) (fun h16 => ?_)
    · skip
      refine ad_iload_n dX8_generations_26 rfl ?_
      refine ad_bipush dX8_generations_27 rfl ?_
      refine ad_icmp_le 39 dX8_generations_29 (by decide) (by omega) (by omega) (fun h29 => ?_) (fun h29 => ?_)
      · skip
        have hE := hw.2.2.2.2.2.2.1 h.toNat (by omega)
        have hEl := hr.2.1.2.1 h.toNat (by omega)
        have hEr : -1 ≤ ad_aE (ad_cA C) h.toNat ∧ ad_aE (ad_cA C) h.toNat ≤ 9 := by
          by_cases hz : ad_aE (ad_cA C) h.toNat = -1
          · omega
          · have := (hE.2 hz).1; omega
        have hElr := ad_lk_rng (v := ad_aE (ad_cA C) h.toNat) (by omega)
        have hEn := ad_lk_no hEr.1
        refine ad_aload_n dX8_generations_39 rfl ?_
        refine gf_X8_9 rfl dX8_generations_40 ?_
        refine ad_sipush dX8_generations_43 rfl ?_
        refine ad_iload_n dX8_generations_46 rfl ?_
        refine ad_iadd dX8_generations_47 ?_
        refine ad_ialj (501 + h.toNat) dX8_generations_48 (by decide) ⟨by decide, by decide⟩ (by omega) (by show _ < 520; omega) (hEl) ?_
        refine ad_bipush dX8_generations_49 rfl ?_
        refine ad_icmp_ne 56 dX8_generations_51 (by decide) (by omega) (by omega) (fun h51 => ?_) (fun h51 => ?_)
        · skip
          have hEz : ad_aE (ad_cA C) h.toNat ≠ -1 := fun z => h51 (hEn.mpr z)
          obtain ⟨EE, hEv⟩ : ∃ EE : Nat, ad_aE (ad_cA C) h.toNat = (EE : Int) := ⟨(ad_aE (ad_cA C) h.toNat).toNat, by omega⟩
          have hEH := (hE.2 hEz).2
          rw [hEv, Int.toNat_natCast] at hEH
          have hEC := (hr.1.2 EE hEH).1
          have hc10 := hr.1.1
          have hl : ∀ (n : Nat) (i : Nat), ((i : Int) ≤ y) → (((y.toNat - i : Nat) : Int)).toNat ≤ n → ad_R g mX8_generations d (ad_ZQ mX8_generations (fun x m => ad_an8 σ x m (ad_m_generations C h y))) 72 [some (ad_rf g 8 0), some (ad_iv h), some (ad_iv y), some (ad_iv ((ad_bits (ad_gen (ad_cA C) (fun w => w == EE) i) : Nat) : Int)), some (ad_iv (i : Int))] [] σ := by
            intro n
            induction n with
            | zero =>
              intro i hi hn
              refine ad_iload dX8_generations_72 rfl ?_
              refine ad_iload_n dX8_generations_74 rfl ?_
              refine ad_icmp_ge 90 dX8_generations_75 (by decide) (by omega) (by omega) (fun h75 => ?_) (fun h75 => ?_)
              · skip
                refine ad_iload_n dX8_generations_90 rfl ?_
                exact ad_reti dX8_generations_91 rfl (by
                      have e : ad_m_generations C h y = ((((ad_bits (ad_gen (ad_cA C) (fun w => w == EE) i) : Nat) : Int)), C) := by
                        unfold ad_m_generations
                        rw [if_neg (by omega), if_neg (by omega), if_neg (by omega), if_neg hEz, hEv, Int.toNat_natCast, show y.toNat = i by omega]
                      rw [e]
                      exact ⟨rfl, hC, ad_f8.refl⟩)
              · show ad_R _ _ _ _ 78 _ _ _
                exfalso; omega
            | succ n ih =>
              intro i hi hn
              refine ad_iload dX8_generations_72 rfl ?_
              refine ad_iload_n dX8_generations_74 rfl ?_
              refine ad_icmp_ge 90 dX8_generations_75 (by decide) (by omega) (by omega) (fun h75 => ?_) (fun h75 => ?_)
              · skip
                refine ad_iload_n dX8_generations_90 rfl ?_
                exact ad_reti dX8_generations_91 rfl (by
                      have e : ad_m_generations C h y = ((((ad_bits (ad_gen (ad_cA C) (fun w => w == EE) i) : Nat) : Int)), C) := by
                        unfold ad_m_generations
                        rw [if_neg (by omega), if_neg (by omega), if_neg (by omega), if_neg hEz, hEv, Int.toNat_natCast, show y.toNat = i by omega]
                      rw [e]
                      exact ⟨rfl, hC, ad_f8.refl⟩)
              · show ad_R _ _ _ _ 78 _ _ _
                refine ad_aload_n dX8_generations_78 rfl ?_
                refine ad_iload_n dX8_generations_79 rfl ?_
                refine ad_cv1f rfl cl_X8_136 dX8_generations_80 (c_X8_widened hr hw (ad_gen (ad_cA C) (fun w => w == EE) i)) (by omega) (by show _ < 1; omega) (Nat.le_of_ble_eq_true rfl) ?_
                refine ad_istore_n dX8_generations_83 (by decide) rfl (by dsimp only [ad_set]) ?_
                refine ad_iinc dX8_generations_84 rfl (by decide) rfl (by dsimp only [ad_set]) ?_
                refine ad_goto 72 dX8_generations_87 (by decide) ?_
                rw [show ad_bits (ad_wd (ad_cA C) (ad_gen (ad_cA C) (fun w => w == EE) i)) = ad_bits (ad_gen (ad_cA C) (fun w => w == EE) (i + 1)) from ad_bits_congr (fun w _ => ad_gen_wd _ _ _ _)]
                exact ih (i + 1) (by omega) (by omega)
          refine ad_iconst dX8_generations_56 ?_
          refine ad_aload_n dX8_generations_57 rfl ?_
          refine gf_X8_9 rfl dX8_generations_58 ?_
          refine ad_sipush dX8_generations_61 rfl ?_
          refine ad_iload_n dX8_generations_64 rfl ?_
          refine ad_iadd dX8_generations_65 ?_
          refine ad_ialj (501 + h.toNat) dX8_generations_66 (by decide) ⟨by decide, by decide⟩ (by omega) (by show _ < 520; omega) (hEl.trans ((ad_lk_ge hEz).trans hEv)) ?_
          refine ad_ishl dX8_generations_67 ?_
          rw [ad_one_bits (by omega)]
          refine ad_istore_n dX8_generations_68 (by decide) rfl (by dsimp only [ad_set]) ?_
          refine ad_iconst dX8_generations_69 ?_
          refine ad_istore dX8_generations_70 (by decide) rfl (by dsimp only [ad_set]) ?_
          exact hl _ 0 (by omega) (Nat.le_refl _)
        · show ad_R _ _ _ _ 54 _ _ _
          refine ad_iconst dX8_generations_54 ?_
          exact ad_reti dX8_generations_55 rfl (by
                have e : ad_m_generations C h y = (0, C) := by
                  unfold ad_m_generations
                  rw [if_neg (by omega), if_neg (by omega), if_neg (by omega), if_pos (hEn.mp (Decidable.not_not.mp h51))]
                rw [e]
                exact ⟨rfl, hC, ad_f8.refl⟩)
      · show ad_R _ _ _ _ 32 _ _ _
        refine ad_aload_n dX8_generations_32 rfl ?_
        refine ad_bipush dX8_generations_33 rfl ?_
        refine ad_cv1q rfl cl_X8_51 dX8_generations_35 (c_X8_noC hC (by decide)) (by omega) (by show _ < 1; omega) (Nat.le_of_ble_eq_true rfl) (fun x35 s35 q35 => ?_)
        obtain ⟨rfl, c35, f35⟩ := q35
        exact ad_reti dX8_generations_38 rfl (by
          have e : ad_m_generations C h y = ad_no C 6 := by
            unfold ad_m_generations
            (repeat' split) <;> first | with_reducible rfl | contradiction | (exfalso; omega) | rfl | (exfalso; simp_all; omega) | (simp_all; done)
          rw [e]
          exact ⟨rfl, c35, (f35.mono (by decide) (by decide))⟩)
    · show ad_R _ _ _ _ 19 _ _ _
      refine ad_aload_n dX8_generations_19 rfl ?_
      refine ad_bipush dX8_generations_20 rfl ?_
      refine ad_cv1q rfl cl_X8_51 dX8_generations_22 (c_X8_noC hC (by decide)) (by omega) (by show _ < 1; omega) (Nat.le_of_ble_eq_true rfl) (fun x22 s22 q22 => ?_)
      obtain ⟨rfl, c22, f22⟩ := q22
      exact ad_reti dX8_generations_25 rfl (by
        have e : ad_m_generations C h y = ad_no C 4 := by
          unfold ad_m_generations
          (repeat' split) <;> first | with_reducible rfl | contradiction | (exfalso; omega) | rfl | (exfalso; simp_all; omega) | (simp_all; done)
        rw [e]
        exact ⟨rfl, c22, (f22.mono (by decide) (by decide))⟩)
  · show ad_R _ _ _ _ 9 _ _ _
    refine ad_aload_n dX8_generations_9 rfl ?_
    refine ad_iconst dX8_generations_10 ?_
    refine ad_cv1q rfl cl_X8_51 dX8_generations_11 (c_X8_noC hC (by decide)) (by omega) (by show _ < 1; omega) (Nat.le_of_ble_eq_true rfl) (fun x11 s11 q11 => ?_)
    obtain ⟨rfl, c11, f11⟩ := q11
    exact ad_reti dX8_generations_14 rfl (by
      have e : ad_m_generations C h y = ad_no C 1 := by
        unfold ad_m_generations
        (repeat' split) <;> first | with_reducible rfl | contradiction | (exfalso; omega) | rfl | (exfalso; simp_all; omega) | (simp_all; done)
      rw [e]
      exact ⟨rfl, c11, (f11.mono (by decide) (by decide))⟩)
theorem c_X8_areTwins {g : ad_G} {d : Nat} {σ : ad_Mem} {l k : List Int} {s t : Nat} (hs : s < 10) (ht : t < 10) (hl12 : l.length ≤ 12) (hk12 : k.length ≤ 12) (hs29 : σ 29 0 s = (l.length : Int)) (ht29 : σ 29 0 t = (k.length : Int)) (hs28 : ∀ j, j < l.length → σ 28 0 (12 * s + j) = l.getD j 0) (ht28 : ∀ j, j < k.length → σ 28 0 (12 * t + j) = k.getD j 0) (hxl : ∀ x ∈ l, 0 ≤ x ∧ x ≤ 255) (hxk : ∀ x ∈ k, 0 ≤ x ∧ x ≤ 255) : ad_Q g mX8_areTwins d [ad_rf g 8 0, ad_iv (s : Int), ad_iv (t : Int)] σ (fun x m => x = ad_pv (l = k) ∧ m = σ) := by
  have hl : ∀ (n : Nat) (i : Nat) (z : Int), (i ≤ l.length) → (z = if (l.length = k.length ∧ l.take i = k.take i) then 1 else 0) → (((l.length - i : Nat) : Int)).toNat ≤ n → ad_R g mX8_areTwins d (ad_ZQ mX8_areTwins (fun x m => x = ad_pv (l = k) ∧ m = σ)) 24 [some (ad_rf g 8 0), some (ad_iv (s : Int)), some (ad_iv (t : Int)), some (ad_iv z), some (ad_iv (i : Int))] [] σ := by
    intro n
    induction n with
    | zero =>
      intro i z hi hz hn
      refine ad_iload dX8_areTwins_24 rfl ?_
      refine ad_aload_n dX8_areTwins_26 rfl ?_
      refine gf_X8_34 rfl dX8_areTwins_27 ?_
      refine ad_iload_n dX8_areTwins_30 rfl ?_
      refine ad_ialj (s) dX8_areTwins_31 (by decide) ⟨by decide, by decide⟩ (by omega) (by show _ < 10; omega) (hs29) ?_
      refine ad_icmp_ge 78 dX8_areTwins_32 (by decide) (by omega) (by omega) (fun h32 => ?_) (fun h32 => ?_)
      · skip
        subst hz
        refine ad_iload_n dX8_areTwins_78 rfl ?_
        exact ad_retp (q := (l.length = k.length ∧ l.take i = k.take i)) dX8_areTwins_79 rfl ⟨ad_pv_c ⟨fun q => by have q2 := q.2; rw [List.take_of_length_le (show l.length ≤ i by omega), List.take_of_length_le (by omega)] at q2; exact q2, fun q => by rw [q]; exact ⟨rfl, rfl⟩⟩, rfl⟩
      · show ad_R _ _ _ _ 35 _ _ _
        have hz01 : 0 ≤ z ∧ z ≤ 1 := by rw [hz]; split <;> omega
        exfalso; omega
    | succ n ih =>
      intro i z hi hz hn
      refine ad_iload dX8_areTwins_24 rfl ?_
      refine ad_aload_n dX8_areTwins_26 rfl ?_
      refine gf_X8_34 rfl dX8_areTwins_27 ?_
      refine ad_iload_n dX8_areTwins_30 rfl ?_
      refine ad_ialj (s) dX8_areTwins_31 (by decide) ⟨by decide, by decide⟩ (by omega) (by show _ < 10; omega) (hs29) ?_
      refine ad_icmp_ge 78 dX8_areTwins_32 (by decide) (by omega) (by omega) (fun h32 => ?_) (fun h32 => ?_)
      · skip
        subst hz
        refine ad_iload_n dX8_areTwins_78 rfl ?_
        exact ad_retp (q := (l.length = k.length ∧ l.take i = k.take i)) dX8_areTwins_79 rfl ⟨ad_pv_c ⟨fun q => by have q2 := q.2; rw [List.take_of_length_le (show l.length ≤ i by omega), List.take_of_length_le (by omega)] at q2; exact q2, fun q => by rw [q]; exact ⟨rfl, rfl⟩⟩, rfl⟩
      · show ad_R _ _ _ _ 35 _ _ _
        have hz01 : 0 ≤ z ∧ z ≤ 1 := by rw [hz]; split <;> omega
        refine ad_iload_n dX8_areTwins_35 rfl ?_
        refine ad_if_eq 78 dX8_areTwins_36 (by decide) (by omega) (fun h36 => ?_) (fun h36 => ?_)
        · skip
          subst hz
          refine ad_iload_n dX8_areTwins_78 rfl ?_
          exact ad_retp (q := (l.length = k.length ∧ l.take i = k.take i)) dX8_areTwins_79 rfl ⟨ad_pv_c ⟨fun q => by rw [if_pos q] at h36; exact absurd h36 (by decide), fun q => by rw [q]; exact ⟨rfl, rfl⟩⟩, rfl⟩
        · show ad_R _ _ _ _ 39 _ _ _
          have hPi : (l.length = k.length ∧ l.take i = k.take i) := Decidable.byContradiction (fun q => by rw [if_neg q] at hz; omega)
          have hlk := hPi.1
          have htl : l.take (i + 1) = l.take i ++ [l.getD i 0] := by rw [List.take_succ, List.getElem?_eq_getElem (by omega), List.getD_eq_getElem?_getD, List.getElem?_eq_getElem (by omega)]; rfl
          have htk : k.take (i + 1) = k.take i ++ [k.getD i 0] := by rw [List.take_succ, List.getElem?_eq_getElem (by omega), List.getD_eq_getElem?_getD, List.getElem?_eq_getElem (by omega)]; rfl
          have hlr := ad_gD_rng hxl i
          have hkr := ad_gD_rng hxk i
          refine ad_aload_n dX8_areTwins_39 rfl ?_
          refine gf_X8_31 rfl dX8_areTwins_40 ?_
          refine ad_bipush dX8_areTwins_43 rfl ?_
          refine ad_iload_n dX8_areTwins_45 rfl ?_
          refine ad_imul dX8_areTwins_46 ?_
          refine ad_iload dX8_areTwins_47 rfl ?_
          refine ad_iadd dX8_areTwins_49 ?_
          refine ad_ialj (12 * s + i) dX8_areTwins_50 (by decide) ⟨by decide, by decide⟩ (by omega) (by show _ < 120; omega) (hs28 i (by omega)) ?_
          refine ad_aload_n dX8_areTwins_51 rfl ?_
          refine gf_X8_31 rfl dX8_areTwins_52 ?_
          refine ad_bipush dX8_areTwins_55 rfl ?_
          refine ad_iload_n dX8_areTwins_57 rfl ?_
          refine ad_imul dX8_areTwins_58 ?_
          refine ad_iload dX8_areTwins_59 rfl ?_
          refine ad_iadd dX8_areTwins_61 ?_
          refine ad_ialj (12 * t + i) dX8_areTwins_62 (by decide) ⟨by decide, by decide⟩ (by omega) (by show _ < 120; omega) (ht28 i (by omega)) ?_
          refine ad_icmp_ne 70 dX8_areTwins_63 (by decide) (by omega) (by omega) (fun h63 => ?_) (fun h63 => ?_)
          · skip
            refine ad_iconst dX8_areTwins_70 ?_
            refine ad_istore_n dX8_areTwins_71 (by decide) rfl (by dsimp only [ad_set]) ?_
            refine ad_iinc dX8_areTwins_72 rfl (by decide) rfl (by dsimp only [ad_set]) ?_
            refine ad_goto 24 dX8_areTwins_75 (by decide) ?_
            exact ih (i + 1) _ (by omega) (by rw [if_neg (fun q => h63 (by have q2 := q.2; rw [htl, htk, hPi.2] at q2; exact List.cons.inj (List.append_cancel_left q2) |>.1))]) (by omega)
          · show ad_R _ _ _ _ 66 _ _ _
            refine ad_iconst dX8_areTwins_66 ?_
            refine ad_goto 71 dX8_areTwins_67 (by decide) ?_
            refine ad_istore_n dX8_areTwins_71 (by decide) rfl (by dsimp only [ad_set]) ?_
            refine ad_iinc dX8_areTwins_72 rfl (by decide) rfl (by dsimp only [ad_set]) ?_
            refine ad_goto 24 dX8_areTwins_75 (by decide) ?_
            exact ih (i + 1) _ (by omega) (by rw [if_pos ⟨hPi.1, by rw [htl, htk, hPi.2, Decidable.not_not.mp h63]⟩]) (by omega)
  refine ad_M1 (k := 2) rfl (by simp [Value.category]) rfl (Nat.le_of_ble_eq_true rfl) ?_
  simp only [List.map_cons, List.map_nil, List.replicate, List.cons_append, List.nil_append]
  refine ad_aload_n dX8_areTwins_0 rfl ?_
  refine gf_X8_34 rfl dX8_areTwins_1 ?_
  refine ad_iload_n dX8_areTwins_4 rfl ?_
  refine ad_ialj (s) dX8_areTwins_5 (by decide) ⟨by decide, by decide⟩ (by omega) (by show _ < 10; omega) (hs29) ?_
  refine ad_aload_n dX8_areTwins_6 rfl ?_
  refine gf_X8_34 rfl dX8_areTwins_7 ?_
  refine ad_iload_n dX8_areTwins_10 rfl ?_
  refine ad_ialj (t) dX8_areTwins_11 (by decide) ⟨by decide, by decide⟩ (by omega) (by show _ < 10; omega) (ht29) ?_
  refine ad_icmp_ne 19 dX8_areTwins_12 (by decide) (by omega) (by omega) (fun h12 => ?_) (fun h12 => ?_)
  · skip
    refine ad_iconst dX8_areTwins_19 ?_
    refine ad_istore_n dX8_areTwins_20 (by decide) rfl (by dsimp only [ad_set]) ?_
    refine ad_iconst dX8_areTwins_21 ?_
    refine ad_istore dX8_areTwins_22 (by decide) rfl (by dsimp only [ad_set]) ?_
    exact hl _ 0 _ (by omega) (by rw [if_neg (fun q => by have := q.1; omega)]) (Nat.le_refl _)
  · show ad_R _ _ _ _ 15 _ _ _
    refine ad_iconst dX8_areTwins_15 ?_
    refine ad_goto 20 dX8_areTwins_16 (by decide) ?_
    refine ad_istore_n dX8_areTwins_20 (by decide) rfl (by dsimp only [ad_set]) ?_
    refine ad_iconst dX8_areTwins_21 ?_
    refine ad_istore dX8_areTwins_22 (by decide) rfl (by dsimp only [ad_set]) ?_
    exact hl _ 0 _ (by omega) (by rw [if_pos ⟨by omega, rfl⟩]) (Nat.le_refl _)
theorem c_X8_twinOf {g : ad_G} {d : Nat} {σ : ad_Mem} {A : ad_Ar} (hr : ad_ra (σ 21 0) A) (hw : ad_wA A) (hrr : ad_rr σ (ad_aH A) (ad_aL A)) {v : Nat} (hv : ad_aH A v = true) (h2d : 2 ≤ d) : ad_Q g mX8_twinOf d [ad_rf g 8 0, ad_iv (v : Int)] σ (fun x m => x = ad_iv ((ad_twin A v : Nat) : Int) ∧ m = σ) := by
  have hv10 := hr.H v hv
  have hvl := hr.1.2 v hv
  have hl : ∀ (n b : Nat), b ≤ v → ad_twin A v = ad_lst (fun o => ad_aH A o && decide (ad_aL A o = ad_aL A v)) (v - b) b → v - b ≤ n → ad_R g mX8_twinOf d (ad_ZQ mX8_twinOf (fun x m => x = ad_iv ((ad_twin A v : Nat) : Int) ∧ m = σ)) 2 [some (ad_rf g 8 0), some (ad_iv (v : Int)), some (ad_iv (b : Int))] [] σ := by
    intro n
    induction n with
    | zero =>
      intro b hb hT hn
      refine ad_aload_n dX8_twinOf_2 rfl ?_
      refine ad_iload_n dX8_twinOf_3 rfl ?_
      refine ad_cv1f rfl cl_X8_59 dX8_twinOf_4 (c_X8_isThere hr (by omega) (by omega)) (by omega) (by show _ < 1; omega) (Nat.le_of_ble_eq_true rfl) ?_
      refine ad_ifp_eq 19 dX8_twinOf_7 (by decide) (fun h7 => ?_) (fun h7 => ?_)
      · skip
        refine ad_iinc dX8_twinOf_19 rfl (by decide) rfl (by dsimp only [ad_set]) ?_
        refine ad_goto 2 dX8_twinOf_22 (by decide) ?_
        exfalso
        have hbv : b = v := by omega
        subst hbv
        exact absurd ⟨by omega, hv⟩ h7
      · show ad_R _ _ _ _ 10 _ _ _
        have ob : b < 10 ∧ (ad_aL A b).length ≤ 12 := ⟨by omega, (hr.1.2 b h7.2).2.1⟩
        refine ad_aload_n dX8_twinOf_10 rfl ?_
        refine ad_iload_n dX8_twinOf_11 rfl ?_
        refine ad_iload_n dX8_twinOf_12 rfl ?_
        refine ad_cv2f rfl cl_X8_191 dX8_twinOf_13 (c_X8_areTwins ob.1 hv10 ob.2 hvl.2.1 ((hrr.1 b ob.1).trans (if_pos h7.2)) (by rw [hrr.1 v hv10, if_pos hv]) (hrr.2 b ob.1 h7.2).2 (hrr.2 v hv10 hv).2 (fun x hx => by have := (hw.2.2.1 b h7.2).1.2.2 x hx; omega) (fun x hx => by have := (hw.2.2.1 v hv).1.2.2 x hx; omega)) (by omega) (by show _ < 1; omega) (Nat.le_of_ble_eq_true rfl) ?_
        refine ad_ifp_ne 25 dX8_twinOf_16 (by decide) (fun h16 => ?_) (fun h16 => ?_)
        · skip
          refine ad_iload_n dX8_twinOf_25 rfl ?_
          exact ad_reti dX8_twinOf_26 rfl (by
                rw [hT]
                refine ⟨?_, rfl⟩
                by_cases hz : b = v
                · rw [show v - b = 0 by omega]; rfl
                · rw [show v - b = v - (b + 1) + 1 by omega, ad_lst, if_pos (by rw [Bool.and_eq_true, decide_eq_true_eq]; exact ⟨h7.2, h16⟩)])
        · show ad_R _ _ _ _ 19 _ _ _
          refine ad_iinc dX8_twinOf_19 rfl (by decide) rfl (by dsimp only [ad_set]) ?_
          refine ad_goto 2 dX8_twinOf_22 (by decide) ?_
          exfalso
          have hbv : b = v := by omega
          subst hbv
          exact absurd rfl h16
    | succ n ih =>
      intro b hb hT hn
      refine ad_aload_n dX8_twinOf_2 rfl ?_
      refine ad_iload_n dX8_twinOf_3 rfl ?_
      refine ad_cv1f rfl cl_X8_59 dX8_twinOf_4 (c_X8_isThere hr (by omega) (by omega)) (by omega) (by show _ < 1; omega) (Nat.le_of_ble_eq_true rfl) ?_
      refine ad_ifp_eq 19 dX8_twinOf_7 (by decide) (fun h7 => ?_) (fun h7 => ?_)
      · skip
        refine ad_iinc dX8_twinOf_19 rfl (by decide) rfl (by dsimp only [ad_set]) ?_
        refine ad_goto 2 dX8_twinOf_22 (by decide) ?_
        have hbv : b < v := by
          by_cases hz : b = v
          · subst hz; exact absurd ⟨by omega, hv⟩ h7
          · omega
        exact ih (b + 1) (by omega) (by
          rw [hT, show v - b = v - (b + 1) + 1 by omega, ad_lst, if_neg (fun z => by rw [Bool.and_eq_true, decide_eq_true_eq] at z; exact h7 ⟨by omega, z.1⟩)]) (by omega)
      · show ad_R _ _ _ _ 10 _ _ _
        have ob : b < 10 ∧ (ad_aL A b).length ≤ 12 := ⟨by omega, (hr.1.2 b h7.2).2.1⟩
        refine ad_aload_n dX8_twinOf_10 rfl ?_
        refine ad_iload_n dX8_twinOf_11 rfl ?_
        refine ad_iload_n dX8_twinOf_12 rfl ?_
        refine ad_cv2f rfl cl_X8_191 dX8_twinOf_13 (c_X8_areTwins ob.1 hv10 ob.2 hvl.2.1 ((hrr.1 b ob.1).trans (if_pos h7.2)) (by rw [hrr.1 v hv10, if_pos hv]) (hrr.2 b ob.1 h7.2).2 (hrr.2 v hv10 hv).2 (fun x hx => by have := (hw.2.2.1 b h7.2).1.2.2 x hx; omega) (fun x hx => by have := (hw.2.2.1 v hv).1.2.2 x hx; omega)) (by omega) (by show _ < 1; omega) (Nat.le_of_ble_eq_true rfl) ?_
        refine ad_ifp_ne 25 dX8_twinOf_16 (by decide) (fun h16 => ?_) (fun h16 => ?_)
        · skip
          refine ad_iload_n dX8_twinOf_25 rfl ?_
          exact ad_reti dX8_twinOf_26 rfl (by
                rw [hT]
                refine ⟨?_, rfl⟩
                by_cases hz : b = v
                · rw [show v - b = 0 by omega]; rfl
                · rw [show v - b = v - (b + 1) + 1 by omega, ad_lst, if_pos (by rw [Bool.and_eq_true, decide_eq_true_eq]; exact ⟨h7.2, h16⟩)])
        · show ad_R _ _ _ _ 19 _ _ _
          refine ad_iinc dX8_twinOf_19 rfl (by decide) rfl (by dsimp only [ad_set]) ?_
          refine ad_goto 2 dX8_twinOf_22 (by decide) ?_
          have hbv : b < v := by
            by_cases hz : b = v
            · subst hz; exact absurd rfl h16
            · omega
          exact ih (b + 1) (by omega) (by
            rw [hT, show v - b = v - (b + 1) + 1 by omega, ad_lst, if_neg (fun z => by rw [Bool.and_eq_true, decide_eq_true_eq] at z; exact h16 z.2)]) (by omega)
  refine ad_M1 (k := 1) rfl (by simp [Value.category]) rfl (Nat.le_of_ble_eq_true rfl) ?_
  simp only [List.map_cons, List.map_nil, List.replicate, List.cons_append, List.nil_append]
  refine ad_iconst dX8_twinOf_0 ?_
  refine ad_istore_n dX8_twinOf_1 (by decide) rfl (by dsimp only [ad_set]) ?_
  exact hl _ 0 (by omega) rfl (Nat.le_refl _)
theorem c_X8_twin {g : ad_G} {d : Nat} {σ : ad_Mem} {C : ad_C7} {v : Int} (hv : ad_rng v) (hC : ad_c8 σ C) (h16d : 16 ≤ d) : ad_Q g mX8_twin d [ad_rf g 8 0, ad_iv v] σ (fun x m => ad_an8 σ x m (ad_m_twin C v)) := by
  have hC0 := hC
  obtain ⟨a1, a2, a3, a4, a5, a6⟩ := hC0
  have hr := a1.1
  have hw := a1.2
  refine ad_M1 (k := 0) rfl (by simp [Value.category]) rfl (Nat.le_of_ble_eq_true rfl) ?_
  simp only [List.map_cons, List.map_nil, List.replicate, List.cons_append, List.nil_append]
  refine ad_aload_n dX8_twin_0 rfl ?_
  refine ad_iload_n dX8_twin_1 rfl ?_
  refine ad_cv1f rfl cl_X8_59 dX8_twin_2 (c_X8_isThere hr (by omega) (by omega)) (by omega) (by show _ < 1; omega) (Nat.le_of_ble_eq_true rfl) ?_
  refine ad_ifp_ne 14 dX8_twin_5 (by decide) (fun h5 => ?_) (fun h5 => ?_)
  · skip
    obtain ⟨vn, rfl⟩ : ∃ zz : Nat, v = (zz : Int) := ⟨v.toNat, by omega⟩
    have vH : ad_aH (ad_cA C) vn = true := h5.2
    have vl := hr.1.2 vn vH
    have v10 : vn < 10 := by have := hr.1.1; omega
    refine ad_aload_n dX8_twin_14 rfl ?_
    refine ad_cv0v rfl cl_X8_84 dX8_twin_15 (c_X8_restores hr hw (by omega)) (by omega) (by show _ < 1; omega) (Nat.le_of_ble_eq_true rfl) (fun s15 q15 => ?_)
    obtain ⟨f15, g15⟩ := q15
    have hC15 := ad_c8_fr hC (f15.mono (by decide) (by decide))
    have hr15 := hC15.1.1
    refine ad_aload_n dX8_twin_18 rfl ?_
    refine ad_iload_n dX8_twin_19 rfl ?_
    refine ad_cv1f rfl cl_X8_194 dX8_twin_20 (c_X8_twinOf hr15 hw g15 vH (by omega)) (by omega) (by show _ < 1; omega) (Nat.le_of_ble_eq_true rfl) ?_
    exact ad_reti dX8_twin_23 rfl (by
      have e : ad_m_twin C (vn : Int) = (((ad_twin (ad_cA C) vn : Nat) : Int), C) := by
        unfold ad_m_twin
        (repeat' split) <;> first | with_reducible rfl | contradiction | (exfalso; omega) | rfl | (exfalso; simp_all; omega) | (simp_all; done)
      rw [e]
      exact ⟨rfl, hC15, (f15.mono (by decide) (by decide))⟩)
  · show ad_R _ _ _ _ 8 _ _ _
    refine ad_aload_n dX8_twin_8 rfl ?_
    refine ad_iconst dX8_twin_9 ?_
    refine ad_cv1q rfl cl_X8_51 dX8_twin_10 (c_X8_noC hC (by decide)) (by omega) (by show _ < 1; omega) (Nat.le_of_ble_eq_true rfl) (fun x10 s10 q10 => ?_)
    obtain ⟨rfl, c10, f10⟩ := q10
    exact ad_reti dX8_twin_13 rfl (by
      have e : ad_m_twin C v = ad_no C 1 := by
        unfold ad_m_twin
        (repeat' split) <;> first | with_reducible rfl | contradiction | (exfalso; omega) | rfl | (exfalso; simp_all; omega) | (simp_all; done)
      rw [e]
      exact ⟨rfl, c10, (f10.mono (by decide) (by decide))⟩)
theorem c_X8_reached {g : ad_G} {d : Nat} {σ : ad_Mem} {C : ad_C7} {w : Int} (hww : ad_rng w) (hC : ad_c8 σ C) (h16d : 16 ≤ d) : ad_Q g mX8_reached d [ad_rf g 8 0, ad_iv w] σ (fun x m => ad_an8 σ x m (ad_m_reached C w)) := by
  have hC0 := hC
  obtain ⟨a1, a2, a3, a4, a5, a6⟩ := hC0
  have hr := a1.1
  have hw := a1.2
  refine ad_M1 (k := 2) rfl (by simp [Value.category]) rfl (Nat.le_of_ble_eq_true rfl) ?_
  simp only [List.map_cons, List.map_nil, List.replicate, List.cons_append, List.nil_append]
  refine ad_iload_n dX8_reached_0 rfl ?_
  refine ad_iconst dX8_reached_1 ?_
  refine ad_iconst dX8_reached_2 ?_
  refine ad_cs3f rfl cl_X8_55 dX8_reached_3 (c_X8_isIn (by omega) (by omega) (by omega)) (by omega) (Nat.le_of_ble_eq_true rfl) ?_
  refine ad_ifp_ne 16 dX8_reached_6 (by decide) (fun h6 => ?_) (fun h6 => ?_)
  · skip
    refine ad_iload_n dX8_reached_16 rfl ?_
    refine ad_if_ne 25 dX8_reached_17 (by decide) (by omega) (fun h17 => ?_) (fun h17 => ?_)
    · skip
      refine ad_iload_n dX8_reached_25 rfl ?_
      refine ad_iconst dX8_reached_26 ?_
      refine ad_icmp_ne 42 dX8_reached_27 (by decide) (by omega) (by omega) (fun h27 => ?_) (fun h27 => ?_)
      · skip
        refine ad_aload_n dX8_reached_42 rfl ?_
        refine ad_cv0v rfl cl_X8_84 dX8_reached_43 (c_X8_restores hr hw (by omega)) (by omega) (by show _ < 1; omega) (Nat.le_of_ble_eq_true rfl) (fun s43 q43 => ?_)
        obtain ⟨f43, g43⟩ := q43
        have hC43 := ad_c8_fr hC (f43.mono (by decide) (by decide))
        have hr43 := hC43.1.1
        have hl : ∀ (n : Nat) (v : Nat) (z : Int), (v ≤ 10) → (z = ad_sm (ad_ctsH (ad_cA C)) v) → (((10 - v : Nat) : Int)).toNat ≤ n → ad_R g mX8_reached d (ad_ZQ mX8_reached (fun x m => ad_an8 σ x m (ad_m_reached C w))) 50 [some (ad_rf g 8 0), some (ad_iv w), some (ad_iv z), some (ad_iv (v : Int))] [] s43 := by
          intro n
          induction n with
          | zero =>
            intro v z hv hz hn
            refine ad_iload_n dX8_reached_50 rfl ?_
            refine ad_bipush dX8_reached_51 rfl ?_
            refine ad_icmp_ge 87 dX8_reached_53 (by decide) (by omega) (by omega) (fun h53 => ?_) (fun h53 => ?_)
            · skip
              refine ad_iload_n dX8_reached_87 rfl ?_
              exact ad_reti dX8_reached_88 rfl (by
                have e : ad_m_reached C w = (ad_cts (ad_cA C), C) := by
                  unfold ad_m_reached
                  (repeat' split) <;> first | with_reducible rfl | contradiction | (exfalso; omega) | rfl | (exfalso; simp_all; omega) | (simp_all; done)
                rw [e]
                exact ⟨by rw [hz, show v = 10 by omega]; rfl, hC43, (f43.mono (by decide) (by decide))⟩)
            · show ad_R _ _ _ _ 56 _ _ _
              exfalso; omega
          | succ n ih =>
            intro v z hv hz hn
            refine ad_iload_n dX8_reached_50 rfl ?_
            refine ad_bipush dX8_reached_51 rfl ?_
            refine ad_icmp_ge 87 dX8_reached_53 (by decide) (by omega) (by omega) (fun h53 => ?_) (fun h53 => ?_)
            · skip
              refine ad_iload_n dX8_reached_87 rfl ?_
              exact ad_reti dX8_reached_88 rfl (by
                have e : ad_m_reached C w = (ad_cts (ad_cA C), C) := by
                  unfold ad_m_reached
                  (repeat' split) <;> first | with_reducible rfl | contradiction | (exfalso; omega) | rfl | (exfalso; simp_all; omega) | (simp_all; done)
                rw [e]
                exact ⟨by rw [hz, show v = 10 by omega]; rfl, hC43, (f43.mono (by decide) (by decide))⟩)
            · show ad_R _ _ _ _ 56 _ _ _
              refine ad_iload_n dX8_reached_56 rfl ?_
              refine ad_aload_n dX8_reached_57 rfl ?_
              refine ad_iload_n dX8_reached_58 rfl ?_
              refine ad_cv1f rfl cl_X8_59 dX8_reached_59 (c_X8_isThere hr43 (by omega) (by omega)) (by omega) (by show _ < 1; omega) (Nat.le_of_ble_eq_true rfl) ?_
              refine ad_ifp_eq 78 dX8_reached_62 (by decide) (fun h62 => ?_) (fun h62 => ?_)
              · skip
                refine ad_iconst dX8_reached_78 ?_
                refine ad_iadd dX8_reached_79 ?_
                refine ad_istore_n dX8_reached_80 (by decide) rfl (by dsimp only [ad_set]) ?_
                refine ad_iinc dX8_reached_81 rfl (by decide) rfl (by dsimp only [ad_set]) ?_
                refine ad_goto 50 dX8_reached_84 (by decide) ?_
                exact ih (v + 1) _ (by omega) (by rw [ad_sm, hz]; congr 1; unfold ad_ctsH; rw [if_neg (fun z => h62 ⟨by omega, z.1⟩)]) (by omega)
              · show ad_R _ _ _ _ 65 _ _ _
                refine ad_aload_n dX8_reached_65 rfl ?_
                refine ad_iload_n dX8_reached_66 rfl ?_
                refine ad_cv1f rfl cl_X8_194 dX8_reached_67 (c_X8_twinOf hr43 hw g43 h62.2 (by omega)) (by omega) (by show _ < 1; omega) (Nat.le_of_ble_eq_true rfl) ?_
                refine ad_iload_n dX8_reached_70 rfl ?_
                refine ad_icmp_ne 78 dX8_reached_71 (by decide) (by have := ad_lst_le (fun o => ad_aH (ad_cA C) o && decide (ad_aL (ad_cA C) o = ad_aL (ad_cA C) v)) v 0; unfold ad_twin; omega) (by omega) (fun h71 => ?_) (fun h71 => ?_)
                · skip
                  refine ad_iconst dX8_reached_78 ?_
                  refine ad_iadd dX8_reached_79 ?_
                  refine ad_istore_n dX8_reached_80 (by decide) rfl (by dsimp only [ad_set]) ?_
                  refine ad_iinc dX8_reached_81 rfl (by decide) rfl (by dsimp only [ad_set]) ?_
                  refine ad_goto 50 dX8_reached_84 (by decide) ?_
                  exact ih (v + 1) _ (by omega) (by rw [ad_sm, hz]; congr 1; unfold ad_ctsH; rw [if_neg (fun z => h71 (by rw [z.2]))]) (by omega)
                · show ad_R _ _ _ _ 74 _ _ _
                  refine ad_iconst dX8_reached_74 ?_
                  refine ad_goto 79 dX8_reached_75 (by decide) ?_
                  refine ad_iadd dX8_reached_79 ?_
                  refine ad_istore_n dX8_reached_80 (by decide) rfl (by dsimp only [ad_set]) ?_
                  refine ad_iinc dX8_reached_81 rfl (by decide) rfl (by dsimp only [ad_set]) ?_
                  refine ad_goto 50 dX8_reached_84 (by decide) ?_
                  exact ih (v + 1) _ (by omega) (by rw [ad_sm, hz]; congr 1; unfold ad_ctsH; rw [if_pos ⟨h62.2, by omega⟩]) (by omega)
        refine ad_iconst dX8_reached_46 ?_
        refine ad_istore_n dX8_reached_47 (by decide) rfl (by dsimp only [ad_set]) ?_
        refine ad_iconst dX8_reached_48 ?_
        refine ad_istore_n dX8_reached_49 (by decide) rfl (by dsimp only [ad_set]) ?_
        exact hl _ 0 0 (by omega) rfl (Nat.le_refl _)
      · show ad_R _ _ _ _ 30 _ _ _
        refine ad_aload_n dX8_reached_30 rfl ?_
        refine ad_cv0f rfl cl_X8_142 dX8_reached_31 (c_X8_there hr (by omega)) (by omega) (by show _ < 1; omega) (Nat.le_of_ble_eq_true rfl) ?_
        refine ad_aload_n dX8_reached_34 rfl ?_
        refine ad_cv0f rfl cl_X8_145 dX8_reached_35 (c_X8_reachedByHeads hr hw (by omega)) (by omega) (by show _ < 1; omega) (Nat.le_of_ble_eq_true rfl) ?_
        refine ad_iconst dX8_reached_38 ?_
        refine ad_ixor dX8_reached_39 ?_
        refine ad_iand dX8_reached_40 ?_
        rw [ad_not_bits]
        exact ad_reti dX8_reached_41 rfl (by
          have e : ad_m_reached C w = (((ad_bits (ad_gn (ad_cA C)) : Nat) : Int), C) := by
            unfold ad_m_reached
            (repeat' split) <;> first | with_reducible rfl | contradiction | (exfalso; omega) | rfl | (exfalso; simp_all; omega) | (simp_all; done)
          rw [e]
          exact ⟨rfl, hC, ad_f8.refl⟩)
    · show ad_R _ _ _ _ 20 _ _ _
      refine ad_aload_n dX8_reached_20 rfl ?_
      refine ad_cv0f rfl cl_X8_145 dX8_reached_21 (c_X8_reachedByHeads hr hw (by omega)) (by omega) (by show _ < 1; omega) (Nat.le_of_ble_eq_true rfl) ?_
      exact ad_reti dX8_reached_24 rfl (by
        have e : ad_m_reached C w = (((ad_bits (ad_live (ad_cA C)) : Nat) : Int), C) := by
          unfold ad_m_reached
          (repeat' split) <;> first | with_reducible rfl | contradiction | (exfalso; omega) | rfl | (exfalso; simp_all; omega) | (simp_all; done)
        rw [e]
        exact ⟨rfl, hC, ad_f8.refl⟩)
  · show ad_R _ _ _ _ 9 _ _ _
    refine ad_aload_n dX8_reached_9 rfl ?_
    refine ad_bipush dX8_reached_10 rfl ?_
    refine ad_cv1q rfl cl_X8_51 dX8_reached_12 (c_X8_noC hC (by decide)) (by omega) (by show _ < 1; omega) (Nat.le_of_ble_eq_true rfl) (fun x12 s12 q12 => ?_)
    obtain ⟨rfl, c12, f12⟩ := q12
    exact ad_reti dX8_reached_15 rfl (by
      have e : ad_m_reached C w = ad_no C 2 := by
        unfold ad_m_reached
        (repeat' split) <;> first | with_reducible rfl | contradiction | (exfalso; omega) | rfl | (exfalso; simp_all; omega) | (simp_all; done)
      rw [e]
      exact ⟨rfl, c12, (f12.mono (by decide) (by decide))⟩)
