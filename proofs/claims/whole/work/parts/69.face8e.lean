/-! ===== the reference: wrong, hurt, lost, mean, fetch ===== -/
theorem ad_ch_fuel {A : ad_Ar} (hw : ad_wA A) : ∀ (n m v : Nat), ad_aH A v = true → ad_dep A v < n → ad_dep A v < m → ad_ch (ad_aH A) (ad_aB A) n (v : Int) = ad_ch (ad_aH A) (ad_aB A) m (v : Int) := by
  intro n
  induction n with
  | zero => intro m v _ h1; omega
  | succ n ih =>
    intro m v hv h1 h2
    cases m with
    | zero => omega
    | succ m =>
      have hd := ad_dep_d hw hv
      have hB := hw.2.2.2.2.1 v hv
      rw [ad_ch, ad_ch, Int.toNat_natCast]
      by_cases hz : ad_aB A v = -1
      · rw [hz]
        have e : ∀ q, ad_ch (ad_aH A) (ad_aB A) q (-1) = [] := fun q => by cases q with
          | zero => rfl
          | succ q => rw [ad_ch, if_neg (by omega)]
        rw [e n, e m]
      · have h3 := hd.2.2 hz
        rw [show ad_aB A v = (((ad_aB A v).toNat : Nat) : Int) by have := (hB.2 hz); omega, ih m _ (hB.2 hz).2.1 (by omega) (by omega)]
theorem ad_need_eq {A : ad_Ar} (hw : ad_wA A) {v w : Nat} (hv : ad_aH A v = true) : ad_need A (v : Int) w = (w == v || (decide (ad_aB A v ≠ -1) && ad_need A (ad_aB A v) w)) := by
  have hd := ad_dep_d hw hv
  have hB := hw.2.2.2.2.1 v hv
  unfold ad_need
  rw [show (10 : Nat) = 9 + 1 from rfl, ad_ch, if_pos ⟨by omega, by rw [Int.toNat_natCast]; exact hv⟩, Int.toNat_natCast, List.contains_cons]
  congr 1
  by_cases hz : ad_aB A v = -1
  · rw [hz, show ad_ch (ad_aH A) (ad_aB A) 9 (-1) = [] by rw [ad_ch, if_neg (by omega)]]; simp
  · have h3 := hd.2.2 hz
    rw [decide_eq_true hz, Bool.true_and, show ad_aB A v = (((ad_aB A v).toNat : Nat) : Int) by have := (hB.2 hz); omega, ad_ch_fuel hw 9 (9 + 1) _ (hB.2 hz).2.1 (by omega) (by omega)]
theorem ad_need_H {A : ad_Ar} (hw : ad_wA A) : ∀ (n v w : Nat), ad_aH A v = true → ad_dep A v ≤ n → ad_need A (v : Int) w = true → ad_aH A w = true := by
  intro n
  induction n with
  | zero =>
    intro v w hv hd h
    rw [ad_need_eq hw hv, Bool.or_eq_true, Bool.and_eq_true, decide_eq_true_eq, beq_iff_eq] at h
    rcases h with h | h
    · rw [h]; exact hv
    · have := (ad_dep_d hw hv).2.2 h.1; omega
  | succ n ih =>
    intro v w hv hd h
    rw [ad_need_eq hw hv, Bool.or_eq_true, Bool.and_eq_true, decide_eq_true_eq, beq_iff_eq] at h
    rcases h with h | h
    · rw [h]; exact hv
    · have h1 := (ad_dep_d hw hv).2.2 h.1
      have hB := (hw.2.2.2.2.1 v hv).2 h.1
      have h2 := h.2
      rw [show ad_aB A v = (((ad_aB A v).toNat : Nat) : Int) by have := hB; have := (hw.2.2.2.2.1 v hv).1; omega] at h2
      exact ih _ w hB.2.1 (by omega) h2
theorem c_X8_wrong {g : ad_G} {d : Nat} {σ : ad_Mem} {C : ad_C7}  (hC : ad_c8 σ C) (h16d : 16 ≤ d) : ad_Q g mX8_wrong d [ad_rf g 8 0] σ (fun x m => ad_an8 σ x m (ad_m_wrong C)) := by
  have hC0 := hC
  obtain ⟨a1, a2, a3, a4, a5, a6⟩ := hC0
  have hr := a1.1
  have hw := a1.2
  refine ad_M1 (k := 2) rfl (by simp [Value.category]) rfl (Nat.le_of_ble_eq_true rfl) ?_
  simp only [List.map_cons, List.map_nil, List.replicate, List.cons_append, List.nil_append]
  refine ad_aload_n dX8_wrong_0 rfl ?_
  refine ad_cv0v rfl cl_X8_84 dX8_wrong_1 (c_X8_restores hr hw (by omega)) (by omega) (by show _ < 1; omega) (Nat.le_of_ble_eq_true rfl) (fun s1 q1 => ?_)
  obtain ⟨f1, g1⟩ := q1
  have hC1 := ad_c8_fr hC (f1.mono (by decide) (by decide))
  have hr1 := hC1.1.1
  have hl : ∀ (n : Nat) (v : Nat) (z : Int), (v ≤ 10) → (z = ((ad_bN (ad_wr (ad_cA C)) v : Nat) : Int)) → (((10 - v : Nat) : Int)).toNat ≤ n → ad_R g mX8_wrong d (ad_ZQ mX8_wrong (fun x m => ad_an8 σ x m (ad_m_wrong C))) 8 [some (ad_rf g 8 0), some (ad_iv z), some (ad_iv (v : Int))] [] s1 := by
    intro n
    induction n with
    | zero =>
      intro v z hv hs hn
      refine ad_iload_n dX8_wrong_8 rfl ?_
      refine ad_bipush dX8_wrong_9 rfl ?_
      refine ad_icmp_ge 46 dX8_wrong_11 (by decide) (by omega) (by omega) (fun h11 => ?_) (fun h11 => ?_)
      · skip
        refine ad_iload_n dX8_wrong_46 rfl ?_
        exact ad_reti dX8_wrong_47 rfl (by rw [hs, show v = 10 by omega]; exact ⟨rfl, hC1, (f1.mono (by decide) (by decide))⟩)
      · show ad_R _ _ _ _ 14 _ _ _
        have hb31 := ad_bN_lt31 (ad_wr (ad_cA C)) (n := v) (by omega)
        exfalso; omega
    | succ n ih =>
      intro v z hv hs hn
      refine ad_iload_n dX8_wrong_8 rfl ?_
      refine ad_bipush dX8_wrong_9 rfl ?_
      refine ad_icmp_ge 46 dX8_wrong_11 (by decide) (by omega) (by omega) (fun h11 => ?_) (fun h11 => ?_)
      · skip
        refine ad_iload_n dX8_wrong_46 rfl ?_
        exact ad_reti dX8_wrong_47 rfl (by rw [hs, show v = 10 by omega]; exact ⟨rfl, hC1, (f1.mono (by decide) (by decide))⟩)
      · show ad_R _ _ _ _ 14 _ _ _
        have hb31 := ad_bN_lt31 (ad_wr (ad_cA C)) (n := v) (by omega)
        refine ad_iload_n dX8_wrong_14 rfl ?_
        refine ad_aload_n dX8_wrong_15 rfl ?_
        refine ad_iload_n dX8_wrong_16 rfl ?_
        refine ad_cv1f rfl cl_X8_59 dX8_wrong_17 (c_X8_isThere hr1 (by omega) (by omega)) (by omega) (by show _ < 1; omega) (Nat.le_of_ble_eq_true rfl) ?_
        refine ad_ifp_eq 37 dX8_wrong_20 (by decide) (fun h20 => ?_) (fun h20 => ?_)
        · skip
          refine ad_iconst dX8_wrong_37 ?_
          refine ad_ior dX8_wrong_38 ?_
          refine ad_istore_n dX8_wrong_39 (by decide) rfl (by dsimp only [ad_set]) ?_
          refine ad_iinc dX8_wrong_40 rfl (by decide) rfl (by dsimp only [ad_set]) ?_
          refine ad_goto 8 dX8_wrong_43 (by decide) ?_
          exact ih (v + 1) _ (by omega) (by rw [hs, ad_or_0 hb31, ad_bN_n (by unfold ad_wr; intro q; exact h20 ⟨by omega, (Bool.and_eq_true_iff.mp q).1⟩)]) (by omega)
        · show ad_R _ _ _ _ 23 _ _ _
          refine ad_aload_n dX8_wrong_23 rfl ?_
          refine ad_iload_n dX8_wrong_24 rfl ?_
          refine ad_cv1f rfl cl_X8_179 dX8_wrong_25 (c_X8_isSound hr1 hw h20.2 g1 (by omega)) (by omega) (by show _ < 1; omega) (Nat.le_of_ble_eq_true rfl) ?_
          refine ad_ifp_ne 37 dX8_wrong_28 (by decide) (fun h28 => ?_) (fun h28 => ?_)
          · skip
            refine ad_iconst dX8_wrong_37 ?_
            refine ad_ior dX8_wrong_38 ?_
            refine ad_istore_n dX8_wrong_39 (by decide) rfl (by dsimp only [ad_set]) ?_
            refine ad_iinc dX8_wrong_40 rfl (by decide) rfl (by dsimp only [ad_set]) ?_
            refine ad_goto 8 dX8_wrong_43 (by decide) ?_
            exact ih (v + 1) _ (by omega) (by rw [hs, ad_or_0 hb31, ad_bN_n (by unfold ad_wr; intro q; exact of_decide_eq_true (Bool.and_eq_true_iff.mp q).2 h28)]) (by omega)
          · show ad_R _ _ _ _ 31 _ _ _
            refine ad_iconst dX8_wrong_31 ?_
            refine ad_iload_n dX8_wrong_32 rfl ?_
            refine ad_ishl dX8_wrong_33 ?_
            refine ad_goto 38 dX8_wrong_34 (by decide) ?_
            refine ad_ior dX8_wrong_38 ?_
            refine ad_istore_n dX8_wrong_39 (by decide) rfl (by dsimp only [ad_set]) ?_
            refine ad_iinc dX8_wrong_40 rfl (by decide) rfl (by dsimp only [ad_set]) ?_
            refine ad_goto 8 dX8_wrong_43 (by decide) ?_
            exact ih (v + 1) _ (by omega) (by rw [hs, ad_or_bN (by omega) (by unfold ad_wr; rw [Bool.and_eq_true]; exact ⟨h20.2, decide_eq_true h28⟩)]) (by omega)
  refine ad_iconst dX8_wrong_4 ?_
  refine ad_istore_n dX8_wrong_5 (by decide) rfl (by dsimp only [ad_set]) ?_
  refine ad_iconst dX8_wrong_6 ?_
  refine ad_istore_n dX8_wrong_7 (by decide) rfl (by dsimp only [ad_set]) ?_
  exact hl _ 0 0 (by omega) rfl (Nat.le_refl _)
theorem c_X8_needs {g : ad_G} {σ : ad_Mem} {A : ad_Ar} (hr : ad_ra (σ 21 0) A) (hw : ad_wA A) {w : Nat} (hw10 : w < 10) : ∀ (n v d : Nat), ad_aH A v = true → ad_dep A v ≤ n → n + 1 ≤ d → ad_Q g mX8_needs d [ad_rf g 8 0, ad_iv (v : Int), ad_iv (w : Int)] σ (fun x m => x = ad_pv (ad_need A (v : Int) w = true) ∧ m = σ) := by
  intro n
  induction n with
  | zero =>
    intro v d hv hd h1d
    have hvl := hr.1.2 v hv
    have hc10 := hr.1.1
    have hvv := hr.2.2.2.2.1 v hv
    have vBr := ad_B_rng hw hv
    have vlk := ad_lk_no vBr.1
    have vlkr := ad_lk_rng (v := ad_aB A v) (by omega)
    have hdd := ad_dep_d hw hv
    have hne := ad_need_eq hw (w := w) hv
    refine ad_M1 (k := 0) rfl (by simp [Value.category]) rfl (Nat.le_of_ble_eq_true rfl) ?_
    simp only [List.map_cons, List.map_nil, List.replicate, List.cons_append, List.nil_append]
    refine ad_iload_n dX8_needs_0 rfl ?_
    refine ad_iload_n dX8_needs_1 rfl ?_
    refine ad_icmp_eq 40 dX8_needs_2 (by decide) (by omega) (by omega) (fun h2 => ?_) (fun h2 => ?_)
    · skip
      refine ad_iconst dX8_needs_40 ?_
      refine ad_goto 45 dX8_needs_41 (by decide) ?_
      exact ad_ret1 dX8_needs_45 rfl (⟨ad_pv_t (by rw [hne, show w = v by omega]; simp), rfl⟩)
    · show ad_R _ _ _ _ 5 _ _ _
      refine ad_aload_n dX8_needs_5 rfl ?_
      refine gf_X8_9 rfl dX8_needs_6 ?_
      refine ad_bipush dX8_needs_9 rfl ?_
      refine ad_iload_n dX8_needs_11 rfl ?_
      refine ad_imul dX8_needs_12 ?_
      refine ad_iconst dX8_needs_13 ?_
      refine ad_iadd dX8_needs_14 ?_
      refine ad_ialj (50 * v + 4) dX8_needs_15 (by decide) ⟨by decide, by decide⟩ (by omega) (by show _ < 520; omega) (hvv.2.1) ?_
      refine ad_bipush dX8_needs_16 rfl ?_
      refine ad_icmp_eq 44 dX8_needs_18 (by decide) (by omega) (by omega) (fun h18 => ?_) (fun h18 => ?_)
      · skip
        refine ad_iconst dX8_needs_44 ?_
        exact ad_ret0 dX8_needs_45 rfl (⟨ad_pv_f (by rw [hne, show (w == v) = false by simp; omega, vlk.mp h18]; simp), rfl⟩)
      · show ad_R _ _ _ _ 21 _ _ _
        exfalso; have := hdd.2.2 (fun z => h18 (vlk.mpr z)); omega
  | succ n ih =>
    intro v d hv hd h1d
    have hvl := hr.1.2 v hv
    have hc10 := hr.1.1
    have hvv := hr.2.2.2.2.1 v hv
    have vBr := ad_B_rng hw hv
    have vlk := ad_lk_no vBr.1
    have vlkr := ad_lk_rng (v := ad_aB A v) (by omega)
    have hdd := ad_dep_d hw hv
    have hne := ad_need_eq hw (w := w) hv
    refine ad_M1 (k := 0) rfl (by simp [Value.category]) rfl (Nat.le_of_ble_eq_true rfl) ?_
    simp only [List.map_cons, List.map_nil, List.replicate, List.cons_append, List.nil_append]
    refine ad_iload_n dX8_needs_0 rfl ?_
    refine ad_iload_n dX8_needs_1 rfl ?_
    refine ad_icmp_eq 40 dX8_needs_2 (by decide) (by omega) (by omega) (fun h2 => ?_) (fun h2 => ?_)
    · skip
      refine ad_iconst dX8_needs_40 ?_
      refine ad_goto 45 dX8_needs_41 (by decide) ?_
      exact ad_ret1 dX8_needs_45 rfl (⟨ad_pv_t (by rw [hne, show w = v by omega]; simp), rfl⟩)
    · show ad_R _ _ _ _ 5 _ _ _
      refine ad_aload_n dX8_needs_5 rfl ?_
      refine gf_X8_9 rfl dX8_needs_6 ?_
      refine ad_bipush dX8_needs_9 rfl ?_
      refine ad_iload_n dX8_needs_11 rfl ?_
      refine ad_imul dX8_needs_12 ?_
      refine ad_iconst dX8_needs_13 ?_
      refine ad_iadd dX8_needs_14 ?_
      refine ad_ialj (50 * v + 4) dX8_needs_15 (by decide) ⟨by decide, by decide⟩ (by omega) (by show _ < 520; omega) (hvv.2.1) ?_
      refine ad_bipush dX8_needs_16 rfl ?_
      refine ad_icmp_eq 44 dX8_needs_18 (by decide) (by omega) (by omega) (fun h18 => ?_) (fun h18 => ?_)
      · skip
        refine ad_iconst dX8_needs_44 ?_
        exact ad_ret0 dX8_needs_45 rfl (⟨ad_pv_f (by rw [hne, show (w == v) = false by simp; omega, vlk.mp h18]; simp), rfl⟩)
      · show ad_R _ _ _ _ 21 _ _ _
        have hb : ad_aB A v ≠ -1 := fun z => h18 (vlk.mpr z)
        have hb2 := (hw.2.2.2.2.1 v hv).2 hb
        obtain ⟨BB, hBB⟩ : ∃ BB : Nat, ad_aB A v = (BB : Int) := ⟨(ad_aB A v).toNat, by omega⟩
        have hd2 := hdd.2.2 hb
        rw [hBB, Int.toNat_natCast] at hd2 hb2
        rw [hBB, decide_eq_true (by omega), Bool.true_and] at hne
        refine ad_aload_n dX8_needs_21 rfl ?_
        refine ad_aload_n dX8_needs_22 rfl ?_
        refine gf_X8_9 rfl dX8_needs_23 ?_
        refine ad_bipush dX8_needs_26 rfl ?_
        refine ad_iload_n dX8_needs_28 rfl ?_
        refine ad_imul dX8_needs_29 ?_
        refine ad_iconst dX8_needs_30 ?_
        refine ad_iadd dX8_needs_31 ?_
        refine ad_ialj (50 * v + 4) dX8_needs_32 (by decide) ⟨by decide, by decide⟩ (by omega) (by show _ < 520; omega) (hvv.2.1.trans ((ad_lk_ge hb).trans hBB)) ?_
        refine ad_iload_n dX8_needs_33 rfl ?_
        refine ad_cv2f rfl cl_X8_197 dX8_needs_34 (ih BB (d - 1) hb2.2.1 (by omega) (by omega)) (by omega) (by show _ < 1; omega) (Nat.le_of_ble_eq_true rfl) ?_
        refine ad_ifp_eq 44 dX8_needs_37 (by decide) (fun h37 => ?_) (fun h37 => ?_)
        · skip
          refine ad_iconst dX8_needs_44 ?_
          exact ad_ret0 dX8_needs_45 rfl (⟨ad_pv_f (by rw [hne, show (w == v) = false by simp; omega, Bool.false_or]; exact h37), rfl⟩)
        · show ad_R _ _ _ _ 40 _ _ _
          refine ad_iconst dX8_needs_40 ?_
          refine ad_goto 45 dX8_needs_41 (by decide) ?_
          exact ad_ret1 dX8_needs_45 rfl (⟨ad_pv_t (by rw [hne, h37, Bool.or_true]), rfl⟩)
theorem c_X8_hurt {g : ad_G} {d : Nat} {σ : ad_Mem} {C : ad_C7} {u : Int} (hu : ad_rng u) (hC : ad_c8 σ C) (h16d : 16 ≤ d) : ad_Q g mX8_hurt d [ad_rf g 8 0, ad_iv u] σ (fun x m => ad_an8 σ x m (ad_m_hurt C u)) := by
  have hC0 := hC
  obtain ⟨a1, a2, a3, a4, a5, a6⟩ := hC0
  have hr := a1.1
  have hw := a1.2
  refine ad_M1 (k := 2) rfl (by simp [Value.category]) rfl (Nat.le_of_ble_eq_true rfl) ?_
  simp only [List.map_cons, List.map_nil, List.replicate, List.cons_append, List.nil_append]
  refine ad_aload_n dX8_hurt_0 rfl ?_
  refine ad_iload_n dX8_hurt_1 rfl ?_
  refine ad_cv1f rfl cl_X8_59 dX8_hurt_2 (c_X8_isThere hr (by omega) (by omega)) (by omega) (by show _ < 1; omega) (Nat.le_of_ble_eq_true rfl) ?_
  refine ad_ifp_ne 14 dX8_hurt_5 (by decide) (fun h5 => ?_) (fun h5 => ?_)
  · skip
    obtain ⟨un, rfl⟩ : ∃ zz : Nat, u = (zz : Int) := ⟨u.toNat, by omega⟩
    have uH : ad_aH (ad_cA C) un = true := h5.2
    have ul := hr.1.2 un uH
    have u10 : un < 10 := by have := hr.1.1; omega
    have hl : ∀ (n : Nat) (v : Nat) (z : Int), (v ≤ 10) → (z = ((ad_bN (ad_hu (ad_cA C) un) v : Nat) : Int)) → (((10 - v : Nat) : Int)).toNat ≤ n → ad_R g mX8_hurt d (ad_ZQ mX8_hurt (fun x m => ad_an8 σ x m (ad_m_hurt C (un : Int)))) 18 [some (ad_rf g 8 0), some (ad_iv (un : Int)), some (ad_iv z), some (ad_iv (v : Int))] [] σ := by
      intro n
      induction n with
      | zero =>
        intro v z hv hs hn
        refine ad_iload_n dX8_hurt_18 rfl ?_
        refine ad_bipush dX8_hurt_19 rfl ?_
        refine ad_icmp_ge 57 dX8_hurt_21 (by decide) (by omega) (by omega) (fun h21 => ?_) (fun h21 => ?_)
        · skip
          refine ad_iload_n dX8_hurt_57 rfl ?_
          exact ad_reti dX8_hurt_58 rfl (by
                have e : ad_m_hurt C (un : Int) = (((ad_bits (ad_hu (ad_cA C) un) : Nat) : Int), C) := by
                  unfold ad_m_hurt
                  rw [if_neg (fun z => z h5)]; rfl
                rw [e, hs, show v = 10 by omega]
                exact ⟨rfl, hC, ad_f8.refl⟩)
        · show ad_R _ _ _ _ 24 _ _ _
          have hb31 := ad_bN_lt31 (ad_hu (ad_cA C) un) (n := v) (by omega)
          exfalso; omega
      | succ n ih =>
        intro v z hv hs hn
        refine ad_iload_n dX8_hurt_18 rfl ?_
        refine ad_bipush dX8_hurt_19 rfl ?_
        refine ad_icmp_ge 57 dX8_hurt_21 (by decide) (by omega) (by omega) (fun h21 => ?_) (fun h21 => ?_)
        · skip
          refine ad_iload_n dX8_hurt_57 rfl ?_
          exact ad_reti dX8_hurt_58 rfl (by
                have e : ad_m_hurt C (un : Int) = (((ad_bits (ad_hu (ad_cA C) un) : Nat) : Int), C) := by
                  unfold ad_m_hurt
                  rw [if_neg (fun z => z h5)]; rfl
                rw [e, hs, show v = 10 by omega]
                exact ⟨rfl, hC, ad_f8.refl⟩)
        · show ad_R _ _ _ _ 24 _ _ _
          have hb31 := ad_bN_lt31 (ad_hu (ad_cA C) un) (n := v) (by omega)
          refine ad_iload_n dX8_hurt_24 rfl ?_
          refine ad_aload_n dX8_hurt_25 rfl ?_
          refine ad_iload_n dX8_hurt_26 rfl ?_
          refine ad_cv1f rfl cl_X8_59 dX8_hurt_27 (c_X8_isThere hr (by omega) (by omega)) (by omega) (by show _ < 1; omega) (Nat.le_of_ble_eq_true rfl) ?_
          refine ad_ifp_eq 48 dX8_hurt_30 (by decide) (fun h30 => ?_) (fun h30 => ?_)
          · skip
            refine ad_iconst dX8_hurt_48 ?_
            refine ad_ior dX8_hurt_49 ?_
            refine ad_istore_n dX8_hurt_50 (by decide) rfl (by dsimp only [ad_set]) ?_
            refine ad_iinc dX8_hurt_51 rfl (by decide) rfl (by dsimp only [ad_set]) ?_
            refine ad_goto 18 dX8_hurt_54 (by decide) ?_
            exact ih (v + 1) _ (by omega) (by rw [hs, ad_or_0 hb31, ad_bN_n (by unfold ad_hu; intro q; exact h30 ⟨by omega, (Bool.and_eq_true_iff.mp q).1⟩)]) (by omega)
          · show ad_R _ _ _ _ 33 _ _ _
            refine ad_aload_n dX8_hurt_33 rfl ?_
            refine ad_iload_n dX8_hurt_34 rfl ?_
            refine ad_iload_n dX8_hurt_35 rfl ?_
            refine ad_cv2f rfl cl_X8_197 dX8_hurt_36 (c_X8_needs hr hw u10 8 v (d - 1) h30.2 (ad_dep_d hw h30.2).1 (by omega)) (by omega) (by show _ < 1; omega) (Nat.le_of_ble_eq_true rfl) ?_
            refine ad_ifp_eq 48 dX8_hurt_39 (by decide) (fun h39 => ?_) (fun h39 => ?_)
            · skip
              refine ad_iconst dX8_hurt_48 ?_
              refine ad_ior dX8_hurt_49 ?_
              refine ad_istore_n dX8_hurt_50 (by decide) rfl (by dsimp only [ad_set]) ?_
              refine ad_iinc dX8_hurt_51 rfl (by decide) rfl (by dsimp only [ad_set]) ?_
              refine ad_goto 18 dX8_hurt_54 (by decide) ?_
              exact ih (v + 1) _ (by omega) (by rw [hs, ad_or_0 hb31, ad_bN_n (by unfold ad_hu; intro q; exact h39 (Bool.and_eq_true_iff.mp q).2)]) (by omega)
            · show ad_R _ _ _ _ 42 _ _ _
              refine ad_iconst dX8_hurt_42 ?_
              refine ad_iload_n dX8_hurt_43 rfl ?_
              refine ad_ishl dX8_hurt_44 ?_
              refine ad_goto 49 dX8_hurt_45 (by decide) ?_
              refine ad_ior dX8_hurt_49 ?_
              refine ad_istore_n dX8_hurt_50 (by decide) rfl (by dsimp only [ad_set]) ?_
              refine ad_iinc dX8_hurt_51 rfl (by decide) rfl (by dsimp only [ad_set]) ?_
              refine ad_goto 18 dX8_hurt_54 (by decide) ?_
              exact ih (v + 1) _ (by omega) (by rw [hs, ad_or_bN (by omega) (by unfold ad_hu; rw [Bool.and_eq_true]; exact ⟨h30.2, h39⟩)]) (by omega)
    refine ad_iconst dX8_hurt_14 ?_
    refine ad_istore_n dX8_hurt_15 (by decide) rfl (by dsimp only [ad_set]) ?_
    refine ad_iconst dX8_hurt_16 ?_
    refine ad_istore_n dX8_hurt_17 (by decide) rfl (by dsimp only [ad_set]) ?_
    exact hl _ 0 0 (by omega) rfl (Nat.le_refl _)
  · show ad_R _ _ _ _ 8 _ _ _
    refine ad_aload_n dX8_hurt_8 rfl ?_
    refine ad_iconst dX8_hurt_9 ?_
    refine ad_cv1q rfl cl_X8_51 dX8_hurt_10 (c_X8_noC hC (by decide)) (by omega) (by show _ < 1; omega) (Nat.le_of_ble_eq_true rfl) (fun x10 s10 q10 => ?_)
    obtain ⟨rfl, c10, f10⟩ := q10
    exact ad_reti dX8_hurt_13 rfl (by
      have e : ad_m_hurt C u = ad_no C 1 := by
        unfold ad_m_hurt
        (repeat' split) <;> first | with_reducible rfl | contradiction | (exfalso; omega) | rfl | (exfalso; simp_all; omega) | (simp_all; done)
      rw [e]
      exact ⟨rfl, c10, (f10.mono (by decide) (by decide))⟩)
theorem ad_ldiv_n {a b : Nat} (ha : a < 2 ^ 62) (hb : 0 < b) (hb2 : b < 2 ^ 62) : Int64.ofInt (a : Int) / Int64.ofInt (b : Int) = Int64.ofInt ((a / b : Nat) : Int) := by
  have e1 : Int64.minValue.toInt = -9223372036854775808 := by decide
  have e2 : Int64.maxValue.toInt = 9223372036854775807 := by decide
  rw [← Int64.ofInt_tdiv (by rw [e1]; omega) (by rw [e2]; omega) (by rw [e1]; omega) (by rw [e2]; omega), Int.natCast_ediv, Int.tdiv_eq_ediv_of_nonneg (by omega)]
theorem ad_ldiv_h {a b : Nat} (ha : a < 2 ^ 62) (hb : 0 < b) (hb2 : b < 2 ^ 62) : ad_ldiv_f (a : Int) (b : Int) = ((a / b : Nat) : Int) := by
  unfold ad_ldiv_f
  rw [ad_ldiv_n ha hb hb2, ad_toInt64 (by have h := Nat.div_le_self a b; generalize a / b = q9 at h ⊢; constructor <;> omega)]
theorem ad_lrem_h {a b : Nat} (ha : a < 2 ^ 62) (hb : 0 < b) (hb2 : b < 2 ^ 62) : ad_lrem_f (a : Int) (b : Int) = ((a % b : Nat) : Int) := by
  unfold ad_lrem_f
  rw [ad_ldiv_n ha hb hb2, ← Int64.ofInt_mul, ← Int64.ofInt_sub]
  have h1 := Nat.div_add_mod a b
  have h2 := Nat.mod_lt a hb
  have e : (a : Int) - ((a / b : Nat) : Int) * (b : Int) = ((a % b : Nat) : Int) := by
    have : ((b * (a / b) + a % b : Nat) : Int) = (a : Int) := by rw [h1]
    rw [Int.natCast_add, Int.natCast_mul] at this
    rw [Int.mul_comm]; omega
  rw [e, ad_toInt64 (by constructor <;> omega)]
theorem ad_l0 {b : Nat} (hb : 0 < b) (hb2 : b < 2 ^ 62) : Int64.ofInt (b : Int) ≠ 0 := fun h => by
  have h2 := congrArg Int64.toInt h
  rw [ad_toInt64 (by constructor <;> omega)] at h2
  have : (0 : Int64).toInt = 0 := by decide
  omega
theorem ad_cmp_rng (a b : Int) : ad_rng (ad_cmp a b) := by
  unfold ad_cmp
  repeat' split
  all_goals decide
theorem ad_cmp_0 {a : Int} : ad_cmp a 0 = 0 ↔ a = 0 := by
  unfold ad_cmp
  by_cases h : 0 < a
  · rw [if_pos h]; omega
  · rw [if_neg h]
    by_cases h2 : a = 0
    · rw [if_pos h2]; omega
    · rw [if_neg h2]; omega
theorem ad_ent2 {a b : Int} : ∀ i v, ad_at [some (ad_lv a), none, some (ad_lv b), none] i = some v → (i, v) ∈ lv_args 0 [ad_lv a, ad_lv b] := by
  intro i v h
  match i, h with
  | 0, h => simp only [ad_at, Option.some.injEq] at h; subst h; simp [lv_args]
  | 1, h => simp [ad_at] at h
  | 2, h => simp only [ad_at, Option.some.injEq] at h; subst h; simp [lv_args, Value.category]
  | 3, h => simp [ad_at] at h
  | j + 4, h => simp [ad_at] at h
theorem ad_ent3 {a b c : Int} : ∀ i v, ad_at [some (ad_lv a), none, some (ad_lv b), none, some (ad_iv c), none, none] i = some v → (i, v) ∈ lv_args 0 [ad_lv a, ad_lv b, ad_iv c] := by
  intro i v h
  match i, h with
  | 0, h => simp only [ad_at, Option.some.injEq] at h; subst h; simp [lv_args]
  | 1, h => simp [ad_at] at h
  | 2, h => simp only [ad_at, Option.some.injEq] at h; subst h; simp [lv_args, Value.category]
  | 3, h => simp [ad_at] at h
  | 4, h => simp only [ad_at, Option.some.injEq] at h; subst h; simp [lv_args, Value.category]
  | 5, h => simp [ad_at] at h
  | 6, h => simp [ad_at] at h
  | j + 7, h => simp [ad_at] at h
theorem ad_eu {a b : Nat} (hb : 0 < b) (hab : b ≤ a) : 2 * (b * (a % b)) ≤ a * b := by
  have h1 := Nat.div_add_mod a b
  have h2 := Nat.mod_lt a hb
  have h3 : 1 ≤ a / b := Nat.div_pos hab hb
  have h4 : b * 1 ≤ b * (a / b) := Nat.mul_le_mul_left b h3
  have h5 : 2 * (a % b) ≤ a := by omega
  calc 2 * (b * (a % b)) = b * (2 * (a % b)) := by rw [Nat.mul_left_comm]
    _ ≤ b * a := Nat.mul_le_mul_left b h5
    _ = a * b := Nat.mul_comm b a
theorem c_X8_gcd1 {g : ad_G} {σ : ad_Mem} : ∀ (k a b d : Nat), b ≤ a → a * b < 2 ^ k → a < 2 ^ 62 → k + 1 ≤ d → ad_Q g mX8_common_ d [ad_lv (a : Int), ad_lv (b : Int)] σ (fun x m => x = ad_lv ((Nat.gcd a b : Nat) : Int) ∧ m = σ) := by
  intro k
  induction k with
  | zero =>
    intro a b d hab hk ha hd
    have hb : b < 2 ^ 62 := by omega
    have hz : b = 0 := by
      rcases Nat.eq_zero_or_pos b with h | h
      · exact h
      · have := Nat.mul_le_mul hab h; have h1 : 1 * 1 ≤ a * b := Nat.mul_le_mul (by omega) h; omega
    refine ad_M_of (L := [some (ad_lv (a : Int)), none, some (ad_lv (b : Int)), none]) rfl (Nat.le_of_ble_eq_true rfl) ad_ent2 ?_
    refine ad_lload_n dX8_common__0 rfl ?_
    refine ad_lconst dX8_common__1 ?_
    refine ad_lcmp dX8_common__2 (by constructor <;> omega) (by constructor <;> omega) ?_
    refine ad_if_ne 10 dX8_common__3 (by decide) (ad_cmp_rng _ _) (fun h3 => ?_) (fun h3 => ?_)
    · exfalso
      have : (b : Int) ≠ 0 := fun z => h3 (ad_cmp_0.mpr z)
      omega
    · show ad_R _ _ _ _ 6 _ _ _
      refine ad_lload_n dX8_common__6 rfl ?_
      refine ad_goto 17 dX8_common__7 (by decide) ?_
      exact ad_retl dX8_common__17 rfl (by
            have : (b : Int) = 0 := ad_cmp_0.mp (Decidable.not_not.mp h3)
            rw [show b = 0 by omega, Nat.gcd_zero_right]; exact ⟨rfl, rfl⟩)
  | succ k ih =>
    intro a b d hab hk ha hd
    have hb : b < 2 ^ 62 := by omega
    refine ad_M_of (L := [some (ad_lv (a : Int)), none, some (ad_lv (b : Int)), none]) rfl (Nat.le_of_ble_eq_true rfl) ad_ent2 ?_
    refine ad_lload_n dX8_common__0 rfl ?_
    refine ad_lconst dX8_common__1 ?_
    refine ad_lcmp dX8_common__2 (by constructor <;> omega) (by constructor <;> omega) ?_
    refine ad_if_ne 10 dX8_common__3 (by decide) (ad_cmp_rng _ _) (fun h3 => ?_) (fun h3 => ?_)
    · skip
      have hb0 : 0 < b := by
        have : (b : Int) ≠ 0 := fun z => h3 (ad_cmp_0.mpr z)
        omega
      refine ad_lload_n dX8_common__10 rfl ?_
      refine ad_lload_n dX8_common__11 rfl ?_
      refine ad_lload_n dX8_common__12 rfl ?_
      refine ad_lrem dX8_common__13 (ad_l0 hb0 hb) ?_
      rw [ad_lrem_h ha hb0 hb]
      refine ad_cs2f rfl cl_X8_200 dX8_common__14 (ih b (a % b) (d - 1) (by have := Nat.mod_lt a hb0; omega) (by have := ad_eu hb0 hab; rw [Nat.pow_succ] at hk; omega) hb (by omega)) (by omega) (Nat.le_of_ble_eq_true rfl) ?_
      exact ad_retl dX8_common__17 rfl (by
            rw [Nat.gcd_comm a b, Nat.gcd_rec b a, Nat.gcd_comm (a % b) b]; exact ⟨rfl, rfl⟩)
    · show ad_R _ _ _ _ 6 _ _ _
      refine ad_lload_n dX8_common__6 rfl ?_
      refine ad_goto 17 dX8_common__7 (by decide) ?_
      exact ad_retl dX8_common__17 rfl (by
            have : (b : Int) = 0 := ad_cmp_0.mp (Decidable.not_not.mp h3)
            rw [show b = 0 by omega, Nat.gcd_zero_right]; exact ⟨rfl, rfl⟩)
theorem c_X8_gcd {g : ad_G} {σ : ad_Mem} {k a b d : Nat} (hk : a * b < 2 ^ k) (ha : a < 2 ^ 62) (hb : b < 2 ^ 62) (hd : k + 2 ≤ d) : ad_Q g mX8_common_ d [ad_lv (a : Int), ad_lv (b : Int)] σ (fun x m => x = ad_lv ((Nat.gcd a b : Nat) : Int) ∧ m = σ) := by
    by_cases hab : b ≤ a
    · exact c_X8_gcd1 k a b d hab hk ha (by omega)
    refine ad_M_of (L := [some (ad_lv (a : Int)), none, some (ad_lv (b : Int)), none]) rfl (Nat.le_of_ble_eq_true rfl) ad_ent2 ?_
    refine ad_lload_n dX8_common__0 rfl ?_
    refine ad_lconst dX8_common__1 ?_
    refine ad_lcmp dX8_common__2 (by constructor <;> omega) (by constructor <;> omega) ?_
    refine ad_if_ne 10 dX8_common__3 (by decide) (ad_cmp_rng _ _) (fun h3 => ?_) (fun h3 => ?_)
    · skip
      have hb0 : 0 < b := by
        have : (b : Int) ≠ 0 := fun z => h3 (ad_cmp_0.mpr z)
        omega
      refine ad_lload_n dX8_common__10 rfl ?_
      refine ad_lload_n dX8_common__11 rfl ?_
      refine ad_lload_n dX8_common__12 rfl ?_
      refine ad_lrem dX8_common__13 (ad_l0 hb0 hb) ?_
      rw [ad_lrem_h ha hb0 hb]
      refine ad_cs2f rfl cl_X8_200 dX8_common__14 (c_X8_gcd1 k b (a % b) (d - 1) (by have := Nat.mod_lt a hb0; omega) (by rw [Nat.mod_eq_of_lt (by omega), Nat.mul_comm]; exact hk) hb (by omega)) (by omega) (Nat.le_of_ble_eq_true rfl) ?_
      exact ad_retl dX8_common__17 rfl (by
            rw [Nat.gcd_comm a b, Nat.gcd_rec b a, Nat.gcd_comm (a % b) b]; exact ⟨rfl, rfl⟩)
    · show ad_R _ _ _ _ 6 _ _ _
      refine ad_lload_n dX8_common__6 rfl ?_
      refine ad_goto 17 dX8_common__7 (by decide) ?_
      exact ad_retl dX8_common__17 rfl (by
            have : (b : Int) = 0 := ad_cmp_0.mp (Decidable.not_not.mp h3)
            rw [show b = 0 by omega, Nat.gcd_zero_right]; exact ⟨rfl, rfl⟩)
theorem c_X8_part {g : ad_G} {σ : ad_Mem} {k a b d : Nat} {p : Int} (hk : a * b < 2 ^ k) (ha : a < 2 ^ 62) (hb : b < 2 ^ 62) (h0 : 0 < b) (hp : 0 ≤ p ∧ p ≤ 1) (hd : k + 3 ≤ d) : ad_Q g mX8_part d [ad_lv (a : Int), ad_lv (b : Int), ad_iv p] σ (fun x m => x = ad_lv (((if p = 0 then a else b) / Nat.gcd a b : Nat) : Int) ∧ m = σ) := by
  have hg := Nat.gcd_pos_of_pos_right a h0
  have hg2 := Nat.gcd_le_right a h0
  refine ad_M_of (L := [some (ad_lv (a : Int)), none, some (ad_lv (b : Int)), none, some (ad_iv p), none, none]) rfl (Nat.le_of_ble_eq_true rfl) ad_ent3 ?_
  refine ad_lload_n dX8_part_0 rfl ?_
  refine ad_lload_n dX8_part_1 rfl ?_
  refine ad_cs2f rfl cl_X8_200 dX8_part_2 (c_X8_gcd hk ha hb (by omega)) (by omega) (Nat.le_of_ble_eq_true rfl) ?_
  refine ad_lstore dX8_part_5 (by decide) (Nat.le_of_ble_eq_true rfl) rfl (by dsimp only [ad_set]) ?_
  refine ad_iload dX8_part_7 rfl ?_
  refine ad_if_ne 16 dX8_part_9 (by decide) (by omega) (fun h9 => ?_) (fun h9 => ?_)
  · skip
    refine ad_lload_n dX8_part_16 rfl ?_
    refine ad_lload dX8_part_17 rfl ?_
    refine ad_ldiv dX8_part_19 (ad_l0 hg (by omega)) ?_
    exact ad_retl dX8_part_20 rfl (by rw [if_neg h9, ad_ldiv_h hb hg (by omega)]; exact ⟨rfl, rfl⟩)
  · show ad_R _ _ _ _ 12 _ _ _
    refine ad_lload_n dX8_part_12 rfl ?_
    refine ad_goto 17 dX8_part_13 (by decide) ?_
    refine ad_lload dX8_part_17 rfl ?_
    refine ad_ldiv dX8_part_19 (ad_l0 hg (by omega)) ?_
    exact ad_retl dX8_part_20 rfl (by rw [if_pos (Decidable.not_not.mp h9), ad_ldiv_h ha hg (by omega)]; exact ⟨rfl, rfl⟩)
