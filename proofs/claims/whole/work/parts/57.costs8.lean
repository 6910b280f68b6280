/-! ===== the reference: costs, depths, sets, whole ===== -/
theorem ad_or_0 {n : Nat} (h : n < 2 ^ 31) : ad_or (n : Int) 0 = (n : Int) := by
  have := ad_or_n (a := n) (b := 0) h (by decide)
  rw [show ((0 : Nat) : Int) = 0 from rfl] at this
  rw [this, Nat.or_zero]
theorem ad_bN_lt31 (p : Nat → Bool) {n : Nat} (hn : n ≤ 10) : ad_bN p n < 2 ^ 31 := by
  have h1 := ad_bN_lt p n
  have h2 : 2 ^ n ≤ 2 ^ 10 := Nat.pow_le_pow_right (by omega) hn
  omega
theorem ad_nc_take {l : List (Int × Int)} {i : Nat} (hi : i < l.length) : ad_nc (l.take (i + 1)) = ad_nc (l.take i) + if 0 < (l.getD i (0, 0)).1 then 1 else 0 := by
  have e1 : l.take (i + 1) = l.take i ++ [l[i]] := by rw [List.take_succ]; simp [List.getElem?_eq_getElem hi]
  have hq : l.getD i (0, 0) = l[i] := by rw [List.getD_eq_getElem?_getD, List.getElem?_eq_getElem hi]; rfl
  rw [e1, ad_nc_app, hq]
  generalize l[i] = q
  obtain ⟨m, w⟩ := q
  simp only [ad_nc]
  omega
theorem c_X8_costOf {g : ad_G} {d : Nat} {σ : ad_Mem} {A : ad_Ar} (hr : ad_ra (σ 21 0) A) (hw : ad_wA A) {v : Nat} (hv : ad_aH A v = true) (h29 : σ 29 0 v = ((ad_aL A v).length : Int)) : ad_Q g mX8_costOf d [ad_rf g 8 0, ad_iv (v : Int)] σ (fun x m => x = ad_iv (ad_cst A v) ∧ m = σ) := by
  obtain ⟨⟨r1, r1b⟩, ⟨r2, r3, r4, r5, r6⟩, r7, r8, r9, r10⟩ := hr
  obtain ⟨hvc, hl12, ht12⟩ := r1b v hv
  obtain ⟨hv1, hv2, hv3, hv4⟩ := r9 v hv
  have hwB := hw.2.2.2.2.1 v hv
  have hBr := ad_B_rng hw hv
  have hlkr := ad_lk_rng (v := ad_aB A v) (by omega)
  have hlk := ad_lk_no hBr.1
  have hl : ad_aB A v ≠ -1 → ∀ (n : Nat) (i : Nat) (c : Int), (i ≤ (ad_aT A v).length) → (c = 1 + i + ad_nc ((ad_aT A v).take i)) → ((((ad_aT A v).length - i : Nat) : Int)).toNat ≤ n → ad_R g mX8_costOf d (ad_ZQ mX8_costOf (fun x m => x = ad_iv (ad_cst A v) ∧ m = σ)) 32 [some (ad_rf g 8 0), some (ad_iv (v : Int)), some (ad_iv (50 * (v : Int))), some (ad_iv c), some (ad_iv (i : Int))] [] σ := by
    intro hb n
    induction n with
    | zero =>
      intro i c hi hc hn
      refine ad_iload dX8_costOf_32 rfl ?_
      refine ad_aload_n dX8_costOf_34 rfl ?_
      refine gf_X8_9 rfl dX8_costOf_35 ?_
      refine ad_iload_n dX8_costOf_38 rfl ?_
      refine ad_bipush dX8_costOf_39 rfl ?_
      refine ad_iadd dX8_costOf_41 ?_
      refine ad_ialj (50 * v + 18) dX8_costOf_42 (by decide) ⟨by decide, by decide⟩ (by omega) (by show _ < 520; omega) ((hv4 hb).1) ?_
      refine ad_icmp_ge 77 dX8_costOf_43 (by decide) (by omega) (by omega) (fun h43 => ?_) (fun h43 => ?_)
      · skip
        refine ad_iload_n dX8_costOf_77 rfl ?_
        exact ad_reti dX8_costOf_78 rfl (by
              rw [hc, show i = (ad_aT A v).length by omega, List.take_length]
              unfold ad_cst ad_dc
              rw [if_neg hb]
              exact ⟨rfl, rfl⟩)
      · show ad_R _ _ _ _ 46 _ _ _
        have hT := ad_sp_at (hwB.2 hb).2.2.2 (show i < (ad_aT A v).length by omega)
        have hTr := hT.2.2.2.2
        have hTb : ((ad_aT A v).getD i (0, 0)).1 ≤ 12 := by
          by_cases hz : ((ad_aT A v).getD i (0, 0)).1 = 0
          · omega
          · have := hT.2.1 hz; have := (r1b _ (hwB.2 hb).2.1).2.1; omega
        have hnt := ad_nc_take (show i < (ad_aT A v).length by omega)
        exfalso; omega
    | succ n ih =>
      intro i c hi hc hn
      refine ad_iload dX8_costOf_32 rfl ?_
      refine ad_aload_n dX8_costOf_34 rfl ?_
      refine gf_X8_9 rfl dX8_costOf_35 ?_
      refine ad_iload_n dX8_costOf_38 rfl ?_
      refine ad_bipush dX8_costOf_39 rfl ?_
      refine ad_iadd dX8_costOf_41 ?_
      refine ad_ialj (50 * v + 18) dX8_costOf_42 (by decide) ⟨by decide, by decide⟩ (by omega) (by show _ < 520; omega) ((hv4 hb).1) ?_
      refine ad_icmp_ge 77 dX8_costOf_43 (by decide) (by omega) (by omega) (fun h43 => ?_) (fun h43 => ?_)
      · skip
        refine ad_iload_n dX8_costOf_77 rfl ?_
        exact ad_reti dX8_costOf_78 rfl (by
              rw [hc, show i = (ad_aT A v).length by omega, List.take_length]
              unfold ad_cst ad_dc
              rw [if_neg hb]
              exact ⟨rfl, rfl⟩)
      · show ad_R _ _ _ _ 46 _ _ _
        have hT := ad_sp_at (hwB.2 hb).2.2.2 (show i < (ad_aT A v).length by omega)
        have hTr := hT.2.2.2.2
        have hTb : ((ad_aT A v).getD i (0, 0)).1 ≤ 12 := by
          by_cases hz : ((ad_aT A v).getD i (0, 0)).1 = 0
          · omega
          · have := hT.2.1 hz; have := (r1b _ (hwB.2 hb).2.1).2.1; omega
        have hnt := ad_nc_take (show i < (ad_aT A v).length by omega)
        refine ad_iload_n dX8_costOf_46 rfl ?_
        refine ad_aload_n dX8_costOf_47 rfl ?_
        refine gf_X8_9 rfl dX8_costOf_48 ?_
        refine ad_iload_n dX8_costOf_51 rfl ?_
        refine ad_bipush dX8_costOf_52 rfl ?_
        refine ad_iadd dX8_costOf_54 ?_
        refine ad_iconst dX8_costOf_55 ?_
        refine ad_iload dX8_costOf_56 rfl ?_
        refine ad_imul dX8_costOf_58 ?_
        refine ad_iadd dX8_costOf_59 ?_
        refine ad_ialj (50 * v + 20 + 2 * i) dX8_costOf_60 (by decide) ⟨by decide, by decide⟩ (by omega) (by show _ < 520; omega) (((hv4 hb).2 i (by omega)).1) ?_
        refine ad_if_le 68 dX8_costOf_61 (by decide) (by omega) (fun h61 => ?_) (fun h61 => ?_)
        · skip
          refine ad_iconst dX8_costOf_68 ?_
          refine ad_iadd dX8_costOf_69 ?_
          refine ad_istore_n dX8_costOf_70 (by decide) rfl (by dsimp only [ad_set]) ?_
          refine ad_iinc dX8_costOf_71 rfl (by decide) rfl (by dsimp only [ad_set]) ?_
          refine ad_goto 32 dX8_costOf_74 (by decide) ?_
          exact ih (i + 1) _ (by omega) (by rw [hnt, if_neg (by omega)]; omega) (by omega)
        · show ad_R _ _ _ _ 64 _ _ _
          refine ad_iconst dX8_costOf_64 ?_
          refine ad_goto 69 dX8_costOf_65 (by decide) ?_
          refine ad_iadd dX8_costOf_69 ?_
          refine ad_istore_n dX8_costOf_70 (by decide) rfl (by dsimp only [ad_set]) ?_
          refine ad_iinc dX8_costOf_71 rfl (by decide) rfl (by dsimp only [ad_set]) ?_
          refine ad_goto 32 dX8_costOf_74 (by decide) ?_
          exact ih (i + 1) _ (by omega) (by rw [hnt, if_pos (by omega)]; omega) (by omega)
  refine ad_M1 (k := 3) rfl (by simp [Value.category]) rfl (Nat.le_of_ble_eq_true rfl) ?_
  simp only [List.map_cons, List.map_nil, List.replicate, List.cons_append, List.nil_append]
  refine ad_bipush dX8_costOf_0 rfl ?_
  refine ad_iload_n dX8_costOf_2 rfl ?_
  refine ad_imul dX8_costOf_3 ?_
  refine ad_istore_n dX8_costOf_4 (by decide) rfl (by dsimp only [ad_set]) ?_
  refine ad_iconst dX8_costOf_5 ?_
  refine ad_aload_n dX8_costOf_6 rfl ?_
  refine gf_X8_34 rfl dX8_costOf_7 ?_
  refine ad_iload_n dX8_costOf_10 rfl ?_
  refine ad_ialj (v) dX8_costOf_11 (by decide) ⟨by decide, by decide⟩ (by omega) (by show _ < 10; omega) (h29) ?_
  refine ad_iadd dX8_costOf_12 ?_
  refine ad_istore_n dX8_costOf_13 (by decide) rfl (by dsimp only [ad_set]) ?_
  refine ad_aload_n dX8_costOf_14 rfl ?_
  refine gf_X8_9 rfl dX8_costOf_15 ?_
  refine ad_iload_n dX8_costOf_18 rfl ?_
  refine ad_iconst dX8_costOf_19 ?_
  refine ad_iadd dX8_costOf_20 ?_
  refine ad_ialj (50 * v + 4) dX8_costOf_21 (by decide) ⟨by decide, by decide⟩ (by omega) (by show _ < 520; omega) (hv2) ?_
  refine ad_bipush dX8_costOf_22 rfl ?_
  refine ad_icmp_eq 77 dX8_costOf_24 (by decide) (by omega) (by omega) (fun h24 => ?_) (fun h24 => ?_)
  · skip
    refine ad_iload_n dX8_costOf_77 rfl ?_
    exact ad_reti dX8_costOf_78 rfl (by
          unfold ad_cst
          rw [if_pos (hlk.mp h24)]
          exact ⟨rfl, rfl⟩)
  · show ad_R _ _ _ _ 27 _ _ _
    refine ad_iconst dX8_costOf_27 ?_
    refine ad_istore_n dX8_costOf_28 (by decide) rfl (by dsimp only [ad_set]) ?_
    refine ad_iconst dX8_costOf_29 ?_
    refine ad_istore dX8_costOf_30 (by decide) rfl (by dsimp only [ad_set]) ?_
    exact hl (fun q => h24 (hlk.mpr q)) _ 0 1 (by omega) (by simp [ad_nc]) (Nat.le_refl _)
theorem c_X8_depth {g : ad_G} {σ : ad_Mem} {A : ad_Ar} (hr : ad_ra (σ 21 0) A) (hw : ad_wA A) : ∀ (n v d : Nat), ad_aH A v = true → ad_dep A v ≤ n → n + 1 ≤ d → ad_Q g mX8_depth d [ad_rf g 8 0, ad_iv (v : Int)] σ (fun x m => x = ad_iv (ad_dep A v : Int) ∧ m = σ) := by
  have hr0 := hr
  intro n
  induction n with
  | zero =>
    intro v d hv hd h1d
    obtain ⟨⟨r1, r1b⟩, ⟨r2, r3, r4, r5, r6⟩, r7, r8, r9, r10⟩ := hr0
    obtain ⟨hvc, hl12, ht12⟩ := r1b v hv
    obtain ⟨hv1, hv2, hv3, hv4⟩ := r9 v hv
    have hwB := hw.2.2.2.2.1 v hv
    have hBr := ad_B_rng hw hv
    have hlkr := ad_lk_rng (v := ad_aB A v) (by omega)
    have hlk := ad_lk_no hBr.1
    have hdd := ad_dep_d hw hv
    refine ad_M1 (k := 0) rfl (by simp [Value.category]) rfl (Nat.le_of_ble_eq_true rfl) ?_
    simp only [List.map_cons, List.map_nil, List.replicate, List.cons_append, List.nil_append]
    refine ad_aload_n dX8_depth_0 rfl ?_
    refine gf_X8_9 rfl dX8_depth_1 ?_
    refine ad_bipush dX8_depth_4 rfl ?_
    refine ad_iload_n dX8_depth_6 rfl ?_
    refine ad_imul dX8_depth_7 ?_
    refine ad_iconst dX8_depth_8 ?_
    refine ad_iadd dX8_depth_9 ?_
    refine ad_ialj (50 * v + 4) dX8_depth_10 (by decide) ⟨by decide, by decide⟩ (by omega) (by show _ < 520; omega) (hv2) ?_
    refine ad_bipush dX8_depth_11 rfl ?_
    refine ad_icmp_ne 20 dX8_depth_13 (by decide) (by omega) (by omega) (fun h13 => ?_) (fun h13 => ?_)
    · skip
      exfalso; have := hdd.2.2 (fun q => h13 (hlk.mpr q)); omega
    · show ad_R _ _ _ _ 16 _ _ _
      refine ad_iconst dX8_depth_16 ?_
      refine ad_goto 37 dX8_depth_17 (by decide) ?_
      exact ad_reti dX8_depth_37 rfl (by rw [hdd.2.1 (hlk.mp (Decidable.not_not.mp h13))]; exact ⟨rfl, rfl⟩)
  | succ n ih =>
    intro v d hv hd h1d
    obtain ⟨⟨r1, r1b⟩, ⟨r2, r3, r4, r5, r6⟩, r7, r8, r9, r10⟩ := hr0
    obtain ⟨hvc, hl12, ht12⟩ := r1b v hv
    obtain ⟨hv1, hv2, hv3, hv4⟩ := r9 v hv
    have hwB := hw.2.2.2.2.1 v hv
    have hBr := ad_B_rng hw hv
    have hlkr := ad_lk_rng (v := ad_aB A v) (by omega)
    have hlk := ad_lk_no hBr.1
    have hdd := ad_dep_d hw hv
    refine ad_M1 (k := 0) rfl (by simp [Value.category]) rfl (Nat.le_of_ble_eq_true rfl) ?_
    simp only [List.map_cons, List.map_nil, List.replicate, List.cons_append, List.nil_append]
    refine ad_aload_n dX8_depth_0 rfl ?_
    refine gf_X8_9 rfl dX8_depth_1 ?_
    refine ad_bipush dX8_depth_4 rfl ?_
    refine ad_iload_n dX8_depth_6 rfl ?_
    refine ad_imul dX8_depth_7 ?_
    refine ad_iconst dX8_depth_8 ?_
    refine ad_iadd dX8_depth_9 ?_
    refine ad_ialj (50 * v + 4) dX8_depth_10 (by decide) ⟨by decide, by decide⟩ (by omega) (by show _ < 520; omega) (hv2) ?_
    refine ad_bipush dX8_depth_11 rfl ?_
    refine ad_icmp_ne 20 dX8_depth_13 (by decide) (by omega) (by omega) (fun h13 => ?_) (fun h13 => ?_)
    · skip
      have hb : ad_aB A v ≠ -1 := fun q => h13 (hlk.mpr q)
      have hb2 := (hwB.2 hb)
      obtain ⟨B, hB⟩ : ∃ B : Nat, ad_aB A v = (B : Int) := ⟨(ad_aB A v).toNat, by omega⟩
      have hd2 := hdd.2.2 hb
      rw [hB, Int.toNat_natCast] at hd2 hb2
      refine ad_iconst dX8_depth_20 ?_
      refine ad_aload_n dX8_depth_21 rfl ?_
      refine ad_aload_n dX8_depth_22 rfl ?_
      refine gf_X8_9 rfl dX8_depth_23 ?_
      refine ad_bipush dX8_depth_26 rfl ?_
      refine ad_iload_n dX8_depth_28 rfl ?_
      refine ad_imul dX8_depth_29 ?_
      refine ad_iconst dX8_depth_30 ?_
      refine ad_iadd dX8_depth_31 ?_
      refine ad_ialj (50 * v + 4) dX8_depth_32 (by decide) ⟨by decide, by decide⟩ (by omega) (by show _ < 520; omega) (hv2.trans ((ad_lk_ge hb).trans hB)) ?_
      refine ad_cv1f rfl cl_X8_89 dX8_depth_33 (ih B (d - 1) hb2.2.1 (by omega) (by omega)) (by omega) (by show _ < 1; omega) (Nat.le_of_ble_eq_true rfl) ?_
      refine ad_iadd dX8_depth_36 ?_
      exact ad_reti dX8_depth_37 rfl (by rw [hd2]; exact ⟨by rw [Int.add_comm]; rfl, rfl⟩)
    · show ad_R _ _ _ _ 16 _ _ _
      refine ad_iconst dX8_depth_16 ?_
      refine ad_goto 37 dX8_depth_17 (by decide) ?_
      exact ad_reti dX8_depth_37 rfl (by rw [hdd.2.1 (hlk.mp (Decidable.not_not.mp h13))]; exact ⟨rfl, rfl⟩)
theorem c_X8_cost {g : ad_G} {d : Nat} {σ : ad_Mem} {A : ad_Ar} (hr : ad_ra (σ 21 0) A) (hw : ad_wA A) (h12d : 12 ≤ d) : ad_Q g mX8_cost d [ad_rf g 8 0] σ (fun x m => x = ad_iv (ad_all A) ∧ ad_f8 [28, 29] [] σ m ∧ ad_rr m (ad_aH A) (ad_aL A)) := by
  refine ad_M1 (k := 2) rfl (by simp [Value.category]) rfl (Nat.le_of_ble_eq_true rfl) ?_
  simp only [List.map_cons, List.map_nil, List.replicate, List.cons_append, List.nil_append]
  refine ad_aload_n dX8_cost_0 rfl ?_
  refine ad_cv0v rfl cl_X8_84 dX8_cost_1 (c_X8_restores hr hw (by omega)) (by omega) (by show _ < 1; omega) (Nat.le_of_ble_eq_true rfl) (fun s1 q1 => ?_)
  have hr1 : ad_ra (s1 21 0) A := ad_ra_congr (fun i _ => congrFun (q1.1.1 21 0 (by decide) (by decide)) i) hr
  have hl : ∀ (n : Nat) (v : Nat) (z : Int), (v ≤ 10) → (z = ad_sm (ad_cstH A) v) → (((10 - v : Nat) : Int)).toNat ≤ n → ad_R g mX8_cost d (ad_ZQ mX8_cost (fun x m => x = ad_iv (ad_all A) ∧ ad_f8 [28, 29] [] σ m ∧ ad_rr m (ad_aH A) (ad_aL A))) 8 [some (ad_rf g 8 0), some (ad_iv z), some (ad_iv (v : Int))] [] s1 := by
    intro n
    induction n with
    | zero =>
      intro v z hv hs hn
      refine ad_iload_n dX8_cost_8 rfl ?_
      refine ad_bipush dX8_cost_9 rfl ?_
      refine ad_icmp_ge 40 dX8_cost_11 (by decide) (by omega) (by omega) (fun h11 => ?_) (fun h11 => ?_)
      · skip
        refine ad_iload_n dX8_cost_40 rfl ?_
        exact ad_reti dX8_cost_41 rfl (by rw [hs, show v = 10 by omega]; exact ⟨rfl, q1.1, q1.2⟩)
      · show ad_R _ _ _ _ 14 _ _ _
        exfalso; omega
    | succ n ih =>
      intro v z hv hs hn
      refine ad_iload_n dX8_cost_8 rfl ?_
      refine ad_bipush dX8_cost_9 rfl ?_
      refine ad_icmp_ge 40 dX8_cost_11 (by decide) (by omega) (by omega) (fun h11 => ?_) (fun h11 => ?_)
      · skip
        refine ad_iload_n dX8_cost_40 rfl ?_
        exact ad_reti dX8_cost_41 rfl (by rw [hs, show v = 10 by omega]; exact ⟨rfl, q1.1, q1.2⟩)
      · show ad_R _ _ _ _ 14 _ _ _
        refine ad_iload_n dX8_cost_14 rfl ?_
        refine ad_aload_n dX8_cost_15 rfl ?_
        refine ad_iload_n dX8_cost_16 rfl ?_
        refine ad_cv1f rfl cl_X8_59 dX8_cost_17 (c_X8_isThere hr1 (by omega) (by omega)) (by omega) (by show _ < 1; omega) (Nat.le_of_ble_eq_true rfl) ?_
        rw [Int.toNat_natCast]
        refine ad_ifp_eq 31 dX8_cost_20 (by decide) (fun h20 => ?_) (fun h20 => ?_)
        · skip
          refine ad_iconst dX8_cost_31 ?_
          refine ad_iadd dX8_cost_32 ?_
          refine ad_istore_n dX8_cost_33 (by decide) rfl (by dsimp only [ad_set]) ?_
          refine ad_iinc dX8_cost_34 rfl (by decide) rfl (by dsimp only [ad_set]) ?_
          refine ad_goto 8 dX8_cost_37 (by decide) ?_
          exact ih (v + 1) _ (by omega) (by rw [hs, ad_sm]; congr 1; unfold ad_cstH; rw [if_neg (fun q => h20 ⟨by omega, q⟩)]) (by omega)
        · show ad_R _ _ _ _ 23 _ _ _
          refine ad_aload_n dX8_cost_23 rfl ?_
          refine ad_iload_n dX8_cost_24 rfl ?_
          refine ad_cv1f rfl cl_X8_86 dX8_cost_25 (c_X8_costOf hr1 hw h20.2 (by rw [q1.2.1 v (by omega), if_pos h20.2])) (by omega) (by show _ < 1; omega) (Nat.le_of_ble_eq_true rfl) ?_
          refine ad_goto 32 dX8_cost_28 (by decide) ?_
          refine ad_iadd dX8_cost_32 ?_
          refine ad_istore_n dX8_cost_33 (by decide) rfl (by dsimp only [ad_set]) ?_
          refine ad_iinc dX8_cost_34 rfl (by decide) rfl (by dsimp only [ad_set]) ?_
          refine ad_goto 8 dX8_cost_37 (by decide) ?_
          exact ih (v + 1) _ (by omega) (by rw [hs, ad_sm]; congr 1; unfold ad_cstH; rw [if_pos h20.2]) (by omega)
  refine ad_iconst dX8_cost_4 ?_
  refine ad_istore_n dX8_cost_5 (by decide) rfl (by dsimp only [ad_set]) ?_
  refine ad_iconst dX8_cost_6 ?_
  refine ad_istore_n dX8_cost_7 (by decide) rfl (by dsimp only [ad_set]) ?_
  exact hl _ 0 0 (by omega) rfl (Nat.le_refl _)
theorem c_X8_deepest {g : ad_G} {d : Nat} {σ : ad_Mem} {A : ad_Ar} (hr : ad_ra (σ 21 0) A) (hw : ad_wA A) (h12d : 12 ≤ d) : ad_Q g mX8_deepest d [ad_rf g 8 0] σ (fun x m => x = ad_iv (ad_deep A) ∧ m = σ) := by
  have hl : ∀ (n : Nat) (v : Nat) (z : Int), (v ≤ 10) → (z = ad_mx (ad_depH A) v) → (0 ≤ z ∧ z ≤ 8) → (((10 - v : Nat) : Int)).toNat ≤ n → ad_R g mX8_deepest d (ad_ZQ mX8_deepest (fun x m => x = ad_iv (ad_deep A) ∧ m = σ)) 4 [some (ad_rf g 8 0), some (ad_iv z), some (ad_iv (v : Int))] [] σ := by
    intro n
    induction n with
    | zero =>
      intro v z hv hs hz hn
      refine ad_iload_n dX8_deepest_4 rfl ?_
      refine ad_bipush dX8_deepest_5 rfl ?_
      refine ad_icmp_ge 38 dX8_deepest_7 (by decide) (by omega) (by omega) (fun h7 => ?_) (fun h7 => ?_)
      · skip
        refine ad_iload_n dX8_deepest_38 rfl ?_
        exact ad_reti dX8_deepest_39 rfl (by rw [hs, show v = 10 by omega]; exact ⟨rfl, rfl⟩)
      · show ad_R _ _ _ _ 10 _ _ _
        have hmx := ad_mx_0 (ad_depH A) v
        exfalso; omega
    | succ n ih =>
      intro v z hv hs hz hn
      refine ad_iload_n dX8_deepest_4 rfl ?_
      refine ad_bipush dX8_deepest_5 rfl ?_
      refine ad_icmp_ge 38 dX8_deepest_7 (by decide) (by omega) (by omega) (fun h7 => ?_) (fun h7 => ?_)
      · skip
        refine ad_iload_n dX8_deepest_38 rfl ?_
        exact ad_reti dX8_deepest_39 rfl (by rw [hs, show v = 10 by omega]; exact ⟨rfl, rfl⟩)
      · show ad_R _ _ _ _ 10 _ _ _
        have hmx := ad_mx_0 (ad_depH A) v
        refine ad_aload_n dX8_deepest_10 rfl ?_
        refine ad_iload_n dX8_deepest_11 rfl ?_
        refine ad_cv1f rfl cl_X8_59 dX8_deepest_12 (c_X8_isThere hr (by omega) (by omega)) (by omega) (by show _ < 1; omega) (Nat.le_of_ble_eq_true rfl) ?_
        rw [Int.toNat_natCast]
        refine ad_ifp_eq 30 dX8_deepest_15 (by decide) (fun h15 => ?_) (fun h15 => ?_)
        · skip
          refine ad_iload_n dX8_deepest_30 rfl ?_
          refine ad_istore_n dX8_deepest_31 (by decide) rfl (by dsimp only [ad_set]) ?_
          refine ad_iinc dX8_deepest_32 rfl (by decide) rfl (by dsimp only [ad_set]) ?_
          refine ad_goto 4 dX8_deepest_35 (by decide) ?_
          exact ih (v + 1) _ (by omega) (by rw [hs, ad_mx]; unfold ad_depH at hmx ⊢; rw [if_neg (fun q => h15 ⟨by omega, q⟩), Int.max_eq_left hmx]) (by omega) (by omega)
        · show ad_R _ _ _ _ 18 _ _ _
          have hdd := (ad_dep_d hw h15.2).1
          refine ad_iload_n dX8_deepest_18 rfl ?_
          refine ad_aload_n dX8_deepest_19 rfl ?_
          refine ad_iload_n dX8_deepest_20 rfl ?_
          refine ad_cv1f rfl cl_X8_89 dX8_deepest_21 (c_X8_depth hr hw 8 v (d - 1) h15.2 (ad_dep_d hw h15.2).1 (by omega)) (by omega) (by show _ < 1; omega) (Nat.le_of_ble_eq_true rfl) ?_
          refine ad_mmax rfl lk_X8_67 dX8_deepest_24 (by omega) (by omega) (by omega) (Nat.le_of_ble_eq_true rfl) ?_
          refine ad_goto 31 dX8_deepest_27 (by decide) ?_
          refine ad_istore_n dX8_deepest_31 (by decide) rfl (by dsimp only [ad_set]) ?_
          refine ad_iinc dX8_deepest_32 rfl (by decide) rfl (by dsimp only [ad_set]) ?_
          refine ad_goto 4 dX8_deepest_35 (by decide) ?_
          exact ih (v + 1) _ (by omega) (by rw [hs, ad_mx]; unfold ad_depH at hmx ⊢; rw [if_pos h15.2]) (by omega) (by omega)
  refine ad_M1 (k := 2) rfl (by simp [Value.category]) rfl (Nat.le_of_ble_eq_true rfl) ?_
  simp only [List.map_cons, List.map_nil, List.replicate, List.cons_append, List.nil_append]
  refine ad_iconst dX8_deepest_0 ?_
  refine ad_istore_n dX8_deepest_1 (by decide) rfl (by dsimp only [ad_set]) ?_
  refine ad_iconst dX8_deepest_2 ?_
  refine ad_istore_n dX8_deepest_3 (by decide) rfl (by dsimp only [ad_set]) ?_
  exact hl _ 0 0 (by omega) rfl (by omega) (Nat.le_refl _)
theorem c_X8_wholes {g : ad_G} {d : Nat} {σ : ad_Mem} {A : ad_Ar} (hr : ad_ra (σ 21 0) A) (hw : ad_wA A) (h12d : 12 ≤ d) : ad_Q g mX8_wholes d [ad_rf g 8 0] σ (fun x m => x = ad_iv ((ad_bits (ad_whl A) : Nat) : Int) ∧ m = σ) := by
  have hl : ∀ (n : Nat) (v : Nat) (z : Int), (v ≤ 10) → (z = ((ad_bN (ad_whl A) v : Nat) : Int)) → (((10 - v : Nat) : Int)).toNat ≤ n → ad_R g mX8_wholes d (ad_ZQ mX8_wholes (fun x m => x = ad_iv ((ad_bits (ad_whl A) : Nat) : Int) ∧ m = σ)) 4 [some (ad_rf g 8 0), some (ad_iv z), some (ad_iv (v : Int))] [] σ := by
    intro n
    induction n with
    | zero =>
      intro v z hv hs hn
      refine ad_iload_n dX8_wholes_4 rfl ?_
      refine ad_bipush dX8_wholes_5 rfl ?_
      refine ad_icmp_ge 50 dX8_wholes_7 (by decide) (by omega) (by omega) (fun h7 => ?_) (fun h7 => ?_)
      · skip
        refine ad_iload_n dX8_wholes_50 rfl ?_
        exact ad_reti dX8_wholes_51 rfl (by rw [hs, show v = 10 by omega]; exact ⟨rfl, rfl⟩)
      · show ad_R _ _ _ _ 10 _ _ _
        have hb31 := ad_bN_lt31 (ad_whl A) (n := v) (by omega)
        exfalso; omega
    | succ n ih =>
      intro v z hv hs hn
      refine ad_iload_n dX8_wholes_4 rfl ?_
      refine ad_bipush dX8_wholes_5 rfl ?_
      refine ad_icmp_ge 50 dX8_wholes_7 (by decide) (by omega) (by omega) (fun h7 => ?_) (fun h7 => ?_)
      · skip
        refine ad_iload_n dX8_wholes_50 rfl ?_
        exact ad_reti dX8_wholes_51 rfl (by rw [hs, show v = 10 by omega]; exact ⟨rfl, rfl⟩)
      · show ad_R _ _ _ _ 10 _ _ _
        have hb31 := ad_bN_lt31 (ad_whl A) (n := v) (by omega)
        refine ad_iload_n dX8_wholes_10 rfl ?_
        refine ad_aload_n dX8_wholes_11 rfl ?_
        refine ad_iload_n dX8_wholes_12 rfl ?_
        refine ad_cv1f rfl cl_X8_59 dX8_wholes_13 (c_X8_isThere hr (by omega) (by omega)) (by omega) (by show _ < 1; omega) (Nat.le_of_ble_eq_true rfl) ?_
        rw [Int.toNat_natCast]
        refine ad_ifp_eq 41 dX8_wholes_16 (by decide) (fun h16 => ?_) (fun h16 => ?_)
        · skip
          refine ad_iconst dX8_wholes_41 ?_
          refine ad_ior dX8_wholes_42 ?_
          refine ad_istore_n dX8_wholes_43 (by decide) rfl (by dsimp only [ad_set]) ?_
          refine ad_iinc dX8_wholes_44 rfl (by decide) rfl (by dsimp only [ad_set]) ?_
          refine ad_goto 4 dX8_wholes_47 (by decide) ?_
          exact ih (v + 1) _ (by omega) (by rw [hs, ad_or_0 hb31, ad_bN_n (by unfold ad_whl; intro q; exact h16 ⟨by omega, (Bool.and_eq_true_iff.mp q).1⟩)]) (by omega)
        · show ad_R _ _ _ _ 19 _ _ _
          have hvv := hr.2.2.2.2.1 v h16.2
          have hBr := ad_B_rng hw h16.2
          have hlkr := ad_lk_rng (v := ad_aB A v) (by omega)
          have hlk := ad_lk_no hBr.1
          refine ad_aload_n dX8_wholes_19 rfl ?_
          refine gf_X8_9 rfl dX8_wholes_20 ?_
          refine ad_bipush dX8_wholes_23 rfl ?_
          refine ad_iload_n dX8_wholes_25 rfl ?_
          refine ad_imul dX8_wholes_26 ?_
          refine ad_iconst dX8_wholes_27 ?_
          refine ad_iadd dX8_wholes_28 ?_
          refine ad_ialj (50 * v + 4) dX8_wholes_29 (by decide) ⟨by decide, by decide⟩ (by omega) (by show _ < 520; omega) (hvv.2.1) ?_
          refine ad_bipush dX8_wholes_30 rfl ?_
          refine ad_icmp_ne 41 dX8_wholes_32 (by decide) (by omega) (by omega) (fun h32 => ?_) (fun h32 => ?_)
          · skip
            refine ad_iconst dX8_wholes_41 ?_
            refine ad_ior dX8_wholes_42 ?_
            refine ad_istore_n dX8_wholes_43 (by decide) rfl (by dsimp only [ad_set]) ?_
            refine ad_iinc dX8_wholes_44 rfl (by decide) rfl (by dsimp only [ad_set]) ?_
            refine ad_goto 4 dX8_wholes_47 (by decide) ?_
            exact ih (v + 1) _ (by omega) (by rw [hs, ad_or_0 hb31, ad_bN_n (by unfold ad_whl; intro q; exact h32 (hlk.mpr (of_decide_eq_true (Bool.and_eq_true_iff.mp q).2)))]) (by omega)
          · show ad_R _ _ _ _ 35 _ _ _
            refine ad_iconst dX8_wholes_35 ?_
            refine ad_iload_n dX8_wholes_36 rfl ?_
            refine ad_ishl dX8_wholes_37 ?_
            refine ad_goto 42 dX8_wholes_38 (by decide) ?_
            refine ad_ior dX8_wholes_42 ?_
            refine ad_istore_n dX8_wholes_43 (by decide) rfl (by dsimp only [ad_set]) ?_
            refine ad_iinc dX8_wholes_44 rfl (by decide) rfl (by dsimp only [ad_set]) ?_
            refine ad_goto 4 dX8_wholes_47 (by decide) ?_
            exact ih (v + 1) _ (by omega) (by rw [hs, ad_or_bN (by omega) (by unfold ad_whl; rw [h16.2, Bool.true_and]; exact decide_eq_true (hlk.mp (Decidable.not_not.mp h32)))]) (by omega)
  refine ad_M1 (k := 2) rfl (by simp [Value.category]) rfl (Nat.le_of_ble_eq_true rfl) ?_
  simp only [List.map_cons, List.map_nil, List.replicate, List.cons_append, List.nil_append]
  refine ad_iconst dX8_wholes_0 ?_
  refine ad_istore_n dX8_wholes_1 (by decide) rfl (by dsimp only [ad_set]) ?_
  refine ad_iconst dX8_wholes_2 ?_
  refine ad_istore_n dX8_wholes_3 (by decide) rfl (by dsimp only [ad_set]) ?_
  exact hl _ 0 0 (by omega) rfl (Nat.le_refl _)
theorem c_X8_there {g : ad_G} {d : Nat} {σ : ad_Mem} {A : ad_Ar} (hr : ad_ra (σ 21 0) A) (h12d : 2 ≤ d) : ad_Q g mX8_there d [ad_rf g 8 0] σ (fun x m => x = ad_iv ((ad_bits (ad_aH A) : Nat) : Int) ∧ m = σ) := by
  have hl : ∀ (n : Nat) (v : Nat) (z : Int), (v ≤ 10) → (z = ((ad_bN (ad_aH A) v : Nat) : Int)) → (((10 - v : Nat) : Int)).toNat ≤ n → ad_R g mX8_there d (ad_ZQ mX8_there (fun x m => x = ad_iv ((ad_bits (ad_aH A) : Nat) : Int) ∧ m = σ)) 4 [some (ad_rf g 8 0), some (ad_iv z), some (ad_iv (v : Int))] [] σ := by
    intro n
    induction n with
    | zero =>
      intro v z hv hs hn
      refine ad_iload_n dX8_there_4 rfl ?_
      refine ad_bipush dX8_there_5 rfl ?_
      refine ad_icmp_ge 34 dX8_there_7 (by decide) (by omega) (by omega) (fun h7 => ?_) (fun h7 => ?_)
      · skip
        refine ad_iload_n dX8_there_34 rfl ?_
        exact ad_reti dX8_there_35 rfl (by rw [hs, show v = 10 by omega]; exact ⟨rfl, rfl⟩)
      · show ad_R _ _ _ _ 10 _ _ _
        have hb31 := ad_bN_lt31 (ad_aH A) (n := v) (by omega)
        exfalso; omega
    | succ n ih =>
      intro v z hv hs hn
      refine ad_iload_n dX8_there_4 rfl ?_
      refine ad_bipush dX8_there_5 rfl ?_
      refine ad_icmp_ge 34 dX8_there_7 (by decide) (by omega) (by omega) (fun h7 => ?_) (fun h7 => ?_)
      · skip
        refine ad_iload_n dX8_there_34 rfl ?_
        exact ad_reti dX8_there_35 rfl (by rw [hs, show v = 10 by omega]; exact ⟨rfl, rfl⟩)
      · show ad_R _ _ _ _ 10 _ _ _
        have hb31 := ad_bN_lt31 (ad_aH A) (n := v) (by omega)
        refine ad_iload_n dX8_there_10 rfl ?_
        refine ad_aload_n dX8_there_11 rfl ?_
        refine ad_iload_n dX8_there_12 rfl ?_
        refine ad_cv1f rfl cl_X8_59 dX8_there_13 (c_X8_isThere hr (by omega) (by omega)) (by omega) (by show _ < 1; omega) (Nat.le_of_ble_eq_true rfl) ?_
        rw [Int.toNat_natCast]
        refine ad_ifp_eq 25 dX8_there_16 (by decide) (fun h16 => ?_) (fun h16 => ?_)
        · skip
          refine ad_iconst dX8_there_25 ?_
          refine ad_ior dX8_there_26 ?_
          refine ad_istore_n dX8_there_27 (by decide) rfl (by dsimp only [ad_set]) ?_
          refine ad_iinc dX8_there_28 rfl (by decide) rfl (by dsimp only [ad_set]) ?_
          refine ad_goto 4 dX8_there_31 (by decide) ?_
          exact ih (v + 1) _ (by omega) (by rw [hs, ad_or_0 hb31, ad_bN_n (fun q => h16 ⟨by omega, q⟩)]) (by omega)
        · show ad_R _ _ _ _ 19 _ _ _
          refine ad_iconst dX8_there_19 ?_
          refine ad_iload_n dX8_there_20 rfl ?_
          refine ad_ishl dX8_there_21 ?_
          refine ad_goto 26 dX8_there_22 (by decide) ?_
          refine ad_ior dX8_there_26 ?_
          refine ad_istore_n dX8_there_27 (by decide) rfl (by dsimp only [ad_set]) ?_
          refine ad_iinc dX8_there_28 rfl (by decide) rfl (by dsimp only [ad_set]) ?_
          refine ad_goto 4 dX8_there_31 (by decide) ?_
          exact ih (v + 1) _ (by omega) (by rw [hs, ad_or_bN (by omega) (h16.2)]) (by omega)
  refine ad_M1 (k := 2) rfl (by simp [Value.category]) rfl (Nat.le_of_ble_eq_true rfl) ?_
  simp only [List.map_cons, List.map_nil, List.replicate, List.cons_append, List.nil_append]
  refine ad_iconst dX8_there_0 ?_
  refine ad_istore_n dX8_there_1 (by decide) rfl (by dsimp only [ad_set]) ?_
  refine ad_iconst dX8_there_2 ?_
  refine ad_istore_n dX8_there_3 (by decide) rfl (by dsimp only [ad_set]) ?_
  exact hl _ 0 0 (by omega) rfl (Nat.le_refl _)
theorem ad_tb10 {n0 i : Nat} (h : n0 < 1024) (hi : 10 ≤ i) : n0.testBit i = false := Nat.testBit_lt_two_pow (Nat.lt_of_lt_of_le (show n0 < 2 ^ 10 from h) (Nat.pow_le_pow_right (by decide : 0 < 2) hi))
theorem ad_tb_n (a k : Nat) : ad_tb (a : Int) (k : Int) = (a.testBit k = true) := by
  show ((a : Int).toNat.testBit (k : Int).toNat = true) = _
  rw [Int.toNat_natCast, Int.toNat_natCast]
theorem ad_tb_if (a k : Nat) : (if ad_tb (a : Int) (k : Int) then (1 : Int) else 0) = ((if a.testBit k = true then 1 else 0 : Nat) : Int) := by
  by_cases h : a.testBit k = true
  · rw [if_pos (show ad_tb (a : Int) (k : Int) by rw [ad_tb_n]; exact h), if_pos h]; rfl
  · rw [if_neg (show ¬ ad_tb (a : Int) (k : Int) by rw [ad_tb_n]; exact h), if_neg h]; rfl
theorem c_X8_ones {g : ad_G} {d : Nat} {σ : ad_Mem} {n0 : Nat} (hn0 : n0 < 1024) : ad_Q g mX8_ones d [ad_iv (n0 : Int)] σ (fun x m => x = ad_iv ((ad_ones n0 : Nat) : Int) ∧ m = σ) := by
  have hl : ∀ (n : Nat) (v : Nat) (z : Int), (v ≤ 16) → (z = ((ad_pp n0.testBit v : Nat) : Int)) → (((16 - v : Nat) : Int)).toNat ≤ n → ad_R g mX8_ones d (ad_ZQ mX8_ones (fun x m => x = ad_iv ((ad_ones n0 : Nat) : Int) ∧ m = σ)) 4 [some (ad_iv (n0 : Int)), some (ad_iv z), some (ad_iv (v : Int))] [] σ := by
    intro n
    induction n with
    | zero =>
      intro v z hv hs hn
      refine ad_iload_n dX8_ones_4 rfl ?_
      refine ad_bipush dX8_ones_5 rfl ?_
      refine ad_icmp_ge 24 dX8_ones_7 (by decide) (by omega) (by omega) (fun h7 => ?_) (fun h7 => ?_)
      · skip
        refine ad_iload_n dX8_ones_24 rfl ?_
        exact ad_reti dX8_ones_25 rfl (by
              rw [hs, show v = 10 + 6 by omega, ad_pp_end (fun i hi => ad_tb10 hn0 hi) 6]
              exact ⟨rfl, rfl⟩)
      · show ad_R _ _ _ _ 10 _ _ _
        exfalso; omega
    | succ n ih =>
      intro v z hv hs hn
      refine ad_iload_n dX8_ones_4 rfl ?_
      refine ad_bipush dX8_ones_5 rfl ?_
      refine ad_icmp_ge 24 dX8_ones_7 (by decide) (by omega) (by omega) (fun h7 => ?_) (fun h7 => ?_)
      · skip
        refine ad_iload_n dX8_ones_24 rfl ?_
        exact ad_reti dX8_ones_25 rfl (by
              rw [hs, show v = 10 + 6 by omega, ad_pp_end (fun i hi => ad_tb10 hn0 hi) 6]
              exact ⟨rfl, rfl⟩)
      · show ad_R _ _ _ _ 10 _ _ _
        refine ad_iload_n dX8_ones_10 rfl ?_
        refine ad_iload_n dX8_ones_11 rfl ?_
        refine ad_iload_n dX8_ones_12 rfl ?_
        refine ad_ishr dX8_ones_13 ?_
        refine ad_iconst dX8_ones_14 ?_
        refine ad_iand dX8_ones_15 ?_
        rw [ad_bitI (by omega) (by omega)]
        refine ad_iadd dX8_ones_16 ?_
        refine ad_istore_n dX8_ones_17 (by decide) rfl (by dsimp only [ad_set]) ?_
        refine ad_iinc dX8_ones_18 rfl (by decide) rfl (by dsimp only [ad_set]) ?_
        refine ad_goto 4 dX8_ones_21 (by decide) ?_
        exact ih (v + 1) _ (by omega) (by rw [hs, ad_pp, Int.natCast_add]; congr 1; exact ad_tb_if n0 v) (by omega)
  refine ad_M1 (k := 2) rfl (by simp [Value.category]) rfl (Nat.le_of_ble_eq_true rfl) ?_
  simp only [List.map_cons, List.map_nil, List.replicate, List.cons_append, List.nil_append]
  refine ad_iconst dX8_ones_0 ?_
  refine ad_istore_n dX8_ones_1 (by decide) rfl (by dsimp only [ad_set]) ?_
  refine ad_iconst dX8_ones_2 ?_
  refine ad_istore_n dX8_ones_3 (by decide) rfl (by dsimp only [ad_set]) ?_
  exact hl _ 0 0 (by omega) rfl (Nat.le_refl _)
theorem c_X8_isSound {g : ad_G} {d : Nat} {σ : ad_Mem} {A : ad_Ar} (hr : ad_ra (σ 21 0) A) (hw : ad_wA A) {v : Nat} (hv : ad_aH A v = true) (hrr : ad_rr σ (ad_aH A) (ad_aL A)) (h1d : 1 ≤ d) : ad_Q g mX8_isSound d [ad_rf g 8 0, ad_iv (v : Int)] σ (fun x m => x = ad_pv (ad_hs (ad_aL A v) = ad_aG A v) ∧ m = σ) := by
  obtain ⟨⟨r1, r1b⟩, ⟨r2, r3, r4, r5, r6⟩, r7, r8, r9, r10⟩ := hr
  obtain ⟨hvc, hl12, ht12⟩ := r1b v hv
  obtain ⟨hv1, hv2, hv3, hv4⟩ := r9 v hv
  have hwB := hw.2.2.2.2.1 v hv
  have hBr := ad_B_rng hw hv
  have hlkr := ad_lk_rng (v := ad_aB A v) (by omega)
  have hlk := ad_lk_no hBr.1
  have hv10 : v < 10 := by omega
  have hwl := hw.2.2.1 v hv
  refine ad_M1 (k := 0) rfl (by simp [Value.category]) rfl (Nat.le_of_ble_eq_true rfl) ?_
  simp only [List.map_cons, List.map_nil, List.replicate, List.cons_append, List.nil_append]
  refine ad_aload_n dX8_isSound_0 rfl ?_
  refine ad_iload_n dX8_isSound_1 rfl ?_
  refine ad_cv1f rfl cl_X8_116 dX8_isSound_2 (c_X8_hash hv10 (by rw [hrr.1 v hv10, if_pos hv]) hl12 (hrr.2 v hv10 hv).2 (fun x hx => by have := hwl.1.2.2 x hx; omega)) (by omega) (by show _ < 1; omega) (Nat.le_of_ble_eq_true rfl) ?_
  have hhr := ad_hs_fold (ad_aL A v) (fun x hx => by have := hwl.1.2.2 x hx; omega) 7 (by omega) (by omega)
  change 0 ≤ ad_hs (ad_aL A v) ∧ ad_hs (ad_aL A v) < 9973 at hhr
  refine ad_aload_n dX8_isSound_5 rfl ?_
  refine gf_X8_9 rfl dX8_isSound_6 ?_
  refine ad_bipush dX8_isSound_9 rfl ?_
  refine ad_iload_n dX8_isSound_11 rfl ?_
  refine ad_imul dX8_isSound_12 ?_
  refine ad_iconst dX8_isSound_13 ?_
  refine ad_iadd dX8_isSound_14 ?_
  refine ad_ialj (50 * v + 1) dX8_isSound_15 (by decide) ⟨by decide, by decide⟩ (by omega) (by show _ < 520; omega) (hv1) ?_
  refine ad_icmp_ne 23 dX8_isSound_16 (by decide) (by omega) (by omega) (fun h16 => ?_) (fun h16 => ?_)
  · skip
    refine ad_iconst dX8_isSound_23 ?_
    exact ad_ret0 dX8_isSound_24 rfl (⟨ad_pv_f h16, rfl⟩)
  · show ad_R _ _ _ _ 19 _ _ _
    refine ad_iconst dX8_isSound_19 ?_
    refine ad_goto 24 dX8_isSound_20 (by decide) ?_
    exact ad_ret1 dX8_isSound_24 rfl (⟨ad_pv_t (Decidable.not_not.mp h16), rfl⟩)
