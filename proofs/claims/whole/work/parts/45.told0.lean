/-! ===== Told: signs, digits, letters ===== -/
def ad_sg (S : List Int) (i : Int) : Int := if 0 ≤ i ∧ i < S.length then S.getD i.toNat (-1) else -1
theorem ad_nw_sz {σ : ad_Mem} {j : Nat} {S : List Int} (hw : ad_nw σ j) (h : ad_nl σ j = S) : σ 2 j 1 = (S.length : Int) := by
  have := ad_nl_len σ j
  rw [h] at this
  have := hw.1
  omega
theorem ad_sg_at {σ : ad_Mem} {S : List Int} (hw : ad_nw σ 33) (h : ad_nl σ 33 = S) (i : Int) : (if 0 ≤ i ∧ i < σ 2 33 1 then σ 12 33 i.toNat else -1) = ad_sg S i := by
  have hs := ad_nw_sz hw h
  unfold ad_sg
  by_cases hi : 0 ≤ i ∧ i < (S.length : Int)
  · rw [if_pos hi, ← ad_nl_getD h hs hi]
  · rw [if_neg hi, if_neg (by omega)]
theorem ad_sg_rng {S : List Int} (h : ∀ x ∈ S, 0 ≤ x ∧ x ≤ 255) (i : Int) : -1 ≤ ad_sg S i ∧ ad_sg S i ≤ 255 := by
  unfold ad_sg
  by_cases hi : 0 ≤ i ∧ i < (S.length : Int)
  · rw [if_pos hi, List.getD_eq_getElem?_getD, List.getElem?_eq_getElem (show i.toNat < S.length by omega)]
    have := h _ (List.getElem_mem (show i.toNat < S.length by omega))
    simp only [Option.getD_some]
    omega
  · rw [if_neg hi]; omega
abbrev ad_isD (x : Int) : Prop := 48 ≤ x ∧ x ≤ 57
abbrev ad_isL (x : Int) : Prop := 97 ≤ x ∧ x ≤ 104
def ad_dg (S : List Int) (i : Int) : Int := if ad_isD (ad_sg S i) then ad_sg S i - 48 else -1
def ad_pbN (S : List Int) : Nat → Int → Int
  | 0, i => i + 1
  | n + 1, i => if i < S.length ∧ ad_sg S i ≠ 59 then ad_pbN S n (i + 1) else i + 1
def ad_pb (S : List Int) (i : Int) : Int := ad_pbN S (S.length - i).toNat i
def ad_lfN (S : List Int) (i : Int) : Nat → Int → Int
  | 0, k => k
  | n + 1, k => if ad_isL (ad_sg S (i + k)) then ad_lfN S i n (k + 1) else k
def ad_lf (S : List Int) (i : Int) : Int := ad_lfN S i 12 0
theorem c_X5_isDigit {g : ad_G} {d : Nat} {σ : ad_Mem} {x : Int} (hx : ad_rng x) : ad_Q g mX5_isDigit d [ad_iv x] σ (fun v m => v = ad_pv (ad_isD x) ∧ m = σ) := by
  refine ad_M1 (k := 0) rfl (by simp [Value.category]) rfl (Nat.le_of_ble_eq_true rfl) ?_
  simp only [List.map_cons, List.map_nil, List.replicate, List.cons_append, List.nil_append]
  refine ad_iload_n dX5_isDigit_0 rfl ?_
  refine ad_bipush dX5_isDigit_1 rfl ?_
  refine ad_icmp_lt 16 dX5_isDigit_3 (by decide) hx (by decide) (fun h3 => ?_) (fun h3 => ?_)
  · skip
    refine ad_iconst dX5_isDigit_16 ?_
    exact ad_ret0 dX5_isDigit_17 rfl (by rw [show ad_pv (ad_isD x) = ad_iv 0 from by unfold ad_pv; rw [if_neg (by omega)]]; exact ⟨rfl, rfl⟩)
  · show ad_R _ _ _ _ 6 _ _ _
    refine ad_iload_n dX5_isDigit_6 rfl ?_
    refine ad_bipush dX5_isDigit_7 rfl ?_
    refine ad_icmp_gt 16 dX5_isDigit_9 (by decide) hx (by decide) (fun h9 => ?_) (fun h9 => ?_)
    · skip
      refine ad_iconst dX5_isDigit_16 ?_
      exact ad_ret0 dX5_isDigit_17 rfl (by rw [show ad_pv (ad_isD x) = ad_iv 0 from by unfold ad_pv; rw [if_neg (by omega)]]; exact ⟨rfl, rfl⟩)
    · show ad_R _ _ _ _ 12 _ _ _
      refine ad_iconst dX5_isDigit_12 ?_
      refine ad_goto 17 dX5_isDigit_13 (by decide) ?_
      exact ad_ret1 dX5_isDigit_17 rfl (by rw [show ad_pv (ad_isD x) = ad_iv 1 from by unfold ad_pv; rw [if_pos (by omega)]]; exact ⟨rfl, rfl⟩)
theorem c_X5_isLetter {g : ad_G} {d : Nat} {σ : ad_Mem} {x : Int} (hx : ad_rng x) : ad_Q g mX5_isLetter d [ad_iv x] σ (fun v m => v = ad_pv (ad_isL x) ∧ m = σ) := by
  refine ad_M1 (k := 0) rfl (by simp [Value.category]) rfl (Nat.le_of_ble_eq_true rfl) ?_
  simp only [List.map_cons, List.map_nil, List.replicate, List.cons_append, List.nil_append]
  refine ad_iload_n dX5_isLetter_0 rfl ?_
  refine ad_bipush dX5_isLetter_1 rfl ?_
  refine ad_icmp_lt 16 dX5_isLetter_3 (by decide) hx (by decide) (fun h3 => ?_) (fun h3 => ?_)
  · skip
    refine ad_iconst dX5_isLetter_16 ?_
    exact ad_ret0 dX5_isLetter_17 rfl (by rw [show ad_pv (ad_isL x) = ad_iv 0 from by unfold ad_pv; rw [if_neg (by omega)]]; exact ⟨rfl, rfl⟩)
  · show ad_R _ _ _ _ 6 _ _ _
    refine ad_iload_n dX5_isLetter_6 rfl ?_
    refine ad_bipush dX5_isLetter_7 rfl ?_
    refine ad_icmp_gt 16 dX5_isLetter_9 (by decide) hx (by decide) (fun h9 => ?_) (fun h9 => ?_)
    · skip
      refine ad_iconst dX5_isLetter_16 ?_
      exact ad_ret0 dX5_isLetter_17 rfl (by rw [show ad_pv (ad_isL x) = ad_iv 0 from by unfold ad_pv; rw [if_neg (by omega)]]; exact ⟨rfl, rfl⟩)
    · show ad_R _ _ _ _ 12 _ _ _
      refine ad_iconst dX5_isLetter_12 ?_
      refine ad_goto 17 dX5_isLetter_13 (by decide) ?_
      exact ad_ret1 dX5_isLetter_17 rfl (by rw [show ad_pv (ad_isL x) = ad_iv 1 from by unfold ad_pv; rw [if_pos (by omega)]]; exact ⟨rfl, rfl⟩)
theorem c_X5_digitAt {g : ad_G} {d : Nat} {σ : ad_Mem} {S : List Int} (hw : ad_nw σ 33) (hS : ad_nl σ 33 = S) (hb : ∀ x ∈ S, 0 ≤ x ∧ x ≤ 255) {i : Int} (hi : ad_rng i) (h1d : 1 ≤ d) : ad_Q g mX5_digitAt d [ad_rf g 5 0, ad_iv i] σ (fun v m => v = ad_iv (ad_dg S i) ∧ m = σ) := by
  refine ad_M1 (k := 1) rfl (by simp [Value.category]) rfl (Nat.le_of_ble_eq_true rfl) ?_
  simp only [List.map_cons, List.map_nil, List.replicate, List.cons_append, List.nil_append]
  refine ad_aload_n dX5_digitAt_0 rfl ?_
  refine gf_X5_14 rfl dX5_digitAt_1 ?_
  refine ad_iload_n dX5_digitAt_4 rfl ?_
  refine ad_cv1f rfl cl_X5_34 dX5_digitAt_5 (c_X2_at (by omega) hw hi) (by omega) (by show _ < 36; omega) (Nat.le_of_ble_eq_true rfl) ?_
  rw [ad_sg_at hw hS]
  have hsr := ad_sg_rng hb
  refine ad_istore_n dX5_digitAt_8 (by decide) rfl (by dsimp only [ad_set]) ?_
  refine ad_iload_n dX5_digitAt_9 rfl ?_
  refine ad_cs1f rfl cl_X5_73 dX5_digitAt_10 (c_X5_isDigit (by have := hsr i; omega)) (by omega) (Nat.le_of_ble_eq_true rfl) ?_
  refine ad_ifp_eq 23 dX5_digitAt_13 (by decide) (fun h13 => ?_) (fun h13 => ?_)
  · skip
    refine ad_iconst dX5_digitAt_23 ?_
    exact ad_reti dX5_digitAt_24 rfl (by unfold ad_dg; rw [if_neg h13]; exact ⟨rfl, rfl⟩)
  · show ad_R _ _ _ _ 16 _ _ _
    refine ad_iload_n dX5_digitAt_16 rfl ?_
    refine ad_bipush dX5_digitAt_17 rfl ?_
    refine ad_isub dX5_digitAt_19 ?_
    refine ad_goto 24 dX5_digitAt_20 (by decide) ?_
    exact ad_reti dX5_digitAt_24 rfl (by unfold ad_dg; rw [if_pos h13]; exact ⟨rfl, rfl⟩)
theorem c_X5_placeBehind {g : ad_G} {d : Nat} {σ : ad_Mem} {S : List Int} (hw : ad_nw σ 33) (hS : ad_nl σ 33 = S) (hb : ∀ x ∈ S, 0 ≤ x ∧ x ≤ 255) {i : Int} (hi : 0 ≤ i ∧ i ≤ 1000) (h1d : 1 ≤ d) : ad_Q g mX5_placeBehind d [ad_rf g 5 0, ad_iv i] σ (fun v m => v = ad_iv (ad_pb S i) ∧ m = σ) := by
  refine ad_M1 (k := 1) rfl (by simp [Value.category]) rfl (Nat.le_of_ble_eq_true rfl) ?_
  simp only [List.map_cons, List.map_nil, List.replicate, List.cons_append, List.nil_append]
  have lp : ∀ (n : Nat) (j : Int), (0 ≤ j) → (j ≤ 1000) → (ad_pb S i = ad_pbN S (S.length - j).toNat j) → ((S.length : Int) - j).toNat ≤ n → ad_R g mX5_placeBehind d (ad_ZQ mX5_placeBehind (fun v m => v = ad_iv (ad_pb S i) ∧ m = σ)) 2 [some (ad_rf g 5 0), some (ad_iv i), some (ad_iv j)] [] σ := by
    intro n
    induction n with
    | zero =>
      intro j j0 j1 hI hn
      have hsz := ad_nw_sz hw hS
      have hl33 : (ad_len 12 33 : Int) = 96 := rfl
      have hsl := hw.2.1
      refine ad_iload_n dX5_placeBehind_2 rfl ?_
      refine ad_aload_n dX5_placeBehind_3 rfl ?_
      refine gf_X5_14 rfl dX5_placeBehind_4 ?_
      refine gf_X5_23 rfl (by omega) dX5_placeBehind_7 ?_
      refine ad_icmp_ge 32 dX5_placeBehind_10 (by decide) (by omega) (by omega) (fun h10 => ?_) (fun h10 => ?_)
      · skip
        refine ad_iload_n dX5_placeBehind_32 rfl ?_
        refine ad_iconst dX5_placeBehind_33 ?_
        refine ad_iadd dX5_placeBehind_34 ?_
        exact ad_reti dX5_placeBehind_35 rfl (by
          rw [hI]
          rw [show ((S.length : Int) - j).toNat = 0 by omega]; exact ⟨rfl, rfl⟩)
      · show ad_R _ _ _ _ 13 _ _ _
        exfalso; omega
    | succ n ih =>
      intro j j0 j1 hI hn
      have hsz := ad_nw_sz hw hS
      have hl33 : (ad_len 12 33 : Int) = 96 := rfl
      have hsl := hw.2.1
      refine ad_iload_n dX5_placeBehind_2 rfl ?_
      refine ad_aload_n dX5_placeBehind_3 rfl ?_
      refine gf_X5_14 rfl dX5_placeBehind_4 ?_
      refine gf_X5_23 rfl (by omega) dX5_placeBehind_7 ?_
      refine ad_icmp_ge 32 dX5_placeBehind_10 (by decide) (by omega) (by omega) (fun h10 => ?_) (fun h10 => ?_)
      · skip
        refine ad_iload_n dX5_placeBehind_32 rfl ?_
        refine ad_iconst dX5_placeBehind_33 ?_
        refine ad_iadd dX5_placeBehind_34 ?_
        exact ad_reti dX5_placeBehind_35 rfl (by
          rw [hI]
          rw [show ((S.length : Int) - j).toNat = 0 by omega]; exact ⟨rfl, rfl⟩)
      · show ad_R _ _ _ _ 13 _ _ _
        refine ad_aload_n dX5_placeBehind_13 rfl ?_
        refine gf_X5_14 rfl dX5_placeBehind_14 ?_
        refine ad_iload_n dX5_placeBehind_17 rfl ?_
        refine ad_cv1f rfl cl_X5_34 dX5_placeBehind_18 (c_X2_at (by omega) hw (by omega)) (by omega) (by show _ < 36; omega) (Nat.le_of_ble_eq_true rfl) ?_
        rw [ad_sg_at hw hS]
        have hsr := ad_sg_rng hb
        refine ad_bipush dX5_placeBehind_21 rfl ?_
        refine ad_icmp_eq 32 dX5_placeBehind_23 (by decide) (by have := hsr j; omega) (by decide) (fun h23 => ?_) (fun h23 => ?_)
        · skip
          refine ad_iload_n dX5_placeBehind_32 rfl ?_
          refine ad_iconst dX5_placeBehind_33 ?_
          refine ad_iadd dX5_placeBehind_34 ?_
          exact ad_reti dX5_placeBehind_35 rfl (by
            rw [hI]
            rw [show ((S.length : Int) - j).toNat = ((S.length : Int) - j).toNat - 1 + 1 by omega, ad_pbN, if_neg (by omega)]; exact ⟨rfl, rfl⟩)
        · show ad_R _ _ _ _ 26 _ _ _
          refine ad_iinc dX5_placeBehind_26 rfl (by decide) rfl (by dsimp only [ad_set]) ?_
          refine ad_goto 2 dX5_placeBehind_29 (by decide) ?_
          refine ih (j + 1) (by omega) (by omega) ?_ (by omega)
          rw [hI, show ((S.length : Int) - j).toNat = ((S.length : Int) - (j + 1)).toNat + 1 by omega, ad_pbN, if_pos ⟨by omega, by omega⟩]
  refine ad_iload_n dX5_placeBehind_0 rfl ?_
  refine ad_istore_n dX5_placeBehind_1 (by decide) rfl (by dsimp only [ad_set]) ?_
  exact lp _ i hi.1 hi.2 rfl (Nat.le_refl _)
theorem c_X5_lettersFrom {g : ad_G} {d : Nat} {σ : ad_Mem} {S : List Int} (hw : ad_nw σ 33) (hS : ad_nl σ 33 = S) (hb : ∀ x ∈ S, 0 ≤ x ∧ x ≤ 255) {i : Int} (hi : 0 ≤ i ∧ i ≤ 1000) (h1d : 1 ≤ d) : ad_Q g mX5_lettersFrom d [ad_rf g 5 0, ad_iv i] σ (fun v m => v = ad_iv (ad_lf S i) ∧ m = σ) := by
  refine ad_M1 (k := 1) rfl (by simp [Value.category]) rfl (Nat.le_of_ble_eq_true rfl) ?_
  simp only [List.map_cons, List.map_nil, List.replicate, List.cons_append, List.nil_append]
  have lp : ∀ (n : Nat) (k : Int), (0 ≤ k) → (k ≤ 12) → (ad_lf S i = ad_lfN S i (12 - k).toNat k) → (12 - k).toNat ≤ n → ad_R g mX5_lettersFrom d (ad_ZQ mX5_lettersFrom (fun v m => v = ad_iv (ad_lf S i) ∧ m = σ)) 2 [some (ad_rf g 5 0), some (ad_iv i), some (ad_iv k)] [] σ := by
    intro n
    induction n with
    | zero =>
      intro k k0 k1 hI hn
      refine ad_iload_n dX5_lettersFrom_2 rfl ?_
      refine ad_bipush dX5_lettersFrom_3 rfl ?_
      refine ad_icmp_ge 30 dX5_lettersFrom_5 (by decide) (by omega) (by omega) (fun h5 => ?_) (fun h5 => ?_)
      · skip
        refine ad_iload_n dX5_lettersFrom_30 rfl ?_
        exact ad_reti dX5_lettersFrom_31 rfl (by
          rw [hI]
          rw [show (12 - k).toNat = 0 by omega]; exact ⟨rfl, rfl⟩)
      · show ad_R _ _ _ _ 8 _ _ _
        exfalso; omega
    | succ n ih =>
      intro k k0 k1 hI hn
      refine ad_iload_n dX5_lettersFrom_2 rfl ?_
      refine ad_bipush dX5_lettersFrom_3 rfl ?_
      refine ad_icmp_ge 30 dX5_lettersFrom_5 (by decide) (by omega) (by omega) (fun h5 => ?_) (fun h5 => ?_)
      · skip
        refine ad_iload_n dX5_lettersFrom_30 rfl ?_
        exact ad_reti dX5_lettersFrom_31 rfl (by
          rw [hI]
          rw [show (12 - k).toNat = 0 by omega]; exact ⟨rfl, rfl⟩)
      · show ad_R _ _ _ _ 8 _ _ _
        refine ad_aload_n dX5_lettersFrom_8 rfl ?_
        refine gf_X5_14 rfl dX5_lettersFrom_9 ?_
        refine ad_iload_n dX5_lettersFrom_12 rfl ?_
        refine ad_iload_n dX5_lettersFrom_13 rfl ?_
        refine ad_iadd dX5_lettersFrom_14 ?_
        refine ad_cv1f rfl cl_X5_34 dX5_lettersFrom_15 (c_X2_at (by omega) hw (by omega)) (by omega) (by show _ < 36; omega) (Nat.le_of_ble_eq_true rfl) ?_
        rw [ad_sg_at hw hS]
        have hsr := ad_sg_rng hb
        refine ad_cs1f rfl cl_X5_77 dX5_lettersFrom_18 (c_X5_isLetter (by have := hsr (i + k); omega)) (by omega) (Nat.le_of_ble_eq_true rfl) ?_
        refine ad_ifp_eq 30 dX5_lettersFrom_21 (by decide) (fun h21 => ?_) (fun h21 => ?_)
        · skip
          refine ad_iload_n dX5_lettersFrom_30 rfl ?_
          exact ad_reti dX5_lettersFrom_31 rfl (by
            rw [hI]
            rw [show (12 - k).toNat = (12 - k).toNat - 1 + 1 by omega, ad_lfN, if_neg h21]; exact ⟨rfl, rfl⟩)
        · show ad_R _ _ _ _ 24 _ _ _
          refine ad_iinc dX5_lettersFrom_24 rfl (by decide) rfl (by dsimp only [ad_set]) ?_
          refine ad_goto 2 dX5_lettersFrom_27 (by decide) ?_
          refine ih (k + 1) (by omega) (by omega) ?_ (by omega)
          rw [hI, show (12 - k).toNat = (12 - (k + 1)).toNat + 1 by omega, ad_lfN, if_pos h21]
  refine ad_iconst dX5_lettersFrom_0 ?_
  refine ad_istore_n dX5_lettersFrom_1 (by decide) rfl (by dsimp only [ad_set]) ?_
  exact lp _ 0 (by omega) (by omega) rfl (Nat.le_refl _)
