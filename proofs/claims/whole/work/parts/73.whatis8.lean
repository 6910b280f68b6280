/-! ===== the reference: whatIs, draws, lots ===== -/
/-- what a row tells of the place i -/
def ad_fv8 (A : ad_Ar) (i : Nat) : Int := if i < 10 ∧ ad_aH A i = true then (if ad_aB A i = -1 then 10 else ad_aB A i) else 11
def ad_fit (A : ad_Ar) (R : List Int) (n : Nat) : Prop := ∀ i, i < n → R.getD i 0 = ad_fv8 A i
theorem c_X8_fitsRow {g : ad_G} {d : Nat} {σ : ad_Mem} {A : ad_Ar} {R : List Int} (hr : ad_ra (σ 21 0) A) (hw : ad_wA A) (hR1 : σ 8 0 14 = (R.length : Int)) (hR2 : R.length ≤ 12) (hR3 : ∀ i, i < R.length → σ 27 0 i = R.getD i 0) (hR4 : ∀ x ∈ R, 0 ≤ x ∧ x ≤ 99) (h2d : 2 ≤ d) : ad_Q g mX8_fitsRow d [ad_rf g 8 0] σ (fun x m => x = ad_pv (∀ i, i < R.length → R.getD i 0 = ad_fv8 A i) ∧ m = σ) := by
  have hl : ∀ (n : Nat) (i : Nat) (x2 : Option Value), (i ≤ R.length) → (∀ j, j < i → R.getD j 0 = ad_fv8 A j) → (((R.length - i : Nat) : Int)).toNat ≤ n → ad_R g mX8_fitsRow d (ad_ZQ mX8_fitsRow (fun x m => x = ad_pv (∀ i, i < R.length → R.getD i 0 = ad_fv8 A i) ∧ m = σ)) 2 [some (ad_rf g 8 0), some (ad_iv (i : Int)), x2] [] σ := by
    intro n
    induction n with
    | zero =>
      intro i x2 hi hp hn
      refine ad_iload_n dX8_fitsRow_2 rfl ?_
      refine ad_aload_n dX8_fitsRow_3 rfl ?_
      refine gf_X8_212 rfl dX8_fitsRow_4 ?_
      rw [hR1]
      refine ad_icmp_ge 74 dX8_fitsRow_7 (by decide) (by omega) (by omega) (fun h7 => ?_) (fun h7 => ?_)
      · skip
        refine ad_iconst dX8_fitsRow_74 ?_
        exact ad_ret1 dX8_fitsRow_75 rfl (⟨ad_pv_t (fun j hj => hp j (by omega)), rfl⟩)
      · show ad_R _ _ _ _ 10 _ _ _
        exfalso; omega
    | succ n ih =>
      intro i x2 hi hp hn
      refine ad_iload_n dX8_fitsRow_2 rfl ?_
      refine ad_aload_n dX8_fitsRow_3 rfl ?_
      refine gf_X8_212 rfl dX8_fitsRow_4 ?_
      rw [hR1]
      refine ad_icmp_ge 74 dX8_fitsRow_7 (by decide) (by omega) (by omega) (fun h7 => ?_) (fun h7 => ?_)
      · skip
        refine ad_iconst dX8_fitsRow_74 ?_
        exact ad_ret1 dX8_fitsRow_75 rfl (⟨ad_pv_t (fun j hj => hp j (by omega)), rfl⟩)
      · show ad_R _ _ _ _ 10 _ _ _
        refine ad_aload_n dX8_fitsRow_10 rfl ?_
        refine ad_iload_n dX8_fitsRow_11 rfl ?_
        refine ad_cv1f rfl cl_X8_59 dX8_fitsRow_12 (c_X8_isThere hr (by omega) (by omega)) (by omega) (by show _ < 1; omega) (Nat.le_of_ble_eq_true rfl) ?_
        refine ad_ifp_ne 23 dX8_fitsRow_15 (by decide) (fun h15 => ?_) (fun h15 => ?_)
        · skip
          have hH : ad_aH A i = true := h15.2
          have hvv := hr.2.2.2.2.1 i hH
          have hBr := ad_B_rng hw hH
          have hlkr := ad_lk_rng (v := ad_aB A i) (by omega)
          have hlkn := ad_lk_no hBr.1
          have hi10 := hr.H i hH
          have hfv0 : ad_fv8 A i = if ad_aB A i = -1 then 10 else ad_aB A i := if_pos ⟨hi10, hH⟩
          refine ad_aload_n dX8_fitsRow_23 rfl ?_
          refine gf_X8_9 rfl dX8_fitsRow_24 ?_
          refine ad_bipush dX8_fitsRow_27 rfl ?_
          refine ad_iload_n dX8_fitsRow_29 rfl ?_
          refine ad_imul dX8_fitsRow_30 ?_
          refine ad_iconst dX8_fitsRow_31 ?_
          refine ad_iadd dX8_fitsRow_32 ?_
          refine ad_ialj (50 * i + 4) dX8_fitsRow_33 (by decide) ⟨by decide, by decide⟩ (by omega) (by show _ < 520; omega) (hvv.2.1) ?_
          refine ad_bipush dX8_fitsRow_34 rfl ?_
          refine ad_icmp_ne 44 dX8_fitsRow_36 (by decide) (by omega) (by decide) (fun h36 => ?_) (fun h36 => ?_)
          · skip
            refine ad_aload_n dX8_fitsRow_44 rfl ?_
            refine gf_X8_9 rfl dX8_fitsRow_45 ?_
            refine ad_bipush dX8_fitsRow_48 rfl ?_
            refine ad_iload_n dX8_fitsRow_50 rfl ?_
            refine ad_imul dX8_fitsRow_51 ?_
            refine ad_iconst dX8_fitsRow_52 ?_
            refine ad_iadd dX8_fitsRow_53 ?_
            refine ad_ialj (50 * i + 4) dX8_fitsRow_54 (by decide) ⟨by decide, by decide⟩ (by omega) (by show _ < 520; omega) (hvv.2.1) ?_
            have hfv : ad_fv8 A i = ad_lk (ad_aB A i) := by rw [hfv0, if_neg (fun q => h36 (hlkn.mpr q)), ad_lk_ge (fun q => h36 (hlkn.mpr q))]
            rw [← hfv]
            refine ad_istore_n dX8_fitsRow_55 (by decide) rfl (by dsimp only [ad_set]) ?_
            have hfr : ad_rng (ad_fv8 A i) := by rw [hfv]; constructor <;> omega
            refine ad_aload_n dX8_fitsRow_56 rfl ?_
            refine gf_X8_28 rfl dX8_fitsRow_57 ?_
            refine ad_iload_n dX8_fitsRow_60 rfl ?_
            refine ad_ialj (i) dX8_fitsRow_61 (by decide) ⟨by decide, by decide⟩ (by omega) (by show _ < 12; omega) (hR3 i (by omega)) ?_
            refine ad_iload_n dX8_fitsRow_62 rfl ?_
            refine ad_icmp_eq 68 dX8_fitsRow_63 (by decide) (by have := ad_gD_rng hR4 i; constructor <;> omega) hfr (fun h63 => ?_) (fun h63 => ?_)
            · skip
              refine ad_iinc dX8_fitsRow_68 rfl (by decide) rfl (by dsimp only [ad_set]) ?_
              refine ad_goto 2 dX8_fitsRow_71 (by decide) ?_
              exact ih (i + 1) _ (by omega) (fun j hj => by
                by_cases hji : j = i
                · rw [hji]; exact h63
                · exact hp j (by omega)) (by omega)
            · show ad_R _ _ _ _ 66 _ _ _
              refine ad_iconst dX8_fitsRow_66 ?_
              exact ad_ret0 dX8_fitsRow_67 rfl (⟨ad_pv_f (fun q => h63 (q i (by omega))), rfl⟩)
          · show ad_R _ _ _ _ 39 _ _ _
            refine ad_bipush dX8_fitsRow_39 rfl ?_
            refine ad_goto 55 dX8_fitsRow_41 (by decide) ?_
            have hfv : ad_fv8 A i = 10 := by rw [hfv0, if_pos (hlkn.mp (Decidable.not_not.mp h36))]
            rw [← hfv]
            refine ad_istore_n dX8_fitsRow_55 (by decide) rfl (by dsimp only [ad_set]) ?_
            have hfr : ad_rng (ad_fv8 A i) := by rw [hfv]; constructor <;> omega
            refine ad_aload_n dX8_fitsRow_56 rfl ?_
            refine gf_X8_28 rfl dX8_fitsRow_57 ?_
            refine ad_iload_n dX8_fitsRow_60 rfl ?_
            refine ad_ialj (i) dX8_fitsRow_61 (by decide) ⟨by decide, by decide⟩ (by omega) (by show _ < 12; omega) (hR3 i (by omega)) ?_
            refine ad_iload_n dX8_fitsRow_62 rfl ?_
            refine ad_icmp_eq 68 dX8_fitsRow_63 (by decide) (by have := ad_gD_rng hR4 i; constructor <;> omega) hfr (fun h63 => ?_) (fun h63 => ?_)
            · skip
              refine ad_iinc dX8_fitsRow_68 rfl (by decide) rfl (by dsimp only [ad_set]) ?_
              refine ad_goto 2 dX8_fitsRow_71 (by decide) ?_
              exact ih (i + 1) _ (by omega) (fun j hj => by
                by_cases hji : j = i
                · rw [hji]; exact h63
                · exact hp j (by omega)) (by omega)
            · show ad_R _ _ _ _ 66 _ _ _
              refine ad_iconst dX8_fitsRow_66 ?_
              exact ad_ret0 dX8_fitsRow_67 rfl (⟨ad_pv_f (fun q => h63 (q i (by omega))), rfl⟩)
        · show ad_R _ _ _ _ 18 _ _ _
          refine ad_bipush dX8_fitsRow_18 rfl ?_
          refine ad_goto 55 dX8_fitsRow_20 (by decide) ?_
          have hfv : ad_fv8 A i = 11 := if_neg (fun q => h15 ⟨by omega, q.2⟩)
          rw [← hfv]
          refine ad_istore_n dX8_fitsRow_55 (by decide) rfl (by dsimp only [ad_set]) ?_
          have hfr : ad_rng (ad_fv8 A i) := by rw [hfv]; constructor <;> omega
          refine ad_aload_n dX8_fitsRow_56 rfl ?_
          refine gf_X8_28 rfl dX8_fitsRow_57 ?_
          refine ad_iload_n dX8_fitsRow_60 rfl ?_
          refine ad_ialj (i) dX8_fitsRow_61 (by decide) ⟨by decide, by decide⟩ (by omega) (by show _ < 12; omega) (hR3 i (by omega)) ?_
          refine ad_iload_n dX8_fitsRow_62 rfl ?_
          refine ad_icmp_eq 68 dX8_fitsRow_63 (by decide) (by have := ad_gD_rng hR4 i; constructor <;> omega) hfr (fun h63 => ?_) (fun h63 => ?_)
          · skip
            refine ad_iinc dX8_fitsRow_68 rfl (by decide) rfl (by dsimp only [ad_set]) ?_
            refine ad_goto 2 dX8_fitsRow_71 (by decide) ?_
            exact ih (i + 1) _ (by omega) (fun j hj => by
              by_cases hji : j = i
              · rw [hji]; exact h63
              · exact hp j (by omega)) (by omega)
          · show ad_R _ _ _ _ 66 _ _ _
            refine ad_iconst dX8_fitsRow_66 ?_
            exact ad_ret0 dX8_fitsRow_67 rfl (⟨ad_pv_f (fun q => h63 (q i (by omega))), rfl⟩)
  refine ad_M1 (k := 2) rfl (by simp [Value.category]) rfl (Nat.le_of_ble_eq_true rfl) ?_
  simp only [List.map_cons, List.map_nil, List.replicate, List.cons_append, List.nil_append]
  refine ad_iconst dX8_fitsRow_0 ?_
  refine ad_istore_n dX8_fitsRow_1 (by decide) rfl (by dsimp only [ad_set]) ?_
  exact hl _ 0 _ (by omega) (fun j hj => by omega) (Nat.le_refl _)
def ad_hf (A : ad_Ar) (w k : Int) : ad_Ar := if w = 0 then ad_hd A (ad_aE A) k (ad_aF A) (ad_aN A) else ad_hd A (ad_aE A) (ad_aK A) k (ad_aN A)
theorem ad_hf_wA {A : ad_Ar} (hw : ad_wA A) {w k : Int} (h : 0 ≤ k ∧ (w = 0 → k ≤ 5) ∧ (w ≠ 0 → k ≤ 9)) : ad_wA (ad_hf A w k) := by
  have w8 := hw.2.2.2.2.2.2.2.1
  unfold ad_hf
  by_cases hz : w = 0
  · have := h.2.1 hz
    rw [if_pos hz]; exact ad_wA_hd hw hw.2.2.2.2.2.2.1 hw.2.2.2.2.2.2.2.2.2.2.2 ⟨by omega, w8.2.1, w8.2.2⟩
  · have := h.2.2 hz
    rw [if_neg hz]; exact ad_wA_hd hw hw.2.2.2.2.2.2.1 hw.2.2.2.2.2.2.2.2.2.2.2 ⟨w8.1, by omega, w8.2.2⟩
theorem ad_fv_hd {A : ad_Ar} (hw : ad_wA A) {E : Nat → Int} {K F N : Int} (hF : 0 ≤ F) (hN : 0 ≤ N ∧ N ≤ 8) (i : Nat) : ad_fv8 (ad_rp (ad_hd A E K F N)) i = if i < 10 then (ad_pln A K F N).1 i else 11 := by
  rw [ad_rp_hd]
  unfold ad_fv8
  show (if i < 10 ∧ ad_aH A i = true then (if ad_rbB A (ad_pln A K F N).1 i = -1 then 10 else ad_rbB A (ad_pln A K F N).1 i) else 11) = _
  by_cases hi : i < 10
  · rw [if_pos hi]
    by_cases hH : ad_aH A i = true
    · have hf := ad_pln_facts hw (k := K) hF hN hH
      rw [if_pos ⟨hi, hH⟩]
      by_cases hb : (ad_pln A K F N).1 i < 10
      · have e : ad_rbB A (ad_pln A K F N).1 i = (ad_pln A K F N).1 i := if_pos ⟨hH, hb⟩
        rw [e, if_neg (by omega)]
      · have e : ad_rbB A (ad_pln A K F N).1 i = -1 := if_neg (fun q => hb q.2)
        rw [e, if_pos rfl]; omega
    · rw [if_neg (fun q => hH q.2), ad_pln_out hH]
  · rw [if_neg (fun q => hi q.1), if_neg hi]
theorem ad_hf_fit {A : ad_Ar} (hw : ad_wA A) (R : List Int) {w : Int} {k : Nat} (h : (w = 0 → k ≤ 5) ∧ (w ≠ 0 → k ≤ 9)) : (∀ i, i < R.length → R.getD i 0 = ad_fv8 (ad_rp (ad_hf A w (k : Int))) i) ↔ ad_wi A R w k = true := by
  have w8 := hw.2.2.2.2.2.2.2.1
  unfold ad_wi ad_hf ad_tld
  by_cases hz : w = 0
  · rw [if_pos hz, if_pos hz, decide_eq_true_eq]
    exact ⟨fun q i hi => by rw [q i hi, ad_fv_hd hw w8.2.1.1 w8.2.2], fun q i hi => by rw [q i hi, ad_fv_hd hw w8.2.1.1 w8.2.2]⟩
  · rw [if_neg hz, if_neg hz, decide_eq_true_eq]
    exact ⟨fun q i hi => by rw [q i hi, ad_fv_hd hw (by omega) w8.2.2], fun q i hi => by rw [q i hi, ad_fv_hd hw (by omega) w8.2.2]⟩
theorem c_X8_whatIs {g : ad_G} {d : Nat} {σ : ad_Mem} {C : ad_C7} {w : Int} (hww : ad_rng w) (hC : ad_c8 σ C) (h16d : 16 ≤ d) : ad_Q g mX8_whatIs d [ad_rf g 8 0, ad_iv w] σ (fun x m => ad_an8 σ x m (ad_m_whatIs C w)) := by
  have hC0 := hC
  obtain ⟨a1, a2, a3, a4, a5, a6⟩ := hC0
  have hr := a1.1
  have hw := a1.2
  refine ad_M1 (k := 2) rfl (by simp [Value.category]) rfl (Nat.le_of_ble_eq_true rfl) ?_
  simp only [List.map_cons, List.map_nil, List.replicate, List.cons_append, List.nil_append]
  refine ad_iload_n dX8_whatIs_0 rfl ?_
  refine ad_iconst dX8_whatIs_1 ?_
  refine ad_iconst dX8_whatIs_2 ?_
  refine ad_cs3f rfl cl_X8_55 dX8_whatIs_3 (c_X8_isIn (by omega) (by omega) (by omega)) (by omega) (Nat.le_of_ble_eq_true rfl) ?_
  refine ad_ifp_ne 16 dX8_whatIs_6 (by decide) (fun h6 => ?_) (fun h6 => ?_)
  · skip
    refine ad_aload_n dX8_whatIs_16 rfl ?_
    refine gf_X8_9 rfl dX8_whatIs_17 ?_
    refine ad_aload_n dX8_whatIs_20 rfl ?_
    refine gf_X8_16 rfl dX8_whatIs_21 ?_
    refine ad_cs2v rfl cl_X8_176 dX8_whatIs_24 (c_X8_copies (k1 := 21) (k2 := 23) (by decide) (by decide) (by decide)) (by omega) (Nat.le_of_ble_eq_true rfl) (fun s24 q24 => ?_)
    obtain ⟨e24, f24⟩ := q24
    have hw01 : 0 ≤ w ∧ w ≤ 1 := h6
    have hl : ∀ (n : Nat) (k : Nat) (z : Int) (m : ad_Mem), (k ≤ (if w = 0 then 6 else 10)) → (ad_f8 [21, 23, 28, 29, 30, 31, 32, 33] [18, 19] σ m ∧ (∀ c, c < 520 → m 21 0 c = σ 21 0 c) ∧ ∀ c, c < 520 → m 23 0 c = σ 21 0 c) → (z = ((ad_bN (ad_wi (ad_cA C) (ad_cR C) w) k : Nat) : Int)) → (((10 - k : Nat) : Int)).toNat ≤ n → ad_R g mX8_whatIs d (ad_ZQ mX8_whatIs (fun x m => ad_an8 σ x m (ad_m_whatIs C w))) 31 [some (ad_rf g 8 0), some (ad_iv w), some (ad_iv z), some (ad_iv (k : Int))] [] m := by
      intro n
      induction n with
      | zero =>
        intro k z m hk hf hz hn
        obtain ⟨hf, hf2, hf3⟩ := hf
        have hk9 : k ≤ 10 := by split at hk <;> omega
        have hrm : ad_ra (m 21 0) (ad_cA C) := ad_ra_congr hf2 hr
        refine ad_iload_n dX8_whatIs_31 rfl ?_
        refine ad_iload_n dX8_whatIs_32 rfl ?_
        refine ad_if_ne 40 dX8_whatIs_33 (by decide) (by omega) (fun h33 => ?_) (fun h33 => ?_)
        · skip
          refine ad_bipush dX8_whatIs_40 rfl ?_
          refine ad_icmp_gt 103 dX8_whatIs_42 (by decide) (by omega) (by omega) (fun h42 => ?_) (fun h42 => ?_)
          · skip
            refine ad_iload_n dX8_whatIs_103 rfl ?_
            exact ad_reti dX8_whatIs_104 rfl (by
                  have hk9 : k = (if w = 0 then 6 else 10) := by split at hk <;> split <;> omega
                  have e : ad_m_whatIs C w = (((ad_bN (ad_wi (ad_cA C) (ad_cR C) w) (if w = 0 then 6 else 10) : Nat) : Int), C) := by
                    unfold ad_m_whatIs
                    rw [if_neg (by omega)]
                  rw [e, ← hk9, hz]
                  exact ⟨rfl, ad_c8_now hC (hf.mono (by decide) (by decide)) hrm hw, (hf.mono (by decide) (by decide))⟩)
          · show ad_R _ _ _ _ 45 _ _ _
            exfalso; omega
        · show ad_R _ _ _ _ 36 _ _ _
          refine ad_iconst dX8_whatIs_36 ?_
          refine ad_goto 42 dX8_whatIs_37 (by decide) ?_
          refine ad_icmp_gt 103 dX8_whatIs_42 (by decide) (by omega) (by omega) (fun h42 => ?_) (fun h42 => ?_)
          · skip
            refine ad_iload_n dX8_whatIs_103 rfl ?_
            exact ad_reti dX8_whatIs_104 rfl (by
                  have hk9 : k = (if w = 0 then 6 else 10) := by split at hk <;> split <;> omega
                  have e : ad_m_whatIs C w = (((ad_bN (ad_wi (ad_cA C) (ad_cR C) w) (if w = 0 then 6 else 10) : Nat) : Int), C) := by
                    unfold ad_m_whatIs
                    rw [if_neg (by omega)]
                  rw [e, ← hk9, hz]
                  exact ⟨rfl, ad_c8_now hC (hf.mono (by decide) (by decide)) hrm hw, (hf.mono (by decide) (by decide))⟩)
          · show ad_R _ _ _ _ 45 _ _ _
            exfalso; omega
      | succ n ih =>
        intro k z m hk hf hz hn
        obtain ⟨hf, hf2, hf3⟩ := hf
        have hk9 : k ≤ 10 := by split at hk <;> omega
        have hrm : ad_ra (m 21 0) (ad_cA C) := ad_ra_congr hf2 hr
        refine ad_iload_n dX8_whatIs_31 rfl ?_
        refine ad_iload_n dX8_whatIs_32 rfl ?_
        refine ad_if_ne 40 dX8_whatIs_33 (by decide) (by omega) (fun h33 => ?_) (fun h33 => ?_)
        · skip
          refine ad_bipush dX8_whatIs_40 rfl ?_
          refine ad_icmp_gt 103 dX8_whatIs_42 (by decide) (by omega) (by omega) (fun h42 => ?_) (fun h42 => ?_)
          · skip
            refine ad_iload_n dX8_whatIs_103 rfl ?_
            exact ad_reti dX8_whatIs_104 rfl (by
                  have hk9 : k = (if w = 0 then 6 else 10) := by split at hk <;> split <;> omega
                  have e : ad_m_whatIs C w = (((ad_bN (ad_wi (ad_cA C) (ad_cR C) w) (if w = 0 then 6 else 10) : Nat) : Int), C) := by
                    unfold ad_m_whatIs
                    rw [if_neg (by omega)]
                  rw [e, ← hk9, hz]
                  exact ⟨rfl, ad_c8_now hC (hf.mono (by decide) (by decide)) hrm hw, (hf.mono (by decide) (by decide))⟩)
          · show ad_R _ _ _ _ 45 _ _ _
            refine ad_aload_n dX8_whatIs_45 rfl ?_
            refine gf_X8_9 rfl dX8_whatIs_46 ?_
            refine ad_iload_n dX8_whatIs_49 rfl ?_
            refine ad_if_ne 59 dX8_whatIs_50 (by decide) (by omega) (fun h50 => ?_) (fun h50 => ?_)
            · skip
              refine ad_sipush dX8_whatIs_59 rfl ?_
              refine ad_iload_n dX8_whatIs_62 rfl ?_
              refine ad_iasj (506) dX8_whatIs_63 (by decide) ⟨by decide, by decide⟩ (by omega) (by show _ < 520; omega) ?_
              have hwk : ad_wA (ad_hf (ad_cA C) w k) := ad_hf_wA hw (by omega)
              have hrk : ad_ra ((ad_st m 21 0 506 (k : Int)) 21 0) (ad_hf (ad_cA C) w k) := by
                rw [ad_st_r1]
                have hz9 := ad_ra_w hrm (j := 506) (x := (k : Int)) (by decide) (by constructor <;> omega)
                unfold ad_hf
                rw [if_neg (by omega)]; exact hz9
              refine ad_aload_n dX8_whatIs_64 rfl ?_
              refine ad_cv0q rfl cl_X8_133 dX8_whatIs_65 (c_X8_repacks hrk hwk (by omega)) (by omega) (by show _ < 1; omega) (Nat.le_of_ble_eq_true rfl) (fun x65 s65 q65 => ?_)
              obtain ⟨rfl, b1, b2, b3⟩ := q65
              have hR14 : s65 8 0 14 = ((ad_cR C).length : Int) := by rw [b3.2 0 14 (by decide), ad_st_ne _ _ (by decide), hf.2 0 14 (by decide)]; exact a5.1
              have hR27 : ∀ c, c < (ad_cR C).length → s65 27 0 c = (ad_cR C).getD c 0 := fun c hc => by rw [b3.1 27 0 (by decide) (by decide), ad_st_ne _ _ (by decide), hf.1 27 0 (by decide) (by decide)]; exact a5.2.2.1 c hc
              have hfit := ad_hf_fit hw (ad_cR C) (w := w) (k := k) (by omega)
              have hb31 := ad_bN_lt31 (ad_wi (ad_cA C) (ad_cR C) w) (n := k) (by omega)
              refine ad_pop dX8_whatIs_68 rfl ?_
              refine ad_iload_n dX8_whatIs_69 rfl ?_
              refine ad_aload_n dX8_whatIs_70 rfl ?_
              refine ad_cv0f rfl cl_X8_215 dX8_whatIs_71 (c_X8_fitsRow b1 (ad_wA_rp hwk) hR14 a5.2.1 hR27 a5.2.2.2 (by omega)) (by omega) (by show _ < 1; omega) (Nat.le_of_ble_eq_true rfl) ?_
              refine ad_ifp_eq 83 dX8_whatIs_74 (by decide) (fun h74 => ?_) (fun h74 => ?_)
              · skip
                refine ad_iconst dX8_whatIs_83 ?_
                refine ad_ior dX8_whatIs_84 ?_
                refine ad_istore_n dX8_whatIs_85 (by decide) rfl (by dsimp only [ad_set]) ?_
                refine ad_aload_n dX8_whatIs_86 rfl ?_
                refine gf_X8_16 rfl dX8_whatIs_87 ?_
                refine ad_aload_n dX8_whatIs_90 rfl ?_
                refine gf_X8_9 rfl dX8_whatIs_91 ?_
                refine ad_cs2v rfl cl_X8_176 dX8_whatIs_94 (c_X8_copies (k1 := 23) (k2 := 21) (by decide) (by decide) (by decide)) (by omega) (Nat.le_of_ble_eq_true rfl) (fun s94 q94 => ?_)
                obtain ⟨e94, f94⟩ := q94
                have h23 : ∀ c, c < 520 → s65 23 0 c = σ 21 0 c := fun c hc => by rw [b3.1 23 0 (by decide) (by decide), ad_st_ne _ _ (by decide)]; exact hf3 c hc
                have hf94 : ad_f8 [21, 23, 28, 29, 30, 31, 32, 33] [18, 19] σ s94 := hf.trans ((ad_f8.st (by decide) (by decide)).trans ((b3.mono (by decide) (by decide)).trans (f94.mono (by decide) (by decide))))
                have hinv : ad_f8 [21, 23, 28, 29, 30, 31, 32, 33] [18, 19] σ s94 ∧ (∀ c, c < 520 → s94 21 0 c = σ 21 0 c) ∧ ∀ c, c < 520 → s94 23 0 c = σ 21 0 c := ⟨hf94, fun c hc => by rw [e94, if_pos hc]; exact h23 c hc, fun c hc => by rw [f94.1 23 0 (by decide) (by decide)]; exact h23 c hc⟩
                refine ad_iinc dX8_whatIs_97 rfl (by decide) rfl (by dsimp only [ad_set]) ?_
                refine ad_goto 31 dX8_whatIs_100 (by decide) ?_
                exact ih (k + 1) _ _ (by split <;> omega) hinv (by rw [hz, ad_or_0 hb31, ad_bN_n (fun q => h74 (hfit.mpr q))]) (by omega)
              · show ad_R _ _ _ _ 77 _ _ _
                refine ad_iconst dX8_whatIs_77 ?_
                refine ad_iload_n dX8_whatIs_78 rfl ?_
                refine ad_ishl dX8_whatIs_79 ?_
                refine ad_goto 84 dX8_whatIs_80 (by decide) ?_
                refine ad_ior dX8_whatIs_84 ?_
                refine ad_istore_n dX8_whatIs_85 (by decide) rfl (by dsimp only [ad_set]) ?_
                refine ad_aload_n dX8_whatIs_86 rfl ?_
                refine gf_X8_16 rfl dX8_whatIs_87 ?_
                refine ad_aload_n dX8_whatIs_90 rfl ?_
                refine gf_X8_9 rfl dX8_whatIs_91 ?_
                refine ad_cs2v rfl cl_X8_176 dX8_whatIs_94 (c_X8_copies (k1 := 23) (k2 := 21) (by decide) (by decide) (by decide)) (by omega) (Nat.le_of_ble_eq_true rfl) (fun s94 q94 => ?_)
                obtain ⟨e94, f94⟩ := q94
                have h23 : ∀ c, c < 520 → s65 23 0 c = σ 21 0 c := fun c hc => by rw [b3.1 23 0 (by decide) (by decide), ad_st_ne _ _ (by decide)]; exact hf3 c hc
                have hf94 : ad_f8 [21, 23, 28, 29, 30, 31, 32, 33] [18, 19] σ s94 := hf.trans ((ad_f8.st (by decide) (by decide)).trans ((b3.mono (by decide) (by decide)).trans (f94.mono (by decide) (by decide))))
                have hinv : ad_f8 [21, 23, 28, 29, 30, 31, 32, 33] [18, 19] σ s94 ∧ (∀ c, c < 520 → s94 21 0 c = σ 21 0 c) ∧ ∀ c, c < 520 → s94 23 0 c = σ 21 0 c := ⟨hf94, fun c hc => by rw [e94, if_pos hc]; exact h23 c hc, fun c hc => by rw [f94.1 23 0 (by decide) (by decide)]; exact h23 c hc⟩
                refine ad_iinc dX8_whatIs_97 rfl (by decide) rfl (by dsimp only [ad_set]) ?_
                refine ad_goto 31 dX8_whatIs_100 (by decide) ?_
                exact ih (k + 1) _ _ (by split <;> omega) hinv (by rw [hz, ad_or_bN (by omega) (hfit.mp h74)]) (by omega)
            · exfalso; omega
        · show ad_R _ _ _ _ 36 _ _ _
          refine ad_iconst dX8_whatIs_36 ?_
          refine ad_goto 42 dX8_whatIs_37 (by decide) ?_
          refine ad_icmp_gt 103 dX8_whatIs_42 (by decide) (by omega) (by omega) (fun h42 => ?_) (fun h42 => ?_)
          · skip
            refine ad_iload_n dX8_whatIs_103 rfl ?_
            exact ad_reti dX8_whatIs_104 rfl (by
                  have hk9 : k = (if w = 0 then 6 else 10) := by split at hk <;> split <;> omega
                  have e : ad_m_whatIs C w = (((ad_bN (ad_wi (ad_cA C) (ad_cR C) w) (if w = 0 then 6 else 10) : Nat) : Int), C) := by
                    unfold ad_m_whatIs
                    rw [if_neg (by omega)]
                  rw [e, ← hk9, hz]
                  exact ⟨rfl, ad_c8_now hC (hf.mono (by decide) (by decide)) hrm hw, (hf.mono (by decide) (by decide))⟩)
          · show ad_R _ _ _ _ 45 _ _ _
            refine ad_aload_n dX8_whatIs_45 rfl ?_
            refine gf_X8_9 rfl dX8_whatIs_46 ?_
            refine ad_iload_n dX8_whatIs_49 rfl ?_
            refine ad_if_ne 59 dX8_whatIs_50 (by decide) (by omega) (fun h50 => ?_) (fun h50 => ?_)
            · exfalso; omega
            · show ad_R _ _ _ _ 53 _ _ _
              refine ad_sipush dX8_whatIs_53 rfl ?_
              refine ad_goto 62 dX8_whatIs_56 (by decide) ?_
              refine ad_iload_n dX8_whatIs_62 rfl ?_
              refine ad_iasj (505) dX8_whatIs_63 (by decide) ⟨by decide, by decide⟩ (by omega) (by show _ < 520; omega) ?_
              have hwk : ad_wA (ad_hf (ad_cA C) w k) := ad_hf_wA hw (by omega)
              have hrk : ad_ra ((ad_st m 21 0 505 (k : Int)) 21 0) (ad_hf (ad_cA C) w k) := by
                rw [ad_st_r1]
                have hz9 := ad_ra_w hrm (j := 505) (x := (k : Int)) (by decide) (by constructor <;> omega)
                unfold ad_hf
                rw [if_pos (by omega)]; exact hz9
              refine ad_aload_n dX8_whatIs_64 rfl ?_
              refine ad_cv0q rfl cl_X8_133 dX8_whatIs_65 (c_X8_repacks hrk hwk (by omega)) (by omega) (by show _ < 1; omega) (Nat.le_of_ble_eq_true rfl) (fun x65 s65 q65 => ?_)
              obtain ⟨rfl, b1, b2, b3⟩ := q65
              have hR14 : s65 8 0 14 = ((ad_cR C).length : Int) := by rw [b3.2 0 14 (by decide), ad_st_ne _ _ (by decide), hf.2 0 14 (by decide)]; exact a5.1
              have hR27 : ∀ c, c < (ad_cR C).length → s65 27 0 c = (ad_cR C).getD c 0 := fun c hc => by rw [b3.1 27 0 (by decide) (by decide), ad_st_ne _ _ (by decide), hf.1 27 0 (by decide) (by decide)]; exact a5.2.2.1 c hc
              have hfit := ad_hf_fit hw (ad_cR C) (w := w) (k := k) (by omega)
              have hb31 := ad_bN_lt31 (ad_wi (ad_cA C) (ad_cR C) w) (n := k) (by omega)
              refine ad_pop dX8_whatIs_68 rfl ?_
              refine ad_iload_n dX8_whatIs_69 rfl ?_
              refine ad_aload_n dX8_whatIs_70 rfl ?_
              refine ad_cv0f rfl cl_X8_215 dX8_whatIs_71 (c_X8_fitsRow b1 (ad_wA_rp hwk) hR14 a5.2.1 hR27 a5.2.2.2 (by omega)) (by omega) (by show _ < 1; omega) (Nat.le_of_ble_eq_true rfl) ?_
              refine ad_ifp_eq 83 dX8_whatIs_74 (by decide) (fun h74 => ?_) (fun h74 => ?_)
              · skip
                refine ad_iconst dX8_whatIs_83 ?_
                refine ad_ior dX8_whatIs_84 ?_
                refine ad_istore_n dX8_whatIs_85 (by decide) rfl (by dsimp only [ad_set]) ?_
                refine ad_aload_n dX8_whatIs_86 rfl ?_
                refine gf_X8_16 rfl dX8_whatIs_87 ?_
                refine ad_aload_n dX8_whatIs_90 rfl ?_
                refine gf_X8_9 rfl dX8_whatIs_91 ?_
                refine ad_cs2v rfl cl_X8_176 dX8_whatIs_94 (c_X8_copies (k1 := 23) (k2 := 21) (by decide) (by decide) (by decide)) (by omega) (Nat.le_of_ble_eq_true rfl) (fun s94 q94 => ?_)
                obtain ⟨e94, f94⟩ := q94
                have h23 : ∀ c, c < 520 → s65 23 0 c = σ 21 0 c := fun c hc => by rw [b3.1 23 0 (by decide) (by decide), ad_st_ne _ _ (by decide)]; exact hf3 c hc
                have hf94 : ad_f8 [21, 23, 28, 29, 30, 31, 32, 33] [18, 19] σ s94 := hf.trans ((ad_f8.st (by decide) (by decide)).trans ((b3.mono (by decide) (by decide)).trans (f94.mono (by decide) (by decide))))
                have hinv : ad_f8 [21, 23, 28, 29, 30, 31, 32, 33] [18, 19] σ s94 ∧ (∀ c, c < 520 → s94 21 0 c = σ 21 0 c) ∧ ∀ c, c < 520 → s94 23 0 c = σ 21 0 c := ⟨hf94, fun c hc => by rw [e94, if_pos hc]; exact h23 c hc, fun c hc => by rw [f94.1 23 0 (by decide) (by decide)]; exact h23 c hc⟩
                refine ad_iinc dX8_whatIs_97 rfl (by decide) rfl (by dsimp only [ad_set]) ?_
                refine ad_goto 31 dX8_whatIs_100 (by decide) ?_
                exact ih (k + 1) _ _ (by split <;> omega) hinv (by rw [hz, ad_or_0 hb31, ad_bN_n (fun q => h74 (hfit.mpr q))]) (by omega)
              · show ad_R _ _ _ _ 77 _ _ _
                refine ad_iconst dX8_whatIs_77 ?_
                refine ad_iload_n dX8_whatIs_78 rfl ?_
                refine ad_ishl dX8_whatIs_79 ?_
                refine ad_goto 84 dX8_whatIs_80 (by decide) ?_
                refine ad_ior dX8_whatIs_84 ?_
                refine ad_istore_n dX8_whatIs_85 (by decide) rfl (by dsimp only [ad_set]) ?_
                refine ad_aload_n dX8_whatIs_86 rfl ?_
                refine gf_X8_16 rfl dX8_whatIs_87 ?_
                refine ad_aload_n dX8_whatIs_90 rfl ?_
                refine gf_X8_9 rfl dX8_whatIs_91 ?_
                refine ad_cs2v rfl cl_X8_176 dX8_whatIs_94 (c_X8_copies (k1 := 23) (k2 := 21) (by decide) (by decide) (by decide)) (by omega) (Nat.le_of_ble_eq_true rfl) (fun s94 q94 => ?_)
                obtain ⟨e94, f94⟩ := q94
                have h23 : ∀ c, c < 520 → s65 23 0 c = σ 21 0 c := fun c hc => by rw [b3.1 23 0 (by decide) (by decide), ad_st_ne _ _ (by decide)]; exact hf3 c hc
                have hf94 : ad_f8 [21, 23, 28, 29, 30, 31, 32, 33] [18, 19] σ s94 := hf.trans ((ad_f8.st (by decide) (by decide)).trans ((b3.mono (by decide) (by decide)).trans (f94.mono (by decide) (by decide))))
                have hinv : ad_f8 [21, 23, 28, 29, 30, 31, 32, 33] [18, 19] σ s94 ∧ (∀ c, c < 520 → s94 21 0 c = σ 21 0 c) ∧ ∀ c, c < 520 → s94 23 0 c = σ 21 0 c := ⟨hf94, fun c hc => by rw [e94, if_pos hc]; exact h23 c hc, fun c hc => by rw [f94.1 23 0 (by decide) (by decide)]; exact h23 c hc⟩
                refine ad_iinc dX8_whatIs_97 rfl (by decide) rfl (by dsimp only [ad_set]) ?_
                refine ad_goto 31 dX8_whatIs_100 (by decide) ?_
                exact ih (k + 1) _ _ (by split <;> omega) hinv (by rw [hz, ad_or_bN (by omega) (hfit.mp h74)]) (by omega)
    refine ad_iconst dX8_whatIs_27 ?_
    refine ad_istore_n dX8_whatIs_28 (by decide) rfl (by dsimp only [ad_set]) ?_
    refine ad_iconst dX8_whatIs_29 ?_
    refine ad_istore_n dX8_whatIs_30 (by decide) rfl (by dsimp only [ad_set]) ?_
    exact hl _ 0 0 _ (by split <;> omega) ⟨f24.mono (by decide) (by decide), fun c hc => congrFun (f24.1 21 0 (by decide) (by decide)) c, fun c hc => by rw [e24, if_pos hc]⟩ rfl (Nat.le_refl _)
  · show ad_R _ _ _ _ 9 _ _ _
    refine ad_aload_n dX8_whatIs_9 rfl ?_
    refine ad_bipush dX8_whatIs_10 rfl ?_
    refine ad_cv1q rfl cl_X8_51 dX8_whatIs_12 (c_X8_noC hC (by decide)) (by omega) (by show _ < 1; omega) (Nat.le_of_ble_eq_true rfl) (fun x12 s12 q12 => ?_)
    obtain ⟨rfl, c12, f12⟩ := q12
    exact ad_reti dX8_whatIs_15 rfl (by
      have e : ad_m_whatIs C w = ad_no C 2 := by
        unfold ad_m_whatIs
        (repeat' split) <;> first | with_reducible rfl | contradiction | (exfalso; omega) | rfl | (exfalso; simp_all; omega) | (simp_all; done)
      rw [e]
      exact ⟨rfl, c12, (f12.mono (by decide) (by decide))⟩)
theorem c_X8_draw {g : ad_G} {d : Nat} {σ : ad_Mem} {z m0 : Int} (hz : σ 8 0 17 = z) (hm : 1 ≤ m0 ∧ m0 ≤ 2147483647) : ad_Q g mX8_draw d [ad_rf g 8 0, ad_iv m0] σ (fun x m => x = ad_iv (ad_bl z m0) ∧ m = ad_st σ 8 0 17 (ad_nz z)) := by
  refine ad_M1 (k := 0) rfl (by simp [Value.category]) rfl (Nat.le_of_ble_eq_true rfl) ?_
  simp only [List.map_cons, List.map_nil, List.replicate, List.cons_append, List.nil_append]
  refine ad_aload_n dX8_draw_0 rfl ?_
  refine ad_aload_n dX8_draw_1 rfl ?_
  refine gf_X8_219 rfl dX8_draw_2 ?_
  refine ad_ldc (n := 1664525) dX8_draw_5 kc_X8_222 ?_
  refine ad_imul dX8_draw_7 ?_
  refine ad_ldc (n := 1013904223) dX8_draw_8 kc_X8_223 ?_
  refine ad_iadd dX8_draw_10 ?_
  rw [hz]
  change ad_R _ _ _ _ _ _ [ad_iv (ad_nz z), _] _
  refine pf_X8_219 rfl dX8_draw_11 ?_
  refine ad_aload_n dX8_draw_14 rfl ?_
  refine gf_X8_219 rfl dX8_draw_15 ?_
  rw [ad_st_r1, ad_u1_eq]
  refine ad_ldc (n := 2147483647) dX8_draw_18 kc_X8_190 ?_
  refine ad_iand dX8_draw_20 ?_
  refine ad_sipush dX8_draw_21 rfl ?_
  have hap := ad_and_pos (ad_nz z)
  refine ad_idiv dX8_draw_24 (by decide) (by decide) ?_
  rw [ad_div_h (by omega) (by omega) (by decide) (by decide)]
  refine ad_iload_n dX8_draw_25 rfl ?_
  refine ad_irem dX8_draw_26 (by first | omega | (constructor <;> omega)) (by first | omega | (constructor <;> omega)) ?_
  rw [ad_rem_h (by omega) (by omega) (by omega) (by omega)]
  exact ad_reti dX8_draw_27 rfl (⟨rfl, rfl⟩)
theorem c_X8_nth {g : ad_G} {d : Nat} {σ : ad_Mem} {H : Nat → Bool} (hh7 : ∀ v, v < 10 → σ 21 0 (50 * v) = if H v = true then 1 else 0) (hH : ∀ v, H v = true → v < 10) {k : Nat} (hk : k < ad_pp H 10) (h2d : 2 ≤ d) : ad_Q g mX8_nth d [ad_rf g 8 0, ad_iv (k : Int)] σ (fun x m => x = ad_iv ((ad_nth H 10 0 k : Nat) : Int) ∧ m = σ) := by
  have hl : ∀ (n : Nat) (v : Nat) (left : Nat), (v ≤ 10) → (ad_nth H 10 0 k = ad_nth H (10 - v) v left) → (ad_pp H v + left < ad_pp H 10) → (((10 - v : Nat) : Int)).toNat ≤ n → ad_R g mX8_nth d (ad_ZQ mX8_nth (fun x m => x = ad_iv ((ad_nth H 10 0 k : Nat) : Int) ∧ m = σ)) 4 [some (ad_rf g 8 0), some (ad_iv (k : Int)), some (ad_iv (left : Int)), some (ad_iv (v : Int))] [] σ := by
    intro n
    induction n with
    | zero =>
      intro v left hv hn0 hp hn
      have hpl := ad_pp_le H 10
      have hp10 := ad_pp_le H v
      have hpv : ad_pp H (v + 1) = ad_pp H v + if H v = true then 1 else 0 := rfl
      have hv9 : v < 10 := by
        rcases Nat.lt_or_ge v 10 with q | q
        · exact q
        · rw [show v = 10 by omega] at hp; omega
      have hs1 := ad_nth_s H (10 - (v + 1)) v left
      rw [show 10 - (v + 1) + 1 = 10 - v by omega] at hs1
      refine ad_aload_n dX8_nth_4 rfl ?_
      refine ad_iload_n dX8_nth_5 rfl ?_
      refine ad_cv1f rfl cl_X8_59 dX8_nth_6 (c_X8_isThere0 hh7 hH (by omega) (by omega)) (by omega) (by show _ < 1; omega) (Nat.le_of_ble_eq_true rfl) ?_
      refine ad_ifp_eq 16 dX8_nth_9 (by decide) (fun h9 => ?_) (fun h9 => ?_)
      · skip
        refine ad_iload_n dX8_nth_16 rfl ?_
        refine ad_aload_n dX8_nth_17 rfl ?_
        refine ad_iload_n dX8_nth_18 rfl ?_
        refine ad_cv1f rfl cl_X8_59 dX8_nth_19 (c_X8_isThere0 hh7 hH (by omega) (by omega)) (by omega) (by show _ < 1; omega) (Nat.le_of_ble_eq_true rfl) ?_
        refine ad_ifp_eq 29 dX8_nth_22 (by decide) (fun h22 => ?_) (fun h22 => ?_)
        · skip
          refine ad_iconst dX8_nth_29 ?_
          refine ad_isub dX8_nth_30 ?_
          refine ad_istore_n dX8_nth_31 (by decide) rfl (by dsimp only [ad_set]) ?_
          refine ad_iinc dX8_nth_32 rfl (by decide) rfl (by dsimp only [ad_set]) ?_
          refine ad_goto 4 dX8_nth_35 (by decide) ?_
          exfalso; omega
        · exact absurd h22 h9
      · show ad_R _ _ _ _ 12 _ _ _
        refine ad_iload_n dX8_nth_12 rfl ?_
        refine ad_if_le 38 dX8_nth_13 (by decide) (by omega) (fun h13 => ?_) (fun h13 => ?_)
        · skip
          refine ad_iload_n dX8_nth_38 rfl ?_
          exact ad_reti dX8_nth_39 rfl (by
                rw [if_pos (show H v = true from h9.2), if_pos (by omega)] at hs1
                rw [hn0, hs1]
                exact ⟨rfl, rfl⟩)
        · show ad_R _ _ _ _ 16 _ _ _
          refine ad_iload_n dX8_nth_16 rfl ?_
          refine ad_aload_n dX8_nth_17 rfl ?_
          refine ad_iload_n dX8_nth_18 rfl ?_
          refine ad_cv1f rfl cl_X8_59 dX8_nth_19 (c_X8_isThere0 hh7 hH (by omega) (by omega)) (by omega) (by show _ < 1; omega) (Nat.le_of_ble_eq_true rfl) ?_
          refine ad_ifp_eq 29 dX8_nth_22 (by decide) (fun h22 => ?_) (fun h22 => ?_)
          · exact absurd h9 h22
          · show ad_R _ _ _ _ 25 _ _ _
            refine ad_iconst dX8_nth_25 ?_
            refine ad_goto 30 dX8_nth_26 (by decide) ?_
            refine ad_isub dX8_nth_30 ?_
            refine ad_istore_n dX8_nth_31 (by decide) rfl (by dsimp only [ad_set]) ?_
            refine ad_iinc dX8_nth_32 rfl (by decide) rfl (by dsimp only [ad_set]) ?_
            refine ad_goto 4 dX8_nth_35 (by decide) ?_
            exfalso; omega
    | succ n ih =>
      intro v left hv hn0 hp hn
      have hpl := ad_pp_le H 10
      have hp10 := ad_pp_le H v
      have hpv : ad_pp H (v + 1) = ad_pp H v + if H v = true then 1 else 0 := rfl
      have hv9 : v < 10 := by
        rcases Nat.lt_or_ge v 10 with q | q
        · exact q
        · rw [show v = 10 by omega] at hp; omega
      have hs1 := ad_nth_s H (10 - (v + 1)) v left
      rw [show 10 - (v + 1) + 1 = 10 - v by omega] at hs1
      refine ad_aload_n dX8_nth_4 rfl ?_
      refine ad_iload_n dX8_nth_5 rfl ?_
      refine ad_cv1f rfl cl_X8_59 dX8_nth_6 (c_X8_isThere0 hh7 hH (by omega) (by omega)) (by omega) (by show _ < 1; omega) (Nat.le_of_ble_eq_true rfl) ?_
      refine ad_ifp_eq 16 dX8_nth_9 (by decide) (fun h9 => ?_) (fun h9 => ?_)
      · skip
        refine ad_iload_n dX8_nth_16 rfl ?_
        refine ad_aload_n dX8_nth_17 rfl ?_
        refine ad_iload_n dX8_nth_18 rfl ?_
        refine ad_cv1f rfl cl_X8_59 dX8_nth_19 (c_X8_isThere0 hh7 hH (by omega) (by omega)) (by omega) (by show _ < 1; omega) (Nat.le_of_ble_eq_true rfl) ?_
        refine ad_ifp_eq 29 dX8_nth_22 (by decide) (fun h22 => ?_) (fun h22 => ?_)
        · skip
          refine ad_iconst dX8_nth_29 ?_
          refine ad_isub dX8_nth_30 ?_
          refine ad_istore_n dX8_nth_31 (by decide) rfl (by dsimp only [ad_set]) ?_
          refine ad_iinc dX8_nth_32 rfl (by decide) rfl (by dsimp only [ad_set]) ?_
          refine ad_goto 4 dX8_nth_35 (by decide) ?_
          rw [if_neg (show ¬ H v = true from fun q => h9 ⟨by omega, q⟩)] at hs1 hpv
          exact ih (v + 1) left (by omega) (by rw [hn0, hs1]) (by omega) (by omega)
        · exact absurd h22 h9
      · show ad_R _ _ _ _ 12 _ _ _
        refine ad_iload_n dX8_nth_12 rfl ?_
        refine ad_if_le 38 dX8_nth_13 (by decide) (by omega) (fun h13 => ?_) (fun h13 => ?_)
        · skip
          refine ad_iload_n dX8_nth_38 rfl ?_
          exact ad_reti dX8_nth_39 rfl (by
                rw [if_pos (show H v = true from h9.2), if_pos (by omega)] at hs1
                rw [hn0, hs1]
                exact ⟨rfl, rfl⟩)
        · show ad_R _ _ _ _ 16 _ _ _
          refine ad_iload_n dX8_nth_16 rfl ?_
          refine ad_aload_n dX8_nth_17 rfl ?_
          refine ad_iload_n dX8_nth_18 rfl ?_
          refine ad_cv1f rfl cl_X8_59 dX8_nth_19 (c_X8_isThere0 hh7 hH (by omega) (by omega)) (by omega) (by show _ < 1; omega) (Nat.le_of_ble_eq_true rfl) ?_
          refine ad_ifp_eq 29 dX8_nth_22 (by decide) (fun h22 => ?_) (fun h22 => ?_)
          · exact absurd h9 h22
          · show ad_R _ _ _ _ 25 _ _ _
            refine ad_iconst dX8_nth_25 ?_
            refine ad_goto 30 dX8_nth_26 (by decide) ?_
            refine ad_isub dX8_nth_30 ?_
            refine ad_istore_n dX8_nth_31 (by decide) rfl (by dsimp only [ad_set]) ?_
            refine ad_iinc dX8_nth_32 rfl (by decide) rfl (by dsimp only [ad_set]) ?_
            refine ad_goto 4 dX8_nth_35 (by decide) ?_
            rw [if_pos (show H v = true from h9.2)] at hs1 hpv
            rw [if_neg (by omega)] at hs1
            rw [show (left : Int) - 1 = ((left - 1 : Nat) : Int) by omega]
            exact ih (v + 1) (left - 1) (by omega) (by rw [hn0, hs1]) (by omega) (by omega)
  refine ad_M1 (k := 2) rfl (by simp [Value.category]) rfl (Nat.le_of_ble_eq_true rfl) ?_
  simp only [List.map_cons, List.map_nil, List.replicate, List.cons_append, List.nil_append]
  refine ad_iload_n dX8_nth_0 rfl ?_
  refine ad_istore_n dX8_nth_1 (by decide) rfl (by dsimp only [ad_set]) ?_
  refine ad_iconst dX8_nth_2 ?_
  refine ad_istore_n dX8_nth_3 (by decide) rfl (by dsimp only [ad_set]) ?_
  exact hl _ 0 k (by omega) rfl (by show 0 + k < _; omega) (Nat.le_refl _)
