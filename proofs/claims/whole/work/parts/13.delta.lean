/-! ===== deltas (Delta) ===== -/
theorem ad_fr_d {j : Nat} {σ σ1 : ad_Mem} (h : ad_fr (ad_Td j) σ σ1) (k i : Nat) (hk : ¬ (k = 0 ∨ k = 10 ∨ k = 11) ∨ i ≠ j) : σ1 k i = σ k i := h k i (fun q => hk.elim (fun z => z q.1) (fun z => z q.2))
theorem ad_fr_nl {j : Nat} {σ σ1 : ad_Mem} (h : ad_fr (ad_Td j) σ σ1) (a : Nat) : ad_nl σ1 a = ad_nl σ a ∧ (ad_nw σ a → ad_nw σ1 a) ∧ σ1 2 a = σ 2 a ∧ σ1 12 a = σ 12 a :=
  have e2 := ad_fr_d h 2 a (Or.inl (by decide))
  have e12 := ad_fr_d h 12 a (Or.inl (by decide))
  ⟨ad_nl_congr e2 e12, ad_nw_congr e2 e12, e2, e12⟩
def ad_pt (σ : ad_Mem) (j : Nat) (m w : Int) : ad_Mem := ad_st (ad_st (ad_st σ 10 j (σ 0 j 2).toNat m) 11 j (σ 0 j 2).toNat w) 0 j 2 (σ 0 j 2 + 1)
def ad_dr (σ : ad_Mem) (j : Nat) : Prop := ∀ k, (0 ≤ σ 10 j k ∧ σ 10 j k ≤ 12) ∧ (0 ≤ σ 11 j k ∧ σ 11 j k ≤ 255)
theorem ad_pt_fr (σ : ad_Mem) (j : Nat) (m w : Int) : ad_fr (ad_Td j) σ (ad_pt σ j m w) :=
  ((ad_fr.st ⟨Or.inr (Or.inl rfl), rfl⟩).trans (ad_fr.st ⟨Or.inr (Or.inr rfl), rfl⟩)).trans (ad_fr.st ⟨Or.inl rfl, rfl⟩)
theorem ad_pt_ds {σ : ad_Mem} {j : Nat} {m w : Int} (h0 : 0 ≤ σ 0 j 2) : ad_ds (ad_pt σ j m w) j = ad_ds σ j ++ [(m, w)] := by
  unfold ad_ds
  have e : ad_pt σ j m w 0 j 2 = σ 0 j 2 + 1 := by simp [ad_pt, ad_st]
  rw [e, show (σ 0 j 2 + 1).toNat = (σ 0 j 2).toNat + 1 by omega, List.range_succ, List.map_append]
  congr 1
  · apply List.map_congr_left
    intro k hk
    have := List.mem_range.mp hk
    simp only [ad_pt, ad_st]
    simp [show ¬ k = (σ 0 j 2).toNat by omega]
  · simp [ad_pt, ad_st]
theorem ad_pt_n (σ : ad_Mem) (j : Nat) (m w : Int) : ad_pt σ j m w 0 j 2 = σ 0 j 2 + 1 ∧ ad_pt σ j m w 0 j 3 = σ 0 j 3 := by simp [ad_pt, ad_st]
theorem ad_pt_dr {σ : ad_Mem} {j : Nat} {m w : Int} (h : ad_dr σ j) (hm : 0 ≤ m ∧ m ≤ 12) (hw : 0 ≤ w ∧ w ≤ 255) : ad_dr (ad_pt σ j m w) j := by
  intro k
  have := h k
  simp only [ad_pt, ad_st]
  constructor
  · by_cases hk : k = (σ 0 j 2).toNat
    · simp [hk, hm]
    · simp [hk]; exact this.1
  · by_cases hk : k = (σ 0 j 2).toNat
    · simp [hk, hw]
    · simp [hk]; exact this.2
theorem ad_dr_congr {σ σ' : ad_Mem} {j : Nat} (h1 : σ' 10 j = σ 10 j) (h2 : σ' 11 j = σ 11 j) (h : ad_dr σ j) : ad_dr σ' j := by unfold ad_dr at h ⊢; rw [h1, h2]; exact h
theorem c_X0_put {g : ad_G} {d : Nat} {σ : ad_Mem} {j : Nat} {m w : Int} (hj : j < 32) (h0 : 0 ≤ σ 0 j 2) (h1 : σ 0 j 2 < 12) : ad_V g mX0_put d [ad_rf g 0 j, ad_iv m, ad_iv w] σ (fun s => s = ad_pt σ j m w) := by
  refine ad_M1 (k := 0) rfl (by simp [Value.category]) rfl (Nat.le_of_ble_eq_true rfl) ?_
  simp only [List.map_cons, List.map_nil, List.replicate, List.cons_append, List.nil_append]
  refine ad_aload_n dX0_put_0 rfl ?_
  refine gf_X0_18 rfl (by omega) dX0_put_1 ?_
  refine ad_if_lt 61 dX0_put_4 (by decide) (by omega) (fun h4 => ?_) (fun h4 => ?_)
  · skip
    exact ad_retv dX0_put_61 rfl (by first | rfl | (exfalso; omega))
  · show ad_R _ _ _ _ 7 _ _ _
    refine ad_aload_n dX0_put_7 rfl ?_
    refine gf_X0_18 rfl (by omega) dX0_put_8 ?_
    refine ad_aload_n dX0_put_11 rfl ?_
    refine gf_X0_9 rfl (by omega) dX0_put_12 ?_
    refine ad_alen (n := 12) dX0_put_15 (by show _ < 32; omega) ⟨by decide, by decide⟩ rfl ?_
    refine ad_icmp_ge 61 dX0_put_16 (by decide) (by omega) (by omega) (fun h16 => ?_) (fun h16 => ?_)
    · skip
      exact ad_retv dX0_put_61 rfl (by first | rfl | (exfalso; omega))
    · show ad_R _ _ _ _ 19 _ _ _
      refine ad_aload_n dX0_put_19 rfl ?_
      refine gf_X0_18 rfl (by omega) dX0_put_20 ?_
      refine ad_aload_n dX0_put_23 rfl ?_
      refine gf_X0_15 rfl (by omega) dX0_put_24 ?_
      refine ad_alen (n := 12) dX0_put_27 (by show _ < 32; omega) ⟨by decide, by decide⟩ rfl ?_
      refine ad_icmp_ge 61 dX0_put_28 (by decide) (by omega) (by omega) (fun h28 => ?_) (fun h28 => ?_)
      · skip
        exact ad_retv dX0_put_61 rfl (by first | rfl | (exfalso; omega))
      · show ad_R _ _ _ _ 31 _ _ _
        refine ad_aload_n dX0_put_31 rfl ?_
        refine gf_X0_9 rfl (by omega) dX0_put_32 ?_
        refine ad_aload_n dX0_put_35 rfl ?_
        refine gf_X0_18 rfl (by omega) dX0_put_36 ?_
        refine ad_iload_n dX0_put_39 rfl ?_
        refine ad_iast dX0_put_40 (by show _ < 32; omega) ⟨by decide, by decide⟩ (by omega) (by show _ < ((12 : Nat) : Int); omega) ?_
        have e1 : ad_st σ 10 j (σ 0 j 2).toNat m 0 j 2 = σ 0 j 2 := by simp [ad_st]
        refine ad_aload_n dX0_put_41 rfl ?_
        refine gf_X0_15 rfl (by omega) dX0_put_42 ?_
        refine ad_aload_n dX0_put_45 rfl ?_
        refine gf_X0_18 rfl (by omega) dX0_put_46 ?_
        rw [e1]
        refine ad_iload_n dX0_put_49 rfl ?_
        refine ad_iast dX0_put_50 (by show _ < 32; omega) ⟨by decide, by decide⟩ (by omega) (by show _ < ((12 : Nat) : Int); omega) ?_
        have e2 : ad_st (ad_st σ 10 j (σ 0 j 2).toNat m) 11 j (σ 0 j 2).toNat w 0 j 2 = σ 0 j 2 := by simp [ad_st]
        refine ad_aload_n dX0_put_51 rfl ?_
        refine ad_dup dX0_put_52 rfl ?_
        refine gf_X0_18 rfl (by omega) dX0_put_53 ?_
        rw [e2]
        refine ad_iconst dX0_put_56 ?_
        refine ad_iadd dX0_put_57 ?_
        refine pf_X0_18 rfl (by omega) dX0_put_58 ?_
        exact ad_retv dX0_put_61 rfl (by first | rfl | (exfalso; omega))
theorem c_X0_cost {g : ad_G} {d : Nat} {σ : ad_Mem} {j : Nat} (hj : j < 32) : ad_Q g mX0_cost d [ad_rf g 0 j] σ (fun x s => x = ad_iv (1 + σ 0 j 2 + σ 0 j 3) ∧ s = σ) := by
  refine ad_M1 (k := 0) rfl (by simp [Value.category]) rfl (Nat.le_of_ble_eq_true rfl) ?_
  simp only [List.map_cons, List.map_nil, List.replicate, List.cons_append, List.nil_append]
  refine ad_iconst dX0_cost_0 ?_
  refine ad_aload_n dX0_cost_1 rfl ?_
  refine gf_X0_18 rfl (by omega) dX0_cost_2 ?_
  refine ad_iadd dX0_cost_5 ?_
  refine ad_aload_n dX0_cost_6 rfl ?_
  refine gf_X0_22 rfl (by omega) dX0_cost_7 ?_
  refine ad_iadd dX0_cost_10 ?_
  exact ad_reti dX0_cost_11 rfl (⟨rfl, rfl⟩)
theorem c_X0_addStep {g : ad_G} {d : Nat} {σ : ad_Mem} {j a b : Nat} {p : Int} (h1d : 1 ≤ d) (hj : j < 32) (ha : a < 36) (hb : b < 36) (hwa : ad_nw σ a) (hwb : ad_nw σ b) (hp : 0 ≤ p ∧ p < σ 2 b 1) (h12 : σ 2 b 1 ≤ 12) (h0 : 0 ≤ σ 0 j 2) (h1 : σ 0 j 2 < 12) (hdr : ad_dr σ j) : ad_Q g mX0_addStep d [ad_rf g 0 j, ad_rf g 2 a, ad_rf g 2 b, ad_iv p] σ (fun x s => ad_fr (ad_Td j) σ s ∧ s 0 j 2 = σ 0 j 2 + 1 ∧ ad_dr s j ∧
    (if 2 ≤ (ad_bst (ad_nl σ a) ((ad_nl σ b).drop p.toNat)).1 then x = ad_iv ((ad_bst (ad_nl σ a) ((ad_nl σ b).drop p.toNat)).1 : Int) ∧ ad_ds s j = ad_ds σ j ++ [(((ad_bst (ad_nl σ a) ((ad_nl σ b).drop p.toNat)).1 : Int), ((ad_bst (ad_nl σ a) ((ad_nl σ b).drop p.toNat)).2 : Int))] ∧ s 0 j 3 = σ 0 j 3 + 1
     else x = ad_iv 1 ∧ ad_ds s j = ad_ds σ j ++ [(0, σ 12 b p.toNat)] ∧ s 0 j 3 = σ 0 j 3)) := by
  have hwa0 := hwa
  have hwb0 := hwb
  obtain ⟨hwa1, hwa2, hwa3⟩ := hwa
  obtain ⟨hwb1, hwb2, hwb3⟩ := hwb
  have hlna := ad_len12 a
  have hlnb := ad_len12 b
  have lenS : (ad_nl σ a).length = (σ 2 a 1).toNat := ad_nl_len σ a
  have lenT : ((ad_nl σ b).drop p.toNat).length = (σ 2 b 1).toNat - p.toNat := by rw [List.length_drop, ad_nl_len]
  refine ad_M1 (k := 4) rfl (by simp [Value.category]) rfl (Nat.le_of_ble_eq_true rfl) ?_
  simp only [List.map_cons, List.map_nil, List.replicate, List.cons_append, List.nil_append]
  have fin : ∀ (v6 v7 : Option Value), ad_R g mX0_addStep d (ad_ZQ mX0_addStep (fun x s => ad_fr (ad_Td j) σ s ∧ s 0 j 2 = σ 0 j 2 + 1 ∧ ad_dr s j ∧
    (if 2 ≤ (ad_bst (ad_nl σ a) ((ad_nl σ b).drop p.toNat)).1 then x = ad_iv ((ad_bst (ad_nl σ a) ((ad_nl σ b).drop p.toNat)).1 : Int) ∧ ad_ds s j = ad_ds σ j ++ [(((ad_bst (ad_nl σ a) ((ad_nl σ b).drop p.toNat)).1 : Int), ((ad_bst (ad_nl σ a) ((ad_nl σ b).drop p.toNat)).2 : Int))] ∧ s 0 j 3 = σ 0 j 3 + 1
     else x = ad_iv 1 ∧ ad_ds s j = ad_ds σ j ++ [(0, σ 12 b p.toNat)] ∧ s 0 j 3 = σ 0 j 3))) 52 [some (ad_rf g 0 j), some (ad_rf g 2 a), some (ad_rf g 2 b), some (ad_iv p), some (ad_iv ((ad_bst (ad_nl σ a) ((ad_nl σ b).drop p.toNat)).1 : Int)), some (ad_iv ((ad_bst (ad_nl σ a) ((ad_nl σ b).drop p.toNat)).2 : Int)), v6, v7] [] σ := by
    intro v6 v7
    have hb1 := ad_bs_le (ad_nl σ a) ((ad_nl σ b).drop p.toNat) (ad_nl σ a).length
    have hb2 := ad_bs_in (ad_nl σ a) ((ad_nl σ b).drop p.toNat) (ad_nl σ a).length
    rw [lenT, lenS] at hb1
    change (_ → (ad_bst (ad_nl σ a) ((ad_nl σ b).drop p.toNat)).1 + (ad_bst (ad_nl σ a) ((ad_nl σ b).drop p.toNat)).2 ≤ _) at hb2
    have hb3 : (ad_bst (ad_nl σ a) ((ad_nl σ b).drop p.toNat)).1 ≤ (σ 2 b 1).toNat - p.toNat ∧ (ad_bst (ad_nl σ a) ((ad_nl σ b).drop p.toNat)).2 ≤ (σ 2 a 1).toNat := by unfold ad_bst; rw [lenS]; exact hb1
    refine ad_iload dX0_addStep_52 rfl ?_
    refine ad_iconst dX0_addStep_54 ?_
    refine ad_icmp_lt 79 dX0_addStep_55 (by decide) (by omega) (by omega) (fun h55 => ?_) (fun h55 => ?_)
    · skip
      refine ad_aload_n dX0_addStep_79 rfl ?_
      refine ad_iconst dX0_addStep_80 ?_
      refine ad_aload_n dX0_addStep_81 rfl ?_
      refine ad_iload_n dX0_addStep_82 rfl ?_
      refine ad_cv1f rfl cl_X0_46 dX0_addStep_83 (c_X2_at hb hwb0 (by omega)) (by omega) (by show _ < 36; omega) (Nat.le_of_ble_eq_true rfl) ?_
      rw [if_pos (by omega)]
      refine ad_cv2w rfl cl_X0_42 dX0_addStep_86 (c_X0_put hj h0 h1) (by omega) (by show _ < 32; omega) (Nat.le_of_ble_eq_true rfl) ?_
      have e9 := hwb3 p.toNat
      refine ad_iconst dX0_addStep_89 ?_
      exact ad_reti dX0_addStep_90 rfl (by
            refine ⟨ad_pt_fr σ j _ _, (ad_pt_n σ j _ _).1, ad_pt_dr hdr (by omega) (by omega), ?_⟩
            rw [if_neg (by omega)]
            exact ⟨rfl, ad_pt_ds h0, (ad_pt_n σ j _ _).2⟩)
    · show ad_R _ _ _ _ 58 _ _ _
      refine ad_aload_n dX0_addStep_58 rfl ?_
      refine ad_iload dX0_addStep_59 rfl ?_
      refine ad_iload dX0_addStep_61 rfl ?_
      refine ad_cv2w rfl cl_X0_42 dX0_addStep_63 (c_X0_put hj h0 h1) (by omega) (by show _ < 32; omega) (Nat.le_of_ble_eq_true rfl) ?_
      refine ad_aload_n dX0_addStep_66 rfl ?_
      refine ad_dup dX0_addStep_67 rfl ?_
      have e3 := (ad_pt_n σ j ((ad_bst (ad_nl σ a) ((ad_nl σ b).drop p.toNat)).1 : Int) ((ad_bst (ad_nl σ a) ((ad_nl σ b).drop p.toNat)).2 : Int)).2
      refine gf_X0_22 rfl (by omega) dX0_addStep_68 ?_
      rw [e3]
      refine ad_iconst dX0_addStep_71 ?_
      refine ad_iadd dX0_addStep_72 ?_
      refine pf_X0_22 rfl (by omega) dX0_addStep_73 ?_
      refine ad_iload dX0_addStep_76 rfl ?_
      exact ad_reti dX0_addStep_78 rfl (by
            have f1 : ad_fr (ad_Td j) σ (ad_st (ad_pt σ j ((ad_bst (ad_nl σ a) ((ad_nl σ b).drop p.toNat)).1 : Int) ((ad_bst (ad_nl σ a) ((ad_nl σ b).drop p.toNat)).2 : Int)) 0 j 3 (σ 0 j 3 + 1)) := (ad_pt_fr σ j _ _).trans (ad_fr.st ⟨Or.inl rfl, rfl⟩)
            have f2 := ad_pt_dr (m := ((ad_bst (ad_nl σ a) ((ad_nl σ b).drop p.toNat)).1 : Int)) (w := ((ad_bst (ad_nl σ a) ((ad_nl σ b).drop p.toNat)).2 : Int)) hdr (by omega) (by omega)
            refine ⟨f1, by simp [ad_st, ad_pt], ad_dr_congr (by funext c; simp [ad_st]) (by funext c; simp [ad_st]) f2, ?_⟩
            rw [if_pos (by omega)]
            refine ⟨rfl, ?_, by simp [ad_st]⟩
            rw [← ad_pt_ds h0]
            unfold ad_ds
            have q1 : ad_st (ad_pt σ j ((ad_bst (ad_nl σ a) ((ad_nl σ b).drop p.toNat)).1 : Int) ((ad_bst (ad_nl σ a) ((ad_nl σ b).drop p.toNat)).2 : Int)) 0 j 3 (σ 0 j 3 + 1) 0 j 2 = ad_pt σ j ((ad_bst (ad_nl σ a) ((ad_nl σ b).drop p.toNat)).1 : Int) ((ad_bst (ad_nl σ a) ((ad_nl σ b).drop p.toNat)).2 : Int) 0 j 2 := by simp [ad_st]
            rw [q1]
            apply List.map_congr_left
            intro k _
            simp [ad_st])
  have loop : ∀ (n i : Nat) (v7 : Option Value), (σ 2 a 1).toNat - i ≤ n → i ≤ (σ 2 a 1).toNat → ad_R g mX0_addStep d (ad_ZQ mX0_addStep (fun x s => ad_fr (ad_Td j) σ s ∧ s 0 j 2 = σ 0 j 2 + 1 ∧ ad_dr s j ∧
    (if 2 ≤ (ad_bst (ad_nl σ a) ((ad_nl σ b).drop p.toNat)).1 then x = ad_iv ((ad_bst (ad_nl σ a) ((ad_nl σ b).drop p.toNat)).1 : Int) ∧ ad_ds s j = ad_ds σ j ++ [(((ad_bst (ad_nl σ a) ((ad_nl σ b).drop p.toNat)).1 : Int), ((ad_bst (ad_nl σ a) ((ad_nl σ b).drop p.toNat)).2 : Int))] ∧ s 0 j 3 = σ 0 j 3 + 1
     else x = ad_iv 1 ∧ ad_ds s j = ad_ds σ j ++ [(0, σ 12 b p.toNat)] ∧ s 0 j 3 = σ 0 j 3))) 9 [some (ad_rf g 0 j), some (ad_rf g 2 a), some (ad_rf g 2 b), some (ad_iv p), some (ad_iv ((ad_bs (ad_nl σ a) ((ad_nl σ b).drop p.toNat) i).1 : Int)), some (ad_iv ((ad_bs (ad_nl σ a) ((ad_nl σ b).drop p.toNat) i).2 : Int)), some (ad_iv (i : Int)), v7] [] σ := by
    intro n
    induction n with
    | zero =>
      intro i v7 hn hi
      have hb1 := ad_bs_le (ad_nl σ a) ((ad_nl σ b).drop p.toNat) i
      have he : ad_bs (ad_nl σ a) ((ad_nl σ b).drop p.toNat) i = ad_bst (ad_nl σ a) ((ad_nl σ b).drop p.toNat) := (ad_bst_of _ _ i (by omega) (by omega)).symm
      rw [he] at hb1 ⊢
      refine ad_iload dX0_addStep_9 rfl ?_
      refine ad_iload dX0_addStep_11 rfl ?_
      refine ad_iadd dX0_addStep_13 ?_
      refine ad_aload_n dX0_addStep_14 rfl ?_
      refine gf_X0_25 rfl (by omega) dX0_addStep_15 ?_
      refine ad_icmp_ge 52 dX0_addStep_18 (by decide) (by omega) (by omega) (fun h18 => ?_) (fun h18 => ?_)
      · skip
        exact fin _ _
      · show ad_R _ _ _ _ 21 _ _ _
        exfalso; omega
    | succ n ih =>
      intro i v7 hn hi
      have hb1 := ad_bs_le (ad_nl σ a) ((ad_nl σ b).drop p.toNat) i
      have hc := ad_cpl_le ((ad_nl σ a).drop i) ((ad_nl σ b).drop p.toNat)
      have hs : ad_bs (ad_nl σ a) ((ad_nl σ b).drop p.toNat) (i + 1) = if (ad_bs (ad_nl σ a) ((ad_nl σ b).drop p.toNat) i).1 < ad_cpl ((ad_nl σ a).drop i) ((ad_nl σ b).drop p.toNat) then (ad_cpl ((ad_nl σ a).drop i) ((ad_nl σ b).drop p.toNat), i) else ad_bs (ad_nl σ a) ((ad_nl σ b).drop p.toNat) i := rfl
      rw [lenT] at hb1 hc
      rw [List.length_drop, lenS] at hc
      refine ad_iload dX0_addStep_9 rfl ?_
      refine ad_iload dX0_addStep_11 rfl ?_
      refine ad_iadd dX0_addStep_13 ?_
      refine ad_aload_n dX0_addStep_14 rfl ?_
      refine gf_X0_25 rfl (by omega) dX0_addStep_15 ?_
      refine ad_icmp_ge 52 dX0_addStep_18 (by decide) (by omega) (by omega) (fun h18 => ?_) (fun h18 => ?_)
      · skip
        rw [← (ad_bst_of _ _ i (by omega) (by omega) : ad_bst (ad_nl σ a) ((ad_nl σ b).drop p.toNat) = ad_bs (ad_nl σ a) ((ad_nl σ b).drop p.toNat) i)]
        exact fin _ _
      · show ad_R _ _ _ _ 21 _ _ _
        refine ad_aload_n dX0_addStep_21 rfl ?_
        refine ad_iload dX0_addStep_22 rfl ?_
        refine ad_aload_n dX0_addStep_24 rfl ?_
        refine ad_iload_n dX0_addStep_25 rfl ?_
        refine ad_cv3f rfl cl_X0_38 dX0_addStep_26 (c_X2_alikeFrom ha hb hwa0 hwb0 ⟨by omega, by omega⟩ ⟨by omega, by omega⟩) (by omega) (by show _ < 36; omega) (Nat.le_of_ble_eq_true rfl) ?_
        rw [show ((i : Int)).toNat = i from rfl]
        refine ad_istore dX0_addStep_29 (by decide) rfl (by dsimp only [ad_set]) ?_
        refine ad_iload dX0_addStep_31 rfl ?_
        refine ad_iload dX0_addStep_33 rfl ?_
        refine ad_icmp_le 46 dX0_addStep_35 (by decide) (by omega) (by omega) (fun h35 => ?_) (fun h35 => ?_)
        · skip
          refine ad_iinc dX0_addStep_46 rfl (by decide) rfl (by dsimp only [ad_set]) ?_
          refine ad_goto 9 dX0_addStep_49 (by decide) ?_
          rw [show ((i : Int) + 1) = ((i + 1 : Nat) : Int) by omega]
          have hih := ih (i + 1) (some (ad_iv (ad_cpl ((ad_nl σ a).drop i) ((ad_nl σ b).drop p.toNat) : Nat))) (by omega) (by omega)
          first | (rw [hs, if_pos (by omega)] at hih; exact hih) | (rw [hs, if_neg (by omega)] at hih; exact hih)
        · show ad_R _ _ _ _ 38 _ _ _
          refine ad_iload dX0_addStep_38 rfl ?_
          refine ad_istore dX0_addStep_40 (by decide) rfl (by dsimp only [ad_set]) ?_
          refine ad_iload dX0_addStep_42 rfl ?_
          refine ad_istore dX0_addStep_44 (by decide) rfl (by dsimp only [ad_set]) ?_
          refine ad_iinc dX0_addStep_46 rfl (by decide) rfl (by dsimp only [ad_set]) ?_
          refine ad_goto 9 dX0_addStep_49 (by decide) ?_
          rw [show ((i : Int) + 1) = ((i + 1 : Nat) : Int) by omega]
          have hih := ih (i + 1) (some (ad_iv (ad_cpl ((ad_nl σ a).drop i) ((ad_nl σ b).drop p.toNat) : Nat))) (by omega) (by omega)
          first | (rw [hs, if_pos (by omega)] at hih; exact hih) | (rw [hs, if_neg (by omega)] at hih; exact hih)
  refine ad_iconst dX0_addStep_0 ?_
  refine ad_istore dX0_addStep_1 (by decide) rfl (by dsimp only [ad_set]) ?_
  refine ad_iconst dX0_addStep_3 ?_
  refine ad_istore dX0_addStep_4 (by decide) rfl (by dsimp only [ad_set]) ?_
  refine ad_iconst dX0_addStep_6 ?_
  refine ad_istore dX0_addStep_7 (by decide) rfl (by dsimp only [ad_set]) ?_
  exact loop (σ 2 a 1).toNat 0 _ (by omega) (by omega)
