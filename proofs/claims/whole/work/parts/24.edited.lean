/-! ===== versions that come alone, or edited ===== -/
def ad_edl (l : List Int) (p : Nat) (x : Int) : List Int := if p = l.length then l ++ [x] else if x = 8 then l.eraseIdx p else l.set p x
/-- only the draft of the store s differs -/
theorem ad_rC_draft {σ σ' : ad_Mem} {s : Nat} {A : ad_Ar} (hs : s < 3) (hw : ad_wA A) (hr : ad_rC σ s A) (hf : ad_fr (ad_Tn (30 + s)) σ σ') (hn : ad_nw σ' (30 + s)) : ad_rC σ' s A := by
  obtain ⟨r1, r2, r3, r4, r5, r6, r7, r8⟩ := hr
  have w2 := hw.2.1
  have w1 := hw.1
  have e4 := ad_fr_n hf 4 s (Or.inl (by decide))
  have e19 := ad_fr_n hf 19 s (Or.inl (by decide))
  have e : ∀ k v, v < 10 → σ' k (10 * s + v) = σ k (10 * s + v) := fun k v hv => ad_fr_n hf k _ (Or.inr (by omega))
  refine ⟨by rw [e4]; exact r1, by rw [e4]; exact r2, by rw [e4]; exact r3, fun h hh => by rw [e19]; exact r4 h hh, fun v hv => ⟨ad_nw_congr (e 2 v hv) (e 12 v hv) (r5 v hv).1, ad_dw_congr (e 0 v hv) (e 10 v hv) (e 11 v hv) (r5 v hv).2⟩, fun v hv => ?_, fun v hv => ?_, hn⟩
  · have hv2 := w2 v hv
    rw [ad_nl_congr (e 2 v (by omega)) (e 12 v (by omega)), ad_ds_congr (e 0 v (by omega)) (e 10 v (by omega)) (e 11 v (by omega)), e 6 v (by omega)]
    exact r6 v hv
  · rw [e 6 v (by omega)]
    exact r7 v hv
theorem ad_fr_ts {s : Nat} {σ σ' : ad_Mem} (hf : ad_fr (ad_Tn (30 + s)) σ σ') : ad_fr (ad_Ts s) σ σ' := hf.mono (fun k i h => Or.inr (Or.inr (Or.inl h)))
theorem c_X4_comesAlone {g : ad_G} {d : Nat} {σ : ad_Mem} {s : Nat} {A : ad_Ar} (hs : s < 3) (hr : ad_rC σ s A) (hw : ad_wA A) (h3d : 3 ≤ d) (hc : ad_aC A < 10) : ad_Q g mX4_comesAlone d [ad_rf g 4 s] σ (fun x m => x = ad_iv (ad_aC A : Int) ∧ ad_rC m s (ad_add A [0] (-1) (-1)) ∧ ad_fr (ad_Ts s) σ m) := by
  have hr0 := hr
  have hw0 := hw
  obtain ⟨r1, r2, r3, r4, r5, r6, r7, r8⟩ := hr
  obtain ⟨w1, w2, w3, w4, w5, w6, w7, w8, w9⟩ := hw
  have r2b := ad_bits_lt (ad_aH A)
  have hl30 : (ad_len 12 (30 + s) : Int) = 12 := by
    show ((if 30 + s = 33 then 96 else 12 : Nat) : Int) = 12
    rw [if_neg (by omega)]; rfl
  refine ad_M1 (k := 0) rfl (by simp [Value.category]) rfl (Nat.le_of_ble_eq_true rfl) ?_
  simp only [List.map_cons, List.map_nil, List.replicate, List.cons_append, List.nil_append]
  refine ad_aload_n dX4_comesAlone_0 rfl ?_
  refine gf_X4_27 rfl (by omega) dX4_comesAlone_1 ?_
  refine ad_cv0v rfl cl_X4_93 dX4_comesAlone_4 (c_X2_empty (by omega)) (by omega) (by show _ < 36; omega) (Nat.le_of_ble_eq_true rfl) (fun s4 q4 => ?_)
  obtain ⟨a1, a2, a3, a4⟩ := ad_emp_nl r8 q4
  refine ad_aload_n dX4_comesAlone_7 rfl ?_
  refine gf_X4_27 rfl (by omega) dX4_comesAlone_8 ?_
  refine ad_iconst dX4_comesAlone_11 ?_
  refine ad_cv1v rfl cl_X4_96 dX4_comesAlone_12 (c_X2_add (by omega) a2 (by omega)) (by omega) (by show _ < 36; omega) (Nat.le_of_ble_eq_true rfl) (fun s12 q12 => ?_)
  obtain ⟨b1, b2, b3, b4⟩ := ad_add_nl a2 (by omega) (by omega) q12
  rw [a1, List.nil_append] at b1
  have hr1 := ad_rC_draft hs hw0 hr0 (a3.trans b3) b2
  refine ad_aload_n dX4_comesAlone_15 rfl ?_
  refine ad_iconst dX4_comesAlone_16 ?_
  refine ad_iconst dX4_comesAlone_17 ?_
  refine ad_aload_n dX4_comesAlone_18 rfl ?_
  refine gf_X4_27 rfl (by omega) dX4_comesAlone_19 ?_
  refine ad_cv3q rfl cl_X4_99 dX4_comesAlone_22 (c_X4_comes hs hr1 hw0 (by omega) hc (by omega) (by omega) b2 (by rw [b1]; simp) (by omega) (by omega)) (by omega) (by show _ < 3; omega) (Nat.le_of_ble_eq_true rfl) (fun x22 s22 q22 => ?_)
  obtain ⟨rfl, c2, c3⟩ := q22
  rw [b1] at c2
  exact ad_reti dX4_comesAlone_25 rfl (⟨rfl, c2, (ad_fr_ts (a3.trans b3)).trans c3⟩)
def ad_edp (l : List Int) (p : Nat) (x : Int) (i : Nat) : List Int := if p < i then (if x = 8 then (l.take i).eraseIdx p else (l.take i).set p x) else l.take i
theorem ad_edp_s {l : List Int} {p : Nat} {x : Int} {i : Nat} (hi : i < l.length) : ad_edp l p x (i + 1) = ad_edp l p x i ++ (if i = p then (if x = 8 then [] else [x]) else [l[i]]) := by
  have ht : l.take (i + 1) = l.take i ++ [l[i]] := by rw [List.take_succ]; simp [List.getElem?_eq_getElem hi]
  have hlen : (l.take i).length = i := by rw [List.length_take]; omega
  unfold ad_edp
  by_cases hp : p < i
  · rw [if_pos hp, if_pos (by omega), if_neg (show ¬ i = p by omega)]
    by_cases hx : x = 8
    · rw [if_pos hx, if_pos hx, ht, List.eraseIdx_append_of_lt_length (by omega)]
    · rw [if_neg hx, if_neg hx, ht, List.set_append_left _ _ (by omega)]
  · rw [if_neg hp]
    by_cases hpi : i = p
    · subst hpi
      rw [if_pos (by omega), if_pos rfl, ht]
      by_cases hx : x = 8
      · rw [if_pos hx, if_pos hx, List.eraseIdx_append_of_length_le (by omega), hlen]; simp
      · rw [if_neg hx, if_neg hx, List.set_append_right _ _ (by omega), hlen]; simp
    · rw [if_neg (by omega), if_neg hpi, ht]
theorem ad_edp_len (l : List Int) (p : Nat) (x : Int) (i : Nat) : (ad_edp l p x i).length ≤ i := by
  unfold ad_edp
  have := List.length_take (i := i) (l := l)
  split
  · split
    · rw [List.length_eraseIdx]; split <;> omega
    · rw [List.length_set]; omega
  · omega
theorem ad_edp_end {l : List Int} {p : Nat} {x : Int} (hp : p ≤ l.length) : ad_edp l p x l.length ++ (if p = l.length then [x] else []) = ad_edl l p x := by
  unfold ad_edp ad_edl
  rw [List.take_length]
  by_cases h : p = l.length
  · rw [if_neg (by omega), if_pos h, if_pos h]
  · rw [if_pos (by omega), if_neg h, if_neg h, List.append_nil]
theorem ad_edl_ok {l : List Int} {p : Nat} {x : Int} (hl : 1 ≤ l.length ∧ l.length ≤ 12 ∧ ∀ y ∈ l, 0 ≤ y ∧ y ≤ 7) (hp : p ≤ l.length) (hx : 0 ≤ x ∧ x ≤ 8) (h8 : x = 8 → p < l.length ∧ 2 ≤ l.length) (h12 : p < 12) : 1 ≤ (ad_edl l p x).length ∧ (ad_edl l p x).length ≤ 12 ∧ ∀ y ∈ ad_edl l p x, 0 ≤ y ∧ y ≤ 7 := by
  unfold ad_edl
  by_cases h : p = l.length
  · rw [if_pos h, List.length_append]
    refine ⟨by simp, by simp; omega, fun y hy => ?_⟩
    rcases List.mem_append.mp hy with h1 | h1
    · exact hl.2.2 y h1
    · rw [List.mem_singleton.mp h1]
      have : x ≠ 8 := fun q => by have := (h8 q).1; omega
      omega
  · rw [if_neg h]
    by_cases hx8 : x = 8
    · rw [if_pos hx8, List.length_eraseIdx]
      have := h8 hx8
      refine ⟨by split <;> omega, by split <;> omega, fun y hy => hl.2.2 y (List.mem_of_mem_eraseIdx hy)⟩
    · rw [if_neg hx8, List.length_set]
      refine ⟨hl.1, hl.2.1, fun y hy => ?_⟩
      rcases List.mem_or_eq_of_mem_set hy with h1 | h1
      · exact hl.2.2 y h1
      · rw [h1]; omega
theorem c_X4_comesEdited {g : ad_G} {d : Nat} {σ : ad_Mem} {s : Nat} {A : ad_Ar} (hs : s < 3) (hr : ad_rC σ s A) (hw : ad_wA A) {v : Nat} {p y : Int} (h3d : 3 ≤ d) (hc : ad_aC A < 10) (hv : ad_aH A v = true) (hp : 0 ≤ p ∧ p ≤ (ad_aL A v).length) (hy : 0 ≤ y ∧ y ≤ 8) (h8 : y = 8 → p < (ad_aL A v).length ∧ 2 ≤ (ad_aL A v).length) (h12 : p < 12) : ad_Q g mX4_comesEdited d [ad_rf g 4 s, ad_iv (v : Int), ad_iv p, ad_iv y] σ (fun x m => x = ad_iv (ad_aC A : Int) ∧ ad_rC m s (ad_add A (ad_edl (ad_aL A v) p.toNat y) (v : Int) (-1)) ∧ ad_fr (ad_Ts s) σ m) := by
  have hr0 := hr
  have hw0 := hw
  obtain ⟨r1, r2, r3, r4, r5, r6, r7, r8⟩ := hr
  obtain ⟨w1, w2, w3, w4, w5, w6, w7, w8, w9⟩ := hw
  have r2b := ad_bits_lt (ad_aH A)
  have hl30 : (ad_len 12 (30 + s) : Int) = 12 := by
    show ((if 30 + s = 33 then 96 else 12 : Nat) : Int) = 12
    rw [if_neg (by omega)]; rfl
  have hvv := w2 v hv
  have hrng := ad_rC_rng hr0 hw0 hv
  have hnl := ad_nl_len σ (10 * s + v)
  rw [(r6 v hv).1] at hnl
  refine ad_M1 (k := 2) rfl (by simp [Value.category]) rfl (Nat.le_of_ble_eq_true rfl) ?_
  simp only [List.map_cons, List.map_nil, List.replicate, List.cons_append, List.nil_append]
  have tail : ∀ (v5 : Option Value) (σ1 : ad_Mem), ad_fr (ad_Tn (30 + s)) σ σ1 → ad_nw σ1 (30 + s) → ad_nl σ1 (30 + s) = ad_edl (ad_aL A v) p.toNat y → ad_R g mX4_comesEdited d (ad_ZQ mX4_comesEdited (fun x m => x = ad_iv (ad_aC A : Int) ∧ ad_rC m s (ad_add A (ad_edl (ad_aL A v) p.toNat y) (v : Int) (-1)) ∧ ad_fr (ad_Ts s) σ m)) 101 [some (ad_rf g 4 s), some (ad_iv (v : Int)), some (ad_iv p), some (ad_iv y), some (ad_rf g 2 (10 * s + v)), v5] [] σ1 := by
    intro v5 σ1 hfd hnd hfin
    have hr1 := ad_rC_draft hs hw0 hr0 hfd hnd
    refine ad_aload_n dX4_comesEdited_101 rfl ?_
    refine ad_iload_n dX4_comesEdited_102 rfl ?_
    refine ad_iconst dX4_comesEdited_103 ?_
    refine ad_aload_n dX4_comesEdited_104 rfl ?_
    refine gf_X4_27 rfl (by omega) dX4_comesEdited_105 ?_
    refine ad_cv3q rfl cl_X4_99 dX4_comesEdited_108 (c_X4_comes hs hr1 hw0 (by omega) hc (by omega) (by omega) hnd (by rw [hfin]; exact ad_edl_ok (w3 v hv).1 (by omega) hy (fun q => by have := h8 q; omega) (by omega)) (by omega) (by omega)) (by omega) (by show _ < 3; omega) (Nat.le_of_ble_eq_true rfl) (fun x108 s108 q108 => ?_)
    obtain ⟨rfl, c2, c3⟩ := q108
    rw [hfin] at c2
    exact ad_reti dX4_comesEdited_111 rfl (⟨rfl, c2, (ad_fr_ts hfd).trans c3⟩)
  have lp : ∀ (n : Nat) (i : Int) (σ1 : ad_Mem), (ad_fr (ad_Tn (30 + s)) σ σ1) → (0 ≤ i) → (i ≤ (ad_aL A v).length) → (ad_nl σ1 (30 + s) = ad_edp (ad_aL A v) p.toNat y i.toNat) → (ad_nw σ1 (30 + s)) → ((ad_aL A v).length - i).toNat ≤ n → ad_R g mX4_comesEdited d (ad_ZQ mX4_comesEdited (fun x m => x = ad_iv (ad_aC A : Int) ∧ ad_rC m s (ad_add A (ad_edl (ad_aL A v) p.toNat y) (v : Int) (-1)) ∧ ad_fr (ad_Ts s) σ m)) 31 [some (ad_rf g 4 s), some (ad_iv (v : Int)), some (ad_iv p), some (ad_iv y), some (ad_rf g 2 (10 * s + v)), some (ad_iv i)] [] σ1 := by
    intro n
    induction n with
    | zero =>
      intro i σ1 e0 hi0 hi1 e1 e2 hn
      have fv2 := ad_fr_n e0 2 (10 * s + v) (Or.inr (by omega))
      have fv12 := ad_fr_n e0 12 (10 * s + v) (Or.inr (by omega))
      have hsz := congrFun fv2 1
      have lb : σ1 2 (30 + s) 1 = ((ad_nl σ1 (30 + s)).length : Int) := by rw [ad_nl_len]; have := e2.1; omega
      have hel := ad_edp_len (ad_aL A v) p.toNat y i.toNat
      refine ad_iload dX4_comesEdited_31 rfl ?_
      refine ad_aload dX4_comesEdited_33 rfl ?_
      refine gf_X4_64 rfl (by omega) dX4_comesEdited_35 ?_
      rw [hsz]
      refine ad_icmp_ge 84 dX4_comesEdited_38 (by decide) (by omega) (by omega) (fun h38 => ?_) (fun h38 => ?_)
      · skip
        have hend := ad_edp_end (l := ad_aL A v) (p := p.toNat) (x := y) (by omega)
        rw [show i.toNat = (ad_aL A v).length by omega] at e1
        refine ad_iload_n dX4_comesEdited_84 rfl ?_
        refine ad_aload dX4_comesEdited_85 rfl ?_
        refine gf_X4_64 rfl (by omega) dX4_comesEdited_87 ?_
        rw [hsz]
        refine ad_icmp_ne 101 dX4_comesEdited_90 (by decide) (by omega) (by omega) (fun h90 => ?_) (fun h90 => ?_)
        · skip
          refine tail _ _ e0 e2 ?_
          rw [if_neg (by omega), List.append_nil] at hend
          rw [e1, hend]
        · show ad_R _ _ _ _ 93 _ _ _
          have hy8 : y ≠ 8 := fun q => by have := h8 q; omega
          rw [e1] at lb
          have hel2 := ad_edp_len (ad_aL A v) p.toNat y (ad_aL A v).length
          refine ad_aload_n dX4_comesEdited_93 rfl ?_
          refine gf_X4_27 rfl (by omega) dX4_comesEdited_94 ?_
          refine ad_iload_n dX4_comesEdited_97 rfl ?_
          refine ad_cv1v rfl cl_X4_96 dX4_comesEdited_98 (c_X2_add (by omega) e2 (by omega)) (by omega) (by show _ < 36; omega) (Nat.le_of_ble_eq_true rfl) (fun s98 q98 => ?_)
          obtain ⟨b1, b2, b3, b4⟩ := ad_add_nl e2 (by omega) (by omega) q98
          refine tail _ _ (e0.trans b3) b2 ?_
          rw [if_pos (by omega)] at hend
          rw [b1, e1, hend]
      · show ad_R _ _ _ _ 41 _ _ _
        rw [e1] at lb
        exfalso; omega
    | succ n ih =>
      intro i σ1 e0 hi0 hi1 e1 e2 hn
      have fv2 := ad_fr_n e0 2 (10 * s + v) (Or.inr (by omega))
      have fv12 := ad_fr_n e0 12 (10 * s + v) (Or.inr (by omega))
      have hsz := congrFun fv2 1
      have lb : σ1 2 (30 + s) 1 = ((ad_nl σ1 (30 + s)).length : Int) := by rw [ad_nl_len]; have := e2.1; omega
      have hel := ad_edp_len (ad_aL A v) p.toNat y i.toNat
      refine ad_iload dX4_comesEdited_31 rfl ?_
      refine ad_aload dX4_comesEdited_33 rfl ?_
      refine gf_X4_64 rfl (by omega) dX4_comesEdited_35 ?_
      rw [hsz]
      refine ad_icmp_ge 84 dX4_comesEdited_38 (by decide) (by omega) (by omega) (fun h38 => ?_) (fun h38 => ?_)
      · skip
        have hend := ad_edp_end (l := ad_aL A v) (p := p.toNat) (x := y) (by omega)
        rw [show i.toNat = (ad_aL A v).length by omega] at e1
        refine ad_iload_n dX4_comesEdited_84 rfl ?_
        refine ad_aload dX4_comesEdited_85 rfl ?_
        refine gf_X4_64 rfl (by omega) dX4_comesEdited_87 ?_
        rw [hsz]
        refine ad_icmp_ne 101 dX4_comesEdited_90 (by decide) (by omega) (by omega) (fun h90 => ?_) (fun h90 => ?_)
        · skip
          refine tail _ _ e0 e2 ?_
          rw [if_neg (by omega), List.append_nil] at hend
          rw [e1, hend]
        · show ad_R _ _ _ _ 93 _ _ _
          have hy8 : y ≠ 8 := fun q => by have := h8 q; omega
          rw [e1] at lb
          have hel2 := ad_edp_len (ad_aL A v) p.toNat y (ad_aL A v).length
          refine ad_aload_n dX4_comesEdited_93 rfl ?_
          refine gf_X4_27 rfl (by omega) dX4_comesEdited_94 ?_
          refine ad_iload_n dX4_comesEdited_97 rfl ?_
          refine ad_cv1v rfl cl_X4_96 dX4_comesEdited_98 (c_X2_add (by omega) e2 (by omega)) (by omega) (by show _ < 36; omega) (Nat.le_of_ble_eq_true rfl) (fun s98 q98 => ?_)
          obtain ⟨b1, b2, b3, b4⟩ := ad_add_nl e2 (by omega) (by omega) q98
          refine tail _ _ (e0.trans b3) b2 ?_
          rw [if_pos (by omega)] at hend
          rw [b1, e1, hend]
      · show ad_R _ _ _ _ 41 _ _ _
        rw [e1] at lb
        refine ad_iload dX4_comesEdited_41 rfl ?_
        refine ad_iload_n dX4_comesEdited_43 rfl ?_
        refine ad_icmp_eq 64 dX4_comesEdited_44 (by decide) (by omega) (by omega) (fun h44 => ?_) (fun h44 => ?_)
        · skip
          refine ad_iload_n dX4_comesEdited_64 rfl ?_
          refine ad_bipush dX4_comesEdited_65 rfl ?_
          refine ad_icmp_eq 78 dX4_comesEdited_67 (by decide) (by omega) (by omega) (fun h67 => ?_) (fun h67 => ?_)
          · skip
            refine ad_iinc dX4_comesEdited_78 rfl (by decide) rfl (by dsimp only [ad_set]) ?_
            refine ad_goto 31 dX4_comesEdited_81 (by decide) ?_
            have hi3 : i.toNat < (ad_aL A v).length := by omega
            have hi4 : (i + 1).toNat = i.toNat + 1 := by omega
            refine ih (i + 1) _ e0 (by omega) (by omega) ?_ e2 (by omega)
            rw [e1, hi4, ad_edp_s hi3, if_pos (by omega), if_pos (by omega), List.append_nil]
          · show ad_R _ _ _ _ 70 _ _ _
            refine ad_aload_n dX4_comesEdited_70 rfl ?_
            refine gf_X4_27 rfl (by omega) dX4_comesEdited_71 ?_
            refine ad_iload_n dX4_comesEdited_74 rfl ?_
            refine ad_cv1v rfl cl_X4_96 dX4_comesEdited_75 (c_X2_add (by omega) e2 (by omega)) (by omega) (by show _ < 36; omega) (Nat.le_of_ble_eq_true rfl) (fun s75 q75 => ?_)
            obtain ⟨b1, b2, b3, b4⟩ := ad_add_nl e2 (by omega) (by omega) q75
            refine ad_iinc dX4_comesEdited_78 rfl (by decide) rfl (by dsimp only [ad_set]) ?_
            refine ad_goto 31 dX4_comesEdited_81 (by decide) ?_
            have hi3 : i.toNat < (ad_aL A v).length := by omega
            have hi4 : (i + 1).toNat = i.toNat + 1 := by omega
            refine ih (i + 1) _ (e0.trans b3) (by omega) (by omega) ?_ b2 (by omega)
            rw [b1, e1, hi4, ad_edp_s hi3, if_pos (by omega), if_neg (by omega)]
        · show ad_R _ _ _ _ 47 _ _ _
          refine ad_aload_n dX4_comesEdited_47 rfl ?_
          refine gf_X4_27 rfl (by omega) dX4_comesEdited_48 ?_
          refine ad_aload dX4_comesEdited_51 rfl ?_
          refine ad_iload dX4_comesEdited_53 rfl ?_
          refine ad_cv1f rfl cl_X4_103 dX4_comesEdited_55 (c_X2_at (by omega) (ad_nw_congr fv2 fv12 (r5 v (by omega)).1) (by omega)) (by omega) (by show _ < 36; omega) (Nat.le_of_ble_eq_true rfl) ?_
          rw [hsz, if_pos (by omega), congrFun fv12 _]
          refine ad_cv1v rfl cl_X4_96 dX4_comesEdited_58 (c_X2_add (by omega) e2 (by omega)) (by omega) (by show _ < 36; omega) (Nat.le_of_ble_eq_true rfl) (fun s58 q58 => ?_)
          obtain ⟨b1, b2, b3, b4⟩ := ad_add_nl e2 (by omega) ((r5 v (by omega)).1.2.2 _) q58
          refine ad_goto 78 dX4_comesEdited_61 (by decide) ?_
          refine ad_iinc dX4_comesEdited_78 rfl (by decide) rfl (by dsimp only [ad_set]) ?_
          refine ad_goto 31 dX4_comesEdited_81 (by decide) ?_
          have hi3 : i.toNat < (ad_aL A v).length := by omega
          have hi4 : (i + 1).toNat = i.toNat + 1 := by omega
          refine ih (i + 1) _ (e0.trans b3) (by omega) (by omega) ?_ b2 (by omega)
          rw [b1, e1, hi4, ad_edp_s hi3, if_neg (by omega)]
          congr 2
          have hz := ad_nl_at σ (10 * s + v) i.toNat (by omega)
          rw [(r6 v hv).1, List.getElem?_eq_getElem hi3] at hz
          exact (Option.some.inj hz).symm
  refine ad_aload_n dX4_comesEdited_0 rfl ?_
  refine ad_iload_n dX4_comesEdited_1 rfl ?_
  refine ad_cv1f rfl cl_X4_57 dX4_comesEdited_2 (c_X4_holds hs hr0 hw0 (by omega)) (by omega) (by show _ < 3; omega) (Nat.le_of_ble_eq_true rfl) ?_
  refine ad_ifp_ne 10 dX4_comesEdited_5 (by decide) (fun h5 => ?_) (fun h5 => ?_)
  · skip
    refine ad_aload_n dX4_comesEdited_10 rfl ?_
    refine gf_X4_11 rfl (by omega) dX4_comesEdited_11 ?_
    refine ad_iload_n dX4_comesEdited_14 rfl ?_
    refine ad_aald dX4_comesEdited_15 (by omega) (by omega) (by omega) ?_
    rw [Int.toNat_natCast]
    refine gf_X4_61 rfl (by omega) dX4_comesEdited_16 ?_
    refine ad_astore dX4_comesEdited_19 (by decide) rfl (by dsimp only [ad_set]) ?_
    refine ad_aload_n dX4_comesEdited_21 rfl ?_
    refine gf_X4_27 rfl (by omega) dX4_comesEdited_22 ?_
    refine ad_cv0v rfl cl_X4_93 dX4_comesEdited_25 (c_X2_empty (by omega)) (by omega) (by show _ < 36; omega) (Nat.le_of_ble_eq_true rfl) (fun s25 q25 => ?_)
    obtain ⟨a1, a2, a3, a4⟩ := ad_emp_nl r8 q25
    refine ad_iconst dX4_comesEdited_28 ?_
    refine ad_istore dX4_comesEdited_29 (by decide) rfl (by dsimp only [ad_set]) ?_
    exact lp (ad_aL A v).length 0 _ a3 (by omega) (by omega) (by rw [a1]; unfold ad_edp; simp) a2 (by omega)
  · show ad_R _ _ _ _ 8 _ _ _
    refine ad_iconst dX4_comesEdited_8 ?_
    exact ad_reti dX4_comesEdited_9 rfl (by
      exfalso; exact h5 ⟨by omega, by rw [Int.toNat_natCast]; exact hv⟩)
