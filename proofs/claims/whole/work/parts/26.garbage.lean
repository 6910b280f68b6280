/-! ===== garbage goes ===== -/
def ad_live (A : ad_Ar) (w : Nat) : Bool := ad_an (ad_hdF A) 4 w && ad_aH A w
def ad_gn (A : ad_Ar) (w : Nat) : Bool := ad_aH A w && !ad_live A w
def ad_gB (A : ad_Ar) (v : Nat) : Int := if ad_live A v = true then (if ad_aB A v ≠ -1 ∧ ad_gn A (ad_aB A v).toNat = true then -1 else ad_aB A v) else -1
def ad_gc (A : ad_Ar) : ad_Ar := ad_mk (ad_aC A) (ad_live A) (fun v => if ad_live A v = true then ad_aL A v else []) (ad_aP A) (ad_aQ A) (fun v => if ad_live A v = true then ad_aG A v else 0) (ad_gB A) (fun v => if ad_gB A v = -1 then [] else ad_aT A v) (ad_aE A) (ad_aK A) (ad_aF A) (ad_aN A)
theorem ad_live_H {A : ad_Ar} {w : Nat} (h : ad_live A w = true) : ad_aH A w = true := (Bool.and_eq_true_iff.mp h).2
theorem ad_reach_self {P Q : Nat → Int} (h : ad_pw P Q) (v : Nat) : ad_reach P Q v v = true := by rw [ad_reach_eq h]; simp
/-- a chain of bases gets no longer where bases go: its depths again -/
theorem ad_ch_again {H : Nat → Bool} {B : Nat → Int} {dep : Nat → Nat} (hd : ∀ v, H v = true → dep v ≤ 8 ∧ -1 ≤ B v ∧ (B v ≠ -1 → H (B v).toNat = true ∧ dep (B v).toNat < dep v)) :
    ∃ dep' : Nat → Nat, ∀ v, H v = true → dep' v ≤ 8 ∧ (B v = -1 → dep' v = 0) ∧ (B v ≠ -1 → dep' v = dep' (B v).toNat + 1) := by
  have key : ∀ (n m v : Nat), H v = true → dep v < n → dep v < m → ad_ch H B n (v : Int) = ad_ch H B m (v : Int) ∧ 1 ≤ (ad_ch H B n (v : Int)).length ∧ (ad_ch H B n (v : Int)).length ≤ dep v + 1 := by
    intro n
    induction n with
    | zero => intro m v hv h; omega
    | succ n ih =>
      intro m v hv h1 h2
      cases m with
      | zero => omega
      | succ m =>
        have hc : (0 : Int) ≤ v ∧ H ((v : Int).toNat) = true := ⟨by omega, by rw [Int.toNat_natCast]; exact hv⟩
        rw [ad_ch, ad_ch, if_pos hc, if_pos hc, Int.toNat_natCast]
        have hdv := hd v hv
        by_cases hb : B v = -1
        · have z : ∀ k, ad_ch H B k (B v) = [] := by
            intro k
            cases k with
            | zero => rfl
            | succ k => rw [ad_ch, if_neg (by omega)]
          rw [z, z]; simp
        · have h3 := hdv.2.2 hb
          have e : B v = (((B v).toNat : Nat) : Int) := by omega
          obtain ⟨i1, i2, i3⟩ := ih m (B v).toNat h3.1 (by omega) (by omega)
          rw [e]
          refine ⟨by rw [i1], by simp, by rw [List.length_cons]; omega⟩
  refine ⟨fun v => (ad_ch H B 10 (v : Int)).length - 1, fun v hv => ?_⟩
  have hdv := hd v hv
  have hk := key 10 10 v hv (by omega) (by omega)
  have hc : (0 : Int) ≤ v ∧ H ((v : Int).toNat) = true := ⟨by omega, by rw [Int.toNat_natCast]; exact hv⟩
  show (ad_ch H B 10 (v : Int)).length - 1 ≤ 8 ∧ (B v = -1 → (ad_ch H B 10 (v : Int)).length - 1 = 0) ∧ (B v ≠ -1 → (ad_ch H B 10 (v : Int)).length - 1 = (ad_ch H B 10 (((B v).toNat : Nat) : Int)).length - 1 + 1)
  refine ⟨by omega, fun hb => ?_, fun hb => ?_⟩
  · show (ad_ch H B (9 + 1) (v : Int)).length - 1 = 0
    rw [ad_ch, if_pos hc, Int.toNat_natCast, hb, ad_ch, if_neg (by omega)]
    rfl
  · have h3 := hdv.2.2 hb
    have e : B v = (((B v).toNat : Nat) : Int) := by omega
    have hk2 := key 9 10 (B v).toNat h3.1 (by omega) (by omega)
    have e1 : (ad_ch H B 10 (v : Int)) = v :: ad_ch H B 9 (B v) := by
      show ad_ch H B (9 + 1) (v : Int) = _
      rw [ad_ch, if_pos hc, Int.toNat_natCast]
    rw [e1, List.length_cons]
    rw [← hk2.1, ← e]
    have := hk2.2.1
    rw [← e] at this
    omega
theorem ad_wA_gc {A : ad_Ar} (hw : ad_wA A) : ad_wA (ad_gc A) := by
  obtain ⟨w1, w2, w3, w4, w5, ⟨dep, w6⟩, w7, w8, w9a, w9b, w9c, w9d⟩ := hw
  have gb : ∀ v, ad_live A v = true → -1 ≤ ad_gB A v ∧ (ad_gB A v ≠ -1 → ad_gB A v = ad_aB A v ∧ ad_aB A v ≠ -1 ∧ ad_live A (ad_aB A v).toNat = true) := by
    intro v hv
    have h5 := w5 v (ad_live_H hv)
    unfold ad_gB
    rw [if_pos hv]
    by_cases hz : ad_aB A v ≠ -1 ∧ ad_gn A (ad_aB A v).toNat = true
    · rw [if_pos hz]; simp
    · rw [if_neg hz]
      refine ⟨h5.1, fun hb => ⟨rfl, hb, ?_⟩⟩
      have h6 := (h5.2 hb).2.1
      cases hl : ad_live A (ad_aB A v).toNat with
      | true => rfl
      | false => exact absurd ⟨hb, by unfold ad_gn; rw [h6, hl]; rfl⟩ hz
  unfold ad_gc ad_wA
  simp only [ad_mkC, ad_mkH, ad_mkL, ad_mkP, ad_mkQ, ad_mkG, ad_mkB, ad_mkT, ad_mkE, ad_mkK, ad_mkF, ad_mkN]
  refine ⟨w1, fun v hv => w2 v (ad_live_H hv), fun v hv => by rw [if_pos hv, if_pos hv]; exact w3 v (ad_live_H hv), w4, fun v hv => ⟨(gb v hv).1, fun hb => ?_⟩, ad_ch_again (dep := dep) (fun v hv => ?_), fun h hh => ⟨(w7 h hh).1, fun hb => ⟨((w7 h hh).2 hb).1, ?_⟩⟩, w8, fun v hv => ⟨by rw [if_neg (by rw [hv]; decide)], by rw [if_neg (by rw [hv]; decide)], by unfold ad_gB; rw [if_neg (by rw [hv]; decide)]⟩, w9b, fun v hv => by rw [if_pos hv], w9d⟩
  · obtain ⟨g1, g2, g3⟩ := (gb v hv).2 hb
    have h5 := (w5 v (ad_live_H hv)).2 g2
    rw [if_neg hb, g1, if_pos hv, if_pos g3]
    exact ⟨h5.1, g3, h5.2.2.1, h5.2.2.2⟩
  · have h6 := w6 v (ad_live_H hv)
    refine ⟨h6.1, (gb v hv).1, fun hb => ?_⟩
    obtain ⟨g1, g2, g3⟩ := (gb v hv).2 hb
    rw [g1]
    have := h6.2.2 g2
    exact ⟨g3, by omega⟩
  · have h7 := (w7 h hh).2 hb
    have h7a := (w7 h hh).1
    have hc := w2 _ h7.2
    unfold ad_live
    rw [h7.2, Bool.and_true]
    refine ad_an_of (i := h) hh ?_
    unfold ad_hdF ad_rOf
    rw [decide_eq_true (by omega), Bool.true_and]
    exact ad_reach_self w4 _
theorem c_X4_dropGarbage {g : ad_G} {d : Nat} {σ : ad_Mem} {s : Nat} {A : ad_Ar} (hs : s < 3) (hr : ad_rC σ s A) (hw : ad_wA A) (h2d : 2 ≤ d) : ad_Q g mX4_dropGarbage d [ad_rf g 4 s] σ (fun x m => x = ad_iv (ad_pp (ad_gn A) 10 : Nat) ∧ ad_rC m s (ad_gc A) ∧ ad_fr (ad_Ts s) σ m) := by
  have hr0 := hr
  have hw0 := hw
  obtain ⟨r1, r2, r3, r4, r5, r6, r7, r8⟩ := hr
  obtain ⟨w1, w2, w3, w4, w5, w6, w7, w8, w9⟩ := hw
  have r2b := ad_bits_lt (ad_aH A)
  refine ad_M1 (k := 3) rfl (by simp [Value.category]) rfl (Nat.le_of_ble_eq_true rfl) ?_
  simp only [List.map_cons, List.map_nil, List.replicate, List.cons_append, List.nil_append]
  have lp : ∀ (n : Nat) (v : Int) (σ1 : ad_Mem), (ad_fr (fun k i => k = 6 ∧ 10 * s ≤ i ∧ i < 10 * s + 10) σ σ1) → (0 ≤ v) → (v ≤ ad_aC A) → (∀ w, ad_aH A w = true → σ1 6 (10 * s + w) 6 = (if (w : Int) < v ∧ ad_live A w = true ∧ ad_aB A w ≠ -1 ∧ ad_gn A (ad_aB A w).toNat = true then -1 else ad_aB A w)) → (∀ w k, k ≠ 6 → σ1 6 (10 * s + w) k = σ 6 (10 * s + w) k) → (ad_aC A - v).toNat ≤ n → ad_R g mX4_dropGarbage d (ad_ZQ mX4_dropGarbage (fun x m => x = ad_iv (ad_pp (ad_gn A) 10 : Nat) ∧ ad_rC m s (ad_gc A) ∧ ad_fr (ad_Ts s) σ m)) 21 [some (ad_rf g 4 s), some (ad_iv (ad_bits (ad_live A) : Nat)), some (ad_iv (ad_bits (ad_gn A) : Nat)), some (ad_iv v)] [] σ1 := by
    intro n
    induction n with
    | zero =>
      intro v σ1 e0 hv0 hv1 e1 e2 hn
      refine ad_iload_n dX4_dropGarbage_21 rfl ?_
      refine ad_aload_n dX4_dropGarbage_22 rfl ?_
      refine gf_X4_31 rfl (by omega) dX4_dropGarbage_23 ?_
      have hc4 : σ1 4 s = σ 4 s := e0 4 s (fun z => absurd z.1 (by decide))
      rw [congrFun hc4 3]
      refine ad_icmp_ge 62 dX4_dropGarbage_26 (by decide) (by omega) (by omega) (fun h26 => ?_) (fun h26 => ?_)
      · skip
        refine ad_aload_n dX4_dropGarbage_62 rfl ?_
        refine ad_iload_n dX4_dropGarbage_63 rfl ?_
        refine pf_X4_35 rfl (by omega) dX4_dropGarbage_64 ?_
        refine ad_iload_n dX4_dropGarbage_67 rfl ?_
        refine ad_cs1f rfl cl_X4_140 dX4_dropGarbage_68 (c_bitCount (ad_bits_lt _)) (by omega) (Nat.le_of_ble_eq_true rfl) ?_
        rw [ad_ones_bits]
        exact ad_reti dX4_dropGarbage_71 rfl (by
          generalize hm : ad_st _ 4 s 4 _ = m
          have hl : ∀ k, m 4 s k = if k = 4 then (ad_bits (ad_live A) : Int) else σ 4 s k := by
            intro k; rw [← hm]; simp only [ad_st, true_and, congrFun hc4 k]
          have e : ∀ k i, ¬ (k = 4 ∧ i = s) → ¬ (k = 6 ∧ 10 * s ≤ i ∧ i < 10 * s + 10) → m k i = σ k i := by
            intro k i h h2
            rw [← e0 k i h2]
            funext c
            rw [← hm]
            simp only [ad_st]
            rw [if_neg (fun z => h ⟨z.1, z.2.1⟩)]
          have e6 : ∀ w k, m 6 (10 * s + w) k = σ1 6 (10 * s + w) k := by
            intro w k; rw [← hm]; simp [ad_st]
          have ev : ∀ k w, k ≠ 4 → k ≠ 6 → m k (10 * s + w) = σ k (10 * s + w) := fun k w h4 h6 => e k _ (fun z => h4 z.1) (fun z => h6 z.1)
          refine ⟨rfl, ⟨?_, ?_, ?_, ?_, ?_, ?_, ?_, ?_⟩, ?_⟩
          · rw [hl]; simp only [ad_gc, ad_mkC]; exact r1
          · rw [hl, if_pos rfl]; simp only [ad_gc, ad_mkH]
          · rw [hl, hl, hl]; simp only [ad_gc, ad_mkK, ad_mkF, ad_mkN]; exact r3
          · intro h hh
            rw [e 19 s (by omega) (by omega)]; exact r4 h hh
          · intro w hw
            exact ⟨ad_nw_congr (ev 2 w (by decide) (by decide)) (ev 12 w (by decide) (by decide)) (r5 w hw).1, ad_dw_congr (ev 0 w (by decide) (by decide)) (ev 10 w (by decide) (by decide)) (ev 11 w (by decide) (by decide)) (r5 w hw).2⟩
          · intro w hw
            simp only [ad_gc, ad_mkH, ad_mkL, ad_mkG, ad_mkB, ad_mkT] at hw ⊢
            have hH := ad_live_H hw
            have h6 := r6 w hH
            have hw2 := w2 w hH
            rw [if_pos hw, if_pos hw, ad_nl_congr (ev 2 w (by decide) (by decide)) (ev 12 w (by decide) (by decide)), ad_ds_congr (ev 0 w (by decide) (by decide)) (ev 10 w (by decide) (by decide)) (ev 11 w (by decide) (by decide)), e6, e6, e1 w hH, e2 w 5 (by decide)]
            unfold ad_gB
            rw [if_pos hw]
            refine ⟨h6.1, h6.2.1, ?_, ?_⟩
            · by_cases hz : ad_aB A w ≠ -1 ∧ ad_gn A (ad_aB A w).toNat = true
              · rw [if_pos ⟨by omega, hw, hz.1, hz.2⟩, if_pos hz]
              · rw [if_neg (fun q => hz q.2.2), if_neg hz]
            · by_cases hz : ad_aB A w ≠ -1 ∧ ad_gn A (ad_aB A w).toNat = true
              · rw [if_pos hz]; intro q; exact absurd rfl q
              · rw [if_neg hz]; intro q; rw [if_neg q]; exact h6.2.2.2 q
          · intro w hw
            simp only [ad_gc, ad_mkC, ad_mkP, ad_mkQ] at hw ⊢
            rw [e6, e6, e6, e2 w 2 (by decide), e2 w 3 (by decide), e2 w 4 (by decide)]
            exact r7 w hw
          · exact ad_nw_congr (e 2 _ (by omega) (by omega)) (e 12 _ (by omega) (by omega)) r8
          · intro k i hk
            refine e k i (fun z => hk (Or.inl z)) (fun z => hk (Or.inr (Or.inr (Or.inr ⟨by simp [z.1], z.2.1, z.2.2⟩)))))
      · show ad_R _ _ _ _ 29 _ _ _
        exfalso; omega
    | succ n ih =>
      intro v σ1 e0 hv0 hv1 e1 e2 hn
      refine ad_iload_n dX4_dropGarbage_21 rfl ?_
      refine ad_aload_n dX4_dropGarbage_22 rfl ?_
      refine gf_X4_31 rfl (by omega) dX4_dropGarbage_23 ?_
      have hc4 : σ1 4 s = σ 4 s := e0 4 s (fun z => absurd z.1 (by decide))
      rw [congrFun hc4 3]
      refine ad_icmp_ge 62 dX4_dropGarbage_26 (by decide) (by omega) (by omega) (fun h26 => ?_) (fun h26 => ?_)
      · skip
        refine ad_aload_n dX4_dropGarbage_62 rfl ?_
        refine ad_iload_n dX4_dropGarbage_63 rfl ?_
        refine pf_X4_35 rfl (by omega) dX4_dropGarbage_64 ?_
        refine ad_iload_n dX4_dropGarbage_67 rfl ?_
        refine ad_cs1f rfl cl_X4_140 dX4_dropGarbage_68 (c_bitCount (ad_bits_lt _)) (by omega) (Nat.le_of_ble_eq_true rfl) ?_
        rw [ad_ones_bits]
        exact ad_reti dX4_dropGarbage_71 rfl (by
          generalize hm : ad_st _ 4 s 4 _ = m
          have hl : ∀ k, m 4 s k = if k = 4 then (ad_bits (ad_live A) : Int) else σ 4 s k := by
            intro k; rw [← hm]; simp only [ad_st, true_and, congrFun hc4 k]
          have e : ∀ k i, ¬ (k = 4 ∧ i = s) → ¬ (k = 6 ∧ 10 * s ≤ i ∧ i < 10 * s + 10) → m k i = σ k i := by
            intro k i h h2
            rw [← e0 k i h2]
            funext c
            rw [← hm]
            simp only [ad_st]
            rw [if_neg (fun z => h ⟨z.1, z.2.1⟩)]
          have e6 : ∀ w k, m 6 (10 * s + w) k = σ1 6 (10 * s + w) k := by
            intro w k; rw [← hm]; simp [ad_st]
          have ev : ∀ k w, k ≠ 4 → k ≠ 6 → m k (10 * s + w) = σ k (10 * s + w) := fun k w h4 h6 => e k _ (fun z => h4 z.1) (fun z => h6 z.1)
          refine ⟨rfl, ⟨?_, ?_, ?_, ?_, ?_, ?_, ?_, ?_⟩, ?_⟩
          · rw [hl]; simp only [ad_gc, ad_mkC]; exact r1
          · rw [hl, if_pos rfl]; simp only [ad_gc, ad_mkH]
          · rw [hl, hl, hl]; simp only [ad_gc, ad_mkK, ad_mkF, ad_mkN]; exact r3
          · intro h hh
            rw [e 19 s (by omega) (by omega)]; exact r4 h hh
          · intro w hw
            exact ⟨ad_nw_congr (ev 2 w (by decide) (by decide)) (ev 12 w (by decide) (by decide)) (r5 w hw).1, ad_dw_congr (ev 0 w (by decide) (by decide)) (ev 10 w (by decide) (by decide)) (ev 11 w (by decide) (by decide)) (r5 w hw).2⟩
          · intro w hw
            simp only [ad_gc, ad_mkH, ad_mkL, ad_mkG, ad_mkB, ad_mkT] at hw ⊢
            have hH := ad_live_H hw
            have h6 := r6 w hH
            have hw2 := w2 w hH
            rw [if_pos hw, if_pos hw, ad_nl_congr (ev 2 w (by decide) (by decide)) (ev 12 w (by decide) (by decide)), ad_ds_congr (ev 0 w (by decide) (by decide)) (ev 10 w (by decide) (by decide)) (ev 11 w (by decide) (by decide)), e6, e6, e1 w hH, e2 w 5 (by decide)]
            unfold ad_gB
            rw [if_pos hw]
            refine ⟨h6.1, h6.2.1, ?_, ?_⟩
            · by_cases hz : ad_aB A w ≠ -1 ∧ ad_gn A (ad_aB A w).toNat = true
              · rw [if_pos ⟨by omega, hw, hz.1, hz.2⟩, if_pos hz]
              · rw [if_neg (fun q => hz q.2.2), if_neg hz]
            · by_cases hz : ad_aB A w ≠ -1 ∧ ad_gn A (ad_aB A w).toNat = true
              · rw [if_pos hz]; intro q; exact absurd rfl q
              · rw [if_neg hz]; intro q; rw [if_neg q]; exact h6.2.2.2 q
          · intro w hw
            simp only [ad_gc, ad_mkC, ad_mkP, ad_mkQ] at hw ⊢
            rw [e6, e6, e6, e2 w 2 (by decide), e2 w 3 (by decide), e2 w 4 (by decide)]
            exact r7 w hw
          · exact ad_nw_congr (e 2 _ (by omega) (by omega)) (e 12 _ (by omega) (by omega)) r8
          · intro k i hk
            refine e k i (fun z => hk (Or.inl z)) (fun z => hk (Or.inr (Or.inr (Or.inr ⟨by simp [z.1], z.2.1, z.2.2⟩)))))
      · show ad_R _ _ _ _ 29 _ _ _
        refine ad_aload_n dX4_dropGarbage_29 rfl ?_
        refine ad_iload_n dX4_dropGarbage_30 rfl ?_
        refine ad_cv1f rfl cl_X4_57 dX4_dropGarbage_31 (c_X4_holds0 hs (by rw [hc4]; exact r1) (by rw [hc4]; exact r2) w1 w2 (by omega)) (by omega) (by show _ < 3; omega) (Nat.le_of_ble_eq_true rfl) ?_
        refine ad_ifp_eq 56 dX4_dropGarbage_34 (by decide) (fun h34 => ?_) (fun h34 => ?_)
        · skip
          refine ad_iinc dX4_dropGarbage_56 rfl (by decide) rfl (by dsimp only [ad_set]) ?_
          refine ad_goto 21 dX4_dropGarbage_59 (by decide) ?_
          refine ih (v + 1) _ e0 (by omega) (by omega) (fun w hw => ?_) e2 (by omega)
          rw [e1 w hw]
          by_cases hwv : (w : Int) = v
          · exact absurd ⟨hv0, by rw [← hwv, Int.toNat_natCast]; exact hw⟩ h34
          · by_cases hz : (w : Int) < v ∧ ad_live A w = true ∧ ad_aB A w ≠ -1 ∧ ad_gn A (ad_aB A w).toNat = true
            · rw [if_pos hz, if_pos ⟨by omega, hz.2⟩]
            · rw [if_neg hz, if_neg (fun q => hz ⟨by have := q.1; omega, q.2⟩)]
        · show ad_R _ _ _ _ 37 _ _ _
          refine ad_iload_n dX4_dropGarbage_37 rfl ?_
          refine ad_iload_n dX4_dropGarbage_38 rfl ?_
          refine ad_ishr dX4_dropGarbage_39 ?_
          refine ad_iconst dX4_dropGarbage_40 ?_
          refine ad_iand dX4_dropGarbage_41 ?_
          rw [ad_bitI ⟨by have := ad_bits_lt (ad_live A); omega, by have := ad_bits_lt (ad_live A); omega⟩ ⟨by omega, by omega⟩]
          refine ad_iconst dX4_dropGarbage_42 ?_
          refine ad_icmp_ne_p1 56 dX4_dropGarbage_43 (by decide) (fun h43 => ?_) (fun h43 => ?_)
          · skip
            refine ad_iinc dX4_dropGarbage_56 rfl (by decide) rfl (by dsimp only [ad_set]) ?_
            refine ad_goto 21 dX4_dropGarbage_59 (by decide) ?_
            refine ih (v + 1) _ e0 (by omega) (by omega) (fun w hw => ?_) e2 (by omega)
            rw [e1 w hw]
            by_cases hwv : (w : Int) = v
            · have hnl : ¬ ad_live A w = true := fun z => h43 ((ad_bits_tbI (ad_live A) hv0).mpr ⟨by omega, by rw [← hwv, Int.toNat_natCast]; exact z⟩)
              rw [if_neg (fun z => hnl z.2.1), if_neg (fun z => hnl z.2.1)]
            · by_cases hz : (w : Int) < v ∧ ad_live A w = true ∧ ad_aB A w ≠ -1 ∧ ad_gn A (ad_aB A w).toNat = true
              · rw [if_pos hz, if_pos ⟨by omega, hz.2⟩]
              · rw [if_neg hz, if_neg (fun q => hz ⟨by have := q.1; omega, q.2⟩)]
          · show ad_R _ _ _ _ 46 _ _ _
            refine ad_aload_n dX4_dropGarbage_46 rfl ?_
            refine gf_X4_11 rfl (by omega) dX4_dropGarbage_47 ?_
            refine ad_iload_n dX4_dropGarbage_50 rfl ?_
            refine ad_aald dX4_dropGarbage_51 (by omega) (by omega) (by omega) ?_
            refine ad_iload_n dX4_dropGarbage_52 rfl ?_
            have h5 := w5 _ h34.2
            have hb1 := e1 _ h34.2
            rw [if_neg (by omega)] at hb1
            have hbr : -1 ≤ σ1 6 (10 * s + v.toNat) 6 ∧ σ1 6 (10 * s + v.toNat) 6 < 10 := by
              rw [hb1]
              refine ⟨h5.1, ?_⟩
              by_cases hz : ad_aB A v.toNat = -1
              · omega
              · exact (h5.2 hz).1
            refine ad_cv1v rfl cl_X4_137 dX4_dropGarbage_53 (c_X6_leave (by omega) (by omega) (by have := ad_bits_lt (ad_gn A); omega) hbr) (by omega) (by show _ < 30; omega) (Nat.le_of_ble_eq_true rfl) (fun s53 q53 => ?_)
            refine ad_iinc dX4_dropGarbage_56 rfl (by decide) rfl (by dsimp only [ad_set]) ?_
            refine ad_goto 21 dX4_dropGarbage_59 (by decide) ?_
            have hlv : ad_live A v.toNat = true := ((ad_bits_tbI (ad_live A) hv0).mp h43).2
            have hgt : ∀ (b : Int), 0 ≤ b → b < 10 → (ad_tb (ad_bits (ad_gn A) : Nat) b ↔ ad_gn A b.toNat = true) := fun b h1 h2 => ⟨fun z => ((ad_bits_tbI _ h1).mp z).2, fun z => (ad_bits_tbI _ h1).mpr ⟨h2, z⟩⟩
            rw [hb1] at q53
            have hsame : ∀ k i, ¬ (k = 6 ∧ i = 10 * s + v.toNat) → s53 k i = σ1 k i := by
              intro k i hki
              rw [q53]
              split
              · funext c; simp only [ad_st]; rw [if_neg (fun z => hki ⟨z.1, z.2.1⟩)]
              · rfl
            have h5b : ∀ k, k ≠ 6 → s53 6 (10 * s + v.toNat) k = σ1 6 (10 * s + v.toNat) k := by
              intro k hk
              rw [q53]
              split
              · simp [ad_st, hk]
              · rfl
            refine ih (v + 1) _ (e0.trans (fun k i hk => hsame k i (fun z => hk ⟨z.1, by have := z.2; omega, by have := z.2; omega⟩))) (by omega) (by omega) (fun w hw => ?_) (fun w k hk => ?_) (by omega)
            · by_cases hwv : (w : Int) = v
              · have hwt : w = v.toNat := by omega
                subst hwt
                rw [q53]
                by_cases hz : ad_aB A v.toNat ≠ -1 ∧ ad_tb (ad_bits (ad_gn A) : Nat) (ad_aB A v.toNat)
                · rw [if_pos hz, if_pos ⟨by omega, hlv, hz.1, (hgt _ (by omega) ((h5.2 hz.1).1)).mp hz.2⟩]; simp [ad_st]
                · rw [if_neg hz, if_neg (fun q => hz ⟨q.2.2.1, (hgt _ (by have := q.2.2.1; omega) ((h5.2 q.2.2.1).1)).mpr q.2.2.2⟩), hb1]
              · rw [hsame 6 (10 * s + w) (fun z => hwv (by have := z.2; omega)), e1 w hw]
                by_cases hz : (w : Int) < v ∧ ad_live A w = true ∧ ad_aB A w ≠ -1 ∧ ad_gn A (ad_aB A w).toNat = true
                · rw [if_pos hz, if_pos ⟨by omega, hz.2⟩]
                · rw [if_neg hz, if_neg (fun q => hz ⟨by have := q.1; omega, q.2⟩)]
            · by_cases hwv : w = v.toNat
              · rw [hwv, h5b k hk, e2 _ k hk]
              · rw [hsame 6 (10 * s + w) (fun z => hwv (by have := z.2; omega)), e2 w k hk]
  refine ad_aload_n dX4_dropGarbage_0 rfl ?_
  refine ad_cv0f rfl cl_X4_134 dX4_dropGarbage_1 (c_X4_reachedFromHeads hs hr0 hw0 (by omega)) (by omega) (by show _ < 3; omega) (Nat.le_of_ble_eq_true rfl) ?_
  refine ad_aload_n dX4_dropGarbage_4 rfl ?_
  refine gf_X4_35 rfl (by omega) dX4_dropGarbage_5 ?_
  rw [r2]
  refine ad_iand dX4_dropGarbage_8 ?_
  rw [ad_and_bits, show (fun w => ad_an (ad_hdF A) 4 w && ad_aH A w) = ad_live A from rfl]
  refine ad_istore_n dX4_dropGarbage_9 (by decide) rfl (by dsimp only [ad_set]) ?_
  refine ad_aload_n dX4_dropGarbage_10 rfl ?_
  refine gf_X4_35 rfl (by omega) dX4_dropGarbage_11 ?_
  rw [r2]
  refine ad_iload_n dX4_dropGarbage_14 rfl ?_
  refine ad_iconst dX4_dropGarbage_15 ?_
  refine ad_ixor dX4_dropGarbage_16 ?_
  refine ad_iand dX4_dropGarbage_17 ?_
  rw [ad_not_bits, show (fun w => ad_aH A w && !ad_live A w) = ad_gn A from rfl]
  refine ad_istore_n dX4_dropGarbage_18 (by decide) rfl (by dsimp only [ad_set]) ?_
  refine ad_iconst dX4_dropGarbage_19 ?_
  refine ad_istore_n dX4_dropGarbage_20 (by decide) rfl (by dsimp only [ad_set]) ?_
  exact lp (ad_aC A) 0 _ ad_fr.refl (by omega) (by omega) (fun w hw => by rw [if_neg (by omega)]; exact (r6 w hw).2.2.1) (fun _ _ _ => rfl) (by omega)
