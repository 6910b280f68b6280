/-! ===== a plan made; a store stored by it ===== -/
theorem ad_st_at (σ : ad_Mem) (k i j : Nat) (x : Int) (a b c : Nat) : ad_st σ k i j x a b c = if a = k ∧ b = i ∧ c = j then x else σ a b c := rfl
def ad_ordL (A : ad_Ar) (k : Int) : List Nat := ad_ord A k 10
theorem ad_ordL_in {A : ad_Ar} {k : Int} : ∀ u ∈ ad_ordL A k, u < 10 ∧ ad_aH A u = true := fun u hu => (ad_ord_mem 10 u).mp hu
theorem ad_ordL_len (A : ad_Ar) (k : Int) : (ad_ordL A k).length ≤ 10 := by unfold ad_ordL; rw [ad_ord_len]; exact ad_pp_le _ _
theorem c_X3_make {g : ad_G} {d : Nat} {σ : ad_Mem} {s : Nat} {A : ad_Ar} {k f b : Int} (hs : s < 3) (hr : ad_rC σ s A) (hw : ad_wA A) (h5d : 5 ≤ d) (hst : σ 3 0 5 = (s : Int) + 1) (hk2 : 0 ≤ k ∧ k ≤ 5) (hf2 : 0 ≤ f ∧ f ≤ 9) (hb2 : 0 ≤ b ∧ b ≤ 8) (hc : ad_cch σ A) (hdr : ad_dr σ 30) : ad_V g mX3_make d [ad_rf g 3 0, ad_iv k, ad_iv f, ad_iv b] σ (fun m => ad_pS m s A k f b (ad_ordL A k) (ad_ordL A k).length ∧ ad_fr ad_TP σ m) := by
  have hlen := ad_ordL_len A k
  refine ad_M1 (k := 1) rfl (by simp [Value.category]) rfl (Nat.le_of_ble_eq_true rfl) ?_
  simp only [List.map_cons, List.map_nil, List.replicate, List.cons_append, List.nil_append]
  have lp2 : ∀ (n : Nat) (i : Int) (σ1 : ad_Mem), (ad_fr ad_TP σ σ1) → (0 ≤ i) → (i ≤ (ad_ordL A k).length) → (ad_pS σ1 s A k f b (ad_ordL A k) i.toNat) → ((ad_ordL A k).length - i).toNat ≤ n → ad_R g mX3_make d (ad_ZV mX3_make (fun m => ad_pS m s A k f b (ad_ordL A k) (ad_ordL A k).length ∧ ad_fr ad_TP σ m)) 74 [some (ad_rf g 3 0), some (ad_iv k), some (ad_iv f), some (ad_iv b), some (ad_iv i)] [] σ1 := by
    intro n
    induction n with
    | zero =>
      intro i σ1 e0 hi0 hi1 e1 hn
      refine ad_iload dX3_make_74 rfl ?_
      refine ad_aload_n dX3_make_76 rfl ?_
      refine gf_X3_45 rfl dX3_make_77 ?_
      rw [e1.2.2.2.1]
      refine ad_icmp_ge 109 dX3_make_80 (by decide) (by omega) (by omega) (fun h80 => ?_) (fun h80 => ?_)
      · skip
        exact ad_retv dX3_make_109 rfl (by
          rw [show i.toNat = (ad_ordL A k).length by omega] at e1
          exact ⟨e1, e0⟩)
      · show ad_R _ _ _ _ 83 _ _ _
        exfalso; omega
    | succ n ih =>
      intro i σ1 e0 hi0 hi1 e1 hn
      refine ad_iload dX3_make_74 rfl ?_
      refine ad_aload_n dX3_make_76 rfl ?_
      refine gf_X3_45 rfl dX3_make_77 ?_
      rw [e1.2.2.2.1]
      refine ad_icmp_ge 109 dX3_make_80 (by decide) (by omega) (by omega) (fun h80 => ?_) (fun h80 => ?_)
      · skip
        exact ad_retv dX3_make_109 rfl (by
          rw [show i.toNat = (ad_ordL A k).length by omega] at e1
          exact ⟨e1, e0⟩)
      · show ad_R _ _ _ _ 83 _ _ _
        refine ad_iload dX3_make_83 rfl ?_
        refine ad_bipush dX3_make_85 rfl ?_
        refine ad_icmp_ge 109 dX3_make_87 (by decide) (by omega) (by omega) (fun h87 => ?_) (fun h87 => ?_)
        · exfalso; omega
        · show ad_R _ _ _ _ 90 _ _ _
          refine ad_aload_n dX3_make_90 rfl ?_
          refine ad_iload dX3_make_91 rfl ?_
          refine ad_aload_n dX3_make_93 rfl ?_
          refine gf_X3_9 rfl dX3_make_94 ?_
          refine ad_iload dX3_make_97 rfl ?_
          refine ad_iald dX3_make_99 (by show _ < 1; omega) ⟨by decide, by decide⟩ (by omega) (by show _ < ((10 : Nat) : Int); omega) ?_
          rw [e1.2.2.2.2.1 i.toNat (by omega)]
          refine ad_cv2v rfl cl_X3_60 dX3_make_100 ((by
            have hz := c_X3_choose (g := g) (d := d - 1) (i := i.toNat) hs hw (by omega) hk2 hf2 hb2 ad_ordL_in (ad_ord_nodup 10) hlen (by omega) e1
            rw [show ((i.toNat : Nat) : Int) = i by omega] at hz
            exact hz)) (by omega) (by show _ < 1; omega) (Nat.le_of_ble_eq_true rfl) (fun s100 q100 => ?_)
          refine ad_iinc dX3_make_103 rfl (by decide) rfl (by dsimp only [ad_set]) ?_
          refine ad_goto 74 dX3_make_106 (by decide) ?_
          exact ih (i + 1) _ (e0.trans q100.2) (by omega) (by omega) (by rw [show (i + 1).toNat = i.toNat + 1 by omega]; exact q100.1) (by omega)
  have lp1 : ∀ (n : Nat) (i : Int) (σ1 : ad_Mem), ((∀ a c, a ≠ 3 → a ≠ 14 → σ1 a c = σ a c)) → (0 ≤ i) → (i ≤ 10) → (σ1 3 0 5 = (s : Int) + 1 ∧ σ1 3 0 7 = k ∧ σ1 3 0 8 = f ∧ σ1 3 0 9 = b ∧ σ1 3 0 6 = 0 ∧ σ1 3 0 10 = 0 ∧ σ1 3 0 11 = 0 ∧ σ1 3 0 12 = 0) → (∀ q : Nat, (q : Int) < i → σ1 14 0 q = 11) → (∀ a c, a = 14 → c ≠ 0 → σ1 a c = σ a c) → (∀ c, c ≠ 0 → σ1 3 c = σ 3 c) → (10 - i).toNat ≤ n → ad_R g mX3_make d (ad_ZV mX3_make (fun m => ad_pS m s A k f b (ad_ordL A k) (ad_ordL A k).length ∧ ad_fr ad_TP σ m)) 38 [some (ad_rf g 3 0), some (ad_iv k), some (ad_iv f), some (ad_iv b), some (ad_iv i)] [] σ1 := by
    intro n
    induction n with
    | zero =>
      intro i σ1 e0 hi0 hi1 e1 e2 e3 e4 hn
      refine ad_iload dX3_make_38 rfl ?_
      refine ad_bipush dX3_make_40 rfl ?_
      refine ad_icmp_ge 60 dX3_make_42 (by decide) (by omega) (by omega) (fun h42 => ?_) (fun h42 => ?_)
      · skip
        refine ad_aload_n dX3_make_60 rfl ?_
        refine gf_X3_31 rfl e1.1 dX3_make_61 ?_
        refine ad_ifnull dX3_make_64 ?_
        have hfr : ad_fr ad_TP σ σ1 := fun a c h => e0 a c (fun z => h (Or.inl (by omega))) (fun z => h (Or.inl (by omega)))
        have hr1 := ad_rC_TP hs hr hw hfr (fun _ _ h => h)
        refine ad_aload_n dX3_make_67 rfl ?_
        refine ad_cv0v rfl cl_X3_57 dX3_make_68 (c_X3_lineUp hs hr1 hw e1.1 (by omega) e1.2.1 hk2 e1.2.2.2.2.1) (by omega) (by show _ < 1; omega) (Nat.le_of_ble_eq_true rfl) (fun s68 q68 => ?_)
        obtain ⟨t1, t2, t3, t4⟩ := q68
        have hfr2 : ad_fr ad_TP σ1 s68 := fun a c h => by
          have hk : ad_KL a = false := by
            unfold ad_KL ad_TP at *
            simp only [Bool.or_eq_false_iff, beq_eq_false_iff_ne]
            omega
          rw [t1 a hk]
        have hps : ad_pS s68 s A k f b (ad_ordL A k) 0 := by
          refine ⟨ad_rC_TP hs hr1 hw hfr2 (fun _ _ h => h), by rw [t2 5 (by decide)]; exact e1.1, ⟨by rw [t2 7 (by decide)]; exact e1.2.1, by rw [t2 8 (by decide)]; exact e1.2.2.1, by rw [t2 9 (by decide)]; exact e1.2.2.2.1⟩, t3, t4, fun u hu => ?_, fun q hq => absurd hq (Nat.not_lt_zero _), ⟨by rw [t2 10 (by decide)]; exact e1.2.2.2.2.2.1, by rw [t2 11 (by decide)]; exact e1.2.2.2.2.2.2.1, by rw [t2 12 (by decide)]; exact e1.2.2.2.2.2.2.2⟩, ?_, ?_⟩
          · rw [t1 14 rfl]; exact e2 u (by omega)
          · intro u v hu hv
            rw [t1 16 rfl, e0 16 0 (by decide) (by decide)]; exact hc u v hu hv
          · exact ad_dr_congr (by rw [t1 10 rfl, e0 10 30 (by decide) (by decide)]) (by rw [t1 11 rfl, e0 11 30 (by decide) (by decide)]) hdr
        refine ad_iconst dX3_make_71 ?_
        refine ad_istore dX3_make_72 (by decide) rfl (by dsimp only [ad_set]) ?_
        exact lp2 (ad_ordL A k).length 0 _ (hfr.trans hfr2) (by omega) (by omega) hps (by omega)
      · show ad_R _ _ _ _ 45 _ _ _
        exfalso; omega
    | succ n ih =>
      intro i σ1 e0 hi0 hi1 e1 e2 e3 e4 hn
      refine ad_iload dX3_make_38 rfl ?_
      refine ad_bipush dX3_make_40 rfl ?_
      refine ad_icmp_ge 60 dX3_make_42 (by decide) (by omega) (by omega) (fun h42 => ?_) (fun h42 => ?_)
      · skip
        refine ad_aload_n dX3_make_60 rfl ?_
        refine gf_X3_31 rfl e1.1 dX3_make_61 ?_
        refine ad_ifnull dX3_make_64 ?_
        have hfr : ad_fr ad_TP σ σ1 := fun a c h => e0 a c (fun z => h (Or.inl (by omega))) (fun z => h (Or.inl (by omega)))
        have hr1 := ad_rC_TP hs hr hw hfr (fun _ _ h => h)
        refine ad_aload_n dX3_make_67 rfl ?_
        refine ad_cv0v rfl cl_X3_57 dX3_make_68 (c_X3_lineUp hs hr1 hw e1.1 (by omega) e1.2.1 hk2 e1.2.2.2.2.1) (by omega) (by show _ < 1; omega) (Nat.le_of_ble_eq_true rfl) (fun s68 q68 => ?_)
        obtain ⟨t1, t2, t3, t4⟩ := q68
        have hfr2 : ad_fr ad_TP σ1 s68 := fun a c h => by
          have hk : ad_KL a = false := by
            unfold ad_KL ad_TP at *
            simp only [Bool.or_eq_false_iff, beq_eq_false_iff_ne]
            omega
          rw [t1 a hk]
        have hps : ad_pS s68 s A k f b (ad_ordL A k) 0 := by
          refine ⟨ad_rC_TP hs hr1 hw hfr2 (fun _ _ h => h), by rw [t2 5 (by decide)]; exact e1.1, ⟨by rw [t2 7 (by decide)]; exact e1.2.1, by rw [t2 8 (by decide)]; exact e1.2.2.1, by rw [t2 9 (by decide)]; exact e1.2.2.2.1⟩, t3, t4, fun u hu => ?_, fun q hq => absurd hq (Nat.not_lt_zero _), ⟨by rw [t2 10 (by decide)]; exact e1.2.2.2.2.2.1, by rw [t2 11 (by decide)]; exact e1.2.2.2.2.2.2.1, by rw [t2 12 (by decide)]; exact e1.2.2.2.2.2.2.2⟩, ?_, ?_⟩
          · rw [t1 14 rfl]; exact e2 u (by omega)
          · intro u v hu hv
            rw [t1 16 rfl, e0 16 0 (by decide) (by decide)]; exact hc u v hu hv
          · exact ad_dr_congr (by rw [t1 10 rfl, e0 10 30 (by decide) (by decide)]) (by rw [t1 11 rfl, e0 11 30 (by decide) (by decide)]) hdr
        refine ad_iconst dX3_make_71 ?_
        refine ad_istore dX3_make_72 (by decide) rfl (by dsimp only [ad_set]) ?_
        exact lp2 (ad_ordL A k).length 0 _ (hfr.trans hfr2) (by omega) (by omega) hps (by omega)
      · show ad_R _ _ _ _ 45 _ _ _
        refine ad_aload_n dX3_make_45 rfl ?_
        refine gf_X3_15 rfl dX3_make_46 ?_
        refine ad_iload dX3_make_49 rfl ?_
        refine ad_bipush dX3_make_51 rfl ?_
        refine ad_iast dX3_make_53 (by show _ < 1; omega) ⟨by decide, by decide⟩ (by omega) (by show _ < ((10 : Nat) : Int); omega) ?_
        refine ad_iinc dX3_make_54 rfl (by decide) rfl (by dsimp only [ad_set]) ?_
        refine ad_goto 38 dX3_make_57 (by decide) ?_
        refine ih (i + 1) _ (fun a c h1 h2 => ?_) (by omega) (by omega) ?_ (fun q hq => ?_) (fun a c h1 h2 => ?_) (fun c h1 => ?_) (by omega)
        · rw [← e0 a c h1 h2]; funext z; simp [ad_st, h2]
        · simp only [ad_st_at]; exact e1
        · simp only [ad_st_at]
          by_cases hqi : (q : Int) = i
          · rw [if_pos ⟨trivial, trivial, by omega⟩]
          · rw [if_neg (by omega)]; exact e2 q (by omega)
        · rw [← e3 a c h1 h2]; funext z; simp [ad_st, h2]
        · rw [← e4 c h1]; funext z; simp [ad_st]
  refine ad_aload_n dX3_make_0 rfl ?_
  refine ad_iload_n dX3_make_1 rfl ?_
  refine pf_X3_35 rfl dX3_make_2 ?_
  refine ad_aload_n dX3_make_5 rfl ?_
  refine ad_iload_n dX3_make_6 rfl ?_
  refine pf_X3_39 rfl dX3_make_7 ?_
  refine ad_aload_n dX3_make_10 rfl ?_
  refine ad_iload_n dX3_make_11 rfl ?_
  refine pf_X3_42 rfl dX3_make_12 ?_
  refine ad_aload_n dX3_make_15 rfl ?_
  refine ad_iconst dX3_make_16 ?_
  refine pf_X3_45 rfl dX3_make_17 ?_
  refine ad_aload_n dX3_make_20 rfl ?_
  refine ad_iconst dX3_make_21 ?_
  refine pf_X3_48 rfl dX3_make_22 ?_
  refine ad_aload_n dX3_make_25 rfl ?_
  refine ad_iconst dX3_make_26 ?_
  refine pf_X3_51 rfl dX3_make_27 ?_
  refine ad_aload_n dX3_make_30 rfl ?_
  refine ad_iconst dX3_make_31 ?_
  refine pf_X3_54 rfl dX3_make_32 ?_
  refine ad_iconst dX3_make_35 ?_
  refine ad_istore dX3_make_36 (by decide) rfl (by dsimp only [ad_set]) ?_
  exact lp1 10 0 _ (fun a c h1 h2 => by funext z; simp [ad_st, h1]) (by omega) (by omega) (by simp [ad_st, hst]) (fun q hq => by omega) (fun a c h1 h2 => by funext z; simp [ad_st, h2]) (fun c h1 => by funext z; simp [ad_st, h1]) (by omega)
def ad_rbB (A : ad_Ar) (bs : Nat → Int) (v : Nat) : Int := if ad_aH A v = true ∧ bs v < 10 then bs v else -1
def ad_rb (A : ad_Ar) (bs : Nat → Int) : ad_Ar := ad_mk (ad_aC A) (ad_aH A) (ad_aL A) (ad_aP A) (ad_aQ A) (ad_aG A) (ad_rbB A bs) (fun v => if ad_rbB A bs v = -1 then [] else ad_dl (ad_aL A (ad_rbB A bs v).toNat) (ad_aL A v)) (ad_aE A) (ad_aK A) (ad_aF A) (ad_aN A)
theorem c_X4_storeBy {g : ad_G} {d : Nat} {σ : ad_Mem} {s : Nat} {A : ad_Ar} {bs : Nat → Int} (hs : s < 3) (hr : ad_rC σ s A) (hw : ad_wA A) (h3d : 3 ≤ d) (hbs : ∀ u, u < 10 → σ 14 0 u = bs u) (hbr : ∀ u, u < 10 → 0 ≤ bs u ∧ bs u ≤ 11) (hb : ∀ v, ad_aH A v = true → 0 ≤ bs v ∧ (bs v < 10 → ad_aH A (bs v).toNat = true ∧ (bs v).toNat ≠ v)) : ad_V g mX4_storeBy d [ad_rf g 4 s, ad_rf g 3 0] σ (fun m => ad_rC m s (ad_rb A bs) ∧ ad_fr (ad_Ts s) σ m) := by
  have hr0 := hr
  have hw0 := hw
  obtain ⟨r1, r2, r3, r4, r5, r6, r7, r8⟩ := hr
  obtain ⟨w1, w2, w3, w4, w5, w6, w7, w8, w9⟩ := hw
  refine ad_M1 (k := 2) rfl (by simp [Value.category]) rfl (Nat.le_of_ble_eq_true rfl) ?_
  simp only [List.map_cons, List.map_nil, List.replicate, List.cons_append, List.nil_append]
  have lp : ∀ (n : Nat) (v : Int) (v3 : Option Value) (σ1 : ad_Mem), (ad_fr (fun k i => (k = 0 ∨ k = 6 ∨ k = 10 ∨ k = 11) ∧ 10 * s ≤ i ∧ i < 10 * s + 10) σ σ1) → (0 ≤ v) → (v ≤ ad_aC A) → (∀ w : Nat, (w : Int) < v → ad_aH A w = true → σ1 6 (10 * s + w) 6 = ad_rbB A bs w ∧ (ad_rbB A bs w ≠ -1 → ad_ds σ1 (10 * s + w) = ad_dl (ad_aL A (ad_rbB A bs w).toNat) (ad_aL A w))) → (∀ w, w < 10 → ad_dw σ1 (10 * s + w)) → (∀ w c, c ≠ 6 → σ1 6 (10 * s + w) c = σ 6 (10 * s + w) c) → (ad_aC A - v).toNat ≤ n → ad_R g mX4_storeBy d (ad_ZV mX4_storeBy (fun m => ad_rC m s (ad_rb A bs) ∧ ad_fr (ad_Ts s) σ m)) 2 [some (ad_rf g 4 s), some (ad_rf g 3 0), some (ad_iv v), v3] [] σ1 := by
    intro n
    induction n with
    | zero =>
      intro v v3 σ1 e0 hv0 hv1 e1 e2 e3 hn
      have hc4 : σ1 4 s = σ 4 s := e0 4 s (by omega)
      have c14 : σ1 14 0 = σ 14 0 := e0 14 0 (by omega)
      have hb14 : ∀ u, u < 10 → 0 ≤ σ1 14 0 u ∧ σ1 14 0 u ≤ 11 := fun u hu => by rw [c14, hbs u hu]; exact hbr u hu
      refine ad_iload_n dX4_storeBy_2 rfl ?_
      refine ad_aload_n dX4_storeBy_3 rfl ?_
      refine gf_X4_31 rfl (by omega) dX4_storeBy_4 ?_
      rw [congrFun hc4 3]
      refine ad_icmp_ge 74 dX4_storeBy_7 (by decide) (by omega) (by omega) (fun h7 => ?_) (fun h7 => ?_)
      · skip
        exact ad_retv dX4_storeBy_74 rfl (by
          have hvc : v = ad_aC A := by omega
          have ev : ∀ k x, ¬ (k = 0 ∨ k = 6 ∨ k = 10 ∨ k = 11) → σ1 k x = σ k x := fun k x h => e0 k x (fun z => h z.1)
          refine ⟨⟨by rw [ev 4 s (by decide)]; exact r1, by rw [ev 4 s (by decide)]; exact r2, by rw [ev 4 s (by decide)]; exact r3, fun h hh => by rw [ev 19 s (by decide)]; exact r4 h hh, fun w hw => ⟨ad_nw_congr (ev 2 _ (by decide)) (ev 12 _ (by decide)) (r5 w hw).1, e2 w hw⟩, fun w hw => ?_, fun w hw => ?_, ad_nw_congr (ev 2 _ (by decide)) (ev 12 _ (by decide)) r8⟩, fun k i hk => e0 k i (fun z => hk (Or.inr (Or.inr (Or.inr ⟨by omega, z.2.1, z.2.2⟩))))⟩
          · simp only [ad_rb, ad_mkH, ad_mkL, ad_mkG, ad_mkB, ad_mkT] at hw ⊢
            have hwc := w2 w hw
            obtain ⟨g1, g2⟩ := e1 w (by omega) hw
            rw [ad_nl_congr (ev 2 _ (by decide)) (ev 12 _ (by decide)), e3 w 5 (by decide)]
            exact ⟨(r6 w hw).1, (r6 w hw).2.1, g1, fun hz => by rw [if_neg hz]; exact g2 hz⟩
          · simp only [ad_rb, ad_mkC, ad_mkP, ad_mkQ] at hw ⊢
            rw [e3 w 2 (by decide), e3 w 3 (by decide), e3 w 4 (by decide)]
            exact r7 w hw)
      · show ad_R _ _ _ _ 10 _ _ _
        exfalso; omega
    | succ n ih =>
      intro v v3 σ1 e0 hv0 hv1 e1 e2 e3 hn
      have hc4 : σ1 4 s = σ 4 s := e0 4 s (by omega)
      have c14 : σ1 14 0 = σ 14 0 := e0 14 0 (by omega)
      have hb14 : ∀ u, u < 10 → 0 ≤ σ1 14 0 u ∧ σ1 14 0 u ≤ 11 := fun u hu => by rw [c14, hbs u hu]; exact hbr u hu
      refine ad_iload_n dX4_storeBy_2 rfl ?_
      refine ad_aload_n dX4_storeBy_3 rfl ?_
      refine gf_X4_31 rfl (by omega) dX4_storeBy_4 ?_
      rw [congrFun hc4 3]
      refine ad_icmp_ge 74 dX4_storeBy_7 (by decide) (by omega) (by omega) (fun h7 => ?_) (fun h7 => ?_)
      · skip
        exact ad_retv dX4_storeBy_74 rfl (by
          have hvc : v = ad_aC A := by omega
          have ev : ∀ k x, ¬ (k = 0 ∨ k = 6 ∨ k = 10 ∨ k = 11) → σ1 k x = σ k x := fun k x h => e0 k x (fun z => h z.1)
          refine ⟨⟨by rw [ev 4 s (by decide)]; exact r1, by rw [ev 4 s (by decide)]; exact r2, by rw [ev 4 s (by decide)]; exact r3, fun h hh => by rw [ev 19 s (by decide)]; exact r4 h hh, fun w hw => ⟨ad_nw_congr (ev 2 _ (by decide)) (ev 12 _ (by decide)) (r5 w hw).1, e2 w hw⟩, fun w hw => ?_, fun w hw => ?_, ad_nw_congr (ev 2 _ (by decide)) (ev 12 _ (by decide)) r8⟩, fun k i hk => e0 k i (fun z => hk (Or.inr (Or.inr (Or.inr ⟨by omega, z.2.1, z.2.2⟩))))⟩
          · simp only [ad_rb, ad_mkH, ad_mkL, ad_mkG, ad_mkB, ad_mkT] at hw ⊢
            have hwc := w2 w hw
            obtain ⟨g1, g2⟩ := e1 w (by omega) hw
            rw [ad_nl_congr (ev 2 _ (by decide)) (ev 12 _ (by decide)), e3 w 5 (by decide)]
            exact ⟨(r6 w hw).1, (r6 w hw).2.1, g1, fun hz => by rw [if_neg hz]; exact g2 hz⟩
          · simp only [ad_rb, ad_mkC, ad_mkP, ad_mkQ] at hw ⊢
            rw [e3 w 2 (by decide), e3 w 3 (by decide), e3 w 4 (by decide)]
            exact r7 w hw)
      · show ad_R _ _ _ _ 10 _ _ _
        refine ad_aload_n dX4_storeBy_10 rfl ?_
        refine ad_iload_n dX4_storeBy_11 rfl ?_
        refine ad_cv1f rfl cl_X4_57 dX4_storeBy_12 (c_X4_holds0 hs (by rw [hc4]; exact r1) (by rw [hc4]; exact r2) w1 w2 (by omega)) (by omega) (by show _ < 3; omega) (Nat.le_of_ble_eq_true rfl) ?_
        refine ad_ifp_eq 68 dX4_storeBy_15 (by decide) (fun h15 => ?_) (fun h15 => ?_)
        · skip
          refine ad_iinc dX4_storeBy_68 rfl (by decide) rfl (by dsimp only [ad_set]) ?_
          refine ad_goto 2 dX4_storeBy_71 (by decide) ?_
          refine ih (v + 1) _ _ e0 (by omega) (by omega) (fun w hw1 hw2 => ?_) e2 e3 (by omega)
          by_cases hwv : (w : Int) = v
          · exact absurd ⟨hv0, by rw [← hwv, Int.toNat_natCast]; exact hw2⟩ h15
          · exact e1 w (by omega) hw2
        · show ad_R _ _ _ _ 18 _ _ _
          refine ad_aload_n dX4_storeBy_18 rfl ?_
          refine gf_X4_11 rfl (by omega) dX4_storeBy_19 ?_
          refine ad_iload_n dX4_storeBy_22 rfl ?_
          refine ad_aald dX4_storeBy_23 (by omega) (by omega) (by omega) ?_
          refine ad_astore_n dX4_storeBy_24 (by decide) rfl (by dsimp only [ad_set]) ?_
          refine ad_aload_n dX4_storeBy_25 rfl ?_
          refine ad_aload_n dX4_storeBy_26 rfl ?_
          refine ad_iload_n dX4_storeBy_27 rfl ?_
          refine ad_cv1f rfl cl_X4_126 dX4_storeBy_28 (c_X3_baseOf (by omega) hb14) (by omega) (by show _ < 1; omega) (Nat.le_of_ble_eq_true rfl) ?_
          have hbv := hb v.toNat h15.2
          have hrb : (if 0 ≤ v ∧ v < 10 ∧ σ1 14 0 v.toNat < 10 then σ1 14 0 v.toNat else -1) = ad_rbB A bs v.toNat := by
            rw [c14, hbs v.toNat (by omega)]
            unfold ad_rbB
            by_cases hz : bs v.toNat < 10
            · rw [if_pos ⟨by omega, by omega, hz⟩, if_pos ⟨h15.2, hz⟩]
            · rw [if_neg (fun q => hz q.2.2), if_neg (fun q => hz q.2)]
          rw [hrb]
          have hrr : ad_rbB A bs v.toNat = -1 ∨ (0 ≤ ad_rbB A bs v.toNat ∧ ad_rbB A bs v.toNat < 10 ∧ ad_aH A (ad_rbB A bs v.toNat).toNat = true ∧ (ad_rbB A bs v.toNat).toNat ≠ v.toNat) := by
            unfold ad_rbB
            by_cases hz : bs v.toNat < 10
            · right; rw [if_pos ⟨h15.2, hz⟩]; have := hbv.2 hz; exact ⟨hbv.1, hz, this.1, this.2⟩
            · left; rw [if_neg (fun q => hz q.2)]
          obtain ⟨B, hB⟩ : ∃ B, B = ad_rbB A bs v.toNat := ⟨_, rfl⟩
          rw [← hB] at hrr ⊢
          refine pf_X4_90 rfl (by omega) dX4_storeBy_31 ?_
          refine ad_aload_n dX4_storeBy_34 rfl ?_
          refine ad_aload_n dX4_storeBy_35 rfl ?_
          refine gf_X4_90 rfl (by omega) dX4_storeBy_36 ?_
          rw [show ∀ (a : ad_Mem) x y, ad_st a 6 x 6 y 6 x 6 = y from fun a x y => by simp [ad_st]]
          refine ad_cv1f rfl cl_X4_57 dX4_storeBy_39 (c_X4_holds0 hs (by rw [show ad_st σ1 6 (10 * s + v.toNat) 6 B 4 s = σ1 4 s from by funext c; simp [ad_st], hc4]; exact r1) (by rw [show ad_st σ1 6 (10 * s + v.toNat) 6 B 4 s = σ1 4 s from by funext c; simp [ad_st], hc4]; exact r2) w1 w2 (by omega)) (by omega) (by show _ < 3; omega) (Nat.le_of_ble_eq_true rfl) ?_
          refine ad_ifp_eq 68 dX4_storeBy_42 (by decide) (fun h42 => ?_) (fun h42 => ?_)
          · skip
            refine ad_iinc dX4_storeBy_68 rfl (by decide) rfl (by dsimp only [ad_set]) ?_
            refine ad_goto 2 dX4_storeBy_71 (by decide) ?_
            have hz : B = -1 := by
              rcases hrr with h | h
              · exact h
              · exact absurd ⟨h.1, h.2.2.1⟩ h42
            refine ih (v + 1) _ _ (e0.trans (ad_fr.st ⟨by simp, by omega, by omega⟩)) (by omega) (by omega) (fun w hw1 hw2 => ?_) (fun w hw => ?_) (fun w c hc => ?_) (by omega)
            · by_cases hwv : (w : Int) = v
              · have hwt : w = v.toNat := by omega
                rw [hwt, ← hB]
                refine ⟨by simp [ad_st], fun q => absurd hz q⟩
              · have hwt : w ≠ v.toNat := by omega
                have := e1 w (by omega) hw2
                refine ⟨by rw [← this.1]; simp [ad_st, hwt], fun q => ?_⟩
                rw [← this.2 q]
                exact ad_ds_congr (by funext c; simp [ad_st]) (by funext c; simp [ad_st]) (by funext c; simp [ad_st])
            · exact ad_dw_congr (by funext c; simp [ad_st]) (by funext c; simp [ad_st]) (by funext c; simp [ad_st]) (e2 w hw)
            · rw [← e3 w c hc]; simp [ad_st, hc]
          · show ad_R _ _ _ _ 45 _ _ _
            refine ad_aload_n dX4_storeBy_45 rfl ?_
            refine gf_X4_116 rfl (by omega) dX4_storeBy_46 ?_
            refine ad_aload_n dX4_storeBy_49 rfl ?_
            refine gf_X4_11 rfl (by omega) dX4_storeBy_50 ?_
            refine ad_aload_n dX4_storeBy_53 rfl ?_
            refine gf_X4_90 rfl (by omega) dX4_storeBy_54 ?_
            rw [show ∀ (a : ad_Mem) x y, ad_st a 6 x 6 y 6 x 6 = y from fun a x y => by simp [ad_st]]
            have hb2 := hrr.resolve_left (fun z => by omega)
            have hbc := w2 _ hb2.2.2.1
            have o2 : ∀ x, ad_st σ1 6 (10 * s + v.toNat) 6 B 2 x = σ 2 x := fun x => by rw [← e0 2 x (by omega)]; funext c; simp [ad_st]
            have o12 : ∀ x, ad_st σ1 6 (10 * s + v.toNat) 6 B 12 x = σ 12 x := fun x => by rw [← e0 12 x (by omega)]; funext c; simp [ad_st]
            refine ad_aald dX4_storeBy_57 (by omega) (by omega) (by omega) ?_
            refine gf_X4_61 rfl (by omega) dX4_storeBy_58 ?_
            refine ad_aload_n dX4_storeBy_61 rfl ?_
            refine gf_X4_61 rfl (by omega) dX4_storeBy_62 ?_
            refine ad_cv2v rfl cl_X4_131 dX4_storeBy_65 (c_X0_make (by omega) (by omega) (by omega) (by omega) (ad_nw_congr (o2 _) (o12 _) (r5 _ (by omega)).1) (ad_nw_congr (o2 _) (o12 _) (r5 _ (by omega)).1) (by rw [o2, ad_sz hr0 hw0 h15.2]; have := (w3 _ h15.2).1; omega) (ad_dr_congr (by funext c; simp [ad_st]) (by funext c; simp [ad_st]) (e2 v.toNat (by omega)).2.2.2)) (by omega) (by show _ < 32; omega) (Nat.le_of_ble_eq_true rfl) (fun s65 q65 => ?_)
            obtain ⟨t1, t2, t3⟩ := q65
            rw [ad_nl_congr (o2 _) (o12 _), ad_nl_congr (o2 _) (o12 _), (r6 _ hb2.2.2.1).1, (r6 _ h15.2).1] at t2
            refine ad_iinc dX4_storeBy_68 rfl (by decide) rfl (by dsimp only [ad_set]) ?_
            refine ad_goto 2 dX4_storeBy_71 (by decide) ?_
            have tk : ∀ k x, ¬ (k = 0 ∨ k = 10 ∨ k = 11) ∨ x ≠ 10 * s + v.toNat → s65 k x = ad_st σ1 6 (10 * s + v.toNat) 6 B k x := fun k x h => ad_fr_d t1 k x h
            refine ih (v + 1) _ _ ((e0.trans (ad_fr.st ⟨by simp, by omega, by omega⟩)).trans (t1.mono (fun k i h => ⟨by have := h.1; omega, by have := h.2; omega, by have := h.2; omega⟩))) (by omega) (by omega) (fun w hw1 hw2 => ?_) (fun w hw => ?_) (fun w c hc => ?_) (by omega)
            · rw [tk 6 _ (Or.inl (by decide))]
              by_cases hwv : (w : Int) = v
              · have hwt : w = v.toNat := by omega
                rw [hwt, ← hB]
                exact ⟨by simp [ad_st], fun _ => t2⟩
              · have hwt : w ≠ v.toNat := by omega
                have := e1 w (by omega) hw2
                refine ⟨by rw [← this.1]; simp [ad_st, hwt], fun q => ?_⟩
                rw [← this.2 q]
                exact ad_ds_congr (by rw [tk 0 _ (Or.inr (by omega))]; funext c; simp [ad_st]) (by rw [tk 10 _ (Or.inr (by omega))]; funext c; simp [ad_st]) (by rw [tk 11 _ (Or.inr (by omega))]; funext c; simp [ad_st])
            · by_cases hwt : w = v.toNat
              · rw [hwt]; exact t3
              · exact ad_dw_congr (by rw [tk 0 _ (Or.inr (by omega))]; funext c; simp [ad_st]) (by rw [tk 10 _ (Or.inr (by omega))]; funext c; simp [ad_st]) (by rw [tk 11 _ (Or.inr (by omega))]; funext c; simp [ad_st]) (e2 w hw)
            · rw [tk 6 _ (Or.inl (by decide)), ← e3 w c hc]; simp [ad_st, hc]
  refine ad_iconst dX4_storeBy_0 ?_
  refine ad_istore_n dX4_storeBy_1 (by decide) rfl (by dsimp only [ad_set]) ?_
  exact lp (ad_aC A) 0 _ σ ad_fr.refl (by omega) (by omega) (fun w hw => by omega) (fun w hw => (r5 w hw).2) (fun _ _ _ => rfl) (by omega)
