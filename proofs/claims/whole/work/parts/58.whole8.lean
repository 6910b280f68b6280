/-! ===== the reference: one version's numbers changed; stored whole ===== -/
theorem ad_ra_set {a b : Nat → Int} {A A' : ad_Ar} (v : Nat) (hv : v < 10) (hr : ad_ra a A) (hC : ad_aC A ≤ ad_aC A' ∧ ad_aC A' ≤ 10) (hCn : ∀ u, u < ad_aC A' → u ≠ v → u < ad_aC A) (h500 : b 500 = (ad_aC A' : Int)) (hout : ∀ i, i < 520 → i ≠ 500 → (i < 50 * v ∨ 50 * v + 50 ≤ i) → b i = a i) (hin : ∀ i, 50 * v ≤ i → i < 50 * v + 50 → ad_rng (b i))
    (hs1 : ∀ u, u ≠ v → ad_aH A' u = ad_aH A u ∧ ad_aP A' u = ad_aP A u ∧ ad_aQ A' u = ad_aQ A u ∧ ad_aG A' u = ad_aG A u ∧ ad_aB A' u = ad_aB A u ∧ ad_aT A' u = ad_aT A u) (hs2 : ∀ u, u ≠ v → ad_aH A u = true → (ad_aL A' u).length ≤ 12 ∧ (ad_aB A u = -1 → ad_aL A' u = ad_aL A u))
    (hE : ad_aE A' = ad_aE A ∧ ad_aK A' = ad_aK A ∧ ad_aF A' = ad_aF A ∧ ad_aN A' = ad_aN A) (hH : b (50 * v) = if ad_aH A' v = true then 1 else 0) (hP : v < ad_aC A' → b (50 * v + 2) = ad_lk (ad_aP A' v) ∧ b (50 * v + 3) = ad_lk (ad_aQ A' v))
    (hV : ad_aH A' v = true → v < ad_aC A' ∧ (ad_aL A' v).length ≤ 12 ∧ (ad_aT A' v).length ≤ 12 ∧ ad_rv b A' v) : ad_ra b A' := by
  obtain ⟨⟨h1, h1b⟩, ⟨h2, h3, h4, h5, h6⟩, h7, h8, h9, h10⟩ := hr
  obtain ⟨e1, e2, e3, e4⟩ := hE
  refine ⟨⟨hC.2, fun u hu => ?_⟩, ⟨h500, fun q hq => ?_, ?_, ?_, ?_⟩, fun u hu => ?_, fun u hu => ?_, fun u hu => ?_, fun i hi => ?_⟩
  · by_cases huv : u = v
    · subst huv; exact ⟨(hV hu).1, (hV hu).2.1, (hV hu).2.2.1⟩
    · obtain ⟨g1, g2, g3, g4, g5, g6⟩ := hs1 u huv
      rw [g1] at hu
      have := h1b u hu
      rw [g6]
      exact ⟨by omega, (hs2 u huv hu).1, this.2.2⟩
  · rw [hout _ (by omega) (by omega) (by omega), e1]; exact h3 q hq
  · rw [hout _ (by omega) (by omega) (by omega), e2]; exact h4
  · rw [hout _ (by omega) (by omega) (by omega), e3]; exact h5
  · rw [hout _ (by omega) (by omega) (by omega), e4]; exact h6
  · by_cases huv : u = v
    · subst huv; exact hH
    · rw [hout _ (by omega) (by omega) (by omega), (hs1 u huv).1]; exact h7 u hu
  · by_cases huv : u = v
    · subst huv; exact hP hu
    · obtain ⟨g1, g2, g3, g4, g5, g6⟩ := hs1 u huv
      rw [hout _ (by omega) (by omega) (by omega), hout _ (by omega) (by omega) (by omega), g2, g3]; exact h8 u (hCn u hu huv)
  · by_cases huv : u = v
    · subst huv; exact (hV hu).2.2.2
    · obtain ⟨g1, g2, g3, g4, g5, g6⟩ := hs1 u huv
      rw [g1] at hu
      obtain ⟨k1, k2, k3⟩ := h1b u hu
      obtain ⟨v1, v2, v3, v4⟩ := h9 u hu
      unfold ad_rv
      rw [g4, g5, g6]
      refine ⟨by rw [hout _ (by omega) (by omega) (by omega)]; exact v1, by rw [hout _ (by omega) (by omega) (by omega)]; exact v2, fun q => ?_, fun q => ?_⟩
      · rw [(hs2 u huv hu).2 q]
        exact ⟨by rw [hout _ (by omega) (by omega) (by omega)]; exact (v3 q).1, fun i hi => by rw [hout _ (by omega) (by omega) (by omega)]; exact (v3 q).2 i hi⟩
      · exact ⟨by rw [hout _ (by omega) (by omega) (by omega)]; exact (v4 q).1, fun i hi => ⟨by rw [hout _ (by omega) (by omega) (by omega)]; exact ((v4 q).2 i hi).1, by rw [hout _ (by omega) (by omega) (by omega)]; exact ((v4 q).2 i hi).2⟩⟩
  · by_cases h50 : 50 * v ≤ i ∧ i < 50 * v + 50
    · exact hin i h50.1 h50.2
    · by_cases hi5 : i = 500
      · subst hi5; rw [h500]; constructor <;> omega
      · rw [hout i hi hi5 (by omega)]; exact h10 i hi
/-- v stored whole -/
def ad_wh (A : ad_Ar) (v : Nat) : ad_Ar := ad_mk (ad_aC A) (ad_aH A) (ad_aL A) (ad_aP A) (ad_aQ A) (ad_aG A) (fun u => if u = v then -1 else ad_aB A u) (fun u => if u = v then [] else ad_aT A u) (ad_aE A) (ad_aK A) (ad_aF A) (ad_aN A)
theorem c_X8_whole {g : ad_G} {d : Nat} {σ : ad_Mem} {A : ad_Ar} (hr0 : ad_ra (σ 21 0) A) {v : Nat} (hv : ad_aH A v = true) (hlx : ∀ x ∈ ad_aL A v, 0 ≤ x ∧ x ≤ 7) (h29 : σ 29 0 v = ((ad_aL A v).length : Int)) (h28 : ∀ i, i < (ad_aL A v).length → σ 28 0 (12 * v + i) = (ad_aL A v).getD i 0) : ad_V g mX8_whole d [ad_rf g 8 0, ad_iv (v : Int)] σ (fun m => ad_f8 [21] [] σ m ∧ ad_ra (m 21 0) (ad_wh A v)) := by
  have hr := hr0
  obtain ⟨⟨r1, r1b⟩, ⟨r2, r3, r4, r5, r6⟩, r7, r8, r9, r10⟩ := hr
  obtain ⟨hvc, hl12, ht12⟩ := r1b v hv
  have hv10 : v < 10 := by omega
  obtain ⟨hv1, hv2, hv3, hv4⟩ := r9 v hv
  have hl : ∀ (n : Nat) (i : Nat) (m : ad_Mem), (i ≤ (ad_aL A v).length) → (ad_f8 [21] [] σ m) → (∀ c, (c < 50 * v ∨ 50 * v + 50 ≤ c) → m 21 0 c = σ 21 0 c) → (∀ c, 50 * v ≤ c → c < 50 * v + 50 → ad_rng (m 21 0 c)) → (m 21 0 (50 * v) = σ 21 0 (50 * v) ∧ m 21 0 (50 * v + 1) = σ 21 0 (50 * v + 1) ∧ m 21 0 (50 * v + 2) = σ 21 0 (50 * v + 2) ∧ m 21 0 (50 * v + 3) = σ 21 0 (50 * v + 3) ∧ m 21 0 (50 * v + 4) = -9 ∧ m 21 0 (50 * v + 5) = (ad_aL A v).length) → (∀ j, j < i → m 21 0 (50 * v + 6 + j) = (ad_aL A v).getD j 0) → ((((ad_aL A v).length - i : Nat) : Int)).toNat ≤ n → ad_R g mX8_whole d (ad_ZV mX8_whole (fun m => ad_f8 [21] [] σ m ∧ ad_ra (m 21 0) (ad_wh A v))) 41 [some (ad_rf g 8 0), some (ad_iv (v : Int)), some (ad_iv (50 * (v : Int))), some (ad_iv (i : Int))] [] m := by
    intro n
    induction n with
    | zero =>
      intro i m hi hf e0 e1 e2 e3 hn
      refine ad_iload_n dX8_whole_41 rfl ?_
      refine ad_aload_n dX8_whole_42 rfl ?_
      refine gf_X8_34 rfl dX8_whole_43 ?_
      refine ad_iload_n dX8_whole_46 rfl ?_
      refine ad_ialj (v) dX8_whole_47 (by decide) ⟨by decide, by decide⟩ (by omega) (by show _ < 10; omega) (((congrFun (hf.1 29 0 (by decide) (by decide)) _).trans h29)) ?_
      refine ad_icmp_ge 79 dX8_whole_48 (by decide) (by omega) (by omega) (fun h48 => ?_) (fun h48 => ?_)
      · skip
        exact ad_retv dX8_whole_79 rfl (by
              refine ⟨hf, ad_ra_set v hv10 hr0 ⟨Nat.le_refl _, r1⟩ (fun u hu _ => hu) (by rw [e0 500 (by omega)]; exact r2) (fun c _ _ h => e0 c h) (fun c h1 h2 => e1 c h1 h2) (fun u hu => ⟨rfl, rfl, rfl, rfl, if_neg hu, if_neg hu⟩) (fun u hu hH => ⟨(r1b u hH).2.1, fun _ => rfl⟩) ⟨rfl, rfl, rfl, rfl⟩ (e2.1.trans (r7 v hv10)) (fun _ => ⟨e2.2.2.1.trans (r8 v hvc).1, e2.2.2.2.1.trans (r8 v hvc).2⟩) (fun _ => ⟨hvc, hl12, ?_, e2.2.1.trans hv1, ?_, fun _ => ⟨e2.2.2.2.2.2, fun j hj => e3 j (by show _ < i; have : j < (ad_aL A v).length := hj; omega)⟩, fun q => absurd (show ad_aB (ad_wh A v) v = -1 from if_pos rfl) q⟩)⟩
              · show (if v = v then [] else ad_aT A v : List (Int × Int)).length ≤ 12
                rw [if_pos rfl]; simp
              · show _ = ad_lk (if v = v then -1 else ad_aB A v)
                rw [if_pos rfl]; exact e2.2.2.2.2.1)
      · show ad_R _ _ _ _ 51 _ _ _
        exfalso; omega
    | succ n ih =>
      intro i m hi hf e0 e1 e2 e3 hn
      refine ad_iload_n dX8_whole_41 rfl ?_
      refine ad_aload_n dX8_whole_42 rfl ?_
      refine gf_X8_34 rfl dX8_whole_43 ?_
      refine ad_iload_n dX8_whole_46 rfl ?_
      refine ad_ialj (v) dX8_whole_47 (by decide) ⟨by decide, by decide⟩ (by omega) (by show _ < 10; omega) (((congrFun (hf.1 29 0 (by decide) (by decide)) _).trans h29)) ?_
      refine ad_icmp_ge 79 dX8_whole_48 (by decide) (by omega) (by omega) (fun h48 => ?_) (fun h48 => ?_)
      · skip
        exact ad_retv dX8_whole_79 rfl (by
              refine ⟨hf, ad_ra_set v hv10 hr0 ⟨Nat.le_refl _, r1⟩ (fun u hu _ => hu) (by rw [e0 500 (by omega)]; exact r2) (fun c _ _ h => e0 c h) (fun c h1 h2 => e1 c h1 h2) (fun u hu => ⟨rfl, rfl, rfl, rfl, if_neg hu, if_neg hu⟩) (fun u hu hH => ⟨(r1b u hH).2.1, fun _ => rfl⟩) ⟨rfl, rfl, rfl, rfl⟩ (e2.1.trans (r7 v hv10)) (fun _ => ⟨e2.2.2.1.trans (r8 v hvc).1, e2.2.2.2.1.trans (r8 v hvc).2⟩) (fun _ => ⟨hvc, hl12, ?_, e2.2.1.trans hv1, ?_, fun _ => ⟨e2.2.2.2.2.2, fun j hj => e3 j (by show _ < i; have : j < (ad_aL A v).length := hj; omega)⟩, fun q => absurd (show ad_aB (ad_wh A v) v = -1 from if_pos rfl) q⟩)⟩
              · show (if v = v then [] else ad_aT A v : List (Int × Int)).length ≤ 12
                rw [if_pos rfl]; simp
              · show _ = ad_lk (if v = v then -1 else ad_aB A v)
                rw [if_pos rfl]; exact e2.2.2.2.2.1)
      · show ad_R _ _ _ _ 51 _ _ _
        refine ad_aload_n dX8_whole_51 rfl ?_
        refine gf_X8_9 rfl dX8_whole_52 ?_
        refine ad_iload_n dX8_whole_55 rfl ?_
        refine ad_bipush dX8_whole_56 rfl ?_
        refine ad_iadd dX8_whole_58 ?_
        refine ad_iload_n dX8_whole_59 rfl ?_
        refine ad_iadd dX8_whole_60 ?_
        refine ad_aload_n dX8_whole_61 rfl ?_
        refine gf_X8_31 rfl dX8_whole_62 ?_
        refine ad_bipush dX8_whole_65 rfl ?_
        refine ad_iload_n dX8_whole_67 rfl ?_
        refine ad_imul dX8_whole_68 ?_
        refine ad_iload_n dX8_whole_69 rfl ?_
        refine ad_iadd dX8_whole_70 ?_
        refine ad_ialj (12 * v + i) dX8_whole_71 (by decide) ⟨by decide, by decide⟩ (by omega) (by show _ < 120; omega) (((congrFun (hf.1 28 0 (by decide) (by decide)) _).trans (h28 i (by omega)))) ?_
        refine ad_iasj (50 * v + 6 + i) dX8_whole_72 (by decide) ⟨by decide, by decide⟩ (by omega) (by show _ < 520; omega) ?_
        refine ad_iinc dX8_whole_73 rfl (by decide) rfl (by dsimp only [ad_set]) ?_
        refine ad_goto 41 dX8_whole_76 (by decide) ?_
        exact ih (i + 1) _ (by omega) (hf.trans (ad_f8.st (by decide) (by decide))) (fun c hc => by
          rw [ad_st_r1, ad_u1_ne _ _ (by omega)]; exact e0 c hc) (fun c h1 h2 => by
          rw [ad_st_r1]; unfold ad_u1; split
          · rw [List.getD_eq_getElem?_getD, List.getElem?_eq_getElem (by omega)]; have := hlx _ (List.getElem_mem (show i < (ad_aL A v).length by omega)); exact ⟨by simp only [Option.getD_some]; omega, by simp only [Option.getD_some]; omega⟩
          · exact e1 c h1 h2) ⟨by rw [ad_st_r1, ad_u1_ne _ _ (by omega)]; exact e2.1, by rw [ad_st_r1, ad_u1_ne _ _ (by omega)]; exact e2.2.1, by rw [ad_st_r1, ad_u1_ne _ _ (by omega)]; exact e2.2.2.1, by rw [ad_st_r1, ad_u1_ne _ _ (by omega)]; exact e2.2.2.2.1, by rw [ad_st_r1, ad_u1_ne _ _ (by omega)]; exact e2.2.2.2.2.1, by rw [ad_st_r1, ad_u1_ne _ _ (by omega)]; exact e2.2.2.2.2.2⟩ (fun j hj => by
          rw [ad_st_r1]
          by_cases hji : j = i
          · subst hji; rw [ad_u1_eq]
          · rw [ad_u1_ne _ _ (by omega)]; exact e3 j (by omega)) (by omega)
  refine ad_M1 (k := 2) rfl (by simp [Value.category]) rfl (Nat.le_of_ble_eq_true rfl) ?_
  simp only [List.map_cons, List.map_nil, List.replicate, List.cons_append, List.nil_append]
  refine ad_bipush dX8_whole_0 rfl ?_
  refine ad_iload_n dX8_whole_2 rfl ?_
  refine ad_imul dX8_whole_3 ?_
  refine ad_istore_n dX8_whole_4 (by decide) rfl (by dsimp only [ad_set]) ?_
  refine ad_aload_n dX8_whole_5 rfl ?_
  refine gf_X8_9 rfl dX8_whole_6 ?_
  refine ad_iload_n dX8_whole_9 rfl ?_
  refine ad_iconst dX8_whole_10 ?_
  refine ad_iadd dX8_whole_11 ?_
  refine ad_bipush dX8_whole_12 rfl ?_
  refine ad_iasj (50 * v + 4) dX8_whole_14 (by decide) ⟨by decide, by decide⟩ (by omega) (by show _ < 520; omega) ?_
  refine ad_aload_n dX8_whole_15 rfl ?_
  refine gf_X8_9 rfl dX8_whole_16 ?_
  refine ad_iload_n dX8_whole_19 rfl ?_
  refine ad_iconst dX8_whole_20 ?_
  refine ad_iadd dX8_whole_21 ?_
  refine ad_aload_n dX8_whole_22 rfl ?_
  refine gf_X8_34 rfl dX8_whole_23 ?_
  refine ad_iload_n dX8_whole_26 rfl ?_
  refine ad_ialj (v) dX8_whole_27 (by decide) ⟨by decide, by decide⟩ (by omega) (by show _ < 10; omega) (((congrFun ((ad_f8.st (by decide) (by decide) : ad_f8 [21] [] σ _).1 29 0 (by decide) (by decide)) _).trans h29)) ?_
  refine ad_iasj (50 * v + 5) dX8_whole_28 (by decide) ⟨by decide, by decide⟩ (by omega) (by show _ < 520; omega) ?_
  refine ad_aload_n dX8_whole_29 rfl ?_
  refine gf_X8_9 rfl dX8_whole_30 ?_
  refine ad_iload_n dX8_whole_33 rfl ?_
  refine ad_bipush dX8_whole_34 rfl ?_
  refine ad_iadd dX8_whole_36 ?_
  refine ad_iconst dX8_whole_37 ?_
  refine ad_iasj (50 * v + 18) dX8_whole_38 (by decide) ⟨by decide, by decide⟩ (by omega) (by show _ < 520; omega) ?_
  refine ad_iconst dX8_whole_39 ?_
  refine ad_istore_n dX8_whole_40 (by decide) rfl (by dsimp only [ad_set]) ?_
  exact hl _ 0 _ (by omega) ((ad_f8.st (by decide) (by decide)).trans ((ad_f8.st (by decide) (by decide)).trans (ad_f8.st (by decide) (by decide)))) (fun c hc => by
      rw [ad_st_r1, ad_u1_ne _ _ (by omega), ad_st_r1, ad_u1_ne _ _ (by omega), ad_st_r1, ad_u1_ne _ _ (by omega)]) (fun c h1 h2 => by
      rw [ad_st_r1, ad_st_r1, ad_st_r1]; unfold ad_u1; split
      · decide
      · split
        · constructor <;> omega
        · split
          · decide
          · exact r10 c (by omega)) ⟨by rw [ad_st_r1, ad_u1_ne _ _ (by omega), ad_st_r1, ad_u1_ne _ _ (by omega), ad_st_r1, ad_u1_ne _ _ (by omega)], by rw [ad_st_r1, ad_u1_ne _ _ (by omega), ad_st_r1, ad_u1_ne _ _ (by omega), ad_st_r1, ad_u1_ne _ _ (by omega)], by rw [ad_st_r1, ad_u1_ne _ _ (by omega), ad_st_r1, ad_u1_ne _ _ (by omega), ad_st_r1, ad_u1_ne _ _ (by omega)], by rw [ad_st_r1, ad_u1_ne _ _ (by omega), ad_st_r1, ad_u1_ne _ _ (by omega), ad_st_r1, ad_u1_ne _ _ (by omega)], by rw [ad_st_r1, ad_u1_ne _ _ (by omega), ad_st_r1, ad_u1_ne _ _ (by omega), ad_st_r1, ad_u1_eq], by rw [ad_st_r1, ad_u1_ne _ _ (by omega), ad_st_r1, ad_u1_eq]⟩ (fun j hj => by omega) (Nat.le_refl _)
theorem c_X8_isKind {g : ad_G} {d : Nat} {σ : ad_Mem} {a b : Int} (ha : ad_rng a) (hb : ad_rng b) : ad_Q g mX8_isKind d [ad_rf g 8 0, ad_iv a, ad_iv b] σ (fun x m => x = ad_pv (a = b ∨ (b = 1 ∧ (a = 4 ∨ a = 5)) ∨ (b = 2 ∧ a = 3)) ∧ m = σ) := by
  refine ad_M1 (k := 0) rfl (by simp [Value.category]) rfl (Nat.le_of_ble_eq_true rfl) ?_
  simp only [List.map_cons, List.map_nil, List.replicate, List.cons_append, List.nil_append]
  refine ad_iload_n dX8_isKind_0 rfl ?_
  refine ad_iload_n dX8_isKind_1 rfl ?_
  refine ad_icmp_eq 30 dX8_isKind_2 (by decide) (by omega) (by omega) (fun h2 => ?_) (fun h2 => ?_)
  · skip
    refine ad_iconst dX8_isKind_30 ?_
    refine ad_goto 35 dX8_isKind_31 (by decide) ?_
    exact ad_ret1 dX8_isKind_35 rfl (⟨ad_pv_t (by omega), rfl⟩)
  · show ad_R _ _ _ _ 5 _ _ _
    refine ad_iload_n dX8_isKind_5 rfl ?_
    refine ad_iconst dX8_isKind_6 ?_
    refine ad_icmp_ne 20 dX8_isKind_7 (by decide) (by omega) (by omega) (fun h7 => ?_) (fun h7 => ?_)
    · skip
      refine ad_iload_n dX8_isKind_20 rfl ?_
      refine ad_iconst dX8_isKind_21 ?_
      refine ad_icmp_ne 34 dX8_isKind_22 (by decide) (by omega) (by omega) (fun h22 => ?_) (fun h22 => ?_)
      · skip
        refine ad_iconst dX8_isKind_34 ?_
        exact ad_ret0 dX8_isKind_35 rfl (⟨ad_pv_f (by omega), rfl⟩)
      · show ad_R _ _ _ _ 25 _ _ _
        refine ad_iload_n dX8_isKind_25 rfl ?_
        refine ad_iconst dX8_isKind_26 ?_
        refine ad_icmp_ne 34 dX8_isKind_27 (by decide) (by omega) (by omega) (fun h27 => ?_) (fun h27 => ?_)
        · skip
          refine ad_iconst dX8_isKind_34 ?_
          exact ad_ret0 dX8_isKind_35 rfl (⟨ad_pv_f (by omega), rfl⟩)
        · show ad_R _ _ _ _ 30 _ _ _
          refine ad_iconst dX8_isKind_30 ?_
          refine ad_goto 35 dX8_isKind_31 (by decide) ?_
          exact ad_ret1 dX8_isKind_35 rfl (⟨ad_pv_t (by omega), rfl⟩)
    · show ad_R _ _ _ _ 10 _ _ _
      refine ad_iload_n dX8_isKind_10 rfl ?_
      refine ad_iconst dX8_isKind_11 ?_
      refine ad_icmp_eq 30 dX8_isKind_12 (by decide) (by omega) (by omega) (fun h12 => ?_) (fun h12 => ?_)
      · skip
        refine ad_iconst dX8_isKind_30 ?_
        refine ad_goto 35 dX8_isKind_31 (by decide) ?_
        exact ad_ret1 dX8_isKind_35 rfl (⟨ad_pv_t (by omega), rfl⟩)
      · show ad_R _ _ _ _ 15 _ _ _
        refine ad_iload_n dX8_isKind_15 rfl ?_
        refine ad_iconst dX8_isKind_16 ?_
        refine ad_icmp_eq 30 dX8_isKind_17 (by decide) (by omega) (by omega) (fun h17 => ?_) (fun h17 => ?_)
        · skip
          refine ad_iconst dX8_isKind_30 ?_
          refine ad_goto 35 dX8_isKind_31 (by decide) ?_
          exact ad_ret1 dX8_isKind_35 rfl (⟨ad_pv_t (by omega), rfl⟩)
        · show ad_R _ _ _ _ 20 _ _ _
          refine ad_iload_n dX8_isKind_20 rfl ?_
          refine ad_iconst dX8_isKind_21 ?_
          refine ad_icmp_ne 34 dX8_isKind_22 (by decide) (by omega) (by omega) (fun h22 => ?_) (fun h22 => ?_)
          · skip
            refine ad_iconst dX8_isKind_34 ?_
            exact ad_ret0 dX8_isKind_35 rfl (⟨ad_pv_f (by omega), rfl⟩)
          · show ad_R _ _ _ _ 25 _ _ _
            refine ad_iload_n dX8_isKind_25 rfl ?_
            refine ad_iconst dX8_isKind_26 ?_
            refine ad_icmp_ne 34 dX8_isKind_27 (by decide) (by omega) (by omega) (fun h27 => ?_) (fun h27 => ?_)
            · skip
              refine ad_iconst dX8_isKind_34 ?_
              exact ad_ret0 dX8_isKind_35 rfl (⟨ad_pv_f (by omega), rfl⟩)
            · show ad_R _ _ _ _ 30 _ _ _
              refine ad_iconst dX8_isKind_30 ?_
              refine ad_goto 35 dX8_isKind_31 (by decide) ?_
              exact ad_ret1 dX8_isKind_35 rfl (⟨ad_pv_t (by omega), rfl⟩)
theorem c_X8_isAhead {g : ad_G} {d : Nat} {σ : ad_Mem} {A : ad_Ar} (hr : ad_ra (σ 21 0) A) (hw : ad_wA A) (hrr : ad_rr σ (ad_aH A) (ad_aL A)) {v u : Nat} (huv : u < v) (hv : ad_aH A v = true) (hu : ad_aH A u = true) (h1d : 1 ≤ d) : ad_Q g mX8_isAhead d [ad_rf g 8 0, ad_iv (v : Int), ad_iv (u : Int)] σ (fun x m => x = ad_pv (ad_ah A (ad_aK A) v u = true) ∧ m = σ) := by
  have hk5 := hw.2.2.2.2.2.2.2.1.1
  obtain ⟨⟨r1, r1b⟩, ⟨r2, r3, r4, r5, r6⟩, r7, r8, r9, r10⟩ := hr
  have hvc := (r1b v hv)
  have huc := (r1b u hu)
  have h29v : σ 29 0 v = ((ad_aL A v).length : Int) := by rw [hrr.1 v (by omega), if_pos hv]
  have h29u : σ 29 0 u = ((ad_aL A u).length : Int) := by rw [hrr.1 u (by omega), if_pos hu]
  refine ad_M1 (k := 1) rfl (by simp [Value.category]) rfl (Nat.le_of_ble_eq_true rfl) ?_
  simp only [List.map_cons, List.map_nil, List.replicate, List.cons_append, List.nil_append]
  refine ad_aload_n dX8_isAhead_0 rfl ?_
  refine gf_X8_9 rfl dX8_isAhead_1 ?_
  refine ad_sipush dX8_isAhead_4 rfl ?_
  refine ad_ialj (505) dX8_isAhead_7 (by decide) ⟨by decide, by decide⟩ (by omega) (by show _ < 520; omega) (r4) ?_
  refine ad_istore_n dX8_isAhead_8 (by decide) rfl (by dsimp only [ad_set]) ?_
  refine ad_aload_n dX8_isAhead_9 rfl ?_
  refine ad_iload_n dX8_isAhead_10 rfl ?_
  refine ad_iconst dX8_isAhead_11 ?_
  refine ad_cv2f rfl cl_X8_92 dX8_isAhead_12 (c_X8_isKind (by omega) (by decide)) (by omega) (by show _ < 1; omega) (Nat.le_of_ble_eq_true rfl) ?_
  refine ad_ifp_eq 54 dX8_isAhead_15 (by decide) (fun h15 => ?_) (fun h15 => ?_)
  · skip
    refine ad_aload_n dX8_isAhead_54 rfl ?_
    refine ad_iload_n dX8_isAhead_55 rfl ?_
    refine ad_iconst dX8_isAhead_56 ?_
    refine ad_cv2f rfl cl_X8_92 dX8_isAhead_57 (c_X8_isKind (by omega) (by decide)) (by omega) (by show _ < 1; omega) (Nat.le_of_ble_eq_true rfl) ?_
    refine ad_ifp_eq 76 dX8_isAhead_60 (by decide) (fun h60 => ?_) (fun h60 => ?_)
    · skip
      refine ad_iload_n dX8_isAhead_76 rfl ?_
      refine ad_iload_n dX8_isAhead_77 rfl ?_
      refine ad_icmp_ge 85 dX8_isAhead_78 (by decide) (by omega) (by omega) (fun h78 => ?_) (fun h78 => ?_)
      · skip
        refine ad_iconst dX8_isAhead_85 ?_
        exact ad_ret0 dX8_isAhead_86 rfl (by
              have hk5 := hw.2.2.2.2.2.2.2.1.1
              refine ⟨ad_pv_f ?_, rfl⟩
              unfold ad_ah
              repeat' split
              all_goals first | rfl | (exfalso; omega) | (simp only [decide_eq_true_eq, Bool.false_eq_true]; omega) | decide | skip)
      · show ad_R _ _ _ _ 81 _ _ _
        refine ad_iconst dX8_isAhead_81 ?_
        refine ad_goto 86 dX8_isAhead_82 (by decide) ?_
        exact ad_ret1 dX8_isAhead_86 rfl (by
              have hk5 := hw.2.2.2.2.2.2.2.1.1
              refine ⟨ad_pv_t ?_, rfl⟩
              unfold ad_ah
              repeat' split
              all_goals first | rfl | (exfalso; omega) | (simp only [decide_eq_true_eq, Bool.false_eq_true]; omega) | decide | skip)
    · show ad_R _ _ _ _ 63 _ _ _
      refine ad_iload_n dX8_isAhead_63 rfl ?_
      refine ad_iload_n dX8_isAhead_64 rfl ?_
      refine ad_icmp_le 72 dX8_isAhead_65 (by decide) (by omega) (by omega) (fun h65 => ?_) (fun h65 => ?_)
      · skip
        refine ad_iconst dX8_isAhead_72 ?_
        refine ad_goto 86 dX8_isAhead_73 (by decide) ?_
        exact ad_ret0 dX8_isAhead_86 rfl (by
              have hk5 := hw.2.2.2.2.2.2.2.1.1
              refine ⟨ad_pv_f ?_, rfl⟩
              unfold ad_ah
              repeat' split
              all_goals first | rfl | (exfalso; omega) | (simp only [decide_eq_true_eq, Bool.false_eq_true]; omega) | decide | skip)
      · show ad_R _ _ _ _ 68 _ _ _
        refine ad_iconst dX8_isAhead_68 ?_
        refine ad_goto 86 dX8_isAhead_69 (by decide) ?_
        exact ad_ret1 dX8_isAhead_86 rfl (by
              have hk5 := hw.2.2.2.2.2.2.2.1.1
              refine ⟨ad_pv_t ?_, rfl⟩
              unfold ad_ah
              repeat' split
              all_goals first | rfl | (exfalso; omega) | (simp only [decide_eq_true_eq, Bool.false_eq_true]; omega) | decide | skip)
  · show ad_R _ _ _ _ 18 _ _ _
    refine ad_aload_n dX8_isAhead_18 rfl ?_
    refine gf_X8_34 rfl dX8_isAhead_19 ?_
    refine ad_iload_n dX8_isAhead_22 rfl ?_
    refine ad_ialj (v) dX8_isAhead_23 (by decide) ⟨by decide, by decide⟩ (by omega) (by show _ < 10; omega) (h29v) ?_
    refine ad_aload_n dX8_isAhead_24 rfl ?_
    refine gf_X8_34 rfl dX8_isAhead_25 ?_
    refine ad_iload_n dX8_isAhead_28 rfl ?_
    refine ad_ialj (u) dX8_isAhead_29 (by decide) ⟨by decide, by decide⟩ (by omega) (by show _ < 10; omega) (h29u) ?_
    refine ad_icmp_eq 54 dX8_isAhead_30 (by decide) (by omega) (by omega) (fun h30 => ?_) (fun h30 => ?_)
    · skip
      refine ad_aload_n dX8_isAhead_54 rfl ?_
      refine ad_iload_n dX8_isAhead_55 rfl ?_
      refine ad_iconst dX8_isAhead_56 ?_
      refine ad_cv2f rfl cl_X8_92 dX8_isAhead_57 (c_X8_isKind (by omega) (by decide)) (by omega) (by show _ < 1; omega) (Nat.le_of_ble_eq_true rfl) ?_
      refine ad_ifp_eq 76 dX8_isAhead_60 (by decide) (fun h60 => ?_) (fun h60 => ?_)
      · skip
        refine ad_iload_n dX8_isAhead_76 rfl ?_
        refine ad_iload_n dX8_isAhead_77 rfl ?_
        refine ad_icmp_ge 85 dX8_isAhead_78 (by decide) (by omega) (by omega) (fun h78 => ?_) (fun h78 => ?_)
        · skip
          refine ad_iconst dX8_isAhead_85 ?_
          exact ad_ret0 dX8_isAhead_86 rfl (by
                have hk5 := hw.2.2.2.2.2.2.2.1.1
                refine ⟨ad_pv_f ?_, rfl⟩
                unfold ad_ah
                repeat' split
                all_goals first | rfl | (exfalso; omega) | (simp only [decide_eq_true_eq, Bool.false_eq_true]; omega) | decide | skip)
        · show ad_R _ _ _ _ 81 _ _ _
          refine ad_iconst dX8_isAhead_81 ?_
          refine ad_goto 86 dX8_isAhead_82 (by decide) ?_
          exact ad_ret1 dX8_isAhead_86 rfl (by
                have hk5 := hw.2.2.2.2.2.2.2.1.1
                refine ⟨ad_pv_t ?_, rfl⟩
                unfold ad_ah
                repeat' split
                all_goals first | rfl | (exfalso; omega) | (simp only [decide_eq_true_eq, Bool.false_eq_true]; omega) | decide | skip)
      · show ad_R _ _ _ _ 63 _ _ _
        refine ad_iload_n dX8_isAhead_63 rfl ?_
        refine ad_iload_n dX8_isAhead_64 rfl ?_
        refine ad_icmp_le 72 dX8_isAhead_65 (by decide) (by omega) (by omega) (fun h65 => ?_) (fun h65 => ?_)
        · skip
          refine ad_iconst dX8_isAhead_72 ?_
          refine ad_goto 86 dX8_isAhead_73 (by decide) ?_
          exact ad_ret0 dX8_isAhead_86 rfl (by
                have hk5 := hw.2.2.2.2.2.2.2.1.1
                refine ⟨ad_pv_f ?_, rfl⟩
                unfold ad_ah
                repeat' split
                all_goals first | rfl | (exfalso; omega) | (simp only [decide_eq_true_eq, Bool.false_eq_true]; omega) | decide | skip)
        · show ad_R _ _ _ _ 68 _ _ _
          refine ad_iconst dX8_isAhead_68 ?_
          refine ad_goto 86 dX8_isAhead_69 (by decide) ?_
          exact ad_ret1 dX8_isAhead_86 rfl (by
                have hk5 := hw.2.2.2.2.2.2.2.1.1
                refine ⟨ad_pv_t ?_, rfl⟩
                unfold ad_ah
                repeat' split
                all_goals first | rfl | (exfalso; omega) | (simp only [decide_eq_true_eq, Bool.false_eq_true]; omega) | decide | skip)
    · show ad_R _ _ _ _ 33 _ _ _
      refine ad_aload_n dX8_isAhead_33 rfl ?_
      refine gf_X8_34 rfl dX8_isAhead_34 ?_
      refine ad_iload_n dX8_isAhead_37 rfl ?_
      refine ad_ialj (v) dX8_isAhead_38 (by decide) ⟨by decide, by decide⟩ (by omega) (by show _ < 10; omega) (h29v) ?_
      refine ad_aload_n dX8_isAhead_39 rfl ?_
      refine gf_X8_34 rfl dX8_isAhead_40 ?_
      refine ad_iload_n dX8_isAhead_43 rfl ?_
      refine ad_ialj (u) dX8_isAhead_44 (by decide) ⟨by decide, by decide⟩ (by omega) (by show _ < 10; omega) (h29u) ?_
      refine ad_icmp_le 52 dX8_isAhead_45 (by decide) (by omega) (by omega) (fun h45 => ?_) (fun h45 => ?_)
      · skip
        refine ad_iconst dX8_isAhead_52 ?_
        exact ad_ret0 dX8_isAhead_53 rfl (by
              have hk5 := hw.2.2.2.2.2.2.2.1.1
              refine ⟨ad_pv_f ?_, rfl⟩
              unfold ad_ah
              repeat' split
              all_goals first | rfl | (exfalso; omega) | (simp only [decide_eq_true_eq, Bool.false_eq_true]; omega) | decide | skip)
      · show ad_R _ _ _ _ 48 _ _ _
        refine ad_iconst dX8_isAhead_48 ?_
        refine ad_goto 53 dX8_isAhead_49 (by decide) ?_
        exact ad_ret1 dX8_isAhead_53 rfl (by
              have hk5 := hw.2.2.2.2.2.2.2.1.1
              refine ⟨ad_pv_t ?_, rfl⟩
              unfold ad_ah
              repeat' split
              all_goals first | rfl | (exfalso; omega) | (simp only [decide_eq_true_eq, Bool.false_eq_true]; omega) | decide | skip)
theorem c_X8_isParent {g : ad_G} {d : Nat} {σ : ad_Mem} {A : ad_Ar} (hr : ad_ra (σ 21 0) A) (hw : ad_wA A) {v u : Nat} (hv : ad_aH A v = true) (hu : ad_aH A u = true) : ad_Q g mX8_isParent d [ad_rf g 8 0, ad_iv (v : Int), ad_iv (u : Int)] σ (fun x m => x = ad_pv (ad_par A u v = true) ∧ m = σ) := by
  obtain ⟨⟨r1, r1b⟩, ⟨r2, r3, r4, r5, r6⟩, r7, r8, r9, r10⟩ := hr
  have hvc := (r1b v hv)
  have huc := (r1b u hu)
  have hpw := hw.2.2.2.1 u
  have hl1 : ad_lk (ad_aP A u) = (v : Int) ↔ ad_aP A u = v := by unfold ad_lk; split <;> omega
  have hl2 : ad_lk (ad_aQ A u) = (v : Int) ↔ ad_aQ A u = v := by unfold ad_lk; split <;> omega
  have hl3 := ad_lk_rng (v := ad_aP A u) (by omega)
  have hl4 := ad_lk_rng (v := ad_aQ A u) (by omega)
  refine ad_M1 (k := 0) rfl (by simp [Value.category]) rfl (Nat.le_of_ble_eq_true rfl) ?_
  simp only [List.map_cons, List.map_nil, List.replicate, List.cons_append, List.nil_append]
  refine ad_aload_n dX8_isParent_0 rfl ?_
  refine gf_X8_9 rfl dX8_isParent_1 ?_
  refine ad_bipush dX8_isParent_4 rfl ?_
  refine ad_iload_n dX8_isParent_6 rfl ?_
  refine ad_imul dX8_isParent_7 ?_
  refine ad_iconst dX8_isParent_8 ?_
  refine ad_iadd dX8_isParent_9 ?_
  refine ad_ialj (50 * u + 2) dX8_isParent_10 (by decide) ⟨by decide, by decide⟩ (by omega) (by show _ < 520; omega) ((r8 u huc.1).1) ?_
  refine ad_iload_n dX8_isParent_11 rfl ?_
  refine ad_icmp_eq 32 dX8_isParent_12 (by decide) (by omega) (by omega) (fun h12 => ?_) (fun h12 => ?_)
  · skip
    refine ad_iconst dX8_isParent_32 ?_
    refine ad_goto 37 dX8_isParent_33 (by decide) ?_
    exact ad_ret1 dX8_isParent_37 rfl (⟨ad_pv_t (by unfold ad_par; exact decide_eq_true (by omega)), rfl⟩)
  · show ad_R _ _ _ _ 15 _ _ _
    refine ad_aload_n dX8_isParent_15 rfl ?_
    refine gf_X8_9 rfl dX8_isParent_16 ?_
    refine ad_bipush dX8_isParent_19 rfl ?_
    refine ad_iload_n dX8_isParent_21 rfl ?_
    refine ad_imul dX8_isParent_22 ?_
    refine ad_iconst dX8_isParent_23 ?_
    refine ad_iadd dX8_isParent_24 ?_
    refine ad_iconst dX8_isParent_25 ?_
    refine ad_iadd dX8_isParent_26 ?_
    refine ad_ialj (50 * u + 3) dX8_isParent_27 (by decide) ⟨by decide, by decide⟩ (by omega) (by show _ < 520; omega) ((r8 u huc.1).2) ?_
    refine ad_iload_n dX8_isParent_28 rfl ?_
    refine ad_icmp_ne 36 dX8_isParent_29 (by decide) (by omega) (by omega) (fun h29 => ?_) (fun h29 => ?_)
    · skip
      refine ad_iconst dX8_isParent_36 ?_
      exact ad_ret0 dX8_isParent_37 rfl (⟨ad_pv_f (by unfold ad_par; rw [decide_eq_true_eq]; omega), rfl⟩)
    · show ad_R _ _ _ _ 32 _ _ _
      refine ad_iconst dX8_isParent_32 ?_
      refine ad_goto 37 dX8_isParent_33 (by decide) ?_
      exact ad_ret1 dX8_isParent_37 rfl (⟨ad_pv_t (by unfold ad_par; exact decide_eq_true (by omega)), rfl⟩)
theorem c_X8_may {g : ad_G} {d : Nat} {σ : ad_Mem} {A : ad_Ar} (hr : ad_ra (σ 21 0) A) (hw : ad_wA A) {v u j i : Nat} {l : List Nat} (hv : ad_aH A v = true) (hu : ad_aH A u = true) (hli : l.getD i 0 = v) (hlj : l.getD j 0 = u) (hji : j < 10 ∧ i < 10) (h1d : 1 ≤ d) : ad_Q g mX8_may d [ad_rf g 8 0, ad_iv (u : Int), ad_iv (j : Int), ad_iv (v : Int), ad_iv (i : Int)] σ (fun x m => x = ad_pv (ad_may A (ad_aK A) (ad_aF A) l j i = true) ∧ m = σ) := by
  have hr0 := hr
  obtain ⟨⟨r1, r1b⟩, ⟨r2, r3, r4, r5, r6⟩, r7, r8, r9, r10⟩ := hr
  have hvc := (r1b v hv)
  have huc := (r1b u hu)
  have hk5 := hw.2.2.2.2.2.2.2.1
  refine ad_M1 (k := 1) rfl (by simp [Value.category]) rfl (Nat.le_of_ble_eq_true rfl) ?_
  simp only [List.map_cons, List.map_nil, List.replicate, List.cons_append, List.nil_append]
  refine ad_aload_n dX8_may_0 rfl ?_
  refine gf_X8_9 rfl dX8_may_1 ?_
  refine ad_sipush dX8_may_4 rfl ?_
  refine ad_ialj (505) dX8_may_7 (by decide) ⟨by decide, by decide⟩ (by omega) (by show _ < 520; omega) (r4) ?_
  refine ad_istore dX8_may_8 (by decide) rfl (by dsimp only [ad_set]) ?_
  refine ad_iload dX8_may_10 rfl ?_
  refine ad_iconst dX8_may_12 ?_
  refine ad_icmp_ne 42 dX8_may_13 (by decide) (by omega) (by omega) (fun h13 => ?_) (fun h13 => ?_)
  · skip
    refine ad_iload dX8_may_42 rfl ?_
    refine ad_iconst dX8_may_44 ?_
    refine ad_icmp_ne 63 dX8_may_45 (by decide) (by omega) (by omega) (fun h45 => ?_) (fun h45 => ?_)
    · skip
      refine ad_iconst dX8_may_63 ?_
      refine ad_goto 68 dX8_may_64 (by decide) ?_
      exact ad_ret1 dX8_may_68 rfl (by
            refine ⟨ad_pv_t ?_, rfl⟩
            unfold ad_may
            rw [hli, hlj]
            repeat' split
            all_goals first | (exfalso; omega) | rfl | skip
            all_goals first | (exact decide_eq_true (by omega)) | (rw [decide_eq_true_eq]; omega) | simp_all)
    · show ad_R _ _ _ _ 48 _ _ _
      refine ad_iload dX8_may_48 rfl ?_
      refine ad_iload_n dX8_may_50 rfl ?_
      refine ad_isub dX8_may_51 ?_
      refine ad_aload_n dX8_may_52 rfl ?_
      refine gf_X8_9 rfl dX8_may_53 ?_
      refine ad_sipush dX8_may_56 rfl ?_
      refine ad_ialj (506) dX8_may_59 (by decide) ⟨by decide, by decide⟩ (by omega) (by show _ < 520; omega) (r5) ?_
      refine ad_icmp_gt 67 dX8_may_60 (by decide) (by omega) (by omega) (fun h60 => ?_) (fun h60 => ?_)
      · skip
        refine ad_iconst dX8_may_67 ?_
        exact ad_ret0 dX8_may_68 rfl (by
              refine ⟨ad_pv_f ?_, rfl⟩
              unfold ad_may
              rw [hli, hlj]
              repeat' split
              all_goals first | (exfalso; omega) | rfl | skip
              all_goals first | (exact decide_eq_true (by omega)) | (rw [decide_eq_true_eq]; omega) | simp_all)
      · show ad_R _ _ _ _ 63 _ _ _
        refine ad_iconst dX8_may_63 ?_
        refine ad_goto 68 dX8_may_64 (by decide) ?_
        exact ad_ret1 dX8_may_68 rfl (by
              refine ⟨ad_pv_t ?_, rfl⟩
              unfold ad_may
              rw [hli, hlj]
              repeat' split
              all_goals first | (exfalso; omega) | rfl | skip
              all_goals first | (exact decide_eq_true (by omega)) | (rw [decide_eq_true_eq]; omega) | simp_all)
  · show ad_R _ _ _ _ 16 _ _ _
    refine ad_aload_n dX8_may_16 rfl ?_
    refine ad_iload_n dX8_may_17 rfl ?_
    refine ad_iload_n dX8_may_18 rfl ?_
    refine ad_cv2f rfl cl_X8_96 dX8_may_19 (c_X8_isParent hr0 hw hu hv) (by omega) (by show _ < 1; omega) (Nat.le_of_ble_eq_true rfl) ?_
    refine ad_ifp_ne 34 dX8_may_22 (by decide) (fun h22 => ?_) (fun h22 => ?_)
    · skip
      refine ad_iconst dX8_may_34 ?_
      refine ad_goto 68 dX8_may_35 (by decide) ?_
      exact ad_ret1 dX8_may_68 rfl (by
            refine ⟨ad_pv_t ?_, rfl⟩
            unfold ad_may
            rw [hli, hlj]
            repeat' split
            all_goals first | (exfalso; omega) | rfl | skip
            all_goals first | (exact decide_eq_true (by omega)) | (rw [decide_eq_true_eq]; omega) | simp_all)
    · show ad_R _ _ _ _ 25 _ _ _
      refine ad_aload_n dX8_may_25 rfl ?_
      refine ad_iload_n dX8_may_26 rfl ?_
      refine ad_iload_n dX8_may_27 rfl ?_
      refine ad_cv2f rfl cl_X8_96 dX8_may_28 (c_X8_isParent hr0 hw hv hu) (by omega) (by show _ < 1; omega) (Nat.le_of_ble_eq_true rfl) ?_
      refine ad_ifp_eq 38 dX8_may_31 (by decide) (fun h31 => ?_) (fun h31 => ?_)
      · skip
        refine ad_iconst dX8_may_38 ?_
        refine ad_goto 68 dX8_may_39 (by decide) ?_
        exact ad_ret0 dX8_may_68 rfl (by
              refine ⟨ad_pv_f ?_, rfl⟩
              unfold ad_may
              rw [hli, hlj]
              repeat' split
              all_goals first | (exfalso; omega) | rfl | skip
              all_goals first | (exact decide_eq_true (by omega)) | (rw [decide_eq_true_eq]; omega) | simp_all)
      · show ad_R _ _ _ _ 34 _ _ _
        refine ad_iconst dX8_may_34 ?_
        refine ad_goto 68 dX8_may_35 (by decide) ?_
        exact ad_ret1 dX8_may_68 rfl (by
              refine ⟨ad_pv_t ?_, rfl⟩
              unfold ad_may
              rw [hli, hlj]
              repeat' split
              all_goals first | (exfalso; omega) | rfl | skip
              all_goals first | (exact decide_eq_true (by omega)) | (rw [decide_eq_true_eq]; omega) | simp_all)
