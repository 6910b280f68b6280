/-! ===== the reference: a version more ===== -/
def ad_nv (A : ad_Ar) (l : List Int) (w p q : Int) : ad_Ar :=
  ad_mk (ad_aC A + 1) (fun v => if v = ad_aC A then true else ad_aH A v) (fun v => if v = ad_aC A then l else ad_aL A v) (fun v => if v = ad_aC A then p else ad_aP A v) (fun v => if v = ad_aC A then q else ad_aQ A v) (fun v => if v = ad_aC A then w else ad_aG A v) (fun v => if v = ad_aC A then -1 else ad_aB A v) (fun v => if v = ad_aC A then [] else ad_aT A v) (ad_aE A) (ad_aK A) (ad_aF A) (ad_aN A)
theorem ad_wA_nv {A : ad_Ar} (hw : ad_wA A) {l : List Int} {w p q : Int} (hc : ad_aC A < 10) (hl : 1 ≤ l.length ∧ l.length ≤ 12 ∧ ∀ x ∈ l, 0 ≤ x ∧ x ≤ 7) (hp : -1 ≤ p ∧ p < ad_aC A) (hq : -1 ≤ q ∧ q < ad_aC A) (hg : 0 ≤ w ∧ w < 9973) : ad_wA (ad_nv A l w p q) := by
  obtain ⟨w1, w2, w3, w4, w5, w6, w7, w8, w9⟩ := ad_wA_add hw hc hl hp hq
  refine ⟨w1, w2, fun v hv => ⟨(w3 v hv).1, ?_⟩, w4, w5, w6, w7, w8, fun v hv => ⟨(w9.1 v hv).1, ?_, (w9.1 v hv).2.2⟩, w9.2⟩
  · have h3 := (w3 v hv).2
    change 0 ≤ (if v = ad_aC A then ad_hs l else ad_aG A v) ∧ (if v = ad_aC A then ad_hs l else ad_aG A v) < 9973 at h3
    show 0 ≤ (if v = ad_aC A then w else ad_aG A v) ∧ (if v = ad_aC A then w else ad_aG A v) < 9973
    by_cases hvc : v = ad_aC A
    · rw [if_pos hvc]; exact hg
    · rw [if_neg hvc] at h3 ⊢; exact h3
  · have h9 := (w9.1 v hv).2.1
    change (if v = ad_aC A then ad_hs l else ad_aG A v) = 0 at h9
    show (if v = ad_aC A then w else ad_aG A v) = 0
    by_cases hvc : v = ad_aC A
    · have hv2 : (if v = ad_aC A then true else ad_aH A v) = false := hv
      rw [if_pos hvc] at hv2; cases hv2
    · rw [if_neg hvc] at h9 ⊢; exact h9
theorem ad_nv_same (A : ad_Ar) (l l' : List Int) (w w' p q p' q' : Int) {u : Nat} (hu : u ≠ ad_aC A) : ad_aH (ad_nv A l w p q) u = ad_aH (ad_nv A l' w' p' q') u ∧ ad_aP (ad_nv A l w p q) u = ad_aP (ad_nv A l' w' p' q') u ∧ ad_aQ (ad_nv A l w p q) u = ad_aQ (ad_nv A l' w' p' q') u ∧ ad_aG (ad_nv A l w p q) u = ad_aG (ad_nv A l' w' p' q') u ∧ ad_aB (ad_nv A l w p q) u = ad_aB (ad_nv A l' w' p' q') u ∧ ad_aT (ad_nv A l w p q) u = ad_aT (ad_nv A l' w' p' q') u := by
  unfold ad_nv
  simp only [ad_mkH, ad_mkP, ad_mkQ, ad_mkG, ad_mkB, ad_mkT, if_neg hu]
  exact ⟨trivial, trivial, trivial, trivial, trivial, trivial⟩
/-- the last version's own numbers -/
theorem ad_nv_last {a : Nat → Int} {A : ad_Ar} {l : List Int} {w p q : Int} (h : ad_ra a (ad_nv A l w p q)) : a (50 * ad_aC A) = 1 ∧ a (50 * ad_aC A + 1) = w ∧ a (50 * ad_aC A + 2) = ad_lk p ∧ a (50 * ad_aC A + 3) = ad_lk q ∧ a (50 * ad_aC A + 4) = -9 ∧ a (50 * ad_aC A + 5) = (l.length : Int) ∧ ∀ i, i < l.length → a (50 * ad_aC A + 6 + i) = l.getD i 0 := by
  have hH : ad_aH (ad_nv A l w p q) (ad_aC A) = true := if_pos rfl
  obtain ⟨⟨r1, r1b⟩, r2, r7, r8, r9, r10⟩ := h
  have hc := (r1b _ hH).1
  obtain ⟨v1, v2, v3, v4⟩ := r9 _ hH
  have hB : ad_aB (ad_nv A l w p q) (ad_aC A) = -1 := if_pos rfl
  have hL : ad_aL (ad_nv A l w p q) (ad_aC A) = l := if_pos rfl
  have h8 := r8 _ hc
  have e7 := r7 _ (show ad_aC A < 10 by omega)
  rw [if_pos hH] at e7
  rw [show ad_aG (ad_nv A l w p q) (ad_aC A) = w from if_pos rfl] at v1
  rw [hB] at v2
  rw [show ad_aP (ad_nv A l w p q) (ad_aC A) = p from if_pos rfl, show ad_aQ (ad_nv A l w p q) (ad_aC A) = q from if_pos rfl] at h8
  have v3 := v3 hB
  rw [hL] at v3
  exact ⟨e7, v1, h8.1, h8.2, v2, v3.1, v3.2⟩
/-- how the row comes to hold the archive with a version more -/
theorem ad_ra_nv {a b : Nat → Int} {A A0 : ad_Ar} {l : List Int} {w p q : Int} (hc : ad_aC A < 10) (hr : ad_ra a A0) (hA : A0 = A ∨ ∃ l' w' p' q', A0 = ad_nv A l' w' p' q') (h500 : b 500 = (ad_aC A : Int) + 1) (hout : ∀ i, i < 520 → i ≠ 500 → (i < 50 * ad_aC A ∨ 50 * ad_aC A + 50 ≤ i) → b i = a i) (hin : ∀ i, 50 * ad_aC A ≤ i → i < 50 * ad_aC A + 50 → ad_rng (b i)) (hl : l.length ≤ 12)
    (hb : b (50 * ad_aC A) = 1 ∧ b (50 * ad_aC A + 1) = w ∧ b (50 * ad_aC A + 2) = ad_lk p ∧ b (50 * ad_aC A + 3) = ad_lk q ∧ b (50 * ad_aC A + 4) = -9 ∧ b (50 * ad_aC A + 5) = (l.length : Int) ∧ ∀ i, i < l.length → b (50 * ad_aC A + 6 + i) = l.getD i 0) : ad_ra b (ad_nv A l w p q) := by
  obtain ⟨b1, b2, b3, b4, b5, b6, b7⟩ := hb
  have hlast : ad_aH (ad_nv A l w p q) (ad_aC A) = true → ad_aC A < ad_aC (ad_nv A l w p q) ∧ (ad_aL (ad_nv A l w p q) (ad_aC A)).length ≤ 12 ∧ (ad_aT (ad_nv A l w p q) (ad_aC A)).length ≤ 12 ∧ ad_rv b (ad_nv A l w p q) (ad_aC A) := by
    intro _
    unfold ad_rv
    rw [show ad_aL (ad_nv A l w p q) (ad_aC A) = l from if_pos rfl, show ad_aT (ad_nv A l w p q) (ad_aC A) = [] from if_pos rfl, show ad_aG (ad_nv A l w p q) (ad_aC A) = w from if_pos rfl, show ad_aB (ad_nv A l w p q) (ad_aC A) = -1 from if_pos rfl]
    exact ⟨Nat.lt_succ_self _, hl, by simp, b2, b5, fun _ => ⟨b6, b7⟩, fun z => absurd rfl z⟩
  have hH1 : b (50 * ad_aC A) = if ad_aH (ad_nv A l w p q) (ad_aC A) = true then 1 else 0 := by rw [if_pos (show ad_aH (ad_nv A l w p q) (ad_aC A) = true from if_pos rfl)]; exact b1
  have hP1 : ad_aC A < ad_aC (ad_nv A l w p q) → b (50 * ad_aC A + 2) = ad_lk (ad_aP (ad_nv A l w p q) (ad_aC A)) ∧ b (50 * ad_aC A + 3) = ad_lk (ad_aQ (ad_nv A l w p q) (ad_aC A)) := fun _ => by
    rw [show ad_aP (ad_nv A l w p q) (ad_aC A) = p from if_pos rfl, show ad_aQ (ad_nv A l w p q) (ad_aC A) = q from if_pos rfl]; exact ⟨b3, b4⟩
  have hc10 : ad_aC (ad_nv A l w p q) ≤ 10 := by show ad_aC A + 1 ≤ 10; omega
  rcases hA with rfl | ⟨l', w', p', q', rfl⟩
  · refine ad_ra_set (ad_aC A0) hc hr ⟨by show ad_aC A0 ≤ ad_aC A0 + 1; omega, hc10⟩ (fun u hu hne => by have hu : u < ad_aC A0 + 1 := hu; omega) h500 hout hin (fun u hu => ?_) (fun u hu hH => ?_) ⟨rfl, rfl, rfl, rfl⟩ hH1 hP1 hlast
    · unfold ad_nv; simp only [ad_mkH, ad_mkP, ad_mkQ, ad_mkG, ad_mkB, ad_mkT, if_neg hu]; exact ⟨trivial, trivial, trivial, trivial, trivial, trivial⟩
    · rw [show ad_aL (ad_nv A0 l w p q) u = ad_aL A0 u from if_neg hu]
      exact ⟨(hr.1.2 u hH).2.1, fun _ => rfl⟩
  · refine ad_ra_set (ad_aC A) hc hr ⟨Nat.le_refl _, hc10⟩ (fun u hu hne => hu) h500 hout hin (fun u hu => ad_nv_same A l l' w w' p q p' q' hu) (fun u hu hH => ?_) ⟨rfl, rfl, rfl, rfl⟩ hH1 hP1 hlast
    have h1 := (hr.1.2 u hH).2.1
    rw [show ad_aL (ad_nv A l' w' p' q') u = ad_aL A u from if_neg hu] at h1 ⊢
    rw [show ad_aL (ad_nv A l w p q) u = ad_aL A u from if_neg hu]
    exact ⟨h1, fun _ => rfl⟩
theorem c_X8_adds {g : ad_G} {d : Nat} {σ : ad_Mem} {A : ad_Ar} {l : List Int} {w p q x : Int} (hc : ad_aC A < 10) (hr : ad_ra (σ 21 0) (ad_nv A l w p q)) (hl : l.length < 12) (hx : ad_rng x) : ad_V g mX8_adds d [ad_rf g 8 0, ad_iv (ad_aC A : Int), ad_iv x] σ (fun m => ad_f8 [21] [] σ m ∧ ad_ra (m 21 0) (ad_nv A (l ++ [x]) w p q)) := by
  have hb := ad_nv_last hr
  have h500 : σ 21 0 500 = (ad_aC A : Int) + 1 := hr.2.1.1
  refine ad_M1 (k := 0) rfl (by simp [Value.category]) rfl (Nat.le_of_ble_eq_true rfl) ?_
  simp only [List.map_cons, List.map_nil, List.replicate, List.cons_append, List.nil_append]
  refine ad_aload_n dX8_adds_0 rfl ?_
  refine gf_X8_9 rfl dX8_adds_1 ?_
  refine ad_bipush dX8_adds_4 rfl ?_
  refine ad_iload_n dX8_adds_6 rfl ?_
  refine ad_imul dX8_adds_7 ?_
  refine ad_bipush dX8_adds_8 rfl ?_
  refine ad_iadd dX8_adds_10 ?_
  refine ad_aload_n dX8_adds_11 rfl ?_
  refine gf_X8_9 rfl dX8_adds_12 ?_
  refine ad_bipush dX8_adds_15 rfl ?_
  refine ad_iload_n dX8_adds_17 rfl ?_
  refine ad_imul dX8_adds_18 ?_
  refine ad_iconst dX8_adds_19 ?_
  refine ad_iadd dX8_adds_20 ?_
  refine ad_ialj (50 * ad_aC A + 5) dX8_adds_21 (by decide) ⟨by decide, by decide⟩ (by omega) (by show _ < 520; omega) (hb.2.2.2.2.2.1) ?_
  refine ad_iadd dX8_adds_22 ?_
  refine ad_iload_n dX8_adds_23 rfl ?_
  refine ad_iasj (50 * ad_aC A + 6 + l.length) dX8_adds_24 (by decide) ⟨by decide, by decide⟩ (by omega) (by show _ < 520; omega) ?_
  refine ad_aload_n dX8_adds_25 rfl ?_
  refine gf_X8_9 rfl dX8_adds_26 ?_
  refine ad_bipush dX8_adds_29 rfl ?_
  refine ad_iload_n dX8_adds_31 rfl ?_
  refine ad_imul dX8_adds_32 ?_
  refine ad_iconst dX8_adds_33 ?_
  refine ad_iadd dX8_adds_34 ?_
  refine ad_dup2 dX8_adds_35 rfl rfl ?_
  refine ad_ialj (50 * ad_aC A + 5) dX8_adds_36 (by decide) ⟨by decide, by decide⟩ (by omega) (by show _ < 520; omega) (((congrFun (ad_st_r1 _ _ _ _ _) _).trans ((ad_u1_ne _ _ (by omega)).trans hb.2.2.2.2.2.1))) ?_
  refine ad_iconst dX8_adds_37 ?_
  refine ad_iadd dX8_adds_38 ?_
  refine ad_iasj (50 * ad_aC A + 5) dX8_adds_39 (by decide) ⟨by decide, by decide⟩ (by omega) (by show _ < 520; omega) ?_
  exact ad_retv dX8_adds_40 rfl (by
      refine ⟨(ad_f8.st (by decide) (by decide)).trans (ad_f8.st (by decide) (by decide)), ad_ra_nv hc hr (Or.inr ⟨_, _, _, _, rfl⟩) ?_ (fun c h1 h2 h3 => ?_) (fun c h1 h2 => ?_) (by rw [List.length_append]; simp; omega) ⟨?_, ?_, ?_, ?_, ?_, ?_, fun j hj => ?_⟩⟩
      · rw [ad_st_r1, ad_u1_ne _ _ (by omega), ad_st_r1, ad_u1_ne _ _ (by omega)]; exact h500
      · rw [ad_st_r1, ad_u1_ne _ _ (by omega), ad_st_r1, ad_u1_ne _ _ (by omega)]
      · rw [ad_st_r1, ad_st_r1]; unfold ad_u1; split
        · constructor <;> omega
        · split
          · exact hx
          · exact hr.2.2.2.2.2 c (by omega)
      · rw [ad_st_r1, ad_u1_ne _ _ (by omega), ad_st_r1, ad_u1_ne _ _ (by omega)]; exact hb.1
      · rw [ad_st_r1, ad_u1_ne _ _ (by omega), ad_st_r1, ad_u1_ne _ _ (by omega)]; exact hb.2.1
      · rw [ad_st_r1, ad_u1_ne _ _ (by omega), ad_st_r1, ad_u1_ne _ _ (by omega)]; exact hb.2.2.1
      · rw [ad_st_r1, ad_u1_ne _ _ (by omega), ad_st_r1, ad_u1_ne _ _ (by omega)]; exact hb.2.2.2.1
      · rw [ad_st_r1, ad_u1_ne _ _ (by omega), ad_st_r1, ad_u1_ne _ _ (by omega)]; exact hb.2.2.2.2.1
      · rw [ad_st_r1, ad_u1_eq, List.length_append]; simp
      · rw [List.length_append, List.length_singleton] at hj
        rw [ad_st_r1, ad_u1_ne _ _ (by omega), ad_st_r1]
        by_cases hje : j = l.length
        · subst hje; rw [ad_u1_eq]; simp [List.getD_eq_getElem?_getD]
        · rw [ad_u1_ne _ _ (by omega), hb.2.2.2.2.2.2 j (by omega), List.getD_eq_getElem?_getD, List.getD_eq_getElem?_getD, List.getElem?_append_left (by omega)])
theorem c_X8_comes {g : ad_G} {d : Nat} {σ : ad_Mem} {A : ad_Ar} {p q : Int} (hc : ad_aC A < 10) (hr : ad_ra (σ 21 0) A) (hp : -1 ≤ p ∧ p ≤ 9) (hq : -1 ≤ q ∧ q ≤ 9) : ad_Q g mX8_comes d [ad_rf g 8 0, ad_iv (ad_lk p), ad_iv (ad_lk q)] σ (fun x m => x = ad_iv (ad_aC A : Int) ∧ ad_f8 [21] [] σ m ∧ ad_ra (m 21 0) (ad_nv A [] 0 p q)) := by
  have hlp1 := ad_lk_rng (v := p) (by omega)
  have hlq1 := ad_lk_rng (v := q) (by omega)
  have hlp : ad_rng (ad_lk p) := by constructor <;> omega
  have hlq : ad_rng (ad_lk q) := by constructor <;> omega
  have hl : ∀ (n : Nat) (j : Nat) (m : ad_Mem), (j ≤ 50) → (ad_f8 [21] [] σ m) → (∀ c, (c < 50 * ad_aC A ∨ 50 * ad_aC A + 50 ≤ c) → m 21 0 c = σ 21 0 c) → (∀ c, 50 * ad_aC A ≤ c → c < 50 * ad_aC A + j → m 21 0 c = 0) → (∀ c, 50 * ad_aC A ≤ c → c < 50 * ad_aC A + 50 → ad_rng (m 21 0 c)) → (((50 - j : Nat) : Int)).toNat ≤ n → ad_R g mX8_comes d (ad_ZQ mX8_comes (fun x m => x = ad_iv (ad_aC A : Int) ∧ ad_f8 [21] [] σ m ∧ ad_ra (m 21 0) (ad_nv A [] 0 p q))) 18 [some (ad_rf g 8 0), some (ad_iv (ad_lk p)), some (ad_iv (ad_lk q)), some (ad_iv (ad_aC A : Int)), some (ad_iv (50 * (ad_aC A : Int))), some (ad_iv (j : Int))] [] m := by
    intro n
    induction n with
    | zero =>
      intro j m hj hf e0 e1 e2 hn
      refine ad_iload dX8_comes_18 rfl ?_
      refine ad_bipush dX8_comes_20 rfl ?_
      refine ad_icmp_ge 42 dX8_comes_22 (by decide) (by omega) (by omega) (fun h22 => ?_) (fun h22 => ?_)
      · skip
        refine ad_aload_n dX8_comes_42 rfl ?_
        refine gf_X8_9 rfl dX8_comes_43 ?_
        refine ad_iload dX8_comes_46 rfl ?_
        refine ad_iconst dX8_comes_48 ?_
        refine ad_iadd dX8_comes_49 ?_
        refine ad_iconst dX8_comes_50 ?_
        refine ad_iasj (50 * ad_aC A) dX8_comes_51 (by decide) ⟨by decide, by decide⟩ (by omega) (by show _ < 520; omega) ?_
        refine ad_aload_n dX8_comes_52 rfl ?_
        refine gf_X8_9 rfl dX8_comes_53 ?_
        refine ad_iload dX8_comes_56 rfl ?_
        refine ad_iconst dX8_comes_58 ?_
        refine ad_iadd dX8_comes_59 ?_
        refine ad_iload_n dX8_comes_60 rfl ?_
        refine ad_iasj (50 * ad_aC A + 2) dX8_comes_61 (by decide) ⟨by decide, by decide⟩ (by omega) (by show _ < 520; omega) ?_
        refine ad_aload_n dX8_comes_62 rfl ?_
        refine gf_X8_9 rfl dX8_comes_63 ?_
        refine ad_iload dX8_comes_66 rfl ?_
        refine ad_iconst dX8_comes_68 ?_
        refine ad_iadd dX8_comes_69 ?_
        refine ad_iconst dX8_comes_70 ?_
        refine ad_iadd dX8_comes_71 ?_
        refine ad_iload_n dX8_comes_72 rfl ?_
        refine ad_iasj (50 * ad_aC A + 3) dX8_comes_73 (by decide) ⟨by decide, by decide⟩ (by omega) (by show _ < 520; omega) ?_
        refine ad_aload_n dX8_comes_74 rfl ?_
        refine gf_X8_9 rfl dX8_comes_75 ?_
        refine ad_iload dX8_comes_78 rfl ?_
        refine ad_iconst dX8_comes_80 ?_
        refine ad_iadd dX8_comes_81 ?_
        refine ad_bipush dX8_comes_82 rfl ?_
        refine ad_iasj (50 * ad_aC A + 4) dX8_comes_84 (by decide) ⟨by decide, by decide⟩ (by omega) (by show _ < 520; omega) ?_
        refine ad_aload_n dX8_comes_85 rfl ?_
        refine gf_X8_9 rfl dX8_comes_86 ?_
        refine ad_sipush dX8_comes_89 rfl ?_
        refine ad_dup2 dX8_comes_92 rfl rfl ?_
        refine ad_ialj (500) dX8_comes_93 (by decide) ⟨by decide, by decide⟩ (by omega) (by show _ < 520; omega) (((congrFun (ad_st_r1 _ _ _ _ _) _).trans ((ad_u1_ne _ _ (by omega)).trans ((congrFun (ad_st_r1 _ _ _ _ _) _).trans ((ad_u1_ne _ _ (by omega)).trans ((congrFun (ad_st_r1 _ _ _ _ _) _).trans ((ad_u1_ne _ _ (by omega)).trans ((congrFun (ad_st_r1 _ _ _ _ _) _).trans ((ad_u1_ne _ _ (by omega)).trans ((e0 500 (by omega)).trans hr.2.1.1)))))))))) ?_
        refine ad_iconst dX8_comes_94 ?_
        refine ad_iadd dX8_comes_95 ?_
        refine ad_iasj (500) dX8_comes_96 (by decide) ⟨by decide, by decide⟩ (by omega) (by show _ < 520; omega) ?_
        refine ad_iload_n dX8_comes_97 rfl ?_
        exact ad_reti dX8_comes_98 rfl (by
              refine ⟨rfl, hf.trans ((ad_f8.st (by decide) (by decide)).trans ((ad_f8.st (by decide) (by decide)).trans ((ad_f8.st (by decide) (by decide)).trans ((ad_f8.st (by decide) (by decide)).trans (ad_f8.st (by decide) (by decide)))))), ad_ra_nv hc hr (Or.inl rfl) ?_ (fun c h1 h2 h3 => ?_) (fun c h1 h2 => ?_) (by simp) ⟨?_, ?_, ?_, ?_, ?_, ?_, fun j hj => absurd hj (Nat.not_lt_zero j)⟩⟩
              · rw [ad_st_r1, ad_u1_eq]
              · rw [ad_st_r1, ad_u1_ne _ _ (by omega), ad_st_r1, ad_u1_ne _ _ (by omega), ad_st_r1, ad_u1_ne _ _ (by omega), ad_st_r1, ad_u1_ne _ _ (by omega), ad_st_r1, ad_u1_ne _ _ (by omega)]; exact e0 c (by omega)
              · rw [ad_st_r1, ad_st_r1, ad_st_r1, ad_st_r1, ad_st_r1]; unfold ad_u1; repeat' split
                all_goals first | decide | exact hlp | exact hlq | (constructor <;> omega) | exact e2 c h1 h2
              · rw [ad_st_r1, ad_u1_ne _ _ (by omega), ad_st_r1, ad_u1_ne _ _ (by omega), ad_st_r1, ad_u1_ne _ _ (by omega), ad_st_r1, ad_u1_ne _ _ (by omega),  ad_st_r1, ad_u1_eq]
              · rw [ad_st_r1, ad_u1_ne _ _ (by omega), ad_st_r1, ad_u1_ne _ _ (by omega), ad_st_r1, ad_u1_ne _ _ (by omega), ad_st_r1, ad_u1_ne _ _ (by omega), ad_st_r1, ad_u1_ne _ _ (by omega)]; exact e1 _ (by omega) (by omega)
              · rw [ad_st_r1, ad_u1_ne _ _ (by omega), ad_st_r1, ad_u1_ne _ _ (by omega), ad_st_r1, ad_u1_ne _ _ (by omega),  ad_st_r1, ad_u1_eq]
              · rw [ad_st_r1, ad_u1_ne _ _ (by omega), ad_st_r1, ad_u1_ne _ _ (by omega),  ad_st_r1, ad_u1_eq]
              · rw [ad_st_r1, ad_u1_ne _ _ (by omega),  ad_st_r1, ad_u1_eq]
              · rw [ad_st_r1, ad_u1_ne _ _ (by omega), ad_st_r1, ad_u1_ne _ _ (by omega), ad_st_r1, ad_u1_ne _ _ (by omega), ad_st_r1, ad_u1_ne _ _ (by omega), ad_st_r1, ad_u1_ne _ _ (by omega)]; exact e1 _ (by omega) (by omega))
      · show ad_R _ _ _ _ 25 _ _ _
        exfalso; omega
    | succ n ih =>
      intro j m hj hf e0 e1 e2 hn
      refine ad_iload dX8_comes_18 rfl ?_
      refine ad_bipush dX8_comes_20 rfl ?_
      refine ad_icmp_ge 42 dX8_comes_22 (by decide) (by omega) (by omega) (fun h22 => ?_) (fun h22 => ?_)
      · skip
        refine ad_aload_n dX8_comes_42 rfl ?_
        refine gf_X8_9 rfl dX8_comes_43 ?_
        refine ad_iload dX8_comes_46 rfl ?_
        refine ad_iconst dX8_comes_48 ?_
        refine ad_iadd dX8_comes_49 ?_
        refine ad_iconst dX8_comes_50 ?_
        refine ad_iasj (50 * ad_aC A) dX8_comes_51 (by decide) ⟨by decide, by decide⟩ (by omega) (by show _ < 520; omega) ?_
        refine ad_aload_n dX8_comes_52 rfl ?_
        refine gf_X8_9 rfl dX8_comes_53 ?_
        refine ad_iload dX8_comes_56 rfl ?_
        refine ad_iconst dX8_comes_58 ?_
        refine ad_iadd dX8_comes_59 ?_
        refine ad_iload_n dX8_comes_60 rfl ?_
        refine ad_iasj (50 * ad_aC A + 2) dX8_comes_61 (by decide) ⟨by decide, by decide⟩ (by omega) (by show _ < 520; omega) ?_
        refine ad_aload_n dX8_comes_62 rfl ?_
        refine gf_X8_9 rfl dX8_comes_63 ?_
        refine ad_iload dX8_comes_66 rfl ?_
        refine ad_iconst dX8_comes_68 ?_
        refine ad_iadd dX8_comes_69 ?_
        refine ad_iconst dX8_comes_70 ?_
        refine ad_iadd dX8_comes_71 ?_
        refine ad_iload_n dX8_comes_72 rfl ?_
        refine ad_iasj (50 * ad_aC A + 3) dX8_comes_73 (by decide) ⟨by decide, by decide⟩ (by omega) (by show _ < 520; omega) ?_
        refine ad_aload_n dX8_comes_74 rfl ?_
        refine gf_X8_9 rfl dX8_comes_75 ?_
        refine ad_iload dX8_comes_78 rfl ?_
        refine ad_iconst dX8_comes_80 ?_
        refine ad_iadd dX8_comes_81 ?_
        refine ad_bipush dX8_comes_82 rfl ?_
        refine ad_iasj (50 * ad_aC A + 4) dX8_comes_84 (by decide) ⟨by decide, by decide⟩ (by omega) (by show _ < 520; omega) ?_
        refine ad_aload_n dX8_comes_85 rfl ?_
        refine gf_X8_9 rfl dX8_comes_86 ?_
        refine ad_sipush dX8_comes_89 rfl ?_
        refine ad_dup2 dX8_comes_92 rfl rfl ?_
        refine ad_ialj (500) dX8_comes_93 (by decide) ⟨by decide, by decide⟩ (by omega) (by show _ < 520; omega) (((congrFun (ad_st_r1 _ _ _ _ _) _).trans ((ad_u1_ne _ _ (by omega)).trans ((congrFun (ad_st_r1 _ _ _ _ _) _).trans ((ad_u1_ne _ _ (by omega)).trans ((congrFun (ad_st_r1 _ _ _ _ _) _).trans ((ad_u1_ne _ _ (by omega)).trans ((congrFun (ad_st_r1 _ _ _ _ _) _).trans ((ad_u1_ne _ _ (by omega)).trans ((e0 500 (by omega)).trans hr.2.1.1)))))))))) ?_
        refine ad_iconst dX8_comes_94 ?_
        refine ad_iadd dX8_comes_95 ?_
        refine ad_iasj (500) dX8_comes_96 (by decide) ⟨by decide, by decide⟩ (by omega) (by show _ < 520; omega) ?_
        refine ad_iload_n dX8_comes_97 rfl ?_
        exact ad_reti dX8_comes_98 rfl (by
              refine ⟨rfl, hf.trans ((ad_f8.st (by decide) (by decide)).trans ((ad_f8.st (by decide) (by decide)).trans ((ad_f8.st (by decide) (by decide)).trans ((ad_f8.st (by decide) (by decide)).trans (ad_f8.st (by decide) (by decide)))))), ad_ra_nv hc hr (Or.inl rfl) ?_ (fun c h1 h2 h3 => ?_) (fun c h1 h2 => ?_) (by simp) ⟨?_, ?_, ?_, ?_, ?_, ?_, fun j hj => absurd hj (Nat.not_lt_zero j)⟩⟩
              · rw [ad_st_r1, ad_u1_eq]
              · rw [ad_st_r1, ad_u1_ne _ _ (by omega), ad_st_r1, ad_u1_ne _ _ (by omega), ad_st_r1, ad_u1_ne _ _ (by omega), ad_st_r1, ad_u1_ne _ _ (by omega), ad_st_r1, ad_u1_ne _ _ (by omega)]; exact e0 c (by omega)
              · rw [ad_st_r1, ad_st_r1, ad_st_r1, ad_st_r1, ad_st_r1]; unfold ad_u1; repeat' split
                all_goals first | decide | exact hlp | exact hlq | (constructor <;> omega) | exact e2 c h1 h2
              · rw [ad_st_r1, ad_u1_ne _ _ (by omega), ad_st_r1, ad_u1_ne _ _ (by omega), ad_st_r1, ad_u1_ne _ _ (by omega), ad_st_r1, ad_u1_ne _ _ (by omega),  ad_st_r1, ad_u1_eq]
              · rw [ad_st_r1, ad_u1_ne _ _ (by omega), ad_st_r1, ad_u1_ne _ _ (by omega), ad_st_r1, ad_u1_ne _ _ (by omega), ad_st_r1, ad_u1_ne _ _ (by omega), ad_st_r1, ad_u1_ne _ _ (by omega)]; exact e1 _ (by omega) (by omega)
              · rw [ad_st_r1, ad_u1_ne _ _ (by omega), ad_st_r1, ad_u1_ne _ _ (by omega), ad_st_r1, ad_u1_ne _ _ (by omega),  ad_st_r1, ad_u1_eq]
              · rw [ad_st_r1, ad_u1_ne _ _ (by omega), ad_st_r1, ad_u1_ne _ _ (by omega),  ad_st_r1, ad_u1_eq]
              · rw [ad_st_r1, ad_u1_ne _ _ (by omega),  ad_st_r1, ad_u1_eq]
              · rw [ad_st_r1, ad_u1_ne _ _ (by omega), ad_st_r1, ad_u1_ne _ _ (by omega), ad_st_r1, ad_u1_ne _ _ (by omega), ad_st_r1, ad_u1_ne _ _ (by omega), ad_st_r1, ad_u1_ne _ _ (by omega)]; exact e1 _ (by omega) (by omega))
      · show ad_R _ _ _ _ 25 _ _ _
        refine ad_aload_n dX8_comes_25 rfl ?_
        refine gf_X8_9 rfl dX8_comes_26 ?_
        refine ad_iload dX8_comes_29 rfl ?_
        refine ad_iload dX8_comes_31 rfl ?_
        refine ad_iadd dX8_comes_33 ?_
        refine ad_iconst dX8_comes_34 ?_
        refine ad_iasj (50 * ad_aC A + j) dX8_comes_35 (by decide) ⟨by decide, by decide⟩ (by omega) (by show _ < 520; omega) ?_
        refine ad_iinc dX8_comes_36 rfl (by decide) rfl (by dsimp only [ad_set]) ?_
        refine ad_goto 18 dX8_comes_39 (by decide) ?_
        exact ih (j + 1) _ (by omega) (hf.trans (ad_f8.st (by decide) (by decide))) (fun c hc => by rw [ad_st_r1, ad_u1_ne _ _ (by omega)]; exact e0 c hc) (fun c h1 h2 => by
          rw [ad_st_r1]
          by_cases hcj : c = 50 * ad_aC A + j
          · rw [hcj, ad_u1_eq]
          · rw [ad_u1_ne _ _ hcj]; exact e1 c h1 (by omega)) (fun c h1 h2 => by
          rw [ad_st_r1]; unfold ad_u1; split
          · decide
          · exact e2 c h1 h2) (by omega)
  refine ad_M1 (k := 3) rfl (by simp [Value.category]) rfl (Nat.le_of_ble_eq_true rfl) ?_
  simp only [List.map_cons, List.map_nil, List.replicate, List.cons_append, List.nil_append]
  refine ad_aload_n dX8_comes_0 rfl ?_
  refine gf_X8_9 rfl dX8_comes_1 ?_
  refine ad_sipush dX8_comes_4 rfl ?_
  refine ad_ialj (500) dX8_comes_7 (by decide) ⟨by decide, by decide⟩ (by omega) (by show _ < 520; omega) (hr.2.1.1) ?_
  refine ad_istore_n dX8_comes_8 (by decide) rfl (by dsimp only [ad_set]) ?_
  refine ad_bipush dX8_comes_9 rfl ?_
  refine ad_iload_n dX8_comes_11 rfl ?_
  refine ad_imul dX8_comes_12 ?_
  refine ad_istore dX8_comes_13 (by decide) rfl (by dsimp only [ad_set]) ?_
  refine ad_iconst dX8_comes_15 ?_
  refine ad_istore dX8_comes_16 (by decide) rfl (by dsimp only [ad_set]) ?_
  exact hl _ 0 σ (by omega) ad_f8.refl (fun c _ => rfl) (fun c h1 h2 => by omega) (fun c h1 h2 => hr.2.2.2.2.2 c (by omega)) (Nat.le_refl _)
theorem c_X8_hashed {g : ad_G} {d : Nat} {σ : ad_Mem} {A : ad_Ar} {l : List Int} {p q : Int} (hw : ad_wA A) (hc : ad_aC A < 10) (hr : ad_ra (σ 21 0) (ad_nv A l 0 p q)) (hl : 1 ≤ l.length ∧ l.length ≤ 12 ∧ ∀ x ∈ l, 0 ≤ x ∧ x ≤ 7) (hp : -1 ≤ p ∧ p < ad_aC A) (hq : -1 ≤ q ∧ q < ad_aC A) (h12d : 12 ≤ d) : ad_Q g mX8_hashed d [ad_rf g 8 0, ad_iv (ad_aC A : Int)] σ (fun x m => x = ad_iv (ad_aC A : Int) ∧ ad_f8 [21, 28, 29] [] σ m ∧ ad_ra (m 21 0) (ad_add A l p q)) := by
  refine ad_M1 (k := 0) rfl (by simp [Value.category]) rfl (Nat.le_of_ble_eq_true rfl) ?_
  simp only [List.map_cons, List.map_nil, List.replicate, List.cons_append, List.nil_append]
  refine ad_aload_n dX8_hashed_0 rfl ?_
  refine ad_cv0v rfl cl_X8_84 dX8_hashed_1 (c_X8_restores hr (ad_wA_nv hw hc hl hp hq (by decide)) (by omega)) (by omega) (by show _ < 1; omega) (Nat.le_of_ble_eq_true rfl) (fun s1 q1 => ?_)
  obtain ⟨f1, g1, g2⟩ := q1
  have hr1 : ad_ra (s1 21 0) (ad_nv A l 0 p q) := ad_ra_congr (fun i _ => congrFun (f1.1 21 0 (by decide) (by decide)) i) hr
  have hH : ad_aH (ad_nv A l 0 p q) (ad_aC A) = true := if_pos rfl
  have hL : ad_aL (ad_nv A l 0 p q) (ad_aC A) = l := if_pos rfl
  have h29 : s1 29 0 (ad_aC A) = (l.length : Int) := by rw [g1 _ hc, if_pos hH, hL]
  have h28 := (g2 _ hc hH).2
  rw [hL] at h28
  have hb := ad_nv_last hr1
  refine ad_aload_n dX8_hashed_4 rfl ?_
  refine gf_X8_9 rfl dX8_hashed_5 ?_
  refine ad_bipush dX8_hashed_8 rfl ?_
  refine ad_iload_n dX8_hashed_10 rfl ?_
  refine ad_imul dX8_hashed_11 ?_
  refine ad_iconst dX8_hashed_12 ?_
  refine ad_iadd dX8_hashed_13 ?_
  refine ad_aload_n dX8_hashed_14 rfl ?_
  refine ad_iload_n dX8_hashed_15 rfl ?_
  refine ad_cv1f rfl cl_X8_116 dX8_hashed_16 (c_X8_hash hc h29 hl.2.1 h28 (fun x hx => by have := hl.2.2 x hx; omega)) (by omega) (by show _ < 1; omega) (Nat.le_of_ble_eq_true rfl) ?_
  have hhr := ad_hs_fold l (fun x hx => by have := hl.2.2 x hx; omega) 7 (by omega) (by omega)
  change 0 ≤ ad_hs l ∧ ad_hs l < 9973 at hhr
  refine ad_iasj (50 * ad_aC A + 1) dX8_hashed_19 (by decide) ⟨by decide, by decide⟩ (by omega) (by show _ < 520; omega) ?_
  refine ad_iload_n dX8_hashed_20 rfl ?_
  exact ad_reti dX8_hashed_21 rfl (by
      refine ⟨rfl, (f1.mono (by decide) (by decide)).trans (ad_f8.st (by decide) (by decide)), ?_⟩
      show ad_ra _ (ad_nv A l (ad_hs l) p q)
      refine ad_ra_nv hc hr1 (Or.inr ⟨_, _, _, _, rfl⟩) ?_ (fun c h1 h2 h3 => ?_) (fun c h1 h2 => ?_) hl.2.1 ⟨?_, ?_, ?_, ?_, ?_, ?_, fun j hj => ?_⟩
      · rw [ad_st_r1, ad_u1_ne _ _ (by omega)]; exact hr1.2.1.1
      · rw [ad_st_r1, ad_u1_ne _ _ (by omega)]
      · rw [ad_st_r1]; unfold ad_u1; split
        · constructor <;> omega
        · exact hr1.2.2.2.2.2 c (by omega)
      · rw [ad_st_r1, ad_u1_ne _ _ (by omega)]; exact hb.1
      · rw [ad_st_r1, ad_u1_eq]
      · rw [ad_st_r1, ad_u1_ne _ _ (by omega)]; exact hb.2.2.1
      · rw [ad_st_r1, ad_u1_ne _ _ (by omega)]; exact hb.2.2.2.1
      · rw [ad_st_r1, ad_u1_ne _ _ (by omega)]; exact hb.2.2.2.2.1
      · rw [ad_st_r1, ad_u1_ne _ _ (by omega)]; exact hb.2.2.2.2.2.1
      · rw [ad_st_r1, ad_u1_ne _ _ (by omega)]; exact hb.2.2.2.2.2.2 j hj)
theorem c_X8_edited {g : ad_G} {d : Nat} {σ : ad_Mem} {A : ad_Ar} (hr : ad_ra (σ 21 0) A) (hw : ad_wA A) {v pp : Nat} {y : Int} (hc : ad_aC A < 10) (hv : ad_aH A v = true) (hpl : pp ≤ (ad_aL A v).length) (hy : 0 ≤ y ∧ y ≤ 8) (h8 : y = 8 → pp < (ad_aL A v).length ∧ 2 ≤ (ad_aL A v).length) (h12 : pp < 12) (h13d : 13 ≤ d) : ad_Q g mX8_edited d [ad_rf g 8 0, ad_iv (v : Int), ad_iv (pp : Int), ad_iv y] σ (fun x m => x = ad_iv (ad_aC A : Int) ∧ ad_f8 [21, 28, 29] [] σ m ∧ ad_ra (m 21 0) (ad_add A (ad_edl (ad_aL A v) pp y) (v : Int) (-1))) := by
  refine ad_M1 (k := 2) rfl (by simp [Value.category]) rfl (Nat.le_of_ble_eq_true rfl) ?_
  simp only [List.map_cons, List.map_nil, List.replicate, List.cons_append, List.nil_append]
  refine ad_aload_n dX8_edited_0 rfl ?_
  refine ad_cv0v rfl cl_X8_84 dX8_edited_1 (c_X8_restores hr hw (by omega)) (by omega) (by show _ < 1; omega) (Nat.le_of_ble_eq_true rfl) (fun s1 q1 => ?_)
  obtain ⟨f1, hrr⟩ := q1
  have hr1 : ad_ra (s1 21 0) A := ad_ra_congr (fun i _ => congrFun (f1.1 21 0 (by decide) (by decide)) i) hr
  have hlx := (hw.2.2.1 v hv).1
  have hvC := (hr.1.2 v hv).1
  have hl : ∀ (n : Nat) (i : Nat) (m : ad_Mem), (i ≤ (ad_aL A v).length) → (ad_f8 [21] [] s1 m) → (ad_ra (m 21 0) (ad_nv A (ad_edp (ad_aL A v) pp y i) 0 (v : Int) (-1))) → ((((ad_aL A v).length - i : Nat) : Int)).toNat ≤ n → ad_R g mX8_edited d (ad_ZQ mX8_edited (fun x m => x = ad_iv (ad_aC A : Int) ∧ ad_f8 [21, 28, 29] [] σ m ∧ ad_ra (m 21 0) (ad_add A (ad_edl (ad_aL A v) pp y) (v : Int) (-1)))) 16 [some (ad_rf g 8 0), some (ad_iv (v : Int)), some (ad_iv (pp : Int)), some (ad_iv y), some (ad_iv (ad_aC A : Int)), some (ad_iv (i : Int))] [] m := by
    intro n
    induction n with
    | zero =>
      intro i m hi hf hm hn
      refine ad_iload dX8_edited_16 rfl ?_
      refine ad_aload_n dX8_edited_18 rfl ?_
      refine gf_X8_34 rfl dX8_edited_19 ?_
      refine ad_iload_n dX8_edited_22 rfl ?_
      refine ad_ialj (v) dX8_edited_23 (by decide) ⟨by decide, by decide⟩ (by omega) (by show _ < 10; omega) ((by
            rw [hf.1 29 0 (by decide) (by decide), hrr.1 v (by omega), if_pos hv] : m 29 0 v = ((ad_aL A v).length : Int))) ?_
      refine ad_icmp_ge 76 dX8_edited_24 (by decide) (by omega) (by omega) (fun h24 => ?_) (fun h24 => ?_)
      · skip
        have hel := ad_edp_len (ad_aL A v) pp y (ad_aL A v).length
        have hend := ad_edp_end (l := ad_aL A v) (p := pp) (x := y) hpl
        have hok := ad_edl_ok (l := ad_aL A v) (p := pp) (x := y) hlx hpl hy h8 h12
        rw [show i = (ad_aL A v).length by omega] at hm
        refine ad_iload_n dX8_edited_76 rfl ?_
        refine ad_aload_n dX8_edited_77 rfl ?_
        refine gf_X8_34 rfl dX8_edited_78 ?_
        refine ad_iload_n dX8_edited_81 rfl ?_
        refine ad_ialj (v) dX8_edited_82 (by decide) ⟨by decide, by decide⟩ (by omega) (by show _ < 10; omega) ((by
              rw [hf.1 29 0 (by decide) (by decide), hrr.1 v (by omega), if_pos hv] : m 29 0 v = ((ad_aL A v).length : Int))) ?_
        refine ad_icmp_ne 93 dX8_edited_83 (by decide) (by omega) (by omega) (fun h83 => ?_) (fun h83 => ?_)
        · skip
          refine ad_aload_n dX8_edited_93 rfl ?_
          refine ad_iload dX8_edited_94 rfl ?_
          have hm2 := hm
          rw [if_neg (by omega), List.append_nil] at hend
          rw [hend] at hm2
          refine ad_cv1q rfl cl_X8_126 dX8_edited_96 (c_X8_hashed hw hc hm2 hok (by omega) (by omega) (by omega)) (by omega) (by show _ < 1; omega) (Nat.le_of_ble_eq_true rfl) (fun x96 s96 q96 => ?_)
          obtain ⟨rfl, f96, r96⟩ := q96
          exact ad_reti dX8_edited_99 rfl (⟨rfl, (f1.mono (by decide) (by decide)).trans ((hf.mono (by decide) (by decide)).trans f96), r96⟩)
        · show ad_R _ _ _ _ 86 _ _ _
          refine ad_aload_n dX8_edited_86 rfl ?_
          refine ad_iload dX8_edited_87 rfl ?_
          refine ad_iload_n dX8_edited_89 rfl ?_
          refine ad_cv2v rfl cl_X8_122 dX8_edited_90 (c_X8_adds hc hm (by omega) (by constructor <;> omega)) (by omega) (by show _ < 1; omega) (Nat.le_of_ble_eq_true rfl) (fun s90 q90 => ?_)
          have hm2 := q90.2
          rw [if_pos (by omega)] at hend
          rw [hend] at hm2
          refine ad_aload_n dX8_edited_93 rfl ?_
          refine ad_iload dX8_edited_94 rfl ?_
          refine ad_cv1q rfl cl_X8_126 dX8_edited_96 (c_X8_hashed hw hc hm2 hok (by omega) (by omega) (by omega)) (by omega) (by show _ < 1; omega) (Nat.le_of_ble_eq_true rfl) (fun x96 s96 q96 => ?_)
          obtain ⟨rfl, f96, r96⟩ := q96
          exact ad_reti dX8_edited_99 rfl (⟨rfl, (f1.mono (by decide) (by decide)).trans ((hf.mono (by decide) (by decide)).trans ((q90.1.mono (by decide) (by decide)).trans f96)), r96⟩)
      · show ad_R _ _ _ _ 27 _ _ _
        have hgl : (ad_aL A v).getD i 0 = (ad_aL A v)[i]'(by omega) := by rw [List.getD_eq_getElem?_getD, List.getElem?_eq_getElem (by omega)]; rfl
        have hxr := hlx.2.2 _ (List.getElem_mem (show i < (ad_aL A v).length by omega))
        have hel := ad_edp_len (ad_aL A v) pp y i
        exfalso; omega
    | succ n ih =>
      intro i m hi hf hm hn
      refine ad_iload dX8_edited_16 rfl ?_
      refine ad_aload_n dX8_edited_18 rfl ?_
      refine gf_X8_34 rfl dX8_edited_19 ?_
      refine ad_iload_n dX8_edited_22 rfl ?_
      refine ad_ialj (v) dX8_edited_23 (by decide) ⟨by decide, by decide⟩ (by omega) (by show _ < 10; omega) ((by
            rw [hf.1 29 0 (by decide) (by decide), hrr.1 v (by omega), if_pos hv] : m 29 0 v = ((ad_aL A v).length : Int))) ?_
      refine ad_icmp_ge 76 dX8_edited_24 (by decide) (by omega) (by omega) (fun h24 => ?_) (fun h24 => ?_)
      · skip
        have hel := ad_edp_len (ad_aL A v) pp y (ad_aL A v).length
        have hend := ad_edp_end (l := ad_aL A v) (p := pp) (x := y) hpl
        have hok := ad_edl_ok (l := ad_aL A v) (p := pp) (x := y) hlx hpl hy h8 h12
        rw [show i = (ad_aL A v).length by omega] at hm
        refine ad_iload_n dX8_edited_76 rfl ?_
        refine ad_aload_n dX8_edited_77 rfl ?_
        refine gf_X8_34 rfl dX8_edited_78 ?_
        refine ad_iload_n dX8_edited_81 rfl ?_
        refine ad_ialj (v) dX8_edited_82 (by decide) ⟨by decide, by decide⟩ (by omega) (by show _ < 10; omega) ((by
              rw [hf.1 29 0 (by decide) (by decide), hrr.1 v (by omega), if_pos hv] : m 29 0 v = ((ad_aL A v).length : Int))) ?_
        refine ad_icmp_ne 93 dX8_edited_83 (by decide) (by omega) (by omega) (fun h83 => ?_) (fun h83 => ?_)
        · skip
          refine ad_aload_n dX8_edited_93 rfl ?_
          refine ad_iload dX8_edited_94 rfl ?_
          have hm2 := hm
          rw [if_neg (by omega), List.append_nil] at hend
          rw [hend] at hm2
          refine ad_cv1q rfl cl_X8_126 dX8_edited_96 (c_X8_hashed hw hc hm2 hok (by omega) (by omega) (by omega)) (by omega) (by show _ < 1; omega) (Nat.le_of_ble_eq_true rfl) (fun x96 s96 q96 => ?_)
          obtain ⟨rfl, f96, r96⟩ := q96
          exact ad_reti dX8_edited_99 rfl (⟨rfl, (f1.mono (by decide) (by decide)).trans ((hf.mono (by decide) (by decide)).trans f96), r96⟩)
        · show ad_R _ _ _ _ 86 _ _ _
          refine ad_aload_n dX8_edited_86 rfl ?_
          refine ad_iload dX8_edited_87 rfl ?_
          refine ad_iload_n dX8_edited_89 rfl ?_
          refine ad_cv2v rfl cl_X8_122 dX8_edited_90 (c_X8_adds hc hm (by omega) (by constructor <;> omega)) (by omega) (by show _ < 1; omega) (Nat.le_of_ble_eq_true rfl) (fun s90 q90 => ?_)
          have hm2 := q90.2
          rw [if_pos (by omega)] at hend
          rw [hend] at hm2
          refine ad_aload_n dX8_edited_93 rfl ?_
          refine ad_iload dX8_edited_94 rfl ?_
          refine ad_cv1q rfl cl_X8_126 dX8_edited_96 (c_X8_hashed hw hc hm2 hok (by omega) (by omega) (by omega)) (by omega) (by show _ < 1; omega) (Nat.le_of_ble_eq_true rfl) (fun x96 s96 q96 => ?_)
          obtain ⟨rfl, f96, r96⟩ := q96
          exact ad_reti dX8_edited_99 rfl (⟨rfl, (f1.mono (by decide) (by decide)).trans ((hf.mono (by decide) (by decide)).trans ((q90.1.mono (by decide) (by decide)).trans f96)), r96⟩)
      · show ad_R _ _ _ _ 27 _ _ _
        have hgl : (ad_aL A v).getD i 0 = (ad_aL A v)[i]'(by omega) := by rw [List.getD_eq_getElem?_getD, List.getElem?_eq_getElem (by omega)]; rfl
        have hxr := hlx.2.2 _ (List.getElem_mem (show i < (ad_aL A v).length by omega))
        have hel := ad_edp_len (ad_aL A v) pp y i
        refine ad_iload dX8_edited_27 rfl ?_
        refine ad_iload_n dX8_edited_29 rfl ?_
        refine ad_icmp_ne 42 dX8_edited_30 (by decide) (by omega) (by omega) (fun h30 => ?_) (fun h30 => ?_)
        · skip
          refine ad_aload_n dX8_edited_42 rfl ?_
          refine ad_iload dX8_edited_43 rfl ?_
          refine ad_iload dX8_edited_45 rfl ?_
          refine ad_iload_n dX8_edited_47 rfl ?_
          refine ad_icmp_ne 55 dX8_edited_48 (by decide) (by omega) (by omega) (fun h48 => ?_) (fun h48 => ?_)
          · skip
            refine ad_aload_n dX8_edited_55 rfl ?_
            refine gf_X8_31 rfl dX8_edited_56 ?_
            refine ad_bipush dX8_edited_59 rfl ?_
            refine ad_iload_n dX8_edited_61 rfl ?_
            refine ad_imul dX8_edited_62 ?_
            refine ad_iload dX8_edited_63 rfl ?_
            refine ad_iadd dX8_edited_65 ?_
            refine ad_ialj (12 * v + i) dX8_edited_66 (by decide) ⟨by decide, by decide⟩ (by omega) (by show _ < 120; omega) (((congrFun (hf.1 28 0 (by decide) (by decide)) _).trans ((hrr.2 v (by omega) hv).2 i (by omega)))) ?_
            refine ad_cv2v rfl cl_X8_122 dX8_edited_67 (c_X8_adds hc hm (by omega) (by constructor <;> omega)) (by omega) (by show _ < 1; omega) (Nat.le_of_ble_eq_true rfl) (fun s67 q67 => ?_)
            refine ad_iinc dX8_edited_70 rfl (by decide) rfl (by dsimp only [ad_set]) ?_
            refine ad_goto 16 dX8_edited_73 (by decide) ?_
            have hes := ad_edp_s (l := ad_aL A v) (p := pp) (x := y) (i := i) (by omega)
            rw [if_neg (show ¬ i = pp by omega)] at hes
            exact ih (i + 1) _ (by omega) (hf.trans q67.1) (by rw [hes, ← hgl]; exact q67.2) (by omega)
          · show ad_R _ _ _ _ 51 _ _ _
            refine ad_iload_n dX8_edited_51 rfl ?_
            refine ad_goto 67 dX8_edited_52 (by decide) ?_
            refine ad_cv2v rfl cl_X8_122 dX8_edited_67 (c_X8_adds hc hm (by omega) (by constructor <;> omega)) (by omega) (by show _ < 1; omega) (Nat.le_of_ble_eq_true rfl) (fun s67 q67 => ?_)
            refine ad_iinc dX8_edited_70 rfl (by decide) rfl (by dsimp only [ad_set]) ?_
            refine ad_goto 16 dX8_edited_73 (by decide) ?_
            have hes := ad_edp_s (l := ad_aL A v) (p := pp) (x := y) (i := i) (by omega)
            rw [if_pos (show i = pp by omega), if_neg (show ¬ y = 8 by omega)] at hes
            exact ih (i + 1) _ (by omega) (hf.trans q67.1) (by rw [hes]; exact q67.2) (by omega)
        · show ad_R _ _ _ _ 33 _ _ _
          refine ad_iload_n dX8_edited_33 rfl ?_
          refine ad_bipush dX8_edited_34 rfl ?_
          refine ad_icmp_ne 42 dX8_edited_36 (by decide) (by omega) (by omega) (fun h36 => ?_) (fun h36 => ?_)
          · skip
            refine ad_aload_n dX8_edited_42 rfl ?_
            refine ad_iload dX8_edited_43 rfl ?_
            refine ad_iload dX8_edited_45 rfl ?_
            refine ad_iload_n dX8_edited_47 rfl ?_
            refine ad_icmp_ne 55 dX8_edited_48 (by decide) (by omega) (by omega) (fun h48 => ?_) (fun h48 => ?_)
            · skip
              refine ad_aload_n dX8_edited_55 rfl ?_
              refine gf_X8_31 rfl dX8_edited_56 ?_
              refine ad_bipush dX8_edited_59 rfl ?_
              refine ad_iload_n dX8_edited_61 rfl ?_
              refine ad_imul dX8_edited_62 ?_
              refine ad_iload dX8_edited_63 rfl ?_
              refine ad_iadd dX8_edited_65 ?_
              refine ad_ialj (12 * v + i) dX8_edited_66 (by decide) ⟨by decide, by decide⟩ (by omega) (by show _ < 120; omega) (((congrFun (hf.1 28 0 (by decide) (by decide)) _).trans ((hrr.2 v (by omega) hv).2 i (by omega)))) ?_
              refine ad_cv2v rfl cl_X8_122 dX8_edited_67 (c_X8_adds hc hm (by omega) (by constructor <;> omega)) (by omega) (by show _ < 1; omega) (Nat.le_of_ble_eq_true rfl) (fun s67 q67 => ?_)
              refine ad_iinc dX8_edited_70 rfl (by decide) rfl (by dsimp only [ad_set]) ?_
              refine ad_goto 16 dX8_edited_73 (by decide) ?_
              have hes := ad_edp_s (l := ad_aL A v) (p := pp) (x := y) (i := i) (by omega)
              rw [if_neg (show ¬ i = pp by omega)] at hes
              exact ih (i + 1) _ (by omega) (hf.trans q67.1) (by rw [hes, ← hgl]; exact q67.2) (by omega)
            · show ad_R _ _ _ _ 51 _ _ _
              refine ad_iload_n dX8_edited_51 rfl ?_
              refine ad_goto 67 dX8_edited_52 (by decide) ?_
              refine ad_cv2v rfl cl_X8_122 dX8_edited_67 (c_X8_adds hc hm (by omega) (by constructor <;> omega)) (by omega) (by show _ < 1; omega) (Nat.le_of_ble_eq_true rfl) (fun s67 q67 => ?_)
              refine ad_iinc dX8_edited_70 rfl (by decide) rfl (by dsimp only [ad_set]) ?_
              refine ad_goto 16 dX8_edited_73 (by decide) ?_
              have hes := ad_edp_s (l := ad_aL A v) (p := pp) (x := y) (i := i) (by omega)
              rw [if_pos (show i = pp by omega), if_neg (show ¬ y = 8 by omega)] at hes
              exact ih (i + 1) _ (by omega) (hf.trans q67.1) (by rw [hes]; exact q67.2) (by omega)
          · show ad_R _ _ _ _ 39 _ _ _
            refine ad_goto 70 dX8_edited_39 (by decide) ?_
            refine ad_iinc dX8_edited_70 rfl (by decide) rfl (by dsimp only [ad_set]) ?_
            refine ad_goto 16 dX8_edited_73 (by decide) ?_
            have hes := ad_edp_s (l := ad_aL A v) (p := pp) (x := y) (i := i) (by omega)
            rw [if_pos (show i = pp by omega), if_pos (show y = 8 by omega), List.append_nil] at hes
            exact ih (i + 1) m (by omega) hf (by rw [hes]; exact hm) (by omega)
  refine ad_aload_n dX8_edited_4 rfl ?_
  refine ad_iload_n dX8_edited_5 rfl ?_
  refine ad_bipush dX8_edited_6 rfl ?_
  refine ad_cv2q rfl cl_X8_119 dX8_edited_8 ((by
        have hz := c_X8_comes (g := g) (d := d - 1) (p := (v : Int)) (q := -1) hc hr1 (by omega) (by omega)
        rw [ad_lk_ge (by omega)] at hz
        exact hz)) (by omega) (by show _ < 1; omega) (Nat.le_of_ble_eq_true rfl) (fun x8 s8 q8 => ?_)
  obtain ⟨rfl, f8, r8⟩ := q8
  refine ad_istore dX8_edited_11 (by decide) rfl (by dsimp only [ad_set]) ?_
  refine ad_iconst dX8_edited_13 ?_
  refine ad_istore dX8_edited_14 (by decide) rfl (by dsimp only [ad_set]) ?_
  exact hl _ 0 _ (by omega) f8 (by unfold ad_edp; rw [if_neg (by omega), List.take_zero]; exact r8) (Nat.le_refl _)
