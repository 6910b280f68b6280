/-! ===== the reference: a repack: stored ===== -/
/-- bases and steps as in A2 where D, else as in A -/
def ad_md (A A2 : ad_Ar) (D : Nat → Bool) : ad_Ar := ad_mk (ad_aC A) (ad_aH A) (ad_aL A) (ad_aP A) (ad_aQ A) (ad_aG A) (fun u => if D u = true then ad_aB A2 u else ad_aB A u) (fun u => if D u = true then ad_aT A2 u else ad_aT A u) (ad_aE A) (ad_aK A) (ad_aF A) (ad_aN A)
theorem ad_ra_eqH {a : Nat → Int} {A A' : ad_Ar} (hr : ad_ra a A) (h1 : ad_aC A' = ad_aC A ∧ ad_aH A' = ad_aH A ∧ ad_aL A' = ad_aL A ∧ ad_aP A' = ad_aP A ∧ ad_aQ A' = ad_aQ A ∧ ad_aG A' = ad_aG A) (h2 : ad_aE A' = ad_aE A ∧ ad_aK A' = ad_aK A ∧ ad_aF A' = ad_aF A ∧ ad_aN A' = ad_aN A) (h3 : ∀ u, ad_aH A u = true → ad_aB A' u = ad_aB A u ∧ ad_aT A' u = ad_aT A u) : ad_ra a A' := by
  obtain ⟨e1, e2, e3, e4, e5, e6⟩ := h1
  obtain ⟨f1, f2, f3, f4⟩ := h2
  obtain ⟨⟨r1, r1b⟩, r2, r7, r8, r9, r10⟩ := hr
  unfold ad_ra ad_rv
  rw [e1, e2, e3, e4, e5, e6, f1, f2, f3, f4]
  refine ⟨⟨r1, fun v hv => by rw [(h3 v hv).2]; exact r1b v hv⟩, r2, r7, r8, fun v hv => ?_, r10⟩
  rw [(h3 v hv).1, (h3 v hv).2]
  exact r9 v hv
theorem ad_dl_rng {s t : List Int} (hs : s.length ≤ 12) (ht : ∀ x ∈ t, 0 ≤ x ∧ x ≤ 7) : ∀ q ∈ ad_dl s t, (0 ≤ q.1 ∧ q.1 ≤ 12) ∧ 0 ≤ q.2 ∧ q.2 ≤ 12 := fun q hq => by
  have h := ad_dl_ok s _ t (Nat.le_refl _)
  rcases h.2 q hq with h0 | h0
  · have := ht q.2 (by rw [← h.1]; exact ad_spell_ins hq h0)
    omega
  · omega
theorem ad_gD2 {l : List (Int × Int)} (h : ∀ q ∈ l, (0 ≤ q.1 ∧ q.1 ≤ 12) ∧ 0 ≤ q.2 ∧ q.2 ≤ 12) (k : Nat) : (0 ≤ (l.getD k (0, 0)).1 ∧ (l.getD k (0, 0)).1 ≤ 12) ∧ 0 ≤ (l.getD k (0, 0)).2 ∧ (l.getD k (0, 0)).2 ≤ 12 := by
  rw [List.getD_eq_getElem?_getD]
  by_cases hk : k < l.length
  · rw [List.getElem?_eq_getElem hk]; exact h _ (List.getElem_mem hk)
  · rw [List.getElem?_eq_none (by omega)]; decide
theorem ad_sp_rng {m : ad_Mem} {l : List (Int × Int)} (h : ad_sp m l) (hl : ∀ q ∈ l, (0 ≤ q.1 ∧ q.1 ≤ 12) ∧ 0 ≤ q.2 ∧ q.2 ≤ 12) {j : Nat} (hj : j < 2 * l.length) : ad_rng (m 30 0 j) := by
  have hk := h.2.2 (j / 2) (by omega)
  have hg := ad_gD2 hl (j / 2)
  by_cases h2 : j % 2 = 0
  · rw [show j = 2 * (j / 2) by omega, hk.1]; constructor <;> omega
  · rw [show j = 2 * (j / 2) + 1 by omega, hk.2]; constructor <;> omega
theorem ad_rpC {g : ad_G} {d : Nat} {σ : ad_Mem} {A : ad_Ar} {Z : Nat → List Value → ad_Mem → Prop} (hw : ad_wA A) (hr : ad_ra (σ 21 0) A) (hrr : ad_rr σ (ad_aH A) (ad_aL A)) (h3d : 3 ≤ d) (hp : ∀ j, j < (ad_ordL A (ad_aK A)).length → σ 31 0 j = ((ad_ordL A (ad_aK A)).getD j 0 : Int)) (hq : ∀ q, q < (ad_ordL A (ad_aK A)).length → σ 33 0 ((ad_ordL A (ad_aK A)).getD q 0) = if (ad_pl A (ad_aK A) (ad_aF A) (ad_aN A) (ad_ordL A (ad_aK A)) (ad_ordL A (ad_aK A)).length).1 ((ad_ordL A (ad_aK A)).getD q 0) < 10 then (ad_pl A (ad_aK A) (ad_aF A) (ad_aN A) (ad_ordL A (ad_aK A)) (ad_ordL A (ad_aK A)).length).1 ((ad_ordL A (ad_aK A)).getD q 0) else -9) (kk : ∀ (m : ad_Mem) (y2 : Int) (y3 y4 y5 y6 y7 y8 y9 : Option Value), ad_f8 [21, 30] [18, 19] σ m → ad_ra (m 21 0) (ad_rp A) → ad_R g mX8_repacks d Z 436 [some (ad_rf g 8 0), some (ad_iv ((ad_ordL A (ad_aK A)).length : Int)), some (ad_iv y2), y3, y4, y5, y6, y7, y8, y9] [] m) (y2 : Int) (y3 y4 y5 y6 y7 y8 y9 : Option Value) : ad_R g mX8_repacks d Z 303 [some (ad_rf g 8 0), some (ad_iv ((ad_ordL A (ad_aK A)).length : Int)), some (ad_iv y2), y3, y4, y5, y6, y7, y8, y9] [] σ := by
  have w8 := hw.2.2.2.2.2.2.2.1
  have hl10 := ad_ordL_len A (ad_aK A)
  have hend : ∀ (i : Nat) (y4 y5 y6 y7 y8 y9 : Option Value) (m : ad_Mem) (D : Nat → Bool), (ad_ordL A (ad_aK A)).length ≤ i → ad_f8 [21, 30] [18, 19] σ m → ad_ra (m 21 0) (ad_md A (ad_rp A) D) → (∀ q, q < i → D ((ad_ordL A (ad_aK A)).getD q 0) = true) → ad_R g mX8_repacks d Z 436 [some (ad_rf g 8 0), some (ad_iv ((ad_ordL A (ad_aK A)).length : Int)), some (ad_iv y2), some (ad_iv (i : Int)), y4, y5, y6, y7, y8, y9] [] m := by
    intro i y4 y5 y6 y7 y8 y9 m D hi hf hrm hD
    refine kk m _ _ _ _ _ _ _ _ hf (ad_ra_eqH hrm ⟨rfl, rfl, rfl, rfl, rfl, rfl⟩ ⟨rfl, rfl, rfl, rfl⟩ (fun u hu => ?_))
    obtain ⟨q, hq1, rfl⟩ := ad_ordL_pos hw (k := ad_aK A) hu
    have hd := hD q (by omega)
    exact ⟨(if_pos hd).symm, (if_pos hd).symm⟩
  have hlpend : ∀ (i : Nat) (y4 y5 y6 y7 y8 y9 : Option Value) (m : ad_Mem) (D : Nat → Bool), (ad_ordL A (ad_aK A)).length ≤ i → ad_f8 [21, 30] [18, 19] σ m → ad_ra (m 21 0) (ad_md A (ad_rp A) D) → (∀ q, q < i → D ((ad_ordL A (ad_aK A)).getD q 0) = true) → i ≤ 10 → ad_R g mX8_repacks d Z 305 [some (ad_rf g 8 0), some (ad_iv ((ad_ordL A (ad_aK A)).length : Int)), some (ad_iv y2), some (ad_iv (i : Int)), y4, y5, y6, y7, y8, y9] [] m := by
    intro i y4 y5 y6 y7 y8 y9 m D hi hf hrm hD hi10
    refine ad_iload_n dX8_repacks_305 rfl ?_
    refine ad_iload_n dX8_repacks_306 rfl ?_
    refine ad_icmp_ge 436 dX8_repacks_307 (by decide) (by omega) (by omega) (fun h307 => ?_) (fun h307 => ?_)
    · skip
      exact hend _ _ _ _ _ _ _ m D (by omega) hf hrm hD
    · show ad_R _ _ _ _ 310 _ _ _
      exfalso; omega
  have hlp : ∀ (n i : Nat) (y4 y5 y6 y7 y8 y9 : Option Value) (m : ad_Mem) (D : Nat → Bool), i ≤ (ad_ordL A (ad_aK A)).length → ad_f8 [21, 30] [18, 19] σ m → ad_ra (m 21 0) (ad_md A (ad_rp A) D) → (∀ q, q < i → D ((ad_ordL A (ad_aK A)).getD q 0) = true) → (ad_ordL A (ad_aK A)).length - i ≤ n → ad_R g mX8_repacks d Z 305 [some (ad_rf g 8 0), some (ad_iv ((ad_ordL A (ad_aK A)).length : Int)), some (ad_iv y2), some (ad_iv (i : Int)), y4, y5, y6, y7, y8, y9] [] m := by
    intro n
    induction n with
    | zero =>
      intro i y4 y5 y6 y7 y8 y9 m D hi hf hrm hD hn
      refine ad_iload_n dX8_repacks_305 rfl ?_
      refine ad_iload_n dX8_repacks_306 rfl ?_
      refine ad_icmp_ge 436 dX8_repacks_307 (by decide) (by omega) (by omega) (fun h307 => ?_) (fun h307 => ?_)
      · skip
        exact hend _ _ _ _ _ _ _ m D (by omega) hf hrm hD
      · show ad_R _ _ _ _ 310 _ _ _
        exfalso; omega
    | succ n ihn =>
      intro i y4 y5 y6 y7 y8 y9 m D hi hf hrm hD hn
      have hnext : ∀ (D2 : Nat → Bool) (y4 y5 y6 y7 y8 y9 : Option Value) (m : ad_Mem), ad_f8 [21, 30] [18, 19] σ m → ad_ra (m 21 0) (ad_md A (ad_rp A) D2) → (∀ q, q < i + 1 → D2 ((ad_ordL A (ad_aK A)).getD q 0) = true) → i < (ad_ordL A (ad_aK A)).length → ad_R g mX8_repacks d Z 430 [some (ad_rf g 8 0), some (ad_iv ((ad_ordL A (ad_aK A)).length : Int)), some (ad_iv y2), some (ad_iv (i : Int)), y4, y5, y6, y7, y8, y9] [] m := by
        intro D2 y4 y5 y6 y7 y8 y9 m hf hrm hD hi
        refine ad_iinc dX8_repacks_430 rfl (by decide) rfl (by dsimp only [ad_set]) ?_
        refine ad_goto 305 dX8_repacks_433 (by decide) ?_
        exact ihn (i + 1) _ _ _ _ _ _ m D2 (by omega) hf hrm hD (by omega)
      by_cases hil : i < (ad_ordL A (ad_aK A)).length
      · have hnext := fun D2 y4 y5 y6 y7 y8 y9 m a b c => hnext D2 y4 y5 y6 y7 y8 y9 m a b c hil
        have hVm := ad_ordL_in _ (ad_getD_mem (l := (ad_ordL A (ad_aK A))) (i := i) (by omega))
        obtain ⟨VV, hVV⟩ : ∃ VV, VV = (ad_ordL A (ad_aK A)).getD i 0 := ⟨_, rfl⟩
        rw [← hVV] at hVm
        have hp1 : m 31 0 i = (VV : Int) := by rw [hf.1 31 0 (by decide) (by decide), hp i (by omega), hVV]
        have hq1 : m 33 0 VV = if (ad_pln A (ad_aK A) (ad_aF A) (ad_aN A)).1 VV < 10 then (ad_pln A (ad_aK A) (ad_aF A) (ad_aN A)).1 VV else -9 := by rw [hf.1 33 0 (by decide) (by decide), hVV]; exact hq i (by omega)
        have hrr1 : ad_rr m (ad_aH A) (ad_aL A) := ad_rr_congr (hf.1 28 0 (by decide) (by decide)) (hf.1 29 0 (by decide) (by decide)) hrr
        have hfa := ad_pln_facts hw (k := ad_aK A) (f := ad_aF A) (b := ad_aN A) w8.2.1.1 w8.2.2 hVm.2
        have hB2 := ad_rpk_B (A := A) (k := ad_aK A) (f := ad_aF A) (b := ad_aN A) hVm.2
        have hVl := (hr.1.2 _ hVm.2)
        have hVx := (hw.2.2.1 _ hVm.2).1
        have hDn : ∀ (D2 : Nat → Bool) q, (∀ u, D2 u = (D u || u == VV)) → q < i + 1 → D2 ((ad_ordL A (ad_aK A)).getD q 0) = true := fun D2 q h1 h2 => by
          rw [h1]
          by_cases hqi : q = i
          · subst hqi; rw [← hVV]; simp
          · rw [hD q (by omega)]; rfl
        refine ad_iload_n dX8_repacks_305 rfl ?_
        refine ad_iload_n dX8_repacks_306 rfl ?_
        refine ad_icmp_ge 436 dX8_repacks_307 (by decide) (by omega) (by omega) (fun h307 => ?_) (fun h307 => ?_)
        · skip
          exact hend _ _ _ _ _ _ _ m D (by omega) hf hrm hD
        · show ad_R _ _ _ _ 310 _ _ _
          refine ad_aload_n dX8_repacks_310 rfl ?_
          refine gf_X8_40 rfl dX8_repacks_311 ?_
          refine ad_iload_n dX8_repacks_314 rfl ?_
          refine ad_ialj (i) dX8_repacks_315 (by decide) ⟨by decide, by decide⟩ (by omega) (by show _ < 10; omega) (hp1) ?_
          refine ad_istore dX8_repacks_316 (by decide) rfl (by dsimp only [ad_set]) ?_
          refine ad_aload_n dX8_repacks_318 rfl ?_
          refine gf_X8_46 rfl dX8_repacks_319 ?_
          refine ad_iload dX8_repacks_322 rfl ?_
          refine ad_ialj (VV) dX8_repacks_324 (by decide) ⟨by decide, by decide⟩ (by omega) (by show _ < 10; omega) (hq1) ?_
          refine ad_bipush dX8_repacks_325 rfl ?_
          refine ad_icmp_ne 339 dX8_repacks_327 (by decide) (by split <;> omega) (by decide) (fun h327 => ?_) (fun h327 => ?_)
          · skip
            have hb9 : (ad_pln A (ad_aK A) (ad_aF A) (ad_aN A)).1 VV < 10 := Decidable.byContradiction (fun z => by rw [if_neg z] at h327; omega)
            obtain ⟨W, hW⟩ : ∃ W : Nat, (ad_pln A (ad_aK A) (ad_aF A) (ad_aN A)).1 VV = (W : Int) := ⟨((ad_pln A (ad_aK A) (ad_aF A) (ad_aN A)).1 VV).toNat, by omega⟩
            have hqW : (if (ad_pln A (ad_aK A) (ad_aF A) (ad_aN A)).1 VV < 10 then (ad_pln A (ad_aK A) (ad_aF A) (ad_aN A)).1 VV else -9) = (W : Int) := by rw [if_pos hb9, hW]
            have hBW : ad_aB (ad_rp A) VV = (W : Int) := by rw [ad_rp, hB2, if_pos hb9, hW]
            have hWH : ad_aH A W = true := by
              have := (((ad_wA_rp hw).2.2.2.2.1 VV hVm.2).2 (by omega)).2.1
              rw [hBW, Int.toNat_natCast] at this
              exact this
            have hWl := (hr.1.2 _ hWH)
            have hr11 := hr.1.1
            have hWm : W < 10 ∧ ad_aH A W = true := ⟨by omega, hWH⟩
            have hWx := (hw.2.2.1 _ hWH).1
            have hT3 : ad_aT (ad_md A (ad_rp A) (fun u => D u || u == VV)) VV = (ad_dl (ad_aL A W) (ad_aL A VV)) := by
              show (if (D VV || VV == VV) = true then ad_aT (ad_rp A) VV else ad_aT A VV) = _
              rw [if_pos (by simp)]
              show (if ad_aB (ad_rp A) VV = -1 then [] else ad_dl (ad_aL A (ad_aB (ad_rp A) VV).toNat) (ad_aL A VV)) = _
              rw [hBW, if_neg (by omega), Int.toNat_natCast]
            have hB3 : ad_aB (ad_md A (ad_rp A) (fun u => D u || u == VV)) VV = (W : Int) := by
              show (if (D VV || VV == VV) = true then ad_aB (ad_rp A) VV else ad_aB A VV) = _
              rw [if_pos (by simp)]; exact hBW
            have hdl12 : (ad_dl (ad_aL A W) (ad_aL A VV)).length ≤ 12 := by have := ad_dl_len (ad_aL A W) (ad_aL A VV).length (ad_aL A VV) (Nat.le_refl _); omega
            have hdlr := ad_dl_rng (s := ad_aL A W) (t := ad_aL A VV) hWl.2.1 (fun x hx => hVx.2.2 x hx)
            refine ad_aload_n dX8_repacks_339 rfl ?_
            refine ad_aload_n dX8_repacks_340 rfl ?_
            refine gf_X8_46 rfl dX8_repacks_341 ?_
            refine ad_iload dX8_repacks_344 rfl ?_
            refine ad_ialj (VV) dX8_repacks_346 (by decide) ⟨by decide, by decide⟩ (by omega) (by show _ < 10; omega) (hq1.trans hqW) ?_
            refine ad_iload dX8_repacks_347 rfl ?_
            refine ad_cv2q rfl cl_X8_106 dX8_repacks_349 (c_X8_delta hWm.1 hVm.1 hWl.2.1 hVl.2.1 (by rw [hrr1.1 _ hWm.1, if_pos hWm.2]) (by rw [hrr1.1 _ hVm.1, if_pos hVm.2]) (hrr1.2 _ hWm.1 hWm.2).2 (hrr1.2 _ hVm.1 hVm.2).2 (fun x hx => by have := hWx.2.2 x hx; omega) (fun x hx => by have := hVx.2.2 x hx; omega) (by omega)) (by omega) (by show _ < 1; omega) (Nat.le_of_ble_eq_true rfl) (fun x349 s349 q349 => ?_)
            obtain ⟨rfl, hsp, hfd⟩ := q349
            have hfm : ad_f8 [21, 30] [18, 19] σ s349 := hf.trans (hfd.mono (by decide) (by decide))
            have h21 : s349 21 0 = m 21 0 := hfd.1 21 0 (by decide) (by decide)
            refine ad_pop dX8_repacks_352 rfl ?_
            refine ad_bipush dX8_repacks_353 rfl ?_
            refine ad_iload dX8_repacks_355 rfl ?_
            refine ad_imul dX8_repacks_357 ?_
            refine ad_istore dX8_repacks_358 (by decide) rfl (by dsimp only [ad_set]) ?_
            refine ad_aload_n dX8_repacks_360 rfl ?_
            refine gf_X8_9 rfl dX8_repacks_361 ?_
            refine ad_iload dX8_repacks_364 rfl ?_
            refine ad_iconst dX8_repacks_366 ?_
            refine ad_iadd dX8_repacks_367 ?_
            refine ad_aload_n dX8_repacks_368 rfl ?_
            refine gf_X8_46 rfl dX8_repacks_369 ?_
            refine ad_iload dX8_repacks_372 rfl ?_
            refine ad_ialj (VV) dX8_repacks_374 (by decide) ⟨by decide, by decide⟩ (by omega) (by show _ < 10; omega) (((congrFun (hfd.1 33 0 (by decide) (by decide)) VV).trans (hq1.trans hqW))) ?_
            refine ad_iasj (50 * VV + 4) dX8_repacks_375 (by decide) ⟨by decide, by decide⟩ (by omega) (by show _ < 520; omega) ?_
            refine ad_aload_n dX8_repacks_376 rfl ?_
            refine gf_X8_9 rfl dX8_repacks_377 ?_
            refine ad_iload dX8_repacks_380 rfl ?_
            refine ad_bipush dX8_repacks_382 rfl ?_
            refine ad_iadd dX8_repacks_384 ?_
            refine ad_aload_n dX8_repacks_385 rfl ?_
            refine gf_X8_73 rfl dX8_repacks_386 ?_
            refine ad_iasj (50 * VV + 18) dX8_repacks_389 (by decide) ⟨by decide, by decide⟩ (by omega) (by show _ < 520; omega) ?_
            refine ad_iconst dX8_repacks_390 ?_
            refine ad_istore dX8_repacks_391 (by decide) rfl (by dsimp only [ad_set]) ?_
            have hcp : ∀ (n : Nat) (j : Nat) (y7 : Option Value) (y8 : Option Value) (y9 : Option Value) (m2 : ad_Mem), (j ≤ 2 * (ad_dl (ad_aL A W) (ad_aL A VV)).length) → (ad_f8 [21] [] s349 m2) → (∀ c, (c < 50 * VV ∨ 50 * VV + 50 ≤ c) → m2 21 0 c = m 21 0 c) → (∀ c, 50 * VV ≤ c → c < 50 * VV + 50 → ad_rng (m2 21 0 c)) → (m2 21 0 (50 * VV) = m 21 0 (50 * VV) ∧ m2 21 0 (50 * VV + 1) = m 21 0 (50 * VV + 1) ∧ m2 21 0 (50 * VV + 2) = m 21 0 (50 * VV + 2) ∧ m2 21 0 (50 * VV + 3) = m 21 0 (50 * VV + 3) ∧ m2 21 0 (50 * VV + 4) = (W : Int) ∧ m2 21 0 (50 * VV + 18) = ((ad_dl (ad_aL A W) (ad_aL A VV)).length : Int)) → (∀ c, c < j → m2 21 0 (50 * VV + 20 + c) = s349 30 0 c) → (((2 * (ad_dl (ad_aL A W) (ad_aL A VV)).length - j : Nat) : Int)).toNat ≤ n → ad_R g mX8_repacks d Z 393 [some (ad_rf g 8 0), some (ad_iv ((ad_ordL A (ad_aK A)).length : Int)), some (ad_iv y2), some (ad_iv (i : Int)), some (ad_iv (VV : Int)), some (ad_iv (50 * (VV : Int))), some (ad_iv (j : Int)), y7, y8, y9] [] m2 := by
              intro n
              induction n with
              | zero =>
                intro j y7 y8 y9 m2 hj hf2 e0 e1 e2 e3 hn
                refine ad_iload dX8_repacks_393 rfl ?_
                refine ad_iconst dX8_repacks_395 ?_
                refine ad_aload_n dX8_repacks_396 rfl ?_
                refine gf_X8_73 rfl dX8_repacks_397 ?_
                rw [(hf2.2 0 18 (by decide)).trans hsp.1]
                refine ad_imul dX8_repacks_400 ?_
                refine ad_icmp_ge 430 dX8_repacks_401 (by decide) (by omega) (by omega) (fun h401 => ?_) (fun h401 => ?_)
                · skip
                  exact hnext (fun u => D u || u == VV) _ _ _ _ _ _ _ (hfm.trans (hf2.mono (by decide) (by decide))) (ad_ra_set VV hVm.1 hrm ⟨Nat.le_refl _, hr.1.1⟩ (fun u hu _ => hu) (by rw [e0 500 (by omega)]; exact hrm.2.1.1) (fun c _ _ h => e0 c h) e1 (fun u hu => ⟨rfl, rfl, rfl, rfl, by show (if (D u || u == VV) = true then _ else _) = if D u = true then _ else _; rw [show (u == VV) = false by simpa using hu, Bool.or_false], by show (if (D u || u == VV) = true then _ else _) = if D u = true then _ else _; rw [show (u == VV) = false by simpa using hu, Bool.or_false]⟩) (fun u hu hH => ⟨(hr.1.2 u hH).2.1, fun _ => rfl⟩) ⟨rfl, rfl, rfl, rfl⟩ (e2.1.trans (hrm.2.2.1 VV hVm.1)) (fun _ => ⟨e2.2.2.1.trans (hrm.2.2.2.1 VV hVl.1).1, e2.2.2.2.1.trans (hrm.2.2.2.1 VV hVl.1).2⟩) (fun _ => ⟨hVl.1, hVl.2.1, by rw [hT3]; exact hdl12, e2.2.1.trans (hrm.2.2.2.2.1 VV hVm.2).1, by rw [hB3, ad_lk_ge (by omega)]; exact e2.2.2.2.2.1, fun q => by rw [hB3] at q; omega, fun _ => by rw [hT3]; exact ⟨e2.2.2.2.2.2, fun k hk => ⟨(e3 (2 * k) (by omega)).trans (hsp.2.2 k hk).1, (e3 (2 * k + 1) (by omega)).trans (hsp.2.2 k hk).2⟩⟩⟩)) (fun q hqi => hDn _ q (fun _ => rfl) hqi)
                · show ad_R _ _ _ _ 404 _ _ _
                  exfalso; omega
              | succ n ih =>
                intro j y7 y8 y9 m2 hj hf2 e0 e1 e2 e3 hn
                refine ad_iload dX8_repacks_393 rfl ?_
                refine ad_iconst dX8_repacks_395 ?_
                refine ad_aload_n dX8_repacks_396 rfl ?_
                refine gf_X8_73 rfl dX8_repacks_397 ?_
                rw [(hf2.2 0 18 (by decide)).trans hsp.1]
                refine ad_imul dX8_repacks_400 ?_
                refine ad_icmp_ge 430 dX8_repacks_401 (by decide) (by omega) (by omega) (fun h401 => ?_) (fun h401 => ?_)
                · skip
                  exact hnext (fun u => D u || u == VV) _ _ _ _ _ _ _ (hfm.trans (hf2.mono (by decide) (by decide))) (ad_ra_set VV hVm.1 hrm ⟨Nat.le_refl _, hr.1.1⟩ (fun u hu _ => hu) (by rw [e0 500 (by omega)]; exact hrm.2.1.1) (fun c _ _ h => e0 c h) e1 (fun u hu => ⟨rfl, rfl, rfl, rfl, by show (if (D u || u == VV) = true then _ else _) = if D u = true then _ else _; rw [show (u == VV) = false by simpa using hu, Bool.or_false], by show (if (D u || u == VV) = true then _ else _) = if D u = true then _ else _; rw [show (u == VV) = false by simpa using hu, Bool.or_false]⟩) (fun u hu hH => ⟨(hr.1.2 u hH).2.1, fun _ => rfl⟩) ⟨rfl, rfl, rfl, rfl⟩ (e2.1.trans (hrm.2.2.1 VV hVm.1)) (fun _ => ⟨e2.2.2.1.trans (hrm.2.2.2.1 VV hVl.1).1, e2.2.2.2.1.trans (hrm.2.2.2.1 VV hVl.1).2⟩) (fun _ => ⟨hVl.1, hVl.2.1, by rw [hT3]; exact hdl12, e2.2.1.trans (hrm.2.2.2.2.1 VV hVm.2).1, by rw [hB3, ad_lk_ge (by omega)]; exact e2.2.2.2.2.1, fun q => by rw [hB3] at q; omega, fun _ => by rw [hT3]; exact ⟨e2.2.2.2.2.2, fun k hk => ⟨(e3 (2 * k) (by omega)).trans (hsp.2.2 k hk).1, (e3 (2 * k + 1) (by omega)).trans (hsp.2.2 k hk).2⟩⟩⟩)) (fun q hqi => hDn _ q (fun _ => rfl) hqi)
                · show ad_R _ _ _ _ 404 _ _ _
                  refine ad_aload_n dX8_repacks_404 rfl ?_
                  refine gf_X8_9 rfl dX8_repacks_405 ?_
                  refine ad_iload dX8_repacks_408 rfl ?_
                  refine ad_bipush dX8_repacks_410 rfl ?_
                  refine ad_iadd dX8_repacks_412 ?_
                  refine ad_iload dX8_repacks_413 rfl ?_
                  refine ad_iadd dX8_repacks_415 ?_
                  refine ad_aload_n dX8_repacks_416 rfl ?_
                  refine gf_X8_37 rfl dX8_repacks_417 ?_
                  refine ad_iload dX8_repacks_420 rfl ?_
                  refine ad_ialj (j) dX8_repacks_422 (by decide) ⟨by decide, by decide⟩ (by omega) (by show _ < 24; omega) rfl ?_
                  refine ad_iasj (50 * VV + 20 + j) dX8_repacks_423 (by decide) ⟨by decide, by decide⟩ (by omega) (by show _ < 520; omega) ?_
                  refine ad_iinc dX8_repacks_424 rfl (by decide) rfl (by dsimp only [ad_set]) ?_
                  refine ad_goto 393 dX8_repacks_427 (by decide) ?_
                  exact ih (j + 1) _ _ _ _ (by omega) (hf2.trans (ad_f8.st (by decide) (by decide))) (fun c hc => by rw [ad_st_r1, ad_u1_ne _ _ (by omega)]; exact e0 c hc) (fun c h1 h2 => by
                    rw [ad_st_r1]; unfold ad_u1; split
                    · rw [hf2.1 30 0 (by decide) (by decide)]; exact ad_sp_rng hsp hdlr (by omega)
                    · exact e1 c h1 h2) ⟨by rw [ad_st_r1, ad_u1_ne _ _ (by omega)]; exact e2.1, by rw [ad_st_r1, ad_u1_ne _ _ (by omega)]; exact e2.2.1, by rw [ad_st_r1, ad_u1_ne _ _ (by omega)]; exact e2.2.2.1, by rw [ad_st_r1, ad_u1_ne _ _ (by omega)]; exact e2.2.2.2.1, by rw [ad_st_r1, ad_u1_ne _ _ (by omega)]; exact e2.2.2.2.2.1, by rw [ad_st_r1, ad_u1_ne _ _ (by omega)]; exact e2.2.2.2.2.2⟩ (fun c hc => by
                    rw [ad_st_r1]
                    by_cases hcj : c = j
                    · subst hcj; rw [ad_u1_eq, hf2.1 30 0 (by decide) (by decide)]
                    · rw [ad_u1_ne _ _ (by omega)]; exact e3 c (by omega)) (by omega)
            exact hcp _ 0 _ _ _ _ (by omega) ((ad_f8.st (by decide) (by decide)).trans (ad_f8.st (by decide) (by decide))) (fun c hc => by
              rw [ad_st_r1, ad_u1_ne _ _ (by omega), ad_st_r1, ad_u1_ne _ _ (by omega), h21]) (fun c h1 h2 => by
              rw [ad_st_r1, ad_st_r1]; unfold ad_u1; split
              · rw [ad_st_ne _ _ (by decide), hsp.1]; constructor <;> omega
              · split
                · constructor <;> omega
                · rw [h21]; exact hrm.2.2.2.2.2 c (by omega)) ⟨by rw [ad_st_r1, ad_u1_ne _ _ (by omega), ad_st_r1, ad_u1_ne _ _ (by omega), h21], by rw [ad_st_r1, ad_u1_ne _ _ (by omega), ad_st_r1, ad_u1_ne _ _ (by omega), h21], by rw [ad_st_r1, ad_u1_ne _ _ (by omega), ad_st_r1, ad_u1_ne _ _ (by omega), h21], by rw [ad_st_r1, ad_u1_ne _ _ (by omega), ad_st_r1, ad_u1_ne _ _ (by omega), h21], by rw [ad_st_r1, ad_u1_ne _ _ (by omega), ad_st_r1, ad_u1_eq], by rw [ad_st_r1, ad_u1_eq, ad_st_ne _ _ (by decide)]; exact hsp.1⟩ (fun c hc => by omega) (Nat.le_refl _)
          · show ad_R _ _ _ _ 330 _ _ _
            have hb9 : ¬ (ad_pln A (ad_aK A) (ad_aF A) (ad_aN A)).1 VV < 10 := fun z => by rw [if_pos z] at h327; omega
            refine ad_aload_n dX8_repacks_330 rfl ?_
            refine ad_iload dX8_repacks_331 rfl ?_
            refine ad_cv1v rfl cl_X8_109 dX8_repacks_333 (c_X8_whole hrm (v := VV) hVm.2 hVx.2.2 (by rw [hrr1.1 _ hVm.1, if_pos hVm.2]; rfl) (hrr1.2 _ hVm.1 hVm.2).2) (by omega) (by show _ < 1; omega) (Nat.le_of_ble_eq_true rfl) (fun s333 q333 => ?_)
            refine ad_goto 430 dX8_repacks_336 (by decide) ?_
            exact hnext (fun u => D u || u == VV) _ _ _ _ _ _ _ (hf.trans (q333.1.mono (by decide) (by decide))) (ad_ra_eqH q333.2 ⟨rfl, rfl, rfl, rfl, rfl, rfl⟩ ⟨rfl, rfl, rfl, rfl⟩ (fun u hu => by
              by_cases huV : u = VV
              · subst huV
                have hBm : ad_aB (ad_rp A) u = -1 := by rw [ad_rp, hB2, if_neg hb9]
                constructor
                · show (if (D u || u == u) = true then ad_aB (ad_rp A) u else ad_aB A u) = if u = u then -1 else _
                  rw [if_pos (by simp), if_pos rfl, hBm]
                · show (if (D u || u == u) = true then ad_aT (ad_rp A) u else ad_aT A u) = if u = u then [] else _
                  rw [if_pos (by simp), if_pos rfl]
                  show (if ad_aB (ad_rp A) u = -1 then [] else _) = []
                  rw [if_pos hBm]
              · have hbe : (u == VV) = false := by simpa using huV
                constructor
                · show (if (D u || u == VV) = true then ad_aB (ad_rp A) u else ad_aB A u) = if u = VV then -1 else (if D u = true then ad_aB (ad_rp A) u else ad_aB A u)
                  rw [hbe, Bool.or_false, if_neg huV]
                · show (if (D u || u == VV) = true then ad_aT (ad_rp A) u else ad_aT A u) = if u = VV then [] else (if D u = true then ad_aT (ad_rp A) u else ad_aT A u)
                  rw [hbe, Bool.or_false, if_neg huV])) (fun q hqi => hDn _ q (fun _ => rfl) hqi)
      · exact hlpend i y4 y5 y6 y7 y8 y9 m D (by omega) hf hrm hD (by omega)
  refine ad_iconst dX8_repacks_303 ?_
  refine ad_istore_n dX8_repacks_304 (by decide) rfl (by dsimp only [ad_set]) ?_
  exact hlp _ 0 _ _ _ _ _ _ σ (fun _ => false) (Nat.zero_le _) ad_f8.refl (ad_ra_eqH hr ⟨rfl, rfl, rfl, rfl, rfl, rfl⟩ ⟨rfl, rfl, rfl, rfl⟩ (fun u _ => ⟨rfl, rfl⟩)) (fun q hq2 => absurd hq2 (Nat.not_lt_zero q)) (Nat.le_refl _)
theorem c_X8_repacks {g : ad_G} {d : Nat} {σ : ad_Mem} {A : ad_Ar} (hr : ad_ra (σ 21 0) A) (hw : ad_wA A) (h13d : 13 ≤ d) : ad_Q g mX8_repacks d [ad_rf g 8 0] σ (fun x m => x = ad_iv (ad_all (ad_rp A)) ∧ ad_ra (m 21 0) (ad_rp A) ∧ ad_rr m (ad_aH A) (ad_aL A) ∧ ad_f8 [21, 28, 29, 30, 31, 32, 33] [18, 19] σ m) := by
  refine ad_M1 (k := 9) rfl (by simp [Value.category]) rfl (Nat.le_of_ble_eq_true rfl) ?_
  simp only [List.map_cons, List.map_nil, List.replicate, List.cons_append, List.nil_append]
  refine ad_aload_n dX8_repacks_0 rfl ?_
  refine ad_cv0v rfl cl_X8_84 dX8_repacks_1 (c_X8_restores hr hw (by omega)) (by omega) (by show _ < 1; omega) (Nat.le_of_ble_eq_true rfl) (fun s1 q1 => ?_)
  obtain ⟨f1, hrr1⟩ := q1
  have hr1 : ad_ra (s1 21 0) A := ad_ra_congr (fun i _ => congrFun (f1.1 21 0 (by decide) (by decide)) i) hr
  refine ad_iconst dX8_repacks_4 ?_
  refine ad_istore_n dX8_repacks_5 (by decide) rfl (by dsimp only [ad_set]) ?_
  refine ad_iconst dX8_repacks_6 ?_
  refine ad_istore_n dX8_repacks_7 (by decide) rfl (by dsimp only [ad_set]) ?_
  refine ad_rpA _ _ _ _ _ _ hw hr1 hrr1 (by omega) (fun m1 x2 x3 f2 hp1 => ?_) _
  have hr2 : ad_ra (m1 21 0) A := ad_ra_congr (fun i _ => congrFun (f2.1 21 0 (by decide) (by decide)) i) hr1
  have hrr2 : ad_rr m1 (ad_aH A) (ad_aL A) := ad_rr_congr (f2.1 28 0 (by decide) (by decide)) (f2.1 29 0 (by decide) (by decide)) hrr1
  refine ad_rpB hw hr2 hrr2 (by omega) hp1 (fun m2 y2 y3 y4 y5 y6 y7 y8 y9 f3 hq3 => ?_) _ _ _ _ _ _ _ _
  have hr3 : ad_ra (m2 21 0) A := ad_ra_congr (fun i _ => congrFun (f3.1 21 0 (by decide) (by decide)) i) hr2
  have hrr3 : ad_rr m2 (ad_aH A) (ad_aL A) := ad_rr_congr (f3.1 28 0 (by decide) (by decide)) (f3.1 29 0 (by decide) (by decide)) hrr2
  refine ad_rpC hw hr3 hrr3 (by omega) (fun j hj => (congrFun (f3.1 31 0 (by decide) (by decide)) j).trans (hp1 j hj)) hq3 (fun m3 z2 z3 z4 z5 z6 z7 z8 z9 f4 hr4 => ?_) _ _ _ _ _ _ _ _
  refine ad_aload_n dX8_repacks_436 rfl ?_
  refine ad_cv0q rfl cl_X8_112 dX8_repacks_437 (c_X8_cost hr4 (ad_wA_rp hw) (by omega)) (by omega) (by show _ < 1; omega) (Nat.le_of_ble_eq_true rfl) (fun x437 s437 q437 => ?_)
  obtain ⟨rfl, f5, hrr5⟩ := q437
  exact ad_reti dX8_repacks_440 rfl ⟨rfl, ad_ra_congr (fun i _ => congrFun (f5.1 21 0 (by decide) (by decide)) i) hr4, hrr5, (f1.mono (by decide) (by decide)).trans ((f2.mono (by decide) (by decide)).trans ((f3.mono (by decide) (by decide)).trans ((f4.mono (by decide) (by decide)).trans (f5.mono (by decide) (by decide)))))⟩
