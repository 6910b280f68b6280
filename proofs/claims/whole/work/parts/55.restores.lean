/-! ===== the reference: restores, hash, alike, delta, costs, depths ===== -/
theorem c_X8_restores {g : ad_G} {d : Nat} {σ : ad_Mem} {A : ad_Ar} (hr0 : ad_ra (σ 21 0) A) (hw : ad_wA A) (h11d : 11 ≤ d) : ad_V g mX8_restores d [ad_rf g 8 0] σ (fun m => ad_f8 [28, 29] [] σ m ∧ ad_rr m (ad_aH A) (ad_aL A)) := by
  have hl2 : ∀ (n : Nat) (v : Nat) (m : ad_Mem) (D : Nat → Bool), (v ≤ ad_aC A) → (ad_f8 [28, 29] [] σ m) → (ad_rq m A D) → (∀ u, u < v → ad_aH A u = true → D u = true) → (((ad_aC A - v : Nat) : Int)).toNat ≤ n → ad_R g mX8_restores d (ad_ZV mX8_restores (fun m => ad_f8 [28, 29] [] σ m ∧ ad_rr m (ad_aH A) (ad_aL A))) 24 [some (ad_rf g 8 0), some (ad_iv (v : Int))] [] m := by
    intro n
    induction n with
    | zero =>
      intro v m D hv hf hq hD hn
      have hc10 := hr0.1.1
      refine ad_iload_n dX8_restores_24 rfl ?_
      refine ad_aload_n dX8_restores_25 rfl ?_
      refine gf_X8_9 rfl dX8_restores_26 ?_
      refine ad_sipush dX8_restores_29 rfl ?_
      refine ad_ialj (500) dX8_restores_32 (by decide) ⟨by decide, by decide⟩ (by omega) (by show _ < 520; omega) (((congrFun (hf.1 21 0 (by decide) (by decide)) _).trans hr0.2.1.1)) ?_
      refine ad_icmp_ge 55 dX8_restores_33 (by decide) (by omega) (by omega) (fun h33 => ?_) (fun h33 => ?_)
      · skip
        exact ad_retv dX8_restores_55 rfl (by
              refine ⟨hf, ⟨fun u hu => ?_, fun u hu hd => hq.1.2 u hu (hD u (by have := (hr0.1.2 u hd).1; omega) hd)⟩⟩
              rw [hq.1.1 u hu]
              by_cases hH : ad_aH A u = true
              · rw [if_pos hH, if_pos (hD u (by have := (hr0.1.2 u hH).1; omega) hH)]
              · rw [if_neg hH, if_neg (fun q => hH (hq.2 u q))])
      · show ad_R _ _ _ _ 36 _ _ _
        exfalso; omega
    | succ n ih =>
      intro v m D hv hf hq hD hn
      have hc10 := hr0.1.1
      refine ad_iload_n dX8_restores_24 rfl ?_
      refine ad_aload_n dX8_restores_25 rfl ?_
      refine gf_X8_9 rfl dX8_restores_26 ?_
      refine ad_sipush dX8_restores_29 rfl ?_
      refine ad_ialj (500) dX8_restores_32 (by decide) ⟨by decide, by decide⟩ (by omega) (by show _ < 520; omega) (((congrFun (hf.1 21 0 (by decide) (by decide)) _).trans hr0.2.1.1)) ?_
      refine ad_icmp_ge 55 dX8_restores_33 (by decide) (by omega) (by omega) (fun h33 => ?_) (fun h33 => ?_)
      · skip
        exact ad_retv dX8_restores_55 rfl (by
              refine ⟨hf, ⟨fun u hu => ?_, fun u hu hd => hq.1.2 u hu (hD u (by have := (hr0.1.2 u hd).1; omega) hd)⟩⟩
              rw [hq.1.1 u hu]
              by_cases hH : ad_aH A u = true
              · rw [if_pos hH, if_pos (hD u (by have := (hr0.1.2 u hH).1; omega) hH)]
              · rw [if_neg hH, if_neg (fun q => hH (hq.2 u q))])
      · show ad_R _ _ _ _ 36 _ _ _
        refine ad_aload_n dX8_restores_36 rfl ?_
        refine ad_iload_n dX8_restores_37 rfl ?_
        refine ad_cv1f rfl cl_X8_59 dX8_restores_38 (c_X8_isThere (ad_ra_congr (fun i _ => congrFun (hf.1 21 0 (by decide) (by decide)) i) hr0) (by omega) (by omega)) (by omega) (by show _ < 1; omega) (Nat.le_of_ble_eq_true rfl) ?_
        rw [Int.toNat_natCast]
        refine ad_ifp_eq 49 dX8_restores_41 (by decide) (fun h41 => ?_) (fun h41 => ?_)
        · skip
          refine ad_iinc dX8_restores_49 rfl (by decide) rfl (by dsimp only [ad_set]) ?_
          refine ad_goto 24 dX8_restores_52 (by decide) ?_
          exact ih (v + 1) m D (by omega) hf hq (fun u hu hH => by
            by_cases huv : u = v
            · subst huv; exact absurd ⟨by omega, hH⟩ h41
            · exact hD u (by omega) hH) (by omega)
        · show ad_R _ _ _ _ 44 _ _ _
          refine ad_aload_n dX8_restores_44 rfl ?_
          refine ad_iload_n dX8_restores_45 rfl ?_
          refine ad_cv1v rfl cl_X8_63 dX8_restores_46 (c_X8_restores_ hw 8 v (d - 1) m D (ad_ra_congr (fun i _ => congrFun (hf.1 21 0 (by decide) (by decide)) i) hr0) h41.2 (ad_dep_d hw h41.2).1 (by omega) hq) (by omega) (by show _ < 1; omega) (Nat.le_of_ble_eq_true rfl) (fun s46 q46 => ?_)
          obtain ⟨f1, D1, f2, f3, f4, f5⟩ := q46
          refine ad_iinc dX8_restores_49 rfl (by decide) rfl (by dsimp only [ad_set]) ?_
          refine ad_goto 24 dX8_restores_52 (by decide) ?_
          exact ih (v + 1) _ D1 (by omega) (hf.trans f1) f2 (fun u hu hH => by
            by_cases huv : u = v
            · subst huv; exact f3
            · exact f4 u (hD u (by omega) hH)) (by omega)
  have hl1 : ∀ (n : Nat) (i : Nat) (m : ad_Mem), (i ≤ 10) → (ad_f8 [28, 29] [] σ m) → (∀ u, u < i → m 29 0 u = -9) → (((10 - i : Nat) : Int)).toNat ≤ n → ad_R g mX8_restores d (ad_ZV mX8_restores (fun m => ad_f8 [28, 29] [] σ m ∧ ad_rr m (ad_aH A) (ad_aL A))) 2 [some (ad_rf g 8 0), some (ad_iv (i : Int))] [] m := by
    intro n
    induction n with
    | zero =>
      intro i m hi hf h9 hn
      refine ad_iload_n dX8_restores_2 rfl ?_
      refine ad_bipush dX8_restores_3 rfl ?_
      refine ad_icmp_ge 22 dX8_restores_5 (by decide) (by omega) (by omega) (fun h5 => ?_) (fun h5 => ?_)
      · skip
        refine ad_iconst dX8_restores_22 ?_
        refine ad_istore_n dX8_restores_23 (by decide) rfl (by dsimp only [ad_set]) ?_
        exact hl2 _ 0 m (fun _ => false) (by omega) hf ⟨⟨fun u hu => by rw [if_neg Bool.false_ne_true]; exact h9 u (by omega), fun u hu hd => by cases hd⟩, fun u hd => by cases hd⟩ (fun u hu => by omega) (Nat.le_refl _)
      · show ad_R _ _ _ _ 8 _ _ _
        exfalso; omega
    | succ n ih =>
      intro i m hi hf h9 hn
      refine ad_iload_n dX8_restores_2 rfl ?_
      refine ad_bipush dX8_restores_3 rfl ?_
      refine ad_icmp_ge 22 dX8_restores_5 (by decide) (by omega) (by omega) (fun h5 => ?_) (fun h5 => ?_)
      · skip
        refine ad_iconst dX8_restores_22 ?_
        refine ad_istore_n dX8_restores_23 (by decide) rfl (by dsimp only [ad_set]) ?_
        exact hl2 _ 0 m (fun _ => false) (by omega) hf ⟨⟨fun u hu => by rw [if_neg Bool.false_ne_true]; exact h9 u (by omega), fun u hu hd => by cases hd⟩, fun u hd => by cases hd⟩ (fun u hu => by omega) (Nat.le_refl _)
      · show ad_R _ _ _ _ 8 _ _ _
        refine ad_aload_n dX8_restores_8 rfl ?_
        refine gf_X8_34 rfl dX8_restores_9 ?_
        refine ad_iload_n dX8_restores_12 rfl ?_
        refine ad_bipush dX8_restores_13 rfl ?_
        refine ad_iasj (i) dX8_restores_15 (by decide) ⟨by decide, by decide⟩ (by omega) (by show _ < 10; omega) ?_
        refine ad_iinc dX8_restores_16 rfl (by decide) rfl (by dsimp only [ad_set]) ?_
        refine ad_goto 2 dX8_restores_19 (by decide) ?_
        exact ih (i + 1) _ (by omega) (hf.trans (ad_f8.st (by decide) (by decide))) (fun u hu => by
          rw [ad_st_r1]
          by_cases hui : u = i
          · subst hui; rw [ad_u1_eq]
          · rw [ad_u1_ne _ _ hui]; exact h9 u (by omega)) (by omega)
  refine ad_M1 (k := 1) rfl (by simp [Value.category]) rfl (Nat.le_of_ble_eq_true rfl) ?_
  simp only [List.map_cons, List.map_nil, List.replicate, List.cons_append, List.nil_append]
  refine ad_iconst dX8_restores_0 ?_
  refine ad_istore_n dX8_restores_1 (by decide) rfl (by dsimp only [ad_set]) ?_
  exact hl1 _ 0 σ (by omega) ad_f8.refl (fun u hu => by omega) (Nat.le_refl _)
theorem c_X8_hash {g : ad_G} {d : Nat} {σ : ad_Mem} {l : List Int} {v : Nat} (hv : v < 10) (h29 : σ 29 0 v = (l.length : Int)) (hl12 : l.length ≤ 12) (h28 : ∀ i, i < l.length → σ 28 0 (12 * v + i) = l.getD i 0) (hx : ∀ x ∈ l, 0 ≤ x ∧ x ≤ 255) : ad_Q g mX8_hash d [ad_rf g 8 0, ad_iv (v : Int)] σ (fun x m => x = ad_iv (ad_hs l) ∧ m = σ) := by
  have hl : ∀ (n : Nat) (i : Nat) (h : Int), (i ≤ l.length) → (0 ≤ h ∧ h < 9973) → (ad_hs l = (l.drop i).foldl (fun h x => (31 * h + x) % 9973) h) → (((l.length - i : Nat) : Int)).toNat ≤ n → ad_R g mX8_hash d (ad_ZQ mX8_hash (fun x m => x = ad_iv (ad_hs l) ∧ m = σ)) 5 [some (ad_rf g 8 0), some (ad_iv (v : Int)), some (ad_iv h), some (ad_iv (i : Int))] [] σ := by
    intro n
    induction n with
    | zero =>
      intro i h hi hh hI hn
      refine ad_iload_n dX8_hash_5 rfl ?_
      refine ad_aload_n dX8_hash_6 rfl ?_
      refine gf_X8_34 rfl dX8_hash_7 ?_
      refine ad_iload_n dX8_hash_10 rfl ?_
      refine ad_ialj (v) dX8_hash_11 (by decide) ⟨by decide, by decide⟩ (by omega) (by show _ < 10; omega) (h29) ?_
      refine ad_icmp_ge 42 dX8_hash_12 (by decide) (by omega) (by omega) (fun h12 => ?_) (fun h12 => ?_)
      · skip
        refine ad_iload_n dX8_hash_42 rfl ?_
        exact ad_reti dX8_hash_43 rfl (by
              rw [hI, List.drop_eq_nil_of_le (by omega)]
              exact ⟨rfl, rfl⟩)
      · show ad_R _ _ _ _ 15 _ _ _
        have hdr : l.drop i = l.getD i 0 :: l.drop (i + 1) := by rw [List.drop_eq_getElem_cons (show i < l.length by omega), List.getD_eq_getElem?_getD, List.getElem?_eq_getElem (show i < l.length by omega)]; rfl
        have hxr : 0 ≤ l.getD i 0 ∧ l.getD i 0 ≤ 255 := by
          rw [List.getD_eq_getElem?_getD, List.getElem?_eq_getElem (show i < l.length by omega)]
          exact hx _ (List.getElem_mem _)
        exfalso; omega
    | succ n ih =>
      intro i h hi hh hI hn
      refine ad_iload_n dX8_hash_5 rfl ?_
      refine ad_aload_n dX8_hash_6 rfl ?_
      refine gf_X8_34 rfl dX8_hash_7 ?_
      refine ad_iload_n dX8_hash_10 rfl ?_
      refine ad_ialj (v) dX8_hash_11 (by decide) ⟨by decide, by decide⟩ (by omega) (by show _ < 10; omega) (h29) ?_
      refine ad_icmp_ge 42 dX8_hash_12 (by decide) (by omega) (by omega) (fun h12 => ?_) (fun h12 => ?_)
      · skip
        refine ad_iload_n dX8_hash_42 rfl ?_
        exact ad_reti dX8_hash_43 rfl (by
              rw [hI, List.drop_eq_nil_of_le (by omega)]
              exact ⟨rfl, rfl⟩)
      · show ad_R _ _ _ _ 15 _ _ _
        have hdr : l.drop i = l.getD i 0 :: l.drop (i + 1) := by rw [List.drop_eq_getElem_cons (show i < l.length by omega), List.getD_eq_getElem?_getD, List.getElem?_eq_getElem (show i < l.length by omega)]; rfl
        have hxr : 0 ≤ l.getD i 0 ∧ l.getD i 0 ≤ 255 := by
          rw [List.getD_eq_getElem?_getD, List.getElem?_eq_getElem (show i < l.length by omega)]
          exact hx _ (List.getElem_mem _)
        refine ad_bipush dX8_hash_15 rfl ?_
        refine ad_iload_n dX8_hash_17 rfl ?_
        refine ad_imul dX8_hash_18 ?_
        refine ad_aload_n dX8_hash_19 rfl ?_
        refine gf_X8_31 rfl dX8_hash_20 ?_
        refine ad_bipush dX8_hash_23 rfl ?_
        refine ad_iload_n dX8_hash_25 rfl ?_
        refine ad_imul dX8_hash_26 ?_
        refine ad_iload_n dX8_hash_27 rfl ?_
        refine ad_iadd dX8_hash_28 ?_
        refine ad_ialj (12 * v + i) dX8_hash_29 (by decide) ⟨by decide, by decide⟩ (by omega) (by show _ < 120; omega) (h28 i (by omega)) ?_
        refine ad_iadd dX8_hash_30 ?_
        refine ad_sipush dX8_hash_31 rfl ?_
        refine ad_irem dX8_hash_34 (by first | decide | omega) (by first | decide | omega) ?_
        rw [ad_rem_h (by omega) (by omega) (by decide) (by decide)]
        refine ad_istore_n dX8_hash_35 (by decide) rfl (by dsimp only [ad_set]) ?_
        refine ad_iinc dX8_hash_36 rfl (by decide) rfl (by dsimp only [ad_set]) ?_
        refine ad_goto 5 dX8_hash_39 (by decide) ?_
        exact ih (i + 1) ((31 * h + l.getD i 0) % 9973) (by omega) (by omega) (by rw [hI, hdr, List.foldl_cons]) (by omega)
  refine ad_M1 (k := 2) rfl (by simp [Value.category]) rfl (Nat.le_of_ble_eq_true rfl) ?_
  simp only [List.map_cons, List.map_nil, List.replicate, List.cons_append, List.nil_append]
  refine ad_bipush dX8_hash_0 rfl ?_
  refine ad_istore_n dX8_hash_2 (by decide) rfl (by dsimp only [ad_set]) ?_
  refine ad_iconst dX8_hash_3 ?_
  refine ad_istore_n dX8_hash_4 (by decide) rfl (by dsimp only [ad_set]) ?_
  exact hl _ 0 7 (by omega) (by omega) rfl (Nat.le_refl _)
theorem ad_gD_rng {l : List Int} {M : Int} (h : ∀ x ∈ l, 0 ≤ x ∧ x ≤ M) (i : Nat) : 0 ≤ l.getD i 0 ∧ (l.getD i 0 ≤ M ∨ l.getD i 0 = 0) := by
  rw [List.getD_eq_getElem?_getD]
  by_cases hi : i < l.length
  · rw [List.getElem?_eq_getElem hi]
    have := h _ (List.getElem_mem hi)
    exact ⟨this.1, Or.inl this.2⟩
  · rw [List.getElem?_eq_none (by omega)]
    exact ⟨Int.le_refl _, Or.inr rfl⟩
theorem c_X8_alike {g : ad_G} {d : Nat} {σ : ad_Mem} {l k : List Int} {s t p i : Nat} (hs : s < 10) (ht : t < 10) (hp : p ≤ l.length) (hi : i ≤ k.length) (hl12 : l.length ≤ 12) (hk12 : k.length ≤ 12) (hs29 : σ 29 0 s = (l.length : Int)) (ht29 : σ 29 0 t = (k.length : Int)) (hs28 : ∀ j, j < l.length → σ 28 0 (12 * s + j) = l.getD j 0) (ht28 : ∀ j, j < k.length → σ 28 0 (12 * t + j) = k.getD j 0) (hxl : ∀ x ∈ l, 0 ≤ x ∧ x ≤ 255) (hxk : ∀ x ∈ k, 0 ≤ x ∧ x ≤ 255) : ad_Q g mX8_alike d [ad_rf g 8 0, ad_iv (s : Int), ad_iv (p : Int), ad_iv (t : Int), ad_iv (i : Int)] σ (fun x m => x = ad_iv ((ad_cpl (l.drop p) (k.drop i) : Nat) : Int) ∧ m = σ) := by
  have hl : ∀ (n : Nat) (n0 : Nat), (p + n0 ≤ l.length) → (i + n0 ≤ k.length) → (ad_cpl (l.drop p) (k.drop i) = n0 + ad_cpl (l.drop (p + n0)) (k.drop (i + n0))) → (((l.length - p - n0 : Nat) : Int)).toNat ≤ n → ad_R g mX8_alike d (ad_ZQ mX8_alike (fun x m => x = ad_iv ((ad_cpl (l.drop p) (k.drop i) : Nat) : Int) ∧ m = σ)) 3 [some (ad_rf g 8 0), some (ad_iv (s : Int)), some (ad_iv (p : Int)), some (ad_iv (t : Int)), some (ad_iv (i : Int)), some (ad_iv (n0 : Int))] [] σ := by
    intro n
    induction n with
    | zero =>
      intro n0 hn1 hn2 hI hn
      refine ad_iload_n dX8_alike_3 rfl ?_
      refine ad_iload dX8_alike_4 rfl ?_
      refine ad_iadd dX8_alike_6 ?_
      refine ad_aload_n dX8_alike_7 rfl ?_
      refine gf_X8_34 rfl dX8_alike_8 ?_
      refine ad_iload_n dX8_alike_11 rfl ?_
      refine ad_ialj (s) dX8_alike_12 (by decide) ⟨by decide, by decide⟩ (by omega) (by show _ < 10; omega) (hs29) ?_
      refine ad_icmp_ge 68 dX8_alike_13 (by decide) (by omega) (by omega) (fun h13 => ?_) (fun h13 => ?_)
      · skip
        refine ad_iload dX8_alike_68 rfl ?_
        exact ad_reti dX8_alike_70 rfl (by
              rw [hI, List.drop_eq_nil_of_le (show l.length ≤ p + n0 by omega), ad_cpl_0l, Nat.add_zero]
              exact ⟨rfl, rfl⟩)
      · show ad_R _ _ _ _ 16 _ _ _
        exfalso; omega
    | succ n ih =>
      intro n0 hn1 hn2 hI hn
      refine ad_iload_n dX8_alike_3 rfl ?_
      refine ad_iload dX8_alike_4 rfl ?_
      refine ad_iadd dX8_alike_6 ?_
      refine ad_aload_n dX8_alike_7 rfl ?_
      refine gf_X8_34 rfl dX8_alike_8 ?_
      refine ad_iload_n dX8_alike_11 rfl ?_
      refine ad_ialj (s) dX8_alike_12 (by decide) ⟨by decide, by decide⟩ (by omega) (by show _ < 10; omega) (hs29) ?_
      refine ad_icmp_ge 68 dX8_alike_13 (by decide) (by omega) (by omega) (fun h13 => ?_) (fun h13 => ?_)
      · skip
        refine ad_iload dX8_alike_68 rfl ?_
        exact ad_reti dX8_alike_70 rfl (by
              rw [hI, List.drop_eq_nil_of_le (show l.length ≤ p + n0 by omega), ad_cpl_0l, Nat.add_zero]
              exact ⟨rfl, rfl⟩)
      · show ad_R _ _ _ _ 16 _ _ _
        refine ad_iload dX8_alike_16 rfl ?_
        refine ad_iload dX8_alike_18 rfl ?_
        refine ad_iadd dX8_alike_20 ?_
        refine ad_aload_n dX8_alike_21 rfl ?_
        refine gf_X8_34 rfl dX8_alike_22 ?_
        refine ad_iload_n dX8_alike_25 rfl ?_
        refine ad_ialj (t) dX8_alike_26 (by decide) ⟨by decide, by decide⟩ (by omega) (by show _ < 10; omega) (ht29) ?_
        refine ad_icmp_ge 68 dX8_alike_27 (by decide) (by omega) (by omega) (fun h27 => ?_) (fun h27 => ?_)
        · skip
          refine ad_iload dX8_alike_68 rfl ?_
          exact ad_reti dX8_alike_70 rfl (by
                rw [hI, List.drop_eq_nil_of_le (show k.length ≤ i + n0 by omega), ad_cpl_0r, Nat.add_zero]
                exact ⟨rfl, rfl⟩)
        · show ad_R _ _ _ _ 30 _ _ _
          have hdl : l.drop (p + n0) = l.getD (p + n0) 0 :: l.drop (p + n0 + 1) := by rw [List.drop_eq_getElem_cons (by omega), List.getD_eq_getElem?_getD, List.getElem?_eq_getElem (by omega)]; rfl
          have hdk : k.drop (i + n0) = k.getD (i + n0) 0 :: k.drop (i + n0 + 1) := by rw [List.drop_eq_getElem_cons (by omega), List.getD_eq_getElem?_getD, List.getElem?_eq_getElem (by omega)]; rfl
          have hlr := ad_gD_rng hxl (p + n0)
          have hkr := ad_gD_rng hxk (i + n0)
          refine ad_aload_n dX8_alike_30 rfl ?_
          refine gf_X8_31 rfl dX8_alike_31 ?_
          refine ad_bipush dX8_alike_34 rfl ?_
          refine ad_iload_n dX8_alike_36 rfl ?_
          refine ad_imul dX8_alike_37 ?_
          refine ad_iload_n dX8_alike_38 rfl ?_
          refine ad_iadd dX8_alike_39 ?_
          refine ad_iload dX8_alike_40 rfl ?_
          refine ad_iadd dX8_alike_42 ?_
          refine ad_ialj (12 * s + (p + n0)) dX8_alike_43 (by decide) ⟨by decide, by decide⟩ (by omega) (by show _ < 120; omega) (hs28 (p + n0) (by omega)) ?_
          refine ad_aload_n dX8_alike_44 rfl ?_
          refine gf_X8_31 rfl dX8_alike_45 ?_
          refine ad_bipush dX8_alike_48 rfl ?_
          refine ad_iload_n dX8_alike_50 rfl ?_
          refine ad_imul dX8_alike_51 ?_
          refine ad_iload dX8_alike_52 rfl ?_
          refine ad_iadd dX8_alike_54 ?_
          refine ad_iload dX8_alike_55 rfl ?_
          refine ad_iadd dX8_alike_57 ?_
          refine ad_ialj (12 * t + (i + n0)) dX8_alike_58 (by decide) ⟨by decide, by decide⟩ (by omega) (by show _ < 120; omega) (ht28 (i + n0) (by omega)) ?_
          refine ad_icmp_ne 68 dX8_alike_59 (by decide) (by omega) (by omega) (fun h59 => ?_) (fun h59 => ?_)
          · skip
            refine ad_iload dX8_alike_68 rfl ?_
            exact ad_reti dX8_alike_70 rfl (by
                  rw [hI, hdl, hdk, ad_cpl_n h59, Nat.add_zero]
                  exact ⟨rfl, rfl⟩)
          · show ad_R _ _ _ _ 62 _ _ _
            have h59x : l.getD (p + n0) 0 = k.getD (i + n0) 0 := Decidable.not_not.mp h59
            refine ad_iinc dX8_alike_62 rfl (by decide) rfl (by dsimp only [ad_set]) ?_
            refine ad_goto 3 dX8_alike_65 (by decide) ?_
            exact ih (n0 + 1) (by omega) (by omega) (by rw [hI, hdl, hdk, ad_cpl_s h59x]; simp only [Nat.add_assoc]; omega) (by omega)
  refine ad_M1 (k := 1) rfl (by simp [Value.category]) rfl (Nat.le_of_ble_eq_true rfl) ?_
  simp only [List.map_cons, List.map_nil, List.replicate, List.cons_append, List.nil_append]
  refine ad_iconst dX8_alike_0 ?_
  refine ad_istore dX8_alike_1 (by decide) rfl (by dsimp only [ad_set]) ?_
  exact hl _ 0 (by omega) (by omega) (by simp) (Nat.le_refl _)
