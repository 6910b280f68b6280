/-! ===== generations, fetch, mean, lost ===== -/
theorem c_X7_generations {g : ad_G} {d : Nat} {σ : ad_Mem} {C : ad_C7} {h y : Int} (hC : ad_c7 σ C) (hh : ad_rng h) (hn : ad_rng y) (h6d : 6 ≤ d) : ad_Q g mX7_generations d [ad_rf g 7 0, ad_iv h, ad_iv y] σ (fun x m => ad_an7 σ x m (ad_m_generations C h y)) := by
  have hC0 := hC
  obtain ⟨a1, a2, a3, a4, a5, a6, a7, a8, a9⟩ := hC0
  obtain ⟨z1, z2, z3, z4⟩ := ad_c7_sz hC
  obtain ⟨r1, r2, r3, r4, r5, r6, r7, r8⟩ := a1.1
  obtain ⟨w1, w2, w3, w4, w5, w6, w7, w8, w9⟩ := a1.2
  refine ad_M1 (k := 2) rfl (by simp [Value.category]) rfl (Nat.le_of_ble_eq_true rfl) ?_
  simp only [List.map_cons, List.map_nil, List.replicate, List.cons_append, List.nil_append]
  have lp : ∀ (n : Nat) (i : Int) (a : Int), (0 ≤ i) → (i ≤ y) → (a = ((ad_bits (ad_gen (ad_cA C) (fun w => w == (ad_aE (ad_cA C) h.toNat).toNat) i.toNat) : Nat) : Int)) → (0 ≤ h ∧ h < 4) → (0 ≤ y ∧ y ≤ 9) → (ad_aE (ad_cA C) h.toNat ≠ -1) → (y - i).toNat ≤ n → ad_R g mX7_generations d (ad_ZQ mX7_generations (fun x m => ad_an7 σ x m (ad_m_generations C h y))) 73 [some (ad_rf g 7 0), some (ad_iv h), some (ad_iv y), some (ad_iv a), some (ad_iv i)] [] σ := by
    intro n
    induction n with
    | zero =>
      intro i a i0 i1 hI k4 kn kE hn
      have hblt := ad_bits_lt (ad_gen (ad_cA C) (fun w => w == (ad_aE (ad_cA C) h.toNat).toNat) i.toNat)
      refine ad_iload dX7_generations_73 rfl ?_
      refine ad_iload_n dX7_generations_75 rfl ?_
      refine ad_icmp_ge 96 dX7_generations_76 (by decide) (by omega) (by omega) (fun h76 => ?_) (fun h76 => ?_)
      · skip
        refine ad_iload_n dX7_generations_96 rfl ?_
        exact ad_reti dX7_generations_97 rfl (by
          have e : ad_m_generations C h y = (((ad_bits (ad_gen (ad_cA C) (fun w => w == (ad_aE (ad_cA C) h.toNat).toNat) y.toNat) : Nat) : Int), C) := by
            unfold ad_m_generations
            rw [if_neg (fun q => q k4), if_neg (by omega), if_neg (by omega), if_neg kE]
          rw [e, hI, show i = y by omega]
          exact ⟨rfl, hC, ad_fr.refl⟩)
      · show ad_R _ _ _ _ 79 _ _ _
        exfalso; omega
    | succ n ih =>
      intro i a i0 i1 hI k4 kn kE hn
      have hblt := ad_bits_lt (ad_gen (ad_cA C) (fun w => w == (ad_aE (ad_cA C) h.toNat).toNat) i.toNat)
      refine ad_iload dX7_generations_73 rfl ?_
      refine ad_iload_n dX7_generations_75 rfl ?_
      refine ad_icmp_ge 96 dX7_generations_76 (by decide) (by omega) (by omega) (fun h76 => ?_) (fun h76 => ?_)
      · skip
        refine ad_iload_n dX7_generations_96 rfl ?_
        exact ad_reti dX7_generations_97 rfl (by
          have e : ad_m_generations C h y = (((ad_bits (ad_gen (ad_cA C) (fun w => w == (ad_aE (ad_cA C) h.toNat).toNat) y.toNat) : Nat) : Int), C) := by
            unfold ad_m_generations
            rw [if_neg (fun q => q k4), if_neg (by omega), if_neg (by omega), if_neg kE]
          rw [e, hI, show i = y by omega]
          exact ⟨rfl, hC, ad_fr.refl⟩)
      · show ad_R _ _ _ _ 79 _ _ _
        refine ad_iload_n dX7_generations_79 rfl ?_
        refine ad_aload_n dX7_generations_80 rfl ?_
        refine gf_X7_10 rfl dX7_generations_81 ?_
        refine ad_iload_n dX7_generations_84 rfl ?_
        refine ad_cv1f rfl cl_X7_239 dX7_generations_85 (c_X4_parentsOf (by decide) a1.1 a1.2 (by omega) (by rw [hI]; omega)) (by omega) (by show _ < 3; omega) (Nat.le_of_ble_eq_true rfl) ?_
        refine ad_ior dX7_generations_88 ?_
        rw [hI, ad_bits_fn, ad_or_bits]
        refine ad_istore_n dX7_generations_89 (by decide) rfl (by dsimp only [ad_set]) ?_
        refine ad_iinc dX7_generations_90 rfl (by decide) rfl (by dsimp only [ad_set]) ?_
        refine ad_goto 73 dX7_generations_93 (by decide) ?_
        refine ih (i + 1) _ (by omega) (by omega) ?_ k4 kn kE (by omega)
        rw [show (i + 1).toNat = i.toNat + 1 by omega]
        rfl
  refine ad_iload_n dX7_generations_0 rfl ?_
  refine ad_cs1f rfl cl_X7_133 dX7_generations_1 (c_X7_isHead hh) (by omega) (Nat.le_of_ble_eq_true rfl) ?_
  refine ad_ifp_ne 13 dX7_generations_4 (by decide) (fun h4 => ?_) (fun h4 => ?_)
  · skip
    refine ad_iload_n dX7_generations_13 rfl ?_
    refine ad_if_ge 24 dX7_generations_14 (by decide) (by omega) (fun h14 => ?_) (fun h14 => ?_)
    · skip
      refine ad_iload_n dX7_generations_24 rfl ?_
      refine ad_bipush dX7_generations_25 rfl ?_
      refine ad_icmp_le 37 dX7_generations_27 (by decide) (by omega) (by omega) (fun h27 => ?_) (fun h27 => ?_)
      · skip
        have hE := w7 h.toNat (by omega)
        have hE4 := r4 h.toNat (by omega)
        refine ad_aload_n dX7_generations_37 rfl ?_
        refine gf_X7_10 rfl dX7_generations_38 ?_
        refine ad_aload_n dX7_generations_41 rfl ?_
        refine gf_X7_10 rfl dX7_generations_42 ?_
        refine gf_X7_136 rfl (by omega) dX7_generations_45 ?_
        refine ad_iload_n dX7_generations_48 rfl ?_
        refine ad_iald dX7_generations_49 (by show _ < 3; omega) ⟨by decide, by decide⟩ (by omega) (by show _ < ((4 : Nat) : Int); omega) ?_
        refine ad_cv1f rfl cl_X7_109 dX7_generations_50 (c_X4_holds (by decide) a1.1 a1.2 (by rw [hE4]; by_cases hz : ad_aE (ad_cA C) h.toNat = -1 <;> omega)) (by omega) (by show _ < 3; omega) (Nat.le_of_ble_eq_true rfl) ?_
        rw [hE4]
        refine ad_ifp_ne 58 dX7_generations_53 (by decide) (fun h53 => ?_) (fun h53 => ?_)
        · skip
          refine ad_iconst dX7_generations_58 ?_
          refine ad_aload_n dX7_generations_59 rfl ?_
          refine gf_X7_10 rfl dX7_generations_60 ?_
          refine gf_X7_136 rfl (by omega) dX7_generations_63 ?_
          refine ad_iload_n dX7_generations_66 rfl ?_
          refine ad_iald dX7_generations_67 (by show _ < 3; omega) ⟨by decide, by decide⟩ (by omega) (by show _ < ((4 : Nat) : Int); omega) ?_
          refine ad_ishl dX7_generations_68 ?_
          have kE : ad_aE (ad_cA C) h.toNat ≠ -1 := by omega
          rw [hE4]
          have hob := ad_one_bits (k := (ad_aE (ad_cA C) h.toNat).toNat) (by have := (hE.2 kE).1; omega)
          rw [show (((ad_aE (ad_cA C) h.toNat).toNat : Nat) : Int) = ad_aE (ad_cA C) h.toNat by omega] at hob
          rw [hob]
          refine ad_istore_n dX7_generations_69 (by decide) rfl (by dsimp only [ad_set]) ?_
          refine ad_iconst dX7_generations_70 ?_
          refine ad_istore dX7_generations_71 (by decide) rfl (by dsimp only [ad_set]) ?_
          exact lp y.toNat 0 _ (by omega) (by omega) rfl (by omega) (by omega) kE (by omega)
        · show ad_R _ _ _ _ 56 _ _ _
          have kE : ad_aE (ad_cA C) h.toNat = -1 := by
            by_cases hz : ad_aE (ad_cA C) h.toNat = -1
            · exact hz
            · exact absurd ⟨by omega, (hE.2 hz).2⟩ h53
          refine ad_iconst dX7_generations_56 ?_
          exact ad_reti dX7_generations_57 rfl (by
            have e : ad_m_generations C h y = (0, C) := by
              unfold ad_m_generations
              (repeat' split) <;> first | with_reducible rfl | contradiction | (exfalso; omega) | rfl | (exfalso; simp_all; omega) | (simp_all; done)
            rw [e]
            exact ⟨rfl, hC, ad_fr.refl⟩)
      · show ad_R _ _ _ _ 30 _ _ _
        refine ad_aload_n dX7_generations_30 rfl ?_
        refine ad_bipush dX7_generations_31 rfl ?_
        refine ad_cv1q rfl cl_X7_67 dX7_generations_33 (c_X7_refuse hC (by decide)) (by omega) (by show _ < 1; omega) (Nat.le_of_ble_eq_true rfl) (fun x33 s33 q33 => ?_)
        obtain ⟨rfl, c33, f33⟩ := q33
        exact ad_reti dX7_generations_36 rfl (by
          have e : ad_m_generations C h y = ad_no C 6 := by
            unfold ad_m_generations
            (repeat' split) <;> first | with_reducible rfl | contradiction | (exfalso; omega) | rfl | (exfalso; simp_all; omega) | (simp_all; done)
          rw [e]
          exact ⟨rfl, c33, f33⟩)
    · show ad_R _ _ _ _ 17 _ _ _
      refine ad_aload_n dX7_generations_17 rfl ?_
      refine ad_bipush dX7_generations_18 rfl ?_
      refine ad_cv1q rfl cl_X7_67 dX7_generations_20 (c_X7_refuse hC (by decide)) (by omega) (by show _ < 1; omega) (Nat.le_of_ble_eq_true rfl) (fun x20 s20 q20 => ?_)
      obtain ⟨rfl, c20, f20⟩ := q20
      exact ad_reti dX7_generations_23 rfl (by
        have e : ad_m_generations C h y = ad_no C 4 := by
          unfold ad_m_generations
          (repeat' split) <;> first | with_reducible rfl | contradiction | (exfalso; omega) | rfl | (exfalso; simp_all; omega) | (simp_all; done)
        rw [e]
        exact ⟨rfl, c20, f20⟩)
  · show ad_R _ _ _ _ 7 _ _ _
    refine ad_aload_n dX7_generations_7 rfl ?_
    refine ad_iconst dX7_generations_8 ?_
    refine ad_cv1q rfl cl_X7_67 dX7_generations_9 (c_X7_refuse hC (by decide)) (by omega) (by show _ < 1; omega) (Nat.le_of_ble_eq_true rfl) (fun x9 s9 q9 => ?_)
    obtain ⟨rfl, c9, f9⟩ := q9
    exact ad_reti dX7_generations_12 rfl (by
      have e : ad_m_generations C h y = ad_no C 1 := by
        unfold ad_m_generations
        (repeat' split) <;> first | with_reducible rfl | contradiction | (exfalso; omega) | rfl | (exfalso; simp_all; omega) | (simp_all; done)
      rw [e]
      exact ⟨rfl, c9, f9⟩)
theorem c_X7_fetch {g : ad_G} {d : Nat} {σ : ad_Mem} {C : ad_C7} {h m w : Int} (hC : ad_c7 σ C) (hh : ad_rng h) (hm : ad_rng m) (hw : ad_rng w) (h6d : 6 ≤ d) : ad_Q g mX7_fetch d [ad_rf g 7 0, ad_iv h, ad_iv m, ad_iv w] σ (fun x m2 => ad_an7 σ x m2 (ad_m_fetch C h m w)) := by
  have hC0 := hC
  obtain ⟨a1, a2, a3, a4, a5, a6, a7, a8, a9⟩ := hC0
  obtain ⟨z1, z2, z3, z4⟩ := ad_c7_sz hC
  obtain ⟨r1, r2, r3, r4, r5, r6, r7, r8⟩ := a1.1
  obtain ⟨w1, w2, w3, w4, w5, w6, w7, w8, w9⟩ := a1.2
  refine ad_M1 (k := 4) rfl (by simp [Value.category]) rfl (Nat.le_of_ble_eq_true rfl) ?_
  simp only [List.map_cons, List.map_nil, List.replicate, List.cons_append, List.nil_append]
  refine ad_iload_n dX7_fetch_0 rfl ?_
  refine ad_cs1f rfl cl_X7_133 dX7_fetch_1 (c_X7_isHead hh) (by omega) (Nat.le_of_ble_eq_true rfl) ?_
  refine ad_ifp_ne 13 dX7_fetch_4 (by decide) (fun h4 => ?_) (fun h4 => ?_)
  · skip
    refine ad_iload_n dX7_fetch_13 rfl ?_
    refine ad_if_ge 24 dX7_fetch_14 (by decide) (by omega) (fun h14 => ?_) (fun h14 => ?_)
    · skip
      refine ad_iload_n dX7_fetch_24 rfl ?_
      refine ad_sipush dX7_fetch_25 rfl ?_
      refine ad_icmp_le 38 dX7_fetch_28 (by decide) (by omega) (by omega) (fun h28 => ?_) (fun h28 => ?_)
      · skip
        refine ad_iload_n dX7_fetch_38 rfl ?_
        refine ad_if_lt 47 dX7_fetch_39 (by decide) (by omega) (fun h39 => ?_) (fun h39 => ?_)
        · skip
          refine ad_aload_n dX7_fetch_47 rfl ?_
          refine ad_bipush dX7_fetch_48 rfl ?_
          refine ad_cv1q rfl cl_X7_67 dX7_fetch_50 (c_X7_refuse hC (by decide)) (by omega) (by show _ < 1; omega) (Nat.le_of_ble_eq_true rfl) (fun x50 s50 q50 => ?_)
          obtain ⟨rfl, c50, f50⟩ := q50
          exact ad_reti dX7_fetch_53 rfl (by
            have e : ad_m_fetch C h m w = ad_no C 2 := by
              unfold ad_m_fetch
              (repeat' split) <;> first | with_reducible rfl | contradiction | (exfalso; omega) | rfl | (exfalso; simp_all; omega) | (simp_all; done)
            rw [e]
            exact ⟨rfl, c50, f50⟩)
        · show ad_R _ _ _ _ 42 _ _ _
          refine ad_iload_n dX7_fetch_42 rfl ?_
          refine ad_iconst dX7_fetch_43 ?_
          refine ad_icmp_le 54 dX7_fetch_44 (by decide) (by omega) (by omega) (fun h44 => ?_) (fun h44 => ?_)
          · skip
            have hE := w7 h.toNat (by omega)
            have hE4 := r4 h.toNat (by omega)
            refine ad_aload_n dX7_fetch_54 rfl ?_
            refine gf_X7_10 rfl dX7_fetch_55 ?_
            refine gf_X7_136 rfl (by omega) dX7_fetch_58 ?_
            refine ad_iload_n dX7_fetch_61 rfl ?_
            refine ad_iald dX7_fetch_62 (by show _ < 3; omega) ⟨by decide, by decide⟩ (by omega) (by show _ < ((4 : Nat) : Int); omega) ?_
            rw [hE4]
            refine ad_istore dX7_fetch_63 (by decide) rfl (by dsimp only [ad_set]) ?_
            refine ad_aload_n dX7_fetch_65 rfl ?_
            refine gf_X7_10 rfl dX7_fetch_66 ?_
            refine ad_iload dX7_fetch_69 rfl ?_
            refine ad_cv1f rfl cl_X7_109 dX7_fetch_71 (c_X4_holds (by decide) a1.1 a1.2 (by by_cases hz : ad_aE (ad_cA C) h.toNat = -1 <;> omega)) (by omega) (by show _ < 3; omega) (Nat.le_of_ble_eq_true rfl) ?_
            refine ad_ifp_ne 79 dX7_fetch_74 (by decide) (fun h74 => ?_) (fun h74 => ?_)
            · skip
              have kE : ad_aE (ad_cA C) h.toNat ≠ -1 := by omega
              have hE9 := (hE.2 kE).1
              have ht := w2 _ h74.2
              refine ad_aload_n dX7_fetch_79 rfl ?_
              refine gf_X7_10 rfl dX7_fetch_80 ?_
              refine ad_iload_n dX7_fetch_83 rfl ?_
              refine ad_cv1f rfl cl_X7_245 dX7_fetch_84 (c_X4_reachedFrom (by decide) a1.1 a1.2 (by omega) (by omega)) (by omega) (by show _ < 3; omega) (Nat.le_of_ble_eq_true rfl) ?_
              change ad_R _ _ _ _ _ _ [ad_iv ((ad_bits (ad_had (ad_cA C) m) : Nat) : Int)] _
              refine ad_istore dX7_fetch_87 (by decide) rfl (by dsimp only [ad_set]) ?_
              refine ad_aload_n dX7_fetch_89 rfl ?_
              refine gf_X7_10 rfl dX7_fetch_90 ?_
              refine gf_X7_113 rfl (by omega) dX7_fetch_93 ?_
              refine ad_iload dX7_fetch_96 rfl ?_
              refine ad_aald dX7_fetch_98 (by omega) (by omega) (by omega) ?_
              refine gf_X7_236 rfl (by omega) dX7_fetch_99 ?_
              refine ad_aload_n dX7_fetch_102 rfl ?_
              refine gf_X7_10 rfl dX7_fetch_103 ?_
              refine gf_X7_233 rfl (by omega) dX7_fetch_106 ?_
              refine ad_iand dX7_fetch_109 ?_
              refine ad_iload dX7_fetch_110 rfl ?_
              refine ad_iconst dX7_fetch_112 ?_
              refine ad_ixor dX7_fetch_113 ?_
              refine ad_iand dX7_fetch_114 ?_
              rw [(r7 (ad_aE (ad_cA C) h.toNat).toNat (w2 _ h74.2)).2.2, r2, ad_and_bits, ad_not_bits]
              change ad_R _ _ _ _ _ _ [ad_iv ((ad_bits (ad_snt (ad_cA C) (ad_aE (ad_cA C) h.toNat).toNat m) : Nat) : Int)] _
              have hsn : ∀ i, ad_snt (ad_cA C) (ad_aE (ad_cA C) h.toNat).toNat m i = true → i < 10 := fun i q => by
                have := w2 i (Bool.and_eq_true_iff.mp (Bool.and_eq_true_iff.mp q).1).2
                omega
              have hsl := ad_bits_lt (ad_snt (ad_cA C) (ad_aE (ad_cA C) h.toNat).toNat m)
              refine ad_istore dX7_fetch_115 (by decide) rfl (by dsimp only [ad_set]) ?_
              refine ad_iload_n dX7_fetch_117 rfl ?_
              refine ad_if_ne 124 dX7_fetch_118 (by decide) (by omega) (fun h118 => ?_) (fun h118 => ?_)
              · skip
                refine ad_iload dX7_fetch_124 rfl ?_
                refine ad_iload dX7_fetch_126 rfl ?_
                refine ad_ior dX7_fetch_128 ?_
                refine ad_aload_n dX7_fetch_129 rfl ?_
                refine gf_X7_10 rfl dX7_fetch_130 ?_
                refine gf_X7_233 rfl (by omega) dX7_fetch_133 ?_
                refine ad_iand dX7_fetch_136 ?_
                rw [r2, ad_or_bits, ad_and_bits]
                change ad_R _ _ _ _ _ _ [ad_iv ((ad_bits (ad_knw (ad_cA C) (ad_aE (ad_cA C) h.toNat).toNat m) : Nat) : Int)] _
                have hkn : ∀ i, ad_knw (ad_cA C) (ad_aE (ad_cA C) h.toNat).toNat m i = true → i < 10 := fun i q => by
                  have := w2 i (Bool.and_eq_true_iff.mp q).2
                  omega
                have hkl := ad_bits_lt (ad_knw (ad_cA C) (ad_aE (ad_cA C) h.toNat).toNat m)
                refine ad_istore dX7_fetch_137 (by decide) rfl (by dsimp only [ad_set]) ?_
                refine ad_iload_n dX7_fetch_139 rfl ?_
                refine ad_iconst dX7_fetch_140 ?_
                refine ad_icmp_ne 158 dX7_fetch_141 (by decide) (by omega) (by omega) (fun h141 => ?_) (fun h141 => ?_)
                · skip
                  refine ad_aload_n dX7_fetch_158 rfl ?_
                  refine gf_X7_10 rfl dX7_fetch_159 ?_
                  refine ad_iload dX7_fetch_162 rfl ?_
                  refine ad_iload dX7_fetch_164 rfl ?_
                  refine ad_cv2f rfl cl_X7_251 dX7_fetch_166 (c_X4_sentWhole (by decide) a1.1 a1.2 (by omega) (by omega) (by omega)) (by omega) (by show _ < 3; omega) (Nat.le_of_ble_eq_true rfl) ?_
                  rw [ad_bits_fix hsn, ad_bits_fix hkn]
                  refine ad_cs1f rfl cl_X7_254 dX7_fetch_169 (c_bitCount (ad_bits_lt _)) (by omega) (Nat.le_of_ble_eq_true rfl) ?_
                  rw [ad_ones_bits]
                  exact ad_reti dX7_fetch_172 rfl (by
                    have e : ad_m_fetch C h m w = (((ad_pp (ad_sw (ad_cA C) (ad_snt (ad_cA C) (ad_aE (ad_cA C) h.toNat).toNat m) (ad_knw (ad_cA C) (ad_aE (ad_cA C) h.toNat).toNat m)) 10 : Nat) : Int), C) := by
                      unfold ad_m_fetch
                      (repeat' split) <;> first | with_reducible rfl | contradiction | (exfalso; omega) | rfl | (exfalso; simp_all; omega) | (simp_all; done)
                    rw [e]
                    exact ⟨rfl, hC, ad_fr.refl⟩)
                · show ad_R _ _ _ _ 144 _ _ _
                  refine ad_aload_n dX7_fetch_144 rfl ?_
                  refine gf_X7_10 rfl dX7_fetch_145 ?_
                  refine ad_iload dX7_fetch_148 rfl ?_
                  refine ad_iload dX7_fetch_150 rfl ?_
                  refine ad_cv2f rfl cl_X7_248 dX7_fetch_152 (c_X4_costOfSending (by decide) a1.1 a1.2 (by omega) (by omega) (by omega)) (by omega) (by show _ < 3; omega) (Nat.le_of_ble_eq_true rfl) ?_
                  rw [ad_bits_fix hsn, ad_bits_fix hkn]
                  refine ad_goto 172 dX7_fetch_155 (by decide) ?_
                  exact ad_reti dX7_fetch_172 rfl (by
                    have e : ad_m_fetch C h m w = (ad_sm (ad_scH (ad_cA C) (ad_snt (ad_cA C) (ad_aE (ad_cA C) h.toNat).toNat m) (ad_knw (ad_cA C) (ad_aE (ad_cA C) h.toNat).toNat m)) 10, C) := by
                      unfold ad_m_fetch
                      (repeat' split) <;> first | with_reducible rfl | contradiction | (exfalso; omega) | rfl | (exfalso; simp_all; omega) | (simp_all; done)
                    rw [e]
                    exact ⟨rfl, hC, ad_fr.refl⟩)
              · show ad_R _ _ _ _ 121 _ _ _
                refine ad_iload dX7_fetch_121 rfl ?_
                exact ad_reti dX7_fetch_123 rfl (by
                  have e : ad_m_fetch C h m w = (((ad_bits (ad_snt (ad_cA C) (ad_aE (ad_cA C) h.toNat).toNat m) : Nat) : Int), C) := by
                    unfold ad_m_fetch
                    (repeat' split) <;> first | with_reducible rfl | contradiction | (exfalso; omega) | rfl | (exfalso; simp_all; omega) | (simp_all; done)
                  rw [e]
                  exact ⟨rfl, hC, ad_fr.refl⟩)
            · show ad_R _ _ _ _ 77 _ _ _
              have kE : ad_aE (ad_cA C) h.toNat = -1 := by
                by_cases hz : ad_aE (ad_cA C) h.toNat = -1
                · exact hz
                · exact absurd ⟨by omega, (hE.2 hz).2⟩ h74
              refine ad_iconst dX7_fetch_77 ?_
              exact ad_reti dX7_fetch_78 rfl (by
                have e : ad_m_fetch C h m w = (0, C) := by
                  unfold ad_m_fetch
                  (repeat' split) <;> first | with_reducible rfl | contradiction | (exfalso; omega) | rfl | (exfalso; simp_all; omega) | (simp_all; done)
                rw [e]
                exact ⟨rfl, hC, ad_fr.refl⟩)
          · show ad_R _ _ _ _ 47 _ _ _
            refine ad_aload_n dX7_fetch_47 rfl ?_
            refine ad_bipush dX7_fetch_48 rfl ?_
            refine ad_cv1q rfl cl_X7_67 dX7_fetch_50 (c_X7_refuse hC (by decide)) (by omega) (by show _ < 1; omega) (Nat.le_of_ble_eq_true rfl) (fun x50 s50 q50 => ?_)
            obtain ⟨rfl, c50, f50⟩ := q50
            exact ad_reti dX7_fetch_53 rfl (by
              have e : ad_m_fetch C h m w = ad_no C 2 := by
                unfold ad_m_fetch
                (repeat' split) <;> first | with_reducible rfl | contradiction | (exfalso; omega) | rfl | (exfalso; simp_all; omega) | (simp_all; done)
              rw [e]
              exact ⟨rfl, c50, f50⟩)
      · show ad_R _ _ _ _ 31 _ _ _
        refine ad_aload_n dX7_fetch_31 rfl ?_
        refine ad_bipush dX7_fetch_32 rfl ?_
        refine ad_cv1q rfl cl_X7_67 dX7_fetch_34 (c_X7_refuse hC (by decide)) (by omega) (by show _ < 1; omega) (Nat.le_of_ble_eq_true rfl) (fun x34 s34 q34 => ?_)
        obtain ⟨rfl, c34, f34⟩ := q34
        exact ad_reti dX7_fetch_37 rfl (by
          have e : ad_m_fetch C h m w = ad_no C 6 := by
            unfold ad_m_fetch
            (repeat' split) <;> first | with_reducible rfl | contradiction | (exfalso; omega) | rfl | (exfalso; simp_all; omega) | (simp_all; done)
          rw [e]
          exact ⟨rfl, c34, f34⟩)
    · show ad_R _ _ _ _ 17 _ _ _
      refine ad_aload_n dX7_fetch_17 rfl ?_
      refine ad_bipush dX7_fetch_18 rfl ?_
      refine ad_cv1q rfl cl_X7_67 dX7_fetch_20 (c_X7_refuse hC (by decide)) (by omega) (by show _ < 1; omega) (Nat.le_of_ble_eq_true rfl) (fun x20 s20 q20 => ?_)
      obtain ⟨rfl, c20, f20⟩ := q20
      exact ad_reti dX7_fetch_23 rfl (by
        have e : ad_m_fetch C h m w = ad_no C 4 := by
          unfold ad_m_fetch
          (repeat' split) <;> first | with_reducible rfl | contradiction | (exfalso; omega) | rfl | (exfalso; simp_all; omega) | (simp_all; done)
        rw [e]
        exact ⟨rfl, c20, f20⟩)
  · show ad_R _ _ _ _ 7 _ _ _
    refine ad_aload_n dX7_fetch_7 rfl ?_
    refine ad_iconst dX7_fetch_8 ?_
    refine ad_cv1q rfl cl_X7_67 dX7_fetch_9 (c_X7_refuse hC (by decide)) (by omega) (by show _ < 1; omega) (Nat.le_of_ble_eq_true rfl) (fun x9 s9 q9 => ?_)
    obtain ⟨rfl, c9, f9⟩ := q9
    exact ad_reti dX7_fetch_12 rfl (by
      have e : ad_m_fetch C h m w = ad_no C 1 := by
        unfold ad_m_fetch
        (repeat' split) <;> first | with_reducible rfl | contradiction | (exfalso; omega) | rfl | (exfalso; simp_all; omega) | (simp_all; done)
      rw [e]
      exact ⟨rfl, c9, f9⟩)
theorem c_X7_mean {g : ad_G} {d : Nat} {σ : ad_Mem} {C : ad_C7} {p : Int} (hC : ad_c7 σ C) (hp : ad_rng p) (h6d : 6 ≤ d) : ad_Q g mX7_mean d [ad_rf g 7 0, ad_iv p] σ (fun x m => ad_al7 σ x m (ad_m_mean C p)) := by
  have hC0 := hC
  obtain ⟨a1, a2, a3, a4, a5, a6, a7, a8, a9⟩ := hC0
  obtain ⟨z1, z2, z3, z4⟩ := ad_c7_sz hC
  obtain ⟨r1, r2, r3, r4, r5, r6, r7, r8⟩ := a1.1
  obtain ⟨w1, w2, w3, w4, w5, w6, w7, w8, w9⟩ := a1.2
  refine ad_M1 (k := 3) rfl (by simp [Value.category]) rfl (Nat.le_of_ble_eq_true rfl) ?_
  simp only [List.map_cons, List.map_nil, List.replicate, List.cons_append, List.nil_append]
  refine ad_iload_n dX7_mean_0 rfl ?_
  refine ad_if_lt 9 dX7_mean_1 (by decide) (by omega) (fun h1 => ?_) (fun h1 => ?_)
  · skip
    refine ad_aload_n dX7_mean_9 rfl ?_
    refine ad_bipush dX7_mean_10 rfl ?_
    refine ad_cv1q rfl cl_X7_262 dX7_mean_12 (c_X7_refuseLong hC (by decide) (by omega)) (by omega) (by show _ < 1; omega) (Nat.le_of_ble_eq_true rfl) (fun x12 s12 q12 => ?_)
    obtain ⟨rfl, c12, f12⟩ := q12
    exact ad_retl dX7_mean_15 rfl (by
      have e : ad_m_mean C p = ad_nol C 2 := by
        unfold ad_m_mean
        (repeat' split) <;> first | with_reducible rfl | contradiction | (exfalso; omega) | rfl | (exfalso; simp_all; omega) | (simp_all; done)
      rw [e]
      exact ⟨rfl, c12, f12⟩)
  · show ad_R _ _ _ _ 4 _ _ _
    refine ad_iload_n dX7_mean_4 rfl ?_
    refine ad_iconst dX7_mean_5 ?_
    refine ad_icmp_le 16 dX7_mean_6 (by decide) (by omega) (by omega) (fun h6 => ?_) (fun h6 => ?_)
    · skip
      have har := ad_all_rng a1.1 a1.2
      have hpl := ad_pp_le (ad_aH (ad_cA C)) 10
      refine ad_aload_n dX7_mean_16 rfl ?_
      refine gf_X7_10 rfl dX7_mean_17 ?_
      refine ad_cv0f rfl cl_X7_162 dX7_mean_20 (c_X4_costOfAll (by decide) a1.1 a1.2 (by omega)) (by omega) (by show _ < 3; omega) (Nat.le_of_ble_eq_true rfl) ?_
      refine ad_istore_n dX7_mean_23 (by decide) rfl (by dsimp only [ad_set]) ?_
      refine ad_aload_n dX7_mean_24 rfl ?_
      refine gf_X7_10 rfl dX7_mean_25 ?_
      refine gf_X7_233 rfl (by omega) dX7_mean_28 ?_
      rw [r2]
      refine ad_cs1f rfl cl_X7_254 dX7_mean_31 (c_bitCount (ad_bits_lt _)) (by omega) (Nat.le_of_ble_eq_true rfl) ?_
      rw [ad_ones_bits]
      refine ad_istore_n dX7_mean_34 (by decide) rfl (by dsimp only [ad_set]) ?_
      refine ad_iload_n dX7_mean_35 rfl ?_
      refine ad_iload_n dX7_mean_36 rfl ?_
      refine ad_cs2f rfl cl_X7_266 dX7_mean_37 (c_X7_greatestDivisor (by omega) (by omega)) (by omega) (Nat.le_of_ble_eq_true rfl) ?_
      rw [Int.toNat_natCast]
      obtain ⟨G, hG⟩ : ∃ G, G = Nat.gcd (ad_all (ad_cA C)).toNat (ad_pp (ad_aH (ad_cA C)) 10) := ⟨_, rfl⟩
      rw [← hG]
      have hg1 : 0 < ad_pp (ad_aH (ad_cA C)) 10 → G ≤ ad_pp (ad_aH (ad_cA C)) 10 := fun q => by rw [hG]; exact Nat.gcd_le_right _ q
      have hg2 : 0 < (ad_all (ad_cA C)).toNat → G ≤ (ad_all (ad_cA C)).toNat := fun q => by rw [hG]; exact Nat.gcd_le_left _ q
      have hg3 : ad_pp (ad_aH (ad_cA C)) 10 = 0 → G = (ad_all (ad_cA C)).toNat := fun q => by rw [hG, q, Nat.gcd_zero_right]
      refine ad_istore dX7_mean_40 (by decide) rfl (by dsimp only [ad_set]) ?_
      refine ad_iload dX7_mean_42 rfl ?_
      refine ad_if_ne 50 dX7_mean_44 (by decide) (by omega) (fun h44 => ?_) (fun h44 => ?_)
      · skip
        refine ad_iload_n dX7_mean_50 rfl ?_
        refine ad_if_ne 62 dX7_mean_51 (by decide) (by omega) (fun h51 => ?_) (fun h51 => ?_)
        · skip
          refine ad_iload_n dX7_mean_62 rfl ?_
          refine ad_iload dX7_mean_63 rfl ?_
          refine ad_idiv dX7_mean_65 (by omega) (by omega) ?_
          rw [ad_div_h (by omega) (by omega) (by omega) (by omega)]
          have hdv := Int.ediv_le_self (a := ((ad_pp (ad_aH (ad_cA C)) 10 : Nat) : Int)) (G : Int) (by omega)
          have hdv0 := Int.ediv_nonneg (show (0 : Int) ≤ ((ad_pp (ad_aH (ad_cA C)) 10 : Nat) : Int) by omega) (show (0 : Int) ≤ (G : Int) by omega)
          refine ad_i2l dX7_mean_66 (by omega) ?_
          exact ad_retl dX7_mean_67 rfl (by
            have e : ad_m_mean C p = ((ad_pp (ad_aH (ad_cA C)) 10 : Int) / (G : Int), C) := by
              unfold ad_m_mean
              rw [← hG]
              (repeat' split) <;> first | with_reducible rfl | contradiction | (exfalso; omega) | rfl | (exfalso; simp_all; omega) | (simp_all; done)
            rw [e]
            exact ⟨rfl, hC, ad_fr.refl⟩)
        · show ad_R _ _ _ _ 54 _ _ _
          refine ad_iload_n dX7_mean_54 rfl ?_
          refine ad_iload dX7_mean_55 rfl ?_
          refine ad_idiv dX7_mean_57 (by omega) (by omega) ?_
          rw [ad_div_h (by omega) (by omega) (by omega) (by omega)]
          have hdv := Int.ediv_le_self (a := ad_all (ad_cA C)) (G : Int) har.1
          have hdv0 := Int.ediv_nonneg har.1 (show (0 : Int) ≤ (G : Int) by omega)
          refine ad_i2l dX7_mean_58 (by omega) ?_
          refine ad_goto 67 dX7_mean_59 (by decide) ?_
          exact ad_retl dX7_mean_67 rfl (by
            have e : ad_m_mean C p = (ad_all (ad_cA C) / (G : Int), C) := by
              unfold ad_m_mean
              rw [← hG]
              (repeat' split) <;> first | with_reducible rfl | contradiction | (exfalso; omega) | rfl | (exfalso; simp_all; omega) | (simp_all; done)
            rw [e]
            exact ⟨rfl, hC, ad_fr.refl⟩)
      · show ad_R _ _ _ _ 47 _ _ _
        refine ad_iload_n dX7_mean_47 rfl ?_
        refine ad_i2l dX7_mean_48 (by omega) ?_
        exact ad_retl dX7_mean_49 rfl (by
          have e : ad_m_mean C p = (p, C) := by
            unfold ad_m_mean
            rw [← hG]
            (repeat' split) <;> first | with_reducible rfl | contradiction | (exfalso; omega) | rfl | (exfalso; simp_all; omega) | (simp_all; done)
          rw [e]
          exact ⟨rfl, hC, ad_fr.refl⟩)
    · show ad_R _ _ _ _ 9 _ _ _
      refine ad_aload_n dX7_mean_9 rfl ?_
      refine ad_bipush dX7_mean_10 rfl ?_
      refine ad_cv1q rfl cl_X7_262 dX7_mean_12 (c_X7_refuseLong hC (by decide) (by omega)) (by omega) (by show _ < 1; omega) (Nat.le_of_ble_eq_true rfl) (fun x12 s12 q12 => ?_)
      obtain ⟨rfl, c12, f12⟩ := q12
      exact ad_retl dX7_mean_15 rfl (by
        have e : ad_m_mean C p = ad_nol C 2 := by
          unfold ad_m_mean
          (repeat' split) <;> first | with_reducible rfl | contradiction | (exfalso; omega) | rfl | (exfalso; simp_all; omega) | (simp_all; done)
        rw [e]
        exact ⟨rfl, c12, f12⟩)
theorem c_X7_lost {g : ad_G} {d : Nat} {σ : ad_Mem} {C : ad_C7} {h t p : Int} (hC : ad_c7 σ C) (hh : ad_rng h) (ht : ad_rng t) (hp : ad_rng p) (h6d : 6 ≤ d) : ad_Q g mX7_lost d [ad_rf g 7 0, ad_iv h, ad_iv t, ad_iv p] σ (fun x m => ad_al7 σ x m (ad_m_lost C h t p)) := by
  have hC0 := hC
  obtain ⟨a1, a2, a3, a4, a5, a6, a7, a8, a9⟩ := hC0
  obtain ⟨z1, z2, z3, z4⟩ := ad_c7_sz hC
  obtain ⟨r1, r2, r3, r4, r5, r6, r7, r8⟩ := a1.1
  obtain ⟨w1, w2, w3, w4, w5, w6, w7, w8, w9⟩ := a1.2
  refine ad_M1 (k := 6) rfl (by simp [Value.category]) rfl (Nat.le_of_ble_eq_true rfl) ?_
  simp only [List.map_cons, List.map_nil, List.replicate, List.cons_append, List.nil_append]
  have lp : ∀ (n : Nat) (i : Int) (w : Int), (0 ≤ i) → (i ≤ (ad_pp (fun w => ad_need (ad_cA C) (ad_aE (ad_cA C) h.toNat) w && decide (w < 6)) 10 : Nat)) → (w = (if p = 0 then t - 1 else t) ^ i.toNat) → (ad_m_lost C h t p = ((if p = 0 then t - 1 else t) ^ (ad_pp (fun w => ad_need (ad_cA C) (ad_aE (ad_cA C) h.toNat) w && decide (w < 6)) 10), C)) → (((ad_pp (fun w => ad_need (ad_cA C) (ad_aE (ad_cA C) h.toNat) w && decide (w < 6)) 10 : Nat) : Int) - i).toNat ≤ n → ad_R g mX7_lost d (ad_ZQ mX7_lost (fun x m => ad_al7 σ x m (ad_m_lost C h t p))) 119 [some (ad_rf g 7 0), some (ad_iv h), some (ad_iv t), some (ad_iv p), some (ad_lv (if p = 0 then t - 1 else t)), none, some (ad_iv ((ad_pp (fun w => ad_need (ad_cA C) (ad_aE (ad_cA C) h.toNat) w && decide (w < 6)) 10 : Nat) : Int)), some (ad_lv w), none, some (ad_iv i)] [] σ := by
    intro n
    induction n with
    | zero =>
      intro i w i0 i1 hI hS hn
      have hpl := ad_pp_le (fun w => ad_need (ad_cA C) (ad_aE (ad_cA C) h.toNat) w && decide (w < 6)) 10
      refine ad_iload dX7_lost_119 rfl ?_
      refine ad_iload dX7_lost_121 rfl ?_
      refine ad_icmp_ge 139 dX7_lost_123 (by decide) (by omega) (by omega) (fun h123 => ?_) (fun h123 => ?_)
      · skip
        refine ad_lload dX7_lost_139 rfl ?_
        exact ad_retl dX7_lost_141 rfl (by
          rw [hS, hI, show i.toNat = ad_pp (fun w => ad_need (ad_cA C) (ad_aE (ad_cA C) h.toNat) w && decide (w < 6)) 10 by omega]
          exact ⟨rfl, hC, ad_fr.refl⟩)
      · show ad_R _ _ _ _ 126 _ _ _
        exfalso; omega
    | succ n ih =>
      intro i w i0 i1 hI hS hn
      have hpl := ad_pp_le (fun w => ad_need (ad_cA C) (ad_aE (ad_cA C) h.toNat) w && decide (w < 6)) 10
      refine ad_iload dX7_lost_119 rfl ?_
      refine ad_iload dX7_lost_121 rfl ?_
      refine ad_icmp_ge 139 dX7_lost_123 (by decide) (by omega) (by omega) (fun h123 => ?_) (fun h123 => ?_)
      · skip
        refine ad_lload dX7_lost_139 rfl ?_
        exact ad_retl dX7_lost_141 rfl (by
          rw [hS, hI, show i.toNat = ad_pp (fun w => ad_need (ad_cA C) (ad_aE (ad_cA C) h.toNat) w && decide (w < 6)) 10 by omega]
          exact ⟨rfl, hC, ad_fr.refl⟩)
      · show ad_R _ _ _ _ 126 _ _ _
        refine ad_lload dX7_lost_126 rfl ?_
        refine ad_lload dX7_lost_128 rfl ?_
        refine ad_lmul dX7_lost_130 ?_
        refine ad_lstore dX7_lost_131 (by decide) (Nat.le_of_ble_eq_true rfl) rfl (by dsimp only [ad_set]) ?_
        refine ad_iinc dX7_lost_133 rfl (by decide) rfl (by dsimp only [ad_set]) ?_
        refine ad_goto 119 dX7_lost_136 (by decide) ?_
        refine ih (i + 1) _ (by omega) (by omega) ?_ hS (by omega)
        rw [hI, show (i + 1).toNat = i.toNat + 1 by omega, Int.pow_succ]
  refine ad_iload_n dX7_lost_0 rfl ?_
  refine ad_cs1f rfl cl_X7_133 dX7_lost_1 (c_X7_isHead hh) (by omega) (Nat.le_of_ble_eq_true rfl) ?_
  refine ad_ifp_ne 13 dX7_lost_4 (by decide) (fun h4 => ?_) (fun h4 => ?_)
  · skip
    have hE := w7 h.toNat (by omega)
    have hE4 := r4 h.toNat (by omega)
    refine ad_aload_n dX7_lost_13 rfl ?_
    refine gf_X7_10 rfl dX7_lost_14 ?_
    refine gf_X7_136 rfl (by omega) dX7_lost_17 ?_
    refine ad_iload_n dX7_lost_20 rfl ?_
    refine ad_iald dX7_lost_21 (by show _ < 3; omega) ⟨by decide, by decide⟩ (by omega) (by show _ < ((4 : Nat) : Int); omega) ?_
    rw [hE4]
    refine ad_iconst dX7_lost_22 ?_
    refine ad_icmp_ne 33 dX7_lost_23 (by decide) (by by_cases hz : ad_aE (ad_cA C) h.toNat = -1 <;> omega) (by decide) (fun h23 => ?_) (fun h23 => ?_)
    · skip
      refine ad_iload_n dX7_lost_33 rfl ?_
      refine ad_iconst dX7_lost_34 ?_
      refine ad_icmp_ge 45 dX7_lost_35 (by decide) (by omega) (by omega) (fun h35 => ?_) (fun h35 => ?_)
      · skip
        refine ad_iload_n dX7_lost_45 rfl ?_
        refine ad_bipush dX7_lost_46 rfl ?_
        refine ad_icmp_le 58 dX7_lost_48 (by decide) (by omega) (by omega) (fun h48 => ?_) (fun h48 => ?_)
        · skip
          refine ad_iload_n dX7_lost_58 rfl ?_
          refine ad_if_lt 67 dX7_lost_59 (by decide) (by omega) (fun h59 => ?_) (fun h59 => ?_)
          · skip
            refine ad_aload_n dX7_lost_67 rfl ?_
            refine ad_bipush dX7_lost_68 rfl ?_
            refine ad_cv1q rfl cl_X7_262 dX7_lost_70 (c_X7_refuseLong hC (by decide) (by omega)) (by omega) (by show _ < 1; omega) (Nat.le_of_ble_eq_true rfl) (fun x70 s70 q70 => ?_)
            obtain ⟨rfl, c70, f70⟩ := q70
            exact ad_retl dX7_lost_73 rfl (by
              have e : ad_m_lost C h t p = ad_nol C 2 := by
                unfold ad_m_lost
                (repeat' split) <;> first | with_reducible rfl | contradiction | (exfalso; omega) | rfl | (exfalso; simp_all; omega) | (simp_all; done)
              rw [e]
              exact ⟨rfl, c70, f70⟩)
          · show ad_R _ _ _ _ 62 _ _ _
            refine ad_iload_n dX7_lost_62 rfl ?_
            refine ad_iconst dX7_lost_63 ?_
            refine ad_icmp_le 74 dX7_lost_64 (by decide) (by omega) (by omega) (fun h64 => ?_) (fun h64 => ?_)
            · skip
              refine ad_iload_n dX7_lost_74 rfl ?_
              refine ad_if_ne 85 dX7_lost_75 (by decide) (by omega) (fun h75 => ?_) (fun h75 => ?_)
              · skip
                refine ad_iload_n dX7_lost_85 rfl ?_
                refine ad_i2l dX7_lost_86 (by omega) ?_
                refine ad_lstore dX7_lost_87 (by decide) (Nat.le_of_ble_eq_true rfl) rfl (by dsimp only [ad_set]) ?_
                refine ad_aload_n dX7_lost_89 rfl ?_
                refine gf_X7_10 rfl dX7_lost_90 ?_
                refine ad_aload_n dX7_lost_93 rfl ?_
                refine gf_X7_10 rfl dX7_lost_94 ?_
                refine gf_X7_136 rfl (by omega) dX7_lost_97 ?_
                refine ad_iload_n dX7_lost_100 rfl ?_
                refine ad_iald dX7_lost_101 (by show _ < 3; omega) ⟨by decide, by decide⟩ (by omega) (by show _ < ((4 : Nat) : Int); omega) ?_
                rw [hE4]
                refine ad_cv1f rfl cl_X7_259 dX7_lost_102 (c_X4_neededBy (by decide) a1.1 a1.2 (by omega) (by omega)) (by omega) (by show _ < 3; omega) (Nat.le_of_ble_eq_true rfl) ?_
                refine ad_bipush dX7_lost_105 rfl ?_
                refine ad_iand dX7_lost_107 ?_
                rw [show (63 : Int) = ((ad_bits (fun w => decide (w < 6)) : Nat) : Int) from by decide, ad_and_bits]
                refine ad_cs1f rfl cl_X7_254 dX7_lost_108 (c_bitCount (ad_bits_lt _)) (by omega) (Nat.le_of_ble_eq_true rfl) ?_
                rw [ad_ones_bits]
                refine ad_istore dX7_lost_111 (by decide) rfl (by dsimp only [ad_set]) ?_
                refine ad_lconst dX7_lost_113 ?_
                refine ad_lstore dX7_lost_114 (by decide) (Nat.le_of_ble_eq_true rfl) rfl (by dsimp only [ad_set]) ?_
                refine ad_iconst dX7_lost_116 ?_
                refine ad_istore dX7_lost_117 (by decide) rfl (by dsimp only [ad_set]) ?_
                rw [show (if p = 0 then t - 1 else t) = t from if_neg (by omega)] at lp
                have hS : ad_m_lost C h t p = ((t) ^ (ad_pp (fun w => ad_need (ad_cA C) (ad_aE (ad_cA C) h.toNat) w && decide (w < 6)) 10), C) := by
                  unfold ad_m_lost
                  rw [show (if p = 0 then t - 1 else t) = t from if_neg (by omega)]
                  (repeat' split) <;> first | with_reducible rfl | contradiction | (exfalso; omega) | rfl | (exfalso; simp_all; omega) | (simp_all; done)
                exact lp _ 0 1 (by omega) (by omega) (by simp) hS (Nat.le_refl _)
              · show ad_R _ _ _ _ 78 _ _ _
                refine ad_iload_n dX7_lost_78 rfl ?_
                refine ad_iconst dX7_lost_79 ?_
                refine ad_isub dX7_lost_80 ?_
                refine ad_i2l dX7_lost_81 (by omega) ?_
                refine ad_goto 87 dX7_lost_82 (by decide) ?_
                refine ad_lstore dX7_lost_87 (by decide) (Nat.le_of_ble_eq_true rfl) rfl (by dsimp only [ad_set]) ?_
                refine ad_aload_n dX7_lost_89 rfl ?_
                refine gf_X7_10 rfl dX7_lost_90 ?_
                refine ad_aload_n dX7_lost_93 rfl ?_
                refine gf_X7_10 rfl dX7_lost_94 ?_
                refine gf_X7_136 rfl (by omega) dX7_lost_97 ?_
                refine ad_iload_n dX7_lost_100 rfl ?_
                refine ad_iald dX7_lost_101 (by show _ < 3; omega) ⟨by decide, by decide⟩ (by omega) (by show _ < ((4 : Nat) : Int); omega) ?_
                rw [hE4]
                refine ad_cv1f rfl cl_X7_259 dX7_lost_102 (c_X4_neededBy (by decide) a1.1 a1.2 (by omega) (by omega)) (by omega) (by show _ < 3; omega) (Nat.le_of_ble_eq_true rfl) ?_
                refine ad_bipush dX7_lost_105 rfl ?_
                refine ad_iand dX7_lost_107 ?_
                rw [show (63 : Int) = ((ad_bits (fun w => decide (w < 6)) : Nat) : Int) from by decide, ad_and_bits]
                refine ad_cs1f rfl cl_X7_254 dX7_lost_108 (c_bitCount (ad_bits_lt _)) (by omega) (Nat.le_of_ble_eq_true rfl) ?_
                rw [ad_ones_bits]
                refine ad_istore dX7_lost_111 (by decide) rfl (by dsimp only [ad_set]) ?_
                refine ad_lconst dX7_lost_113 ?_
                refine ad_lstore dX7_lost_114 (by decide) (Nat.le_of_ble_eq_true rfl) rfl (by dsimp only [ad_set]) ?_
                refine ad_iconst dX7_lost_116 ?_
                refine ad_istore dX7_lost_117 (by decide) rfl (by dsimp only [ad_set]) ?_
                rw [show (if p = 0 then t - 1 else t) = t - 1 from if_pos (by omega)] at lp
                have hS : ad_m_lost C h t p = ((t - 1) ^ (ad_pp (fun w => ad_need (ad_cA C) (ad_aE (ad_cA C) h.toNat) w && decide (w < 6)) 10), C) := by
                  unfold ad_m_lost
                  rw [show (if p = 0 then t - 1 else t) = t - 1 from if_pos (by omega)]
                  (repeat' split) <;> first | with_reducible rfl | contradiction | (exfalso; omega) | rfl | (exfalso; simp_all; omega) | (simp_all; done)
                exact lp _ 0 1 (by omega) (by omega) (by simp) hS (Nat.le_refl _)
            · show ad_R _ _ _ _ 67 _ _ _
              refine ad_aload_n dX7_lost_67 rfl ?_
              refine ad_bipush dX7_lost_68 rfl ?_
              refine ad_cv1q rfl cl_X7_262 dX7_lost_70 (c_X7_refuseLong hC (by decide) (by omega)) (by omega) (by show _ < 1; omega) (Nat.le_of_ble_eq_true rfl) (fun x70 s70 q70 => ?_)
              obtain ⟨rfl, c70, f70⟩ := q70
              exact ad_retl dX7_lost_73 rfl (by
                have e : ad_m_lost C h t p = ad_nol C 2 := by
                  unfold ad_m_lost
                  (repeat' split) <;> first | with_reducible rfl | contradiction | (exfalso; omega) | rfl | (exfalso; simp_all; omega) | (simp_all; done)
                rw [e]
                exact ⟨rfl, c70, f70⟩)
        · show ad_R _ _ _ _ 51 _ _ _
          refine ad_aload_n dX7_lost_51 rfl ?_
          refine ad_bipush dX7_lost_52 rfl ?_
          refine ad_cv1q rfl cl_X7_262 dX7_lost_54 (c_X7_refuseLong hC (by decide) (by omega)) (by omega) (by show _ < 1; omega) (Nat.le_of_ble_eq_true rfl) (fun x54 s54 q54 => ?_)
          obtain ⟨rfl, c54, f54⟩ := q54
          exact ad_retl dX7_lost_57 rfl (by
            have e : ad_m_lost C h t p = ad_nol C 6 := by
              unfold ad_m_lost
              (repeat' split) <;> first | with_reducible rfl | contradiction | (exfalso; omega) | rfl | (exfalso; simp_all; omega) | (simp_all; done)
            rw [e]
            exact ⟨rfl, c54, f54⟩)
      · show ad_R _ _ _ _ 38 _ _ _
        refine ad_aload_n dX7_lost_38 rfl ?_
        refine ad_bipush dX7_lost_39 rfl ?_
        refine ad_cv1q rfl cl_X7_262 dX7_lost_41 (c_X7_refuseLong hC (by decide) (by omega)) (by omega) (by show _ < 1; omega) (Nat.le_of_ble_eq_true rfl) (fun x41 s41 q41 => ?_)
        obtain ⟨rfl, c41, f41⟩ := q41
        exact ad_retl dX7_lost_44 rfl (by
          have e : ad_m_lost C h t p = ad_nol C 4 := by
            unfold ad_m_lost
            (repeat' split) <;> first | with_reducible rfl | contradiction | (exfalso; omega) | rfl | (exfalso; simp_all; omega) | (simp_all; done)
          rw [e]
          exact ⟨rfl, c41, f41⟩)
    · show ad_R _ _ _ _ 26 _ _ _
      refine ad_aload_n dX7_lost_26 rfl ?_
      refine ad_bipush dX7_lost_27 rfl ?_
      refine ad_cv1q rfl cl_X7_262 dX7_lost_29 (c_X7_refuseLong hC (by decide) (by omega)) (by omega) (by show _ < 1; omega) (Nat.le_of_ble_eq_true rfl) (fun x29 s29 q29 => ?_)
      obtain ⟨rfl, c29, f29⟩ := q29
      exact ad_retl dX7_lost_32 rfl (by
        have e : ad_m_lost C h t p = ad_nol C 3 := by
          unfold ad_m_lost
          (repeat' split) <;> first | with_reducible rfl | contradiction | (exfalso; omega) | rfl | (exfalso; simp_all; omega) | (simp_all; done)
        rw [e]
        exact ⟨rfl, c29, f29⟩)
  · show ad_R _ _ _ _ 7 _ _ _
    refine ad_aload_n dX7_lost_7 rfl ?_
    refine ad_iconst dX7_lost_8 ?_
    refine ad_cv1q rfl cl_X7_262 dX7_lost_9 (c_X7_refuseLong hC (by decide) (by omega)) (by omega) (by show _ < 1; omega) (Nat.le_of_ble_eq_true rfl) (fun x9 s9 q9 => ?_)
    obtain ⟨rfl, c9, f9⟩ := q9
    exact ad_retl dX7_lost_12 rfl (by
      have e : ad_m_lost C h t p = ad_nol C 1 := by
        unfold ad_m_lost
        (repeat' split) <;> first | with_reducible rfl | contradiction | (exfalso; omega) | rfl | (exfalso; simp_all; omega) | (simp_all; done)
      rw [e]
      exact ⟨rfl, c9, f9⟩)
