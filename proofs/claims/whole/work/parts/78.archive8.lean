/-! ===== the reference: archive ===== -/
theorem ad_c8_end {m : ad_Mem} {C : ad_C7} (h : ad_c8 m C) : ad_c8 (ad_st m 8 0 13 0) (ad_sS C []) :=
  ad_c8_S (S := []) h (ad_f8.sj (by decide)) ⟨by rw [ad_st_r1, ad_u1_eq]; rfl, by simp, fun i hi => absurd hi (Nat.not_lt_zero i), fun x hx => by cases hx⟩
theorem ad_pf_S {S : List Int} {n i : Nat} {p : Int} (hi : i < n) : ad_pf S (n - i) p = if ad_fi S p ≠ -1 then ad_fi S p else if (S.length : Int) ≤ ad_pb S p then -1 else ad_pf S (n - (i + 1)) (ad_pb S p) := by
  rw [show n - i = n - (i + 1) + 1 by omega, ad_pf]
theorem c_X8_archive {g : ad_G} {d : Nat} {σ : ad_Mem} {C : ad_C7} (hC : ad_c8 σ C) (h17d : 17 ≤ d) : ad_Q g mX8_archive d [ad_rf g 8 0] σ (fun x m => ad_an8 σ x m (ad_m_archive C)) := by
  have hC0 := hC
  obtain ⟨a1, a2, a3, a4, a5, a6⟩ := hC0
  have hr := a1.1
  have hw := a1.2
  have a4t : ad_tp8 σ (ad_cS C) := a4
  have h96 := a4t.2.1
  have hpr := ad_pf_rng (ad_cS C) ((ad_cS C).length + 1) 0 (by omega) (by omega) (by omega)
  have htail1 : ∀ (m : ad_Mem), ad_f8 [] [15, 16] σ m → m 8 0 16 = -1000 - (ad_pf (ad_cS C) ((ad_cS C).length + 1) 0) → (ad_pf (ad_cS C) ((ad_cS C).length + 1) 0) ≠ -1 → ad_R g mX8_archive d (ad_ZQ mX8_archive (fun x m => ad_an8 σ x m (ad_m_archive C))) 34 [some (ad_rf g 8 0), none, none] [] m := by
    intro m hf hfa hpf
    refine ad_iconst dX8_archive_34 ?_
    refine ad_istore_n dX8_archive_35 (by decide) rfl (by dsimp only [ad_set]) ?_
    refine ad_aload_n dX8_archive_36 rfl ?_
    refine gf_X8_160 rfl dX8_archive_37 ?_
    rw [hfa]
    refine ad_if_ne 123 dX8_archive_40 (by decide) (by omega) (fun h40 => ?_) (fun h40 => ?_)
    · skip
      refine ad_aload_n dX8_archive_123 rfl ?_
      refine ad_iconst dX8_archive_124 ?_
      refine pf_X8_154 rfl dX8_archive_125 ?_
      refine ad_aload_n dX8_archive_128 rfl ?_
      refine gf_X8_160 rfl dX8_archive_129 ?_
      rw [ad_st_r1, ad_u1_ne _ _ (by decide), hfa]
      refine ad_if_eq 142 dX8_archive_132 (by decide) (by omega) (fun h132 => ?_) (fun h132 => ?_)
      · exfalso; omega
      · show ad_R _ _ _ _ 135 _ _ _
        refine ad_aload_n dX8_archive_135 rfl ?_
        refine gf_X8_160 rfl dX8_archive_136 ?_
        rw [ad_st_r1, ad_u1_ne _ _ (by decide), hfa]
        refine ad_goto 143 dX8_archive_139 (by decide) ?_
        exact ad_reti dX8_archive_143 rfl (by
          have e : ad_m_archive C = (-1000 - (ad_pf (ad_cS C) ((ad_cS C).length + 1) 0), ad_sS C []) := by
            unfold ad_m_archive
            rw [if_pos (by omega)]
          rw [e]
          exact ⟨rfl, ad_c8_end (ad_c8_fr hC (hf.mono (by decide) (by decide))), (hf.mono (by decide) (by decide)).trans (ad_f8.sj (by decide))⟩)
    · exfalso; omega
  have hneg : ∀ (z p : Int) (o : Option Value) (m : ad_Mem), ad_f8 [21, 24, 28, 29, 30, 31, 32, 33] [15, 16, 18, 19] σ m → (∀ c, c < 520 → m 24 0 c = σ 21 0 c) → (ad_pf (ad_cS C) ((ad_cS C).length + 1) 0) = -1 → (0 ≤ m 8 0 15 ∧ m 8 0 15 ≤ 98) → m 8 0 16 = -2000 - p → (0 ≤ p ∧ p ≤ 98) → (ad_ar (ad_cS C) (ad_cS C).length 0 (ad_cA C) 0).1 = -2000 - p → ad_R g mX8_archive d (ad_ZQ mX8_archive (fun x m => ad_an8 σ x m (ad_m_archive C))) 59 [some (ad_rf g 8 0), some (ad_iv z), o] [] m := by
    intro z p o m hf hbf hpf hat hfa hp hrel
    have hl : m 8 0 13 = ((ad_cS C).length : Int) := (hf.2 0 13 (by decide)).trans a4t.1
    refine ad_aload_n dX8_archive_59 rfl ?_
    refine gf_X8_157 rfl dX8_archive_60 ?_
    refine ad_aload_n dX8_archive_63 rfl ?_
    refine gf_X8_154 rfl dX8_archive_64 ?_
    rw [hl]
    refine ad_icmp_ge 105 dX8_archive_67 (by decide) (by omega) (by omega) (fun h67 => ?_) (fun h67 => ?_)
    · skip
      refine ad_aload_n dX8_archive_105 rfl ?_
      refine gf_X8_160 rfl dX8_archive_106 ?_
      rw [hfa]
      refine ad_if_eq 123 dX8_archive_109 (by decide) (by omega) (fun h109 => ?_) (fun h109 => ?_)
      · exfalso; omega
      · show ad_R _ _ _ _ 112 _ _ _
        refine ad_aload_n dX8_archive_112 rfl ?_
        refine gf_X8_19 rfl dX8_archive_113 ?_
        refine ad_aload_n dX8_archive_116 rfl ?_
        refine gf_X8_9 rfl dX8_archive_117 ?_
        refine ad_cs2v rfl cl_X8_176 dX8_archive_120 (c_X8_copies (k1 := 24) (k2 := 21) (by decide) (by decide) (by decide)) (by omega) (Nat.le_of_ble_eq_true rfl) (fun s120 q120 => ?_)
        obtain ⟨e120, f120⟩ := q120
        refine ad_aload_n dX8_archive_123 rfl ?_
        refine ad_iconst dX8_archive_124 ?_
        refine pf_X8_154 rfl dX8_archive_125 ?_
        refine ad_aload_n dX8_archive_128 rfl ?_
        refine gf_X8_160 rfl dX8_archive_129 ?_
        rw [ad_st_r1, ad_u1_ne _ _ (by decide), f120.2 0 16 (by decide), hfa]
        refine ad_if_eq 142 dX8_archive_132 (by decide) (by omega) (fun h132 => ?_) (fun h132 => ?_)
        · exfalso; omega
        · show ad_R _ _ _ _ 135 _ _ _
          refine ad_aload_n dX8_archive_135 rfl ?_
          refine gf_X8_160 rfl dX8_archive_136 ?_
          rw [ad_st_r1, ad_u1_ne _ _ (by decide), f120.2 0 16 (by decide), hfa]
          refine ad_goto 143 dX8_archive_139 (by decide) ?_
          exact ad_reti dX8_archive_143 rfl (by
            have e : ad_m_archive C = (-2000 - p, ad_sS C []) := by
              unfold ad_m_archive
              rw [if_neg (by omega), if_neg (by omega), hrel]
            rw [e]
            have hfz : ad_f8 [21, 24, 28, 29, 30, 31, 32, 33] [15, 16, 18, 19] σ s120 := hf.trans (f120.mono (by decide) (by decide))
            exact ⟨rfl, ad_c8_end (ad_c8_now hC (hfz.mono (by decide) (by decide)) (ad_ra_congr (fun i hi => by rw [e120, if_pos hi, hbf i hi]) hr) hw), (hfz.mono (by decide) (by decide)).trans (ad_f8.sj (by decide))⟩)
    · show ad_R _ _ _ _ 70 _ _ _
      refine ad_aload_n dX8_archive_70 rfl ?_
      refine gf_X8_160 rfl dX8_archive_71 ?_
      rw [hfa]
      refine ad_if_ne 105 dX8_archive_74 (by decide) (by omega) (fun h74 => ?_) (fun h74 => ?_)
      · skip
        refine ad_aload_n dX8_archive_105 rfl ?_
        refine gf_X8_160 rfl dX8_archive_106 ?_
        rw [hfa]
        refine ad_if_eq 123 dX8_archive_109 (by decide) (by omega) (fun h109 => ?_) (fun h109 => ?_)
        · exfalso; omega
        · show ad_R _ _ _ _ 112 _ _ _
          refine ad_aload_n dX8_archive_112 rfl ?_
          refine gf_X8_19 rfl dX8_archive_113 ?_
          refine ad_aload_n dX8_archive_116 rfl ?_
          refine gf_X8_9 rfl dX8_archive_117 ?_
          refine ad_cs2v rfl cl_X8_176 dX8_archive_120 (c_X8_copies (k1 := 24) (k2 := 21) (by decide) (by decide) (by decide)) (by omega) (Nat.le_of_ble_eq_true rfl) (fun s120 q120 => ?_)
          obtain ⟨e120, f120⟩ := q120
          refine ad_aload_n dX8_archive_123 rfl ?_
          refine ad_iconst dX8_archive_124 ?_
          refine pf_X8_154 rfl dX8_archive_125 ?_
          refine ad_aload_n dX8_archive_128 rfl ?_
          refine gf_X8_160 rfl dX8_archive_129 ?_
          rw [ad_st_r1, ad_u1_ne _ _ (by decide), f120.2 0 16 (by decide), hfa]
          refine ad_if_eq 142 dX8_archive_132 (by decide) (by omega) (fun h132 => ?_) (fun h132 => ?_)
          · exfalso; omega
          · show ad_R _ _ _ _ 135 _ _ _
            refine ad_aload_n dX8_archive_135 rfl ?_
            refine gf_X8_160 rfl dX8_archive_136 ?_
            rw [ad_st_r1, ad_u1_ne _ _ (by decide), f120.2 0 16 (by decide), hfa]
            refine ad_goto 143 dX8_archive_139 (by decide) ?_
            exact ad_reti dX8_archive_143 rfl (by
              have e : ad_m_archive C = (-2000 - p, ad_sS C []) := by
                unfold ad_m_archive
                rw [if_neg (by omega), if_neg (by omega), hrel]
              rw [e]
              have hfz : ad_f8 [21, 24, 28, 29, 30, 31, 32, 33] [15, 16, 18, 19] σ s120 := hf.trans (f120.mono (by decide) (by decide))
              exact ⟨rfl, ad_c8_end (ad_c8_now hC (hfz.mono (by decide) (by decide)) (ad_ra_congr (fun i hi => by rw [e120, if_pos hi, hbf i hi]) hr) hw), (hfz.mono (by decide) (by decide)).trans (ad_f8.sj (by decide))⟩)
      · exfalso; omega
  have hloop2 : ∀ (n : Nat) (i : Nat) (z p : Int) (T : ad_Ar) (o : Option Value) (m : ad_Mem), ad_f8 [21, 24, 28, 29, 30, 31, 32, 33] [15, 16, 18, 19] σ m → (∀ c, c < 520 → m 24 0 c = σ 21 0 c) → (m 8 0 15 = p ∧ m 8 0 16 = 0) → ad_ra (m 21 0) T → ad_wA T → (ad_pf (ad_cS C) ((ad_cS C).length + 1) 0) = -1 → ad_ar (ad_cS C) (ad_cS C).length 0 (ad_cA C) 0 = ad_ar (ad_cS C) ((ad_cS C).length - i) p T z → (p < (ad_cS C).length → ∃ n8, (ad_cS C).length + 1 ≤ n8 + i ∧ ad_pf (ad_cS C) n8 p = -1) → (0 ≤ p ∧ p ≤ 98 ∧ (i : Int) ≤ p) → (0 ≤ z ∧ z ≤ i) → i ≤ (ad_cS C).length + 1 → (ad_cS C).length + 1 - i ≤ n → ad_R g mX8_archive d (ad_ZQ mX8_archive (fun x m => ad_an8 σ x m (ad_m_archive C))) 59 [some (ad_rf g 8 0), some (ad_iv z), o] [] m := by
    intro n
    induction n with
    | zero =>
      intro i z p T o m hf hbf hu hrT hwT hpf hrel hpl hp hz hi hn
      have hl : m 8 0 13 = ((ad_cS C).length : Int) := (hf.2 0 13 (by decide)).trans a4t.1
      refine ad_aload_n dX8_archive_59 rfl ?_
      refine gf_X8_157 rfl dX8_archive_60 ?_
      rw [hu.1]
      refine ad_aload_n dX8_archive_63 rfl ?_
      refine gf_X8_154 rfl dX8_archive_64 ?_
      rw [hl]
      refine ad_icmp_ge 105 dX8_archive_67 (by decide) (by omega) (by omega) (fun h67 => ?_) (fun h67 => ?_)
      · skip
        refine ad_aload_n dX8_archive_105 rfl ?_
        refine gf_X8_160 rfl dX8_archive_106 ?_
        rw [hu.2]
        refine ad_if_eq 123 dX8_archive_109 (by decide) (by omega) (fun h109 => ?_) (fun h109 => ?_)
        · skip
          refine ad_aload_n dX8_archive_123 rfl ?_
          refine ad_iconst dX8_archive_124 ?_
          refine pf_X8_154 rfl dX8_archive_125 ?_
          refine ad_aload_n dX8_archive_128 rfl ?_
          refine gf_X8_160 rfl dX8_archive_129 ?_
          rw [ad_st_r1, ad_u1_ne _ _ (by decide), hu.2]
          refine ad_if_eq 142 dX8_archive_132 (by decide) (by omega) (fun h132 => ?_) (fun h132 => ?_)
          · skip
            refine ad_iload_n dX8_archive_142 rfl ?_
            exact ad_reti dX8_archive_143 rfl (by
              have hend : ad_ar (ad_cS C) (ad_cS C).length 0 (ad_cA C) 0 = (z, T) := by
                rw [hrel]
                generalize (ad_cS C).length - i = n9
                cases n9 with
                | zero => rfl
                | succ n9 => rw [ad_ar, if_neg (by omega)]
              have e : ad_m_archive C = (z, ad_sS (ad_sA C T) []) := by
                unfold ad_m_archive
                rw [if_neg (by omega), hend, if_pos hz.1]
              rw [e]
              exact ⟨rfl, ad_c8_end (ad_c8_now hC (hf.mono (by decide) (by decide)) hrT hwT), (hf.mono (by decide) (by decide)).trans (ad_f8.sj (by decide))⟩)
          · exfalso; omega
        · exfalso; omega
      · exfalso; omega
    | succ n ih =>
      intro i z p T o m hf hbf hu hrT hwT hpf hrel hpl hp hz hi hn
      have hl : m 8 0 13 = ((ad_cS C).length : Int) := (hf.2 0 13 (by decide)).trans a4t.1
      refine ad_aload_n dX8_archive_59 rfl ?_
      refine gf_X8_157 rfl dX8_archive_60 ?_
      rw [hu.1]
      refine ad_aload_n dX8_archive_63 rfl ?_
      refine gf_X8_154 rfl dX8_archive_64 ?_
      rw [hl]
      refine ad_icmp_ge 105 dX8_archive_67 (by decide) (by omega) (by omega) (fun h67 => ?_) (fun h67 => ?_)
      · skip
        refine ad_aload_n dX8_archive_105 rfl ?_
        refine gf_X8_160 rfl dX8_archive_106 ?_
        rw [hu.2]
        refine ad_if_eq 123 dX8_archive_109 (by decide) (by omega) (fun h109 => ?_) (fun h109 => ?_)
        · skip
          refine ad_aload_n dX8_archive_123 rfl ?_
          refine ad_iconst dX8_archive_124 ?_
          refine pf_X8_154 rfl dX8_archive_125 ?_
          refine ad_aload_n dX8_archive_128 rfl ?_
          refine gf_X8_160 rfl dX8_archive_129 ?_
          rw [ad_st_r1, ad_u1_ne _ _ (by decide), hu.2]
          refine ad_if_eq 142 dX8_archive_132 (by decide) (by omega) (fun h132 => ?_) (fun h132 => ?_)
          · skip
            refine ad_iload_n dX8_archive_142 rfl ?_
            exact ad_reti dX8_archive_143 rfl (by
              have hend : ad_ar (ad_cS C) (ad_cS C).length 0 (ad_cA C) 0 = (z, T) := by
                rw [hrel]
                generalize (ad_cS C).length - i = n9
                cases n9 with
                | zero => rfl
                | succ n9 => rw [ad_ar, if_neg (by omega)]
              have e : ad_m_archive C = (z, ad_sS (ad_sA C T) []) := by
                unfold ad_m_archive
                rw [if_neg (by omega), hend, if_pos hz.1]
              rw [e]
              exact ⟨rfl, ad_c8_end (ad_c8_now hC (hf.mono (by decide) (by decide)) hrT hwT), (hf.mono (by decide) (by decide)).trans (ad_f8.sj (by decide))⟩)
          · exfalso; omega
        · exfalso; omega
      · show ad_R _ _ _ _ 70 _ _ _
        refine ad_aload_n dX8_archive_70 rfl ?_
        refine gf_X8_160 rfl dX8_archive_71 ?_
        rw [hu.2]
        refine ad_if_ne 105 dX8_archive_74 (by decide) (by omega) (fun h74 => ?_) (fun h74 => ?_)
        · exfalso; omega
        · show ad_R _ _ _ _ 77 _ _ _
          refine ad_aload_n dX8_archive_77 rfl ?_
          refine gf_X8_157 rfl dX8_archive_78 ?_
          rw [hu.1]
          obtain ⟨n8, hn8, hpf8⟩ := hpl (by omega)
          obtain ⟨n7, rfl⟩ : ∃ n7, n8 = n7 + 1 := ⟨n8 - 1, by omega⟩
          have hfi : ad_fi (ad_cS C) p = -1 := by
            rw [ad_pf] at hpf8
            by_cases hq : ad_fi (ad_cS C) p ≠ -1
            · rw [if_pos hq] at hpf8; exact hpf8
            · omega
          have hpb := ad_pb_rng (ad_cS C) hp.1
          have hpn : ad_pb (ad_cS C) p < (ad_cS C).length → ad_pf (ad_cS C) n7 (ad_pb (ad_cS C) p) = -1 := fun hq => by
            rw [ad_pf, if_neg (by omega), if_neg (by omega)] at hpf8; exact hpf8
          have hst : ad_ar (ad_cS C) ((ad_cS C).length - i) p T z = if (ad_t_run T (ad_cS C) p).isSome = true then ad_ar (ad_cS C) ((ad_cS C).length - (i + 1)) (ad_pb (ad_cS C) p) ((ad_t_run T (ad_cS C) p).getD T) (z + 1) else (-2000 - p, T) := by
            rw [show (ad_cS C).length - i = (ad_cS C).length - (i + 1) + 1 by omega, ad_ar, if_pos (by omega)]
          refine ad_istore_n dX8_archive_81 (by decide) rfl (by dsimp only [ad_set]) ?_
          refine ad_aload_n dX8_archive_82 rfl ?_
          refine ad_iconst dX8_archive_83 ?_
          refine ad_cv1q rfl cl_X8_172 dX8_archive_84 (c_X8_st1 (a4t.fr hf (by decide) (by decide)) hrT hwT (p := p) (by omega) hu hfi (by omega)) (by omega) (by show _ < 1; omega) (Nat.le_of_ble_eq_true rfl) (fun x84 s84 q84 => ?_)
          obtain ⟨rfl, f84, u84, r84, w84⟩ := q84
          have hf2 : ad_f8 [21, 24, 28, 29, 30, 31, 32, 33] [15, 16, 18, 19] σ s84 := hf.trans (f84.mono (by decide) (by decide))
          have hb2 : ∀ c, c < 520 → s84 24 0 c = σ 21 0 c := fun c hc => (congrFun (f84.1 24 0 (by decide) (by decide)) c).trans (hbf c hc)
          refine ad_ifp_ne 99 dX8_archive_87 (by decide) (fun h87 => ?_) (fun h87 => ?_)
          · skip
            refine ad_iinc dX8_archive_99 rfl (by decide) rfl (by dsimp only [ad_set]) ?_
            refine ad_goto 59 dX8_archive_102 (by decide) ?_
            exact ih (i + 1) _ _ _ _ _ hf2 hb2 u84 r84 w84 hpf (by rw [hrel, hst, if_pos h87]) (fun hq => ⟨n7, by omega, hpn hq⟩) (by omega) (by omega) (by omega) (by omega)
          · show ad_R _ _ _ _ 90 _ _ _
            refine ad_aload_n dX8_archive_90 rfl ?_
            refine ad_sipush dX8_archive_91 rfl ?_
            refine ad_iload_n dX8_archive_94 rfl ?_
            refine ad_isub dX8_archive_95 ?_
            refine pf_X8_160 rfl dX8_archive_96 ?_
            refine ad_iinc dX8_archive_99 rfl (by decide) rfl (by dsimp only [ad_set]) ?_
            refine ad_goto 59 dX8_archive_102 (by decide) ?_
            exact hneg _ p _ _ (hf2.trans (ad_f8.sj (by decide))) hb2 hpf (by rw [ad_st_r1, ad_u1_ne _ _ (by decide), u84.1]; omega) (by rw [ad_st_r1, ad_u1_eq]) (by omega) (by rw [hrel, hst, if_neg h87])
  have hgo : ∀ (m : ad_Mem), ad_f8 [] [15, 16] σ m → m 8 0 16 = 0 → (ad_pf (ad_cS C) ((ad_cS C).length + 1) 0) = -1 → ad_R g mX8_archive d (ad_ZQ mX8_archive (fun x m => ad_an8 σ x m (ad_m_archive C))) 34 [some (ad_rf g 8 0), none, none] [] m := by
    intro m hf hfa hpf
    refine ad_iconst dX8_archive_34 ?_
    refine ad_istore_n dX8_archive_35 (by decide) rfl (by dsimp only [ad_set]) ?_
    refine ad_aload_n dX8_archive_36 rfl ?_
    refine gf_X8_160 rfl dX8_archive_37 ?_
    rw [hfa]
    refine ad_if_ne 123 dX8_archive_40 (by decide) (by omega) (fun h40 => ?_) (fun h40 => ?_)
    · exfalso; omega
    · show ad_R _ _ _ _ 43 _ _ _
      refine ad_aload_n dX8_archive_43 rfl ?_
      refine gf_X8_9 rfl dX8_archive_44 ?_
      refine ad_aload_n dX8_archive_47 rfl ?_
      refine gf_X8_19 rfl dX8_archive_48 ?_
      refine ad_cs2v rfl cl_X8_176 dX8_archive_51 (c_X8_copies (k1 := 21) (k2 := 24) (by decide) (by decide) (by decide)) (by omega) (Nat.le_of_ble_eq_true rfl) (fun s51 q51 => ?_)
      obtain ⟨e51, f51⟩ := q51
      refine ad_aload_n dX8_archive_54 rfl ?_
      refine ad_iconst dX8_archive_55 ?_
      refine pf_X8_157 rfl dX8_archive_56 ?_
      have hf2 : ad_f8 [21, 24, 28, 29, 30, 31, 32, 33] [15, 16, 18, 19] σ (ad_st s51 8 0 15 0) := (hf.mono (by decide) (by decide)).trans ((f51.mono (by decide) (by decide)).trans (ad_f8.sj (by decide)))
      exact hloop2 _ 0 0 0 (ad_cA C) _ _ hf2 (fun c hc => by rw [ad_st_ne _ _ (by decide), e51, if_pos hc]; exact congrFun (hf.1 21 0 (by decide) (by decide)) c) ⟨by rw [ad_st_r1, ad_u1_eq], by rw [ad_st_r1, ad_u1_ne _ _ (by decide), f51.2 0 16 (by decide), hfa]⟩ (ad_ra_congr (fun i _ => by rw [ad_st_ne _ _ (by decide)]; exact (congrFun (f51.1 21 0 (by decide) (by decide)) i).trans (congrFun (hf.1 21 0 (by decide) (by decide)) i)) hr) hw hpf rfl (fun _ => ⟨_, Nat.le_refl _, hpf⟩) (by omega) (by omega) (by omega) (Nat.le_refl _)
  have hloop1 : ∀ (n : Nat) (i : Nat) (p : Int) (m : ad_Mem), ad_f8 [] [15, 16] σ m → (m 8 0 15 = p ∧ m 8 0 16 = 0) → (ad_pf (ad_cS C) ((ad_cS C).length + 1) 0) = ad_pf (ad_cS C) ((ad_cS C).length + 1 - i) p → (0 ≤ p ∧ (i : Int) ≤ p ∧ (p = 0 ∨ p < (ad_cS C).length)) → (ad_cS C).length + 1 - i ≤ n → ad_R g mX8_archive d (ad_ZQ mX8_archive (fun x m => ad_an8 σ x m (ad_m_archive C))) 10 [some (ad_rf g 8 0), none, none] [] m := by
    intro n
    induction n with
    | zero =>
      intro i p m hf hu hrel hp hn
      exfalso; omega
    | succ n ih =>
      intro i p m hf hu hrel hp hn
      rw [ad_pf_S (by omega)] at hrel
      refine ad_aload_n dX8_archive_10 rfl ?_
      refine ad_iconst dX8_archive_11 ?_
      refine ad_cv1q rfl cl_X8_172 dX8_archive_12 (c_X8_st0 (a4t.fr hf (by decide) (by decide)) (ad_ra_congr (fun i _ => congrFun (hf.1 21 0 (by decide) (by decide)) i) hr) (p := p) (by omega) hu (by omega)) (by omega) (by show _ < 1; omega) (Nat.le_of_ble_eq_true rfl) (fun x12 s12 q12 => ?_)
      obtain ⟨b, rfl, f12, fe12⟩ := q12
      have hf2 := hf.trans f12
      have hl12 : s12 8 0 13 = ((ad_cS C).length : Int) := (hf2.2 0 13 (by decide)).trans a4t.1
      have hfr := ad_fi_rng (ad_cS C) hp.1
      have hpb := ad_pb_rng (ad_cS C) hp.1
      have hF : (ad_fi (ad_cS C) p = -1 ∧ s12 8 0 16 = 0 ∧ s12 8 0 15 = ad_pb (ad_cS C) p) ∨ (ad_fi (ad_cS C) p ≠ -1 ∧ s12 8 0 16 = -1000 - ad_fi (ad_cS C) p) := by
        by_cases hfi : ad_fi (ad_cS C) p = -1
        · have := fe12.2 hfi
          exact Or.inl ⟨hfi, congrArg Prod.snd this, congrArg Prod.fst this⟩
        · exact Or.inr ⟨hfi, fe12.1 hfi⟩
      refine ad_pop dX8_archive_15 rfl ?_
      refine ad_aload_n dX8_archive_16 rfl ?_
      refine gf_X8_160 rfl dX8_archive_17 ?_
      refine ad_if_ne 34 dX8_archive_20 (by decide) (by omega) (fun h20 => ?_) (fun h20 => ?_)
      · skip
        rw [if_pos (by omega)] at hrel
        exact htail1 _ hf2 (by rw [hrel]; omega) (by omega)
      · show ad_R _ _ _ _ 23 _ _ _
        have hfi : ad_fi (ad_cS C) p = -1 ∧ s12 8 0 16 = 0 ∧ s12 8 0 15 = ad_pb (ad_cS C) p := by omega
        rw [if_neg (by omega)] at hrel
        refine ad_aload_n dX8_archive_23 rfl ?_
        refine gf_X8_157 rfl dX8_archive_24 ?_
        refine ad_aload_n dX8_archive_27 rfl ?_
        refine gf_X8_154 rfl dX8_archive_28 ?_
        rw [hl12]
        refine ad_icmp_lt 10 dX8_archive_31 (by decide) (by omega) (by omega) (fun h31 => ?_) (fun h31 => ?_)
        · skip
          rw [if_neg (by omega)] at hrel
          exact ih (i + 1) _ _ hf2 ⟨hfi.2.2, hfi.2.1⟩ hrel (by omega) (by omega)
        · show ad_R _ _ _ _ 34 _ _ _
          rw [if_pos (by omega)] at hrel
          exact hgo _ hf2 hfi.2.1 hrel
  refine ad_M1 (k := 2) rfl (by simp [Value.category]) rfl (Nat.le_of_ble_eq_true rfl) ?_
  simp only [List.map_cons, List.map_nil, List.replicate, List.cons_append, List.nil_append]
  refine ad_aload_n dX8_archive_0 rfl ?_
  refine ad_iconst dX8_archive_1 ?_
  refine pf_X8_157 rfl dX8_archive_2 ?_
  refine ad_aload_n dX8_archive_5 rfl ?_
  refine ad_iconst dX8_archive_6 ?_
  refine pf_X8_160 rfl dX8_archive_7 ?_
  exact hloop1 _ 0 0 _ ((ad_f8.sj (by decide)).trans (ad_f8.sj (by decide))) ⟨by rw [ad_st_r1, ad_u1_ne _ _ (by decide), ad_st_r1, ad_u1_eq], by rw [ad_st_r1, ad_u1_eq]⟩ rfl (by omega) (Nat.le_refl _)
