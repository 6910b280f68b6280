/-! ===== archive of the class ===== -/
/-- the class's state while the trial is worked on: the trial's store, the spelling, the plan may change -/
theorem ad_c7_trial {σ m : ad_Mem} {C : ad_C7} {T : ad_Ar} (h : ad_c7 σ C) (hf : ad_fr (ad_Tq 2) σ m) (hr : ad_rC m 2 T) (hn : ad_nw m 34) (hd : ad_dr m 30) : ad_c7 m C := by
  obtain ⟨a1, a2, a3, a4, a5, a6, a7, a8, a9⟩ := h
  have e : ∀ k i, ¬ ad_Tq 2 k i → m k i = σ k i := hf
  have e0 : ∀ k i, ad_Ts 0 k i → m k i = σ k i := fun k i hk => e k i (fun z => by unfold ad_Tq ad_TP ad_Ts at z; unfold ad_Ts at hk; omega)
  have e1 : ∀ k i, ad_Ts 1 k i → m k i = σ k i := fun k i hk => e k i (fun z => by unfold ad_Tq ad_TP ad_Ts at z; unfold ad_Ts at hk; omega)
  have en : ∀ k i, (k = 2 ∨ k = 12) → (i = 33 ∨ i = 35) → m k i = σ k i := fun k i hk hi => e k i (fun z => by unfold ad_Tq ad_TP ad_Ts at z; omega)
  have ed : ∀ k, (k = 0 ∨ k = 10 ∨ k = 11) → m k 31 = σ k 31 := fun k hk => e k 31 (fun z => by unfold ad_Tq ad_TP ad_Ts at z; omega)
  refine ⟨⟨ad_rC_congr a1.2 e0 a1.1, a1.2⟩, by rw [e 7 0 (fun z => by unfold ad_Tq ad_TP ad_Ts at z; omega)]; exact a2, fun q => ⟨ad_rC_congr (a3 q).2 e1 (a3 q).1, (a3 q).2⟩, ⟨ad_rK_congr e1 a4.1, hr.K⟩, ⟨ad_nw_congr (en 2 33 (by simp) (by simp)) (en 12 33 (by simp) (by simp)) a5.1, hn, ad_nw_congr (en 2 35 (by simp) (by simp)) (en 12 35 (by simp) (by simp)) a5.2.2⟩, ⟨hd, ad_dr_congr (ed _ (by simp)) (ed _ (by simp)) a6.2⟩, ⟨?_, a7.2⟩, ⟨?_, a8.2⟩, fun i hi => by rw [e 20 0 (fun z => by unfold ad_Tq ad_TP ad_Ts at z; omega)]; exact a9 i hi⟩
  · rw [ad_nl_congr (en 2 33 (by simp) (by simp)) (en 12 33 (by simp) (by simp))]; exact a7.1
  · rw [ad_nl_congr (en 2 35 (by simp) (by simp)) (en 12 35 (by simp) (by simp))]; exact a8.1
theorem ad_Tq_f7 {σ m : ad_Mem} (h : ad_fr (ad_Tq 2) σ m) : ad_fr ad_f7 σ m := h.mono (fun k i z => by unfold ad_Tq ad_TP ad_Ts at z; unfold ad_f7; omega)
theorem ad_Ts_Tq {s : Nat} {σ m : ad_Mem} (h : ad_fr (ad_Ts s) σ m) : ad_fr (ad_Tq s) σ m := h.mono (fun k i z => Or.inl z)

theorem ad_pf_rng (S : List Int) : ∀ (n : Nat) (p : Int), 0 ≤ p → p ≤ 98 → S.length ≤ 96 → -1 ≤ ad_pf S n p ∧ ad_pf S n p ≤ 160
  | 0, p, _, _, _ => by simp only [ad_pf]; omega
  | n + 1, p, h0, h1, h2 => by
    have hf := ad_fi_rng S h0
    have hb := ad_pb_rng S h0
    have ih := ad_pf_rng S n (ad_pb S p) (by omega)
    rw [ad_pf]
    split
    · omega
    · split
      · omega
      · exact ih (by omega) h2
theorem c_X7_archive {g : ad_G} {d : Nat} {σ : ad_Mem} {C : ad_C7} (hC : ad_c7 σ C) (h7d : 7 ≤ d) : ad_Q g mX7_archive d [ad_rf g 7 0] σ (fun x m => ad_an7 σ x m (ad_m_archive C)) := by
  obtain ⟨z1, z2, -, -⟩ := ad_c7_sz hC
  have hfr0 := ad_pf_rng (ad_cS C) ((ad_cS C).length + 1) 0 (by omega) (by omega) (by omega)
  have htail : ∀ (f z p : Int) (T : ad_Ar) (m : ad_Mem), ad_c7 m C → ad_fr ad_f7 σ m → ad_rC m 2 T → ad_wA T → ad_pf (ad_cS C) ((ad_cS C).length + 1) 0 = -1 → ad_ar (ad_cS C) (ad_cS C).length 0 (ad_cA C) 0 = (z, T) → (-3000 ≤ z ∧ z ≤ 100) → ad_R g mX7_archive d (ad_ZQ mX7_archive (fun x m => ad_an7 σ x m (ad_m_archive C))) 103 [some (ad_rf g 7 0), some (ad_iv f), some (ad_iv z), some (ad_iv p)] [] m := by
    intro f z p T m hm hf hr hwT hpf hrel hz
    refine ad_iload_n dX7_archive_103 rfl ?_
    refine ad_if_lt 118 dX7_archive_104 (by decide) (by omega) (fun h104 => ?_) (fun h104 => ?_)
    · skip
      refine ad_aload_n dX7_archive_118 rfl ?_
      refine gf_X7_39 rfl dX7_archive_119 ?_
      refine gf_X7_71 rfl dX7_archive_122 ?_
      refine ad_cv0w rfl cl_X7_106 dX7_archive_125 (c_X2_empty (by omega)) (by omega) (by show _ < 36; omega) (Nat.le_of_ble_eq_true rfl) ?_
      refine ad_iload_n dX7_archive_128 rfl ?_
      exact ad_reti dX7_archive_129 rfl (by
        have e : ad_m_archive C = (z, ad_sS C []) := by
          unfold ad_m_archive
          rw [if_neg (by omega), hrel, if_neg (by omega)]
        rw [e]
        exact ⟨rfl, (ad_c7_signs (S := []) hm (fun k i z => by unfold ad_Tn at z; funext c; unfold ad_st; rw [if_neg (fun q => z ⟨Or.inl q.1, q.2.1⟩)]) (by
            have hw := hm.2.2.2.2.1.1
            refine ⟨by unfold ad_st; rw [if_pos ⟨rfl, rfl, rfl⟩]; exact Int.le_refl _, by unfold ad_st; rw [if_pos ⟨rfl, rfl, rfl⟩]; omega, fun k => ?_⟩
            have e : ad_st m 2 33 1 0 12 33 k = m 12 33 k := by unfold ad_st; rw [if_neg (by omega)]
            rw [e]; exact hw.2.2 k) (by unfold ad_nl; rw [show ad_st m 2 33 1 0 2 33 1 = 0 by unfold ad_st; rw [if_pos ⟨rfl, rfl, rfl⟩]]; rfl) (by simp)), ad_fr.trans hf (ad_f7_st (by decide))⟩)
    · show ad_R _ _ _ _ 107 _ _ _
      have h104x : 0 ≤ z := by omega
      refine ad_aload_n dX7_archive_107 rfl ?_
      refine gf_X7_10 rfl dX7_archive_108 ?_
      refine ad_aload_n dX7_archive_111 rfl ?_
      refine gf_X7_19 rfl dX7_archive_112 ?_
      refine ad_cv1v rfl cl_X7_89 dX7_archive_115 (c_X4_copyFrom (s := 0) (s2 := 2) (by decide) (by decide) (by decide) hr hwT hm.1.1.K (by omega)) (by omega) (by show _ < 3; omega) (Nat.le_of_ble_eq_true rfl) (fun s115 q115 => ?_)
      obtain ⟨v1, v2⟩ := q115
      have hm3 := ad_c7_now hm v2 v1 hwT
      have hf3 : ad_fr ad_f7 σ s115 := ad_fr.trans hf (ad_Ts_fr7 v2)
      refine ad_aload_n dX7_archive_118 rfl ?_
      refine gf_X7_39 rfl dX7_archive_119 ?_
      refine gf_X7_71 rfl dX7_archive_122 ?_
      refine ad_cv0w rfl cl_X7_106 dX7_archive_125 (c_X2_empty (by omega)) (by omega) (by show _ < 36; omega) (Nat.le_of_ble_eq_true rfl) ?_
      refine ad_iload_n dX7_archive_128 rfl ?_
      exact ad_reti dX7_archive_129 rfl (by
        have e : ad_m_archive C = (z, ad_sS (ad_sA C T) []) := by
          unfold ad_m_archive
          rw [if_neg (by omega), hrel, if_pos h104x]
        rw [e]
        exact ⟨rfl, (ad_c7_signs (S := []) hm3 (fun k i z => by unfold ad_Tn at z; funext c; unfold ad_st; rw [if_neg (fun q => z ⟨Or.inl q.1, q.2.1⟩)]) (by
            have hw := hm3.2.2.2.2.1.1
            refine ⟨by unfold ad_st; rw [if_pos ⟨rfl, rfl, rfl⟩]; exact Int.le_refl _, by unfold ad_st; rw [if_pos ⟨rfl, rfl, rfl⟩]; omega, fun k => ?_⟩
            have e : ad_st s115 2 33 1 0 12 33 k = s115 12 33 k := by unfold ad_st; rw [if_neg (by omega)]
            rw [e]; exact hw.2.2 k) (by unfold ad_nl; rw [show ad_st s115 2 33 1 0 2 33 1 = 0 by unfold ad_st; rw [if_pos ⟨rfl, rfl, rfl⟩]]; rfl) (by simp)), ad_fr.trans hf3 (ad_f7_st (by decide))⟩)
  have hfault : ∀ (m : ad_Mem), ad_c7 m C → ad_fr ad_f7 σ m → ad_pf (ad_cS C) ((ad_cS C).length + 1) 0 ≠ -1 → ad_R g mX7_archive d (ad_ZQ mX7_archive (fun x m => ad_an7 σ x m (ad_m_archive C))) 36 [some (ad_rf g 7 0), some (ad_iv (ad_pf (ad_cS C) ((ad_cS C).length + 1) 0)), some (ad_iv (-1000 - ad_pf (ad_cS C) ((ad_cS C).length + 1) 0)), some (ad_iv 0)] [] m := by
    intro m hm hf hpf
    have hsz := (ad_c7_sz hm).1
    have h96 := (ad_c7_sz hm).2.1
    refine ad_iload_n dX7_archive_36 rfl ?_
    refine ad_aload_n dX7_archive_37 rfl ?_
    refine gf_X7_39 rfl dX7_archive_38 ?_
    refine gf_X7_71 rfl dX7_archive_41 ?_
    refine gf_X7_81 rfl (by omega) dX7_archive_44 ?_
    rw [hsz]
    refine ad_icmp_ge 103 dX7_archive_47 (by decide) (by omega) (by omega) (fun h47 => ?_) (fun h47 => ?_)
    · skip
      refine ad_iload_n dX7_archive_103 rfl ?_
      refine ad_if_lt 118 dX7_archive_104 (by decide) (by omega) (fun h104 => ?_) (fun h104 => ?_)
      · skip
        refine ad_aload_n dX7_archive_118 rfl ?_
        refine gf_X7_39 rfl dX7_archive_119 ?_
        refine gf_X7_71 rfl dX7_archive_122 ?_
        refine ad_cv0w rfl cl_X7_106 dX7_archive_125 (c_X2_empty (by omega)) (by omega) (by show _ < 36; omega) (Nat.le_of_ble_eq_true rfl) ?_
        refine ad_iload_n dX7_archive_128 rfl ?_
        exact ad_reti dX7_archive_129 rfl (by
          have e : ad_m_archive C = (-1000 - ad_pf (ad_cS C) ((ad_cS C).length + 1) 0, ad_sS C []) := by
            unfold ad_m_archive
            rw [if_pos (by omega)]
          rw [e]
          exact ⟨rfl, (ad_c7_signs (S := []) hm (fun k i z => by unfold ad_Tn at z; funext c; unfold ad_st; rw [if_neg (fun q => z ⟨Or.inl q.1, q.2.1⟩)]) (by
              have hw := hm.2.2.2.2.1.1
              refine ⟨by unfold ad_st; rw [if_pos ⟨rfl, rfl, rfl⟩]; exact Int.le_refl _, by unfold ad_st; rw [if_pos ⟨rfl, rfl, rfl⟩]; omega, fun k => ?_⟩
              have e : ad_st m 2 33 1 0 12 33 k = m 12 33 k := by unfold ad_st; rw [if_neg (by omega)]
              rw [e]; exact hw.2.2 k) (by unfold ad_nl; rw [show ad_st m 2 33 1 0 2 33 1 = 0 by unfold ad_st; rw [if_pos ⟨rfl, rfl, rfl⟩]]; rfl) (by simp)), ad_fr.trans hf (ad_f7_st (by decide))⟩)
      · show ad_R _ _ _ _ 107 _ _ _
        exfalso; omega
    · show ad_R _ _ _ _ 50 _ _ _
      refine ad_iload_n dX7_archive_50 rfl ?_
      refine ad_if_lt 103 dX7_archive_51 (by decide) (by omega) (fun h51 => ?_) (fun h51 => ?_)
      · skip
        refine ad_iload_n dX7_archive_103 rfl ?_
        refine ad_if_lt 118 dX7_archive_104 (by decide) (by omega) (fun h104 => ?_) (fun h104 => ?_)
        · skip
          refine ad_aload_n dX7_archive_118 rfl ?_
          refine gf_X7_39 rfl dX7_archive_119 ?_
          refine gf_X7_71 rfl dX7_archive_122 ?_
          refine ad_cv0w rfl cl_X7_106 dX7_archive_125 (c_X2_empty (by omega)) (by omega) (by show _ < 36; omega) (Nat.le_of_ble_eq_true rfl) ?_
          refine ad_iload_n dX7_archive_128 rfl ?_
          exact ad_reti dX7_archive_129 rfl (by
            have e : ad_m_archive C = (-1000 - ad_pf (ad_cS C) ((ad_cS C).length + 1) 0, ad_sS C []) := by
              unfold ad_m_archive
              rw [if_pos (by omega)]
            rw [e]
            exact ⟨rfl, (ad_c7_signs (S := []) hm (fun k i z => by unfold ad_Tn at z; funext c; unfold ad_st; rw [if_neg (fun q => z ⟨Or.inl q.1, q.2.1⟩)]) (by
                have hw := hm.2.2.2.2.1.1
                refine ⟨by unfold ad_st; rw [if_pos ⟨rfl, rfl, rfl⟩]; exact Int.le_refl _, by unfold ad_st; rw [if_pos ⟨rfl, rfl, rfl⟩]; omega, fun k => ?_⟩
                have e : ad_st m 2 33 1 0 12 33 k = m 12 33 k := by unfold ad_st; rw [if_neg (by omega)]
                rw [e]; exact hw.2.2 k) (by unfold ad_nl; rw [show ad_st m 2 33 1 0 2 33 1 = 0 by unfold ad_st; rw [if_pos ⟨rfl, rfl, rfl⟩]]; rfl) (by simp)), ad_fr.trans hf (ad_f7_st (by decide))⟩)
        · show ad_R _ _ _ _ 107 _ _ _
          exfalso; omega
      · show ad_R _ _ _ _ 54 _ _ _
        exfalso; omega
  have hneg : ∀ (z p : Int) (T : ad_Ar) (m : ad_Mem), ad_c7 m C → ad_fr ad_f7 σ m → ad_ar (ad_cS C) (ad_cS C).length 0 (ad_cA C) 0 = (z, T) → ad_pf (ad_cS C) ((ad_cS C).length + 1) 0 = -1 → (-3000 ≤ z ∧ z < 0 ∧ 0 ≤ p ∧ p ≤ 98) → ad_R g mX7_archive d (ad_ZQ mX7_archive (fun x m => ad_an7 σ x m (ad_m_archive C))) 36 [some (ad_rf g 7 0), some (ad_iv (-1)), some (ad_iv z), some (ad_iv p)] [] m := by
    intro z p T m hm hf hrel hpf hz
    have hsz := (ad_c7_sz hm).1
    have h96 := (ad_c7_sz hm).2.1
    refine ad_iload_n dX7_archive_36 rfl ?_
    refine ad_aload_n dX7_archive_37 rfl ?_
    refine gf_X7_39 rfl dX7_archive_38 ?_
    refine gf_X7_71 rfl dX7_archive_41 ?_
    refine gf_X7_81 rfl (by omega) dX7_archive_44 ?_
    rw [hsz]
    refine ad_icmp_ge 103 dX7_archive_47 (by decide) (by omega) (by omega) (fun h47 => ?_) (fun h47 => ?_)
    · skip
      refine ad_iload_n dX7_archive_103 rfl ?_
      refine ad_if_lt 118 dX7_archive_104 (by decide) (by omega) (fun h104 => ?_) (fun h104 => ?_)
      · skip
        refine ad_aload_n dX7_archive_118 rfl ?_
        refine gf_X7_39 rfl dX7_archive_119 ?_
        refine gf_X7_71 rfl dX7_archive_122 ?_
        refine ad_cv0w rfl cl_X7_106 dX7_archive_125 (c_X2_empty (by omega)) (by omega) (by show _ < 36; omega) (Nat.le_of_ble_eq_true rfl) ?_
        refine ad_iload_n dX7_archive_128 rfl ?_
        exact ad_reti dX7_archive_129 rfl (by
          have e : ad_m_archive C = (z, ad_sS C []) := by
            unfold ad_m_archive
            rw [if_neg (by omega), hrel, if_neg (by omega)]
          rw [e]
          exact ⟨rfl, (ad_c7_signs (S := []) hm (fun k i z => by unfold ad_Tn at z; funext c; unfold ad_st; rw [if_neg (fun q => z ⟨Or.inl q.1, q.2.1⟩)]) (by
              have hw := hm.2.2.2.2.1.1
              refine ⟨by unfold ad_st; rw [if_pos ⟨rfl, rfl, rfl⟩]; exact Int.le_refl _, by unfold ad_st; rw [if_pos ⟨rfl, rfl, rfl⟩]; omega, fun k => ?_⟩
              have e : ad_st m 2 33 1 0 12 33 k = m 12 33 k := by unfold ad_st; rw [if_neg (by omega)]
              rw [e]; exact hw.2.2 k) (by unfold ad_nl; rw [show ad_st m 2 33 1 0 2 33 1 = 0 by unfold ad_st; rw [if_pos ⟨rfl, rfl, rfl⟩]]; rfl) (by simp)), ad_fr.trans hf (ad_f7_st (by decide))⟩)
      · show ad_R _ _ _ _ 107 _ _ _
        exfalso; omega
    · show ad_R _ _ _ _ 50 _ _ _
      refine ad_iload_n dX7_archive_50 rfl ?_
      refine ad_if_lt 103 dX7_archive_51 (by decide) (by omega) (fun h51 => ?_) (fun h51 => ?_)
      · skip
        refine ad_iload_n dX7_archive_103 rfl ?_
        refine ad_if_lt 118 dX7_archive_104 (by decide) (by omega) (fun h104 => ?_) (fun h104 => ?_)
        · skip
          refine ad_aload_n dX7_archive_118 rfl ?_
          refine gf_X7_39 rfl dX7_archive_119 ?_
          refine gf_X7_71 rfl dX7_archive_122 ?_
          refine ad_cv0w rfl cl_X7_106 dX7_archive_125 (c_X2_empty (by omega)) (by omega) (by show _ < 36; omega) (Nat.le_of_ble_eq_true rfl) ?_
          refine ad_iload_n dX7_archive_128 rfl ?_
          exact ad_reti dX7_archive_129 rfl (by
            have e : ad_m_archive C = (z, ad_sS C []) := by
              unfold ad_m_archive
              rw [if_neg (by omega), hrel, if_neg (by omega)]
            rw [e]
            exact ⟨rfl, (ad_c7_signs (S := []) hm (fun k i z => by unfold ad_Tn at z; funext c; unfold ad_st; rw [if_neg (fun q => z ⟨Or.inl q.1, q.2.1⟩)]) (by
                have hw := hm.2.2.2.2.1.1
                refine ⟨by unfold ad_st; rw [if_pos ⟨rfl, rfl, rfl⟩]; exact Int.le_refl _, by unfold ad_st; rw [if_pos ⟨rfl, rfl, rfl⟩]; omega, fun k => ?_⟩
                have e : ad_st m 2 33 1 0 12 33 k = m 12 33 k := by unfold ad_st; rw [if_neg (by omega)]
                rw [e]; exact hw.2.2 k) (by unfold ad_nl; rw [show ad_st m 2 33 1 0 2 33 1 = 0 by unfold ad_st; rw [if_pos ⟨rfl, rfl, rfl⟩]]; rfl) (by simp)), ad_fr.trans hf (ad_f7_st (by decide))⟩)
        · show ad_R _ _ _ _ 107 _ _ _
          exfalso; omega
      · show ad_R _ _ _ _ 54 _ _ _
        exfalso; omega
  have hloop : ∀ (n : Nat) (i : Nat) (z p : Int) (T : ad_Ar) (m : ad_Mem), ad_c7 m C → ad_fr ad_f7 σ m → ad_rC m 2 T → ad_wA T → ad_pf (ad_cS C) ((ad_cS C).length + 1) 0 = -1 → ad_ar (ad_cS C) (ad_cS C).length 0 (ad_cA C) 0 = ad_ar (ad_cS C) ((ad_cS C).length - i) p T z → (p < (ad_cS C).length → ∃ n8, (ad_cS C).length + 1 ≤ n8 + i ∧ ad_pf (ad_cS C) n8 p = -1) → (0 ≤ p ∧ p ≤ 98 ∧ (i : Int) ≤ p) → (0 ≤ z ∧ z ≤ i) → i ≤ (ad_cS C).length + 1 → (ad_cS C).length + 1 - i ≤ n → ad_R g mX7_archive d (ad_ZQ mX7_archive (fun x m => ad_an7 σ x m (ad_m_archive C))) 36 [some (ad_rf g 7 0), some (ad_iv (-1)), some (ad_iv z), some (ad_iv p)] [] m := by
    intro n
    induction n with
    | zero =>
      intro i z p T m hm hf hr hwT hpf hrel hpl hp hz hi hn
      have hsz := (ad_c7_sz hm).1
      have h96 := (ad_c7_sz hm).2.1
      refine ad_iload_n dX7_archive_36 rfl ?_
      refine ad_aload_n dX7_archive_37 rfl ?_
      refine gf_X7_39 rfl dX7_archive_38 ?_
      refine gf_X7_71 rfl dX7_archive_41 ?_
      refine gf_X7_81 rfl (by omega) dX7_archive_44 ?_
      rw [hsz]
      refine ad_icmp_ge 103 dX7_archive_47 (by decide) (by omega) (by omega) (fun h47 => ?_) (fun h47 => ?_)
      · skip
        exact htail _ _ _ _ _ hm hf hr hwT hpf (by
          rw [hrel]
          generalize (ad_cS C).length - i = n9
          cases n9 with
          | zero => rfl
          | succ n9 => rw [ad_ar, if_neg (by omega)]) (by omega)
      · show ad_R _ _ _ _ 50 _ _ _
        exfalso; omega
    | succ n ih =>
      intro i z p T m hm hf hr hwT hpf hrel hpl hp hz hi hn
      have hsz := (ad_c7_sz hm).1
      have h96 := (ad_c7_sz hm).2.1
      refine ad_iload_n dX7_archive_36 rfl ?_
      refine ad_aload_n dX7_archive_37 rfl ?_
      refine gf_X7_39 rfl dX7_archive_38 ?_
      refine gf_X7_71 rfl dX7_archive_41 ?_
      refine gf_X7_81 rfl (by omega) dX7_archive_44 ?_
      rw [hsz]
      refine ad_icmp_ge 103 dX7_archive_47 (by decide) (by omega) (by omega) (fun h47 => ?_) (fun h47 => ?_)
      · skip
        exact htail _ _ _ _ _ hm hf hr hwT hpf (by
          rw [hrel]
          generalize (ad_cS C).length - i = n9
          cases n9 with
          | zero => rfl
          | succ n9 => rw [ad_ar, if_neg (by omega)]) (by omega)
      · show ad_R _ _ _ _ 50 _ _ _
        refine ad_iload_n dX7_archive_50 rfl ?_
        refine ad_if_lt 103 dX7_archive_51 (by decide) (by omega) (fun h51 => ?_) (fun h51 => ?_)
        · skip
          exact htail _ _ _ _ _ hm hf hr hwT hpf (by
            rw [hrel]
            generalize (ad_cS C).length - i = n9
            cases n9 with
            | zero => rfl
            | succ n9 => rw [ad_ar, if_neg (by omega)]) (by omega)
        · show ad_R _ _ _ _ 54 _ _ _
          obtain ⟨n8, hn8, hpf8⟩ := hpl (by omega)
          obtain ⟨n7, rfl⟩ : ∃ n7, n8 = n7 + 1 := ⟨n8 - 1, by omega⟩
          have hfi : ad_fi (ad_cS C) p = -1 := by
            rw [ad_pf] at hpf8
            by_cases hq : ad_fi (ad_cS C) p ≠ -1
            · rw [if_pos hq] at hpf8; exact hpf8
            · omega
          have hpb := ad_pb_rng (ad_cS C) hp.1
          have hpn : ad_pb (ad_cS C) p < (ad_cS C).length → ad_pf (ad_cS C) n7 (ad_pb (ad_cS C) p) = -1 := fun hq => by
            rw [ad_pf, if_neg (by omega), if_neg (by omega)] at hpf8; exact hpf8
          have hst : ad_ar (ad_cS C) ((ad_cS C).length - i) p T z = if (ad_t_run T (ad_cS C) p).isSome = true then ad_ar (ad_cS C) ((ad_cS C).length - (i + 1)) (ad_pb (ad_cS C) p) ((ad_t_run T (ad_cS C) p).getD T) (z + 1) else (-2000 - p, T) := by
            rw [show (ad_cS C).length - i = (ad_cS C).length - (i + 1) + 1 by omega, ad_ar, if_pos (by omega)]
          refine ad_aload_n dX7_archive_54 rfl ?_
          refine gf_X7_39 rfl dX7_archive_55 ?_
          refine ad_iload_n dX7_archive_58 rfl ?_
          refine ad_aload_n dX7_archive_59 rfl ?_
          refine gf_X7_19 rfl dX7_archive_60 ?_
          refine ad_aload_n dX7_archive_63 rfl ?_
          refine gf_X7_25 rfl dX7_archive_64 ?_
          refine ad_cv3q rfl cl_X7_93 dX7_archive_67 (c_X5_runsAt (by decide) hr hwT hm.2.2.2.2.1.2.1 hm.2.2.2.2.2.1.1 (by omega) hm.2.2.2.2.1.1 hm.2.2.2.2.2.2.1.1 hm.2.2.2.2.2.2.1.2 (ad_fi_frm hp.1 hfi) (by omega)) (by omega) (by show _ < 1; omega) (Nat.le_of_ble_eq_true rfl) (fun x67 s67 q67 => ?_)
          obtain ⟨rfl, y1, y2, y3, y4, y5⟩ := q67
          have hm2 := ad_c7_trial hm y3 y1 y4 y5
          have hf2 : ad_fr ad_f7 σ s67 := ad_fr.trans hf (ad_Tq_f7 y3)
          refine ad_ifp_eq 79 dX7_archive_70 (by decide) (fun h70 => ?_) (fun h70 => ?_)
          · skip
            refine ad_sipush dX7_archive_79 rfl ?_
            refine ad_iload_n dX7_archive_82 rfl ?_
            refine ad_isub dX7_archive_83 ?_
            refine ad_istore_n dX7_archive_84 (by decide) rfl (by dsimp only [ad_set]) ?_
            refine ad_iload_n dX7_archive_85 rfl ?_
            refine ad_iconst dX7_archive_86 ?_
            refine ad_iadd dX7_archive_87 ?_
            refine ad_aload_n dX7_archive_88 rfl ?_
            refine gf_X7_39 rfl dX7_archive_89 ?_
            refine ad_iload_n dX7_archive_92 rfl ?_
            refine ad_cv1f rfl cl_X7_97 dX7_archive_93 (c_X5_placeBehind hm2.2.2.2.2.1.1 hm2.2.2.2.2.2.2.1.1 hm2.2.2.2.2.2.2.1.2 (by omega) (by omega)) (by omega) (by show _ < 1; omega) (Nat.le_of_ble_eq_true rfl) ?_
            refine ad_mmax rfl lk_X7_100 dX7_archive_96 (by omega) (by omega) (by omega) (Nat.le_of_ble_eq_true rfl) ?_
            rw [show max (p + 1) (ad_pb (ad_cS C) p) = ad_pb (ad_cS C) p by omega]
            refine ad_istore_n dX7_archive_99 (by decide) rfl (by dsimp only [ad_set]) ?_
            refine ad_goto 36 dX7_archive_100 (by decide) ?_
            exact hneg (-2000 - p) _ _ _ hm2 hf2 (by rw [hrel, hst, if_neg h70]) hpf (by omega)
          · show ad_R _ _ _ _ 73 _ _ _
            refine ad_iload_n dX7_archive_73 rfl ?_
            refine ad_iconst dX7_archive_74 ?_
            refine ad_iadd dX7_archive_75 ?_
            refine ad_goto 84 dX7_archive_76 (by decide) ?_
            refine ad_istore_n dX7_archive_84 (by decide) rfl (by dsimp only [ad_set]) ?_
            refine ad_iload_n dX7_archive_85 rfl ?_
            refine ad_iconst dX7_archive_86 ?_
            refine ad_iadd dX7_archive_87 ?_
            refine ad_aload_n dX7_archive_88 rfl ?_
            refine gf_X7_39 rfl dX7_archive_89 ?_
            refine ad_iload_n dX7_archive_92 rfl ?_
            refine ad_cv1f rfl cl_X7_97 dX7_archive_93 (c_X5_placeBehind hm2.2.2.2.2.1.1 hm2.2.2.2.2.2.2.1.1 hm2.2.2.2.2.2.2.1.2 (by omega) (by omega)) (by omega) (by show _ < 1; omega) (Nat.le_of_ble_eq_true rfl) ?_
            refine ad_mmax rfl lk_X7_100 dX7_archive_96 (by omega) (by omega) (by omega) (Nat.le_of_ble_eq_true rfl) ?_
            rw [show max (p + 1) (ad_pb (ad_cS C) p) = ad_pb (ad_cS C) p by omega]
            refine ad_istore_n dX7_archive_99 (by decide) rfl (by dsimp only [ad_set]) ?_
            refine ad_goto 36 dX7_archive_100 (by decide) ?_
            exact ih (i + 1) _ _ _ _ hm2 hf2 y1 y2 hpf (by rw [hrel, hst, if_pos h70]) (fun hq => ⟨n7, by omega, hpn hq⟩) (by omega) (by omega) (by omega) (by omega)
  refine ad_M1 (k := 3) rfl (by simp [Value.category]) rfl (Nat.le_of_ble_eq_true rfl) ?_
  simp only [List.map_cons, List.map_nil, List.replicate, List.cons_append, List.nil_append]
  refine ad_aload_n dX7_archive_0 rfl ?_
  refine gf_X7_39 rfl dX7_archive_1 ?_
  refine ad_cv0f rfl cl_X7_85 dX7_archive_4 (c_X5_placeOfFault hC.2.2.2.2.1.1 hC.2.2.2.2.2.2.1.1 hC.2.2.2.2.2.2.1.2 z2 (by omega)) (by omega) (by show _ < 1; omega) (Nat.le_of_ble_eq_true rfl) ?_
  refine ad_istore_n dX7_archive_7 (by decide) rfl (by dsimp only [ad_set]) ?_
  refine ad_iload_n dX7_archive_8 rfl ?_
  refine ad_iconst dX7_archive_9 ?_
  refine ad_icmp_ne 17 dX7_archive_10 (by decide) (by omega) (by omega) (fun h10 => ?_) (fun h10 => ?_)
  · skip
    refine ad_sipush dX7_archive_17 rfl ?_
    refine ad_iload_n dX7_archive_20 rfl ?_
    refine ad_isub dX7_archive_21 ?_
    refine ad_istore_n dX7_archive_22 (by decide) rfl (by dsimp only [ad_set]) ?_
    refine ad_aload_n dX7_archive_23 rfl ?_
    refine gf_X7_19 rfl dX7_archive_24 ?_
    refine ad_aload_n dX7_archive_27 rfl ?_
    refine gf_X7_10 rfl dX7_archive_28 ?_
    refine ad_cv1v rfl cl_X7_89 dX7_archive_31 (c_X4_copyFrom (s := 2) (s2 := 0) (by decide) (by decide) (by decide) hC.1.1 hC.1.2 hC.2.2.2.1.2 (by omega)) (by omega) (by show _ < 3; omega) (Nat.le_of_ble_eq_true rfl) (fun s31 q31 => ?_)
    obtain ⟨v1, v2⟩ := q31
    have ev : ∀ k i, ¬ ad_Ts 2 k i → s31 k i = σ k i := v2
    have hm : ad_c7 s31 C := ad_c7_trial hC (ad_Ts_Tq v2) v1 (ad_nw_congr (ev _ _ (fun z => by unfold ad_Ts at z; omega)) (ev _ _ (fun z => by unfold ad_Ts at z; omega)) hC.2.2.2.2.1.2.1) (ad_dr_congr (ev _ _ (fun z => by unfold ad_Ts at z; omega)) (ev _ _ (fun z => by unfold ad_Ts at z; omega)) hC.2.2.2.2.2.1.1)
    refine ad_iconst dX7_archive_34 ?_
    refine ad_istore_n dX7_archive_35 (by decide) rfl (by dsimp only [ad_set]) ?_
    exact hfault _ hm (ad_Ts_fr7 v2) h10
  · show ad_R _ _ _ _ 13 _ _ _
    have h10n : ad_pf (ad_cS C) ((ad_cS C).length + 1) 0 = -1 := by omega
    rw [h10n]
    refine ad_iconst dX7_archive_13 ?_
    refine ad_goto 22 dX7_archive_14 (by decide) ?_
    refine ad_istore_n dX7_archive_22 (by decide) rfl (by dsimp only [ad_set]) ?_
    refine ad_aload_n dX7_archive_23 rfl ?_
    refine gf_X7_19 rfl dX7_archive_24 ?_
    refine ad_aload_n dX7_archive_27 rfl ?_
    refine gf_X7_10 rfl dX7_archive_28 ?_
    refine ad_cv1v rfl cl_X7_89 dX7_archive_31 (c_X4_copyFrom (s := 2) (s2 := 0) (by decide) (by decide) (by decide) hC.1.1 hC.1.2 hC.2.2.2.1.2 (by omega)) (by omega) (by show _ < 3; omega) (Nat.le_of_ble_eq_true rfl) (fun s31 q31 => ?_)
    obtain ⟨v1, v2⟩ := q31
    have ev : ∀ k i, ¬ ad_Ts 2 k i → s31 k i = σ k i := v2
    have hm : ad_c7 s31 C := ad_c7_trial hC (ad_Ts_Tq v2) v1 (ad_nw_congr (ev _ _ (fun z => by unfold ad_Ts at z; omega)) (ev _ _ (fun z => by unfold ad_Ts at z; omega)) hC.2.2.2.2.1.2.1) (ad_dr_congr (ev _ _ (fun z => by unfold ad_Ts at z; omega)) (ev _ _ (fun z => by unfold ad_Ts at z; omega)) hC.2.2.2.2.2.1.1)
    refine ad_iconst dX7_archive_34 ?_
    refine ad_istore_n dX7_archive_35 (by decide) rfl (by dsimp only [ad_set]) ?_
    exact hloop _ 0 0 0 _ _ hm (ad_Ts_fr7 v2) v1 hC.1.2 h10n rfl (fun _ => ⟨_, Nat.le_refl _, h10n⟩) (by omega) (by omega) (by omega) (Nat.le_refl _)
