/-! ===== the reference: collected, damaged, edited, merged, judged ===== -/
theorem ad_ra_eqP {a : Nat → Int} {A A' : ad_Ar} (hr : ad_ra a A) (h1 : ad_aC A' = ad_aC A ∧ ad_aP A' = ad_aP A ∧ ad_aQ A' = ad_aQ A) (h2 : ad_aE A' = ad_aE A ∧ ad_aK A' = ad_aK A ∧ ad_aF A' = ad_aF A ∧ ad_aN A' = ad_aN A) (hH : ∀ u, ad_aH A' u = ad_aH A u) (h3 : ∀ u, ad_aH A u = true → ad_aL A' u = ad_aL A u ∧ ad_aG A' u = ad_aG A u ∧ ad_aB A' u = ad_aB A u ∧ ad_aT A' u = ad_aT A u) : ad_ra a A' := by
  obtain ⟨e1, e4, e5⟩ := h1
  obtain ⟨f1, f2, f3, f4⟩ := h2
  obtain ⟨⟨r1, r1b⟩, r2, r7, r8, r9, r10⟩ := hr
  unfold ad_ra
  rw [e1, e4, e5, f1, f2, f3, f4]
  refine ⟨⟨r1, fun v hv => ?_⟩, r2, fun v hv => by rw [hH]; exact r7 v hv, r8, fun v hv => ?_, r10⟩
  · rw [hH] at hv
    rw [(h3 v hv).1, (h3 v hv).2.2.2]; exact r1b v hv
  · rw [hH] at hv
    unfold ad_rv
    rw [(h3 v hv).1, (h3 v hv).2.1, (h3 v hv).2.2.1, (h3 v hv).2.2.2]
    exact r9 v hv
def ad_dv (A : ad_Ar) (v u : Nat) : Bool := ad_live A u && decide (u < v)
theorem ad_dv_s (A : ad_Ar) (v u : Nat) : ad_dv A (v + 1) u = (ad_dv A v u || (ad_live A u && (u == v))) := by
  unfold ad_dv
  rw [← Bool.and_or_distrib_left]
  congr 1
  rw [Bool.eq_iff_iff]
  simp only [decide_eq_true_eq, Bool.or_eq_true, beq_iff_eq]
  omega
/-- stepping from v to v + 1 where nothing is to be written -/
theorem ad_md_keep {a : Nat → Int} {A : ad_Ar} {v : Nat} (hw : ad_wA A) (hr : ad_ra a (ad_md A (ad_gc A) (ad_dv A v))) (h : ad_live A v = true → ¬ (ad_aB A v ≠ -1 ∧ ad_gn A (ad_aB A v).toNat = true)) : ad_ra a (ad_md A (ad_gc A) (ad_dv A (v + 1))) := by
  refine ad_ra_eqH hr ⟨rfl, rfl, rfl, rfl, rfl, rfl⟩ ⟨rfl, rfl, rfl, rfl⟩ (fun u hu => ?_)
  show (if ad_dv A (v + 1) u = true then ad_gB A u else ad_aB A u) = (if ad_dv A v u = true then ad_gB A u else ad_aB A u) ∧ (if ad_dv A (v + 1) u = true then (if ad_gB A u = -1 then [] else ad_aT A u) else ad_aT A u) = (if ad_dv A v u = true then (if ad_gB A u = -1 then [] else ad_aT A u) else ad_aT A u)
  rw [ad_dv_s]
  by_cases hz : (ad_live A u && (u == v)) = true
  · rw [Bool.and_eq_true, beq_iff_eq] at hz
    obtain ⟨hz1, rfl⟩ := hz
    have hd : ad_dv A u u = false := by unfold ad_dv; rw [decide_eq_false (by omega), Bool.and_false]
    have hg : ad_gB A u = ad_aB A u := by unfold ad_gB; rw [if_pos hz1, if_neg (h hz1)]
    rw [hd, hz1, hg, Bool.false_or, Bool.true_and, beq_self_eq_true, if_pos rfl, if_neg Bool.false_ne_true, if_pos rfl, if_neg Bool.false_ne_true]
    refine ⟨rfl, ?_⟩
    by_cases hb : ad_aB A u = -1
    · rw [if_pos hb]; exact (hw.2.2.2.2.2.2.2.2.2.2.1 u hb).symm
    · rw [if_neg hb]
  · rw [Bool.eq_false_iff.mpr hz, Bool.or_false]
    exact ⟨rfl, rfl⟩
theorem ad_md_whole {a : Nat → Int} {A : ad_Ar} {v : Nat} (hr : ad_ra a (ad_wh (ad_md A (ad_gc A) (ad_dv A v)) v)) (hl : ad_live A v = true) (h : ad_aB A v ≠ -1 ∧ ad_gn A (ad_aB A v).toNat = true) : ad_ra a (ad_md A (ad_gc A) (ad_dv A (v + 1))) := by
  have hg : ad_gB A v = -1 := by unfold ad_gB; rw [if_pos hl, if_pos h]
  refine ad_ra_eqH hr ⟨rfl, rfl, rfl, rfl, rfl, rfl⟩ ⟨rfl, rfl, rfl, rfl⟩ (fun u hu => ?_)
  show (if ad_dv A (v + 1) u = true then ad_gB A u else ad_aB A u) = (if u = v then -1 else if ad_dv A v u = true then ad_gB A u else ad_aB A u) ∧ (if ad_dv A (v + 1) u = true then (if ad_gB A u = -1 then [] else ad_aT A u) else ad_aT A u) = (if u = v then [] else if ad_dv A v u = true then (if ad_gB A u = -1 then [] else ad_aT A u) else ad_aT A u)
  rw [ad_dv_s]
  by_cases hz : u = v
  · subst hz
    rw [hl, beq_self_eq_true, Bool.true_and, Bool.or_true, if_pos rfl, if_pos rfl, if_pos rfl, if_pos rfl, hg, if_pos rfl]
    exact ⟨rfl, rfl⟩
  · rw [if_neg hz, if_neg hz, show (u == v) = false by simpa using hz, Bool.and_false, Bool.or_false]
    exact ⟨rfl, rfl⟩
def ad_h2 (A : ad_Ar) (v : Nat) : ad_Ar := ad_mk (ad_aC A) (fun u => ad_aH A u && !(ad_gn A u && decide (u < v))) (ad_aL A) (ad_aP A) (ad_aQ A) (ad_aG A) (fun u => if ad_dv A 10 u = true then ad_gB A u else ad_aB A u) (fun u => if ad_dv A 10 u = true then (if ad_gB A u = -1 then [] else ad_aT A u) else ad_aT A u) (ad_aE A) (ad_aK A) (ad_aF A) (ad_aN A)
theorem ad_h2_s (A : ad_Ar) (v u : Nat) (h : u ≠ v) : ad_aH (ad_h2 A (v + 1)) u = ad_aH (ad_h2 A v) u := by
  show (ad_aH A u && !(ad_gn A u && decide (u < v + 1))) = (ad_aH A u && !(ad_gn A u && decide (u < v)))
  rw [show decide (u < v + 1) = decide (u < v) by rw [Bool.eq_iff_iff]; simp only [decide_eq_true_eq]; omega]
theorem ad_h2_keep {a : Nat → Int} {A : ad_Ar} {v : Nat} (hr : ad_ra a (ad_h2 A v)) (h : ad_gn A v = false) : ad_ra a (ad_h2 A (v + 1)) := by
  refine ad_ra_eqP hr ⟨rfl, rfl, rfl⟩ ⟨rfl, rfl, rfl, rfl⟩ (fun u => ?_) (fun u _ => ⟨rfl, rfl, rfl, rfl⟩)
  by_cases hz : u = v
  · subst hz
    show (ad_aH A u && !(ad_gn A u && decide (u < u + 1))) = (ad_aH A u && !(ad_gn A u && decide (u < u)))
    rw [h, Bool.false_and, Bool.false_and]
  · exact ad_h2_s A v u hz
theorem c_X8_collects {g : ad_G} {d : Nat} {σ : ad_Mem} {A : ad_Ar} (hr : ad_ra (σ 21 0) A) (hw : ad_wA A) (h12d : 12 ≤ d) : ad_Q g mX8_collects d [ad_rf g 8 0] σ (fun x m => x = ad_iv ((ad_pp (ad_gn A) 10 : Nat) : Int) ∧ ad_f8 [21, 28, 29] [] σ m ∧ ad_ra (m 21 0) (ad_gc A)) := by
  refine ad_M1 (k := 4) rfl (by simp [Value.category]) rfl (Nat.le_of_ble_eq_true rfl) ?_
  simp only [List.map_cons, List.map_nil, List.replicate, List.cons_append, List.nil_append]
  refine ad_aload_n dX8_collects_0 rfl ?_
  refine ad_cv0v rfl cl_X8_84 dX8_collects_1 (c_X8_restores hr hw (by omega)) (by omega) (by show _ < 1; omega) (Nat.le_of_ble_eq_true rfl) (fun s1 q1 => ?_)
  obtain ⟨f1, g1⟩ := q1
  have hr1 : ad_ra (s1 21 0) A := ad_ra_congr (fun i _ => congrFun (f1.1 21 0 (by decide) (by decide)) i) hr
  have hfs : ad_f8 [21, 28, 29] [] σ s1 := f1.mono (by decide) (by decide)
  have hl2 : ∀ (n : Nat) (v : Nat) (x4 : Option Value) (m : ad_Mem), (v ≤ 10) → (ad_f8 [21] [] s1 m) → (ad_ra (m 21 0) (ad_h2 A v)) → (((10 - v : Nat) : Int)).toNat ≤ n → ad_R g mX8_collects d (ad_ZQ mX8_collects (fun x m => x = ad_iv ((ad_pp (ad_gn A) 10 : Nat) : Int) ∧ ad_f8 [21, 28, 29] [] σ m ∧ ad_ra (m 21 0) (ad_gc A))) 78 [some (ad_rf g 8 0), some (ad_iv ((ad_bits (ad_live A) : Nat) : Int)), some (ad_iv ((ad_bits (ad_gn A) : Nat) : Int)), some (ad_iv (v : Int)), x4] [] m := by
    intro n
    induction n with
    | zero =>
      intro v x4 m hv hf hm hn
      have hgl := ad_bits_lt (ad_gn A)
      refine ad_iload_n dX8_collects_78 rfl ?_
      refine ad_bipush dX8_collects_79 rfl ?_
      refine ad_icmp_ge 111 dX8_collects_81 (by decide) (by omega) (by omega) (fun h81 => ?_) (fun h81 => ?_)
      · skip
        refine ad_iload_n dX8_collects_111 rfl ?_
        refine ad_cs1f rfl cl_X8_148 dX8_collects_112 (c_X8_ones (ad_bits_lt _)) (by omega) (Nat.le_of_ble_eq_true rfl) ?_
        rw [ad_ones_bits]
        exact ad_reti dX8_collects_115 rfl (by
              refine ⟨rfl, hfs.trans (hf.mono (by decide) (by decide)), ad_ra_eqP hm ⟨rfl, rfl, rfl⟩ ⟨rfl, rfl, rfl, rfl⟩ (fun u => ?_) (fun u hu => ?_)⟩
              · show ad_live A u = (ad_aH A u && !(ad_gn A u && decide (u < v)))
                have hgn : ad_gn A u = (ad_aH A u && !ad_live A u) := rfl
                by_cases hH : ad_aH A u = true
                · have := hr.H u hH
                  rw [hgn, hH, decide_eq_true (by omega)]; simp
                · rw [Bool.eq_false_iff.mpr (fun z => hH (ad_live_H z)), Bool.eq_false_iff.mpr hH]; rfl
              · have hu : (ad_aH A u && !(ad_gn A u && decide (u < v))) = true := hu
                rw [Bool.and_eq_true] at hu
                have := hr.H u hu.1
                have hlv : ad_live A u = true := by
                  have h2 := hu.2
                  rw [show ad_gn A u = (ad_aH A u && !ad_live A u) from rfl, hu.1, decide_eq_true (show u < v by omega)] at h2
                  simpa using h2
                have hd : ad_dv A 10 u = true := by unfold ad_dv; rw [hlv, decide_eq_true (by omega)]; rfl
                refine ⟨if_pos hlv, if_pos hlv, (if_pos hd).symm, ?_⟩
                show (if ad_gB A u = -1 then [] else ad_aT A u) = if ad_dv A 10 u = true then (if ad_gB A u = -1 then [] else ad_aT A u) else ad_aT A u
                rw [if_pos hd])
      · show ad_R _ _ _ _ 84 _ _ _
        have htb := ad_tbN (ad_gn A) (v := v) (by omega)
        exfalso; omega
    | succ n ih =>
      intro v x4 m hv hf hm hn
      have hgl := ad_bits_lt (ad_gn A)
      refine ad_iload_n dX8_collects_78 rfl ?_
      refine ad_bipush dX8_collects_79 rfl ?_
      refine ad_icmp_ge 111 dX8_collects_81 (by decide) (by omega) (by omega) (fun h81 => ?_) (fun h81 => ?_)
      · skip
        refine ad_iload_n dX8_collects_111 rfl ?_
        refine ad_cs1f rfl cl_X8_148 dX8_collects_112 (c_X8_ones (ad_bits_lt _)) (by omega) (Nat.le_of_ble_eq_true rfl) ?_
        rw [ad_ones_bits]
        exact ad_reti dX8_collects_115 rfl (by
              refine ⟨rfl, hfs.trans (hf.mono (by decide) (by decide)), ad_ra_eqP hm ⟨rfl, rfl, rfl⟩ ⟨rfl, rfl, rfl, rfl⟩ (fun u => ?_) (fun u hu => ?_)⟩
              · show ad_live A u = (ad_aH A u && !(ad_gn A u && decide (u < v)))
                have hgn : ad_gn A u = (ad_aH A u && !ad_live A u) := rfl
                by_cases hH : ad_aH A u = true
                · have := hr.H u hH
                  rw [hgn, hH, decide_eq_true (by omega)]; simp
                · rw [Bool.eq_false_iff.mpr (fun z => hH (ad_live_H z)), Bool.eq_false_iff.mpr hH]; rfl
              · have hu : (ad_aH A u && !(ad_gn A u && decide (u < v))) = true := hu
                rw [Bool.and_eq_true] at hu
                have := hr.H u hu.1
                have hlv : ad_live A u = true := by
                  have h2 := hu.2
                  rw [show ad_gn A u = (ad_aH A u && !ad_live A u) from rfl, hu.1, decide_eq_true (show u < v by omega)] at h2
                  simpa using h2
                have hd : ad_dv A 10 u = true := by unfold ad_dv; rw [hlv, decide_eq_true (by omega)]; rfl
                refine ⟨if_pos hlv, if_pos hlv, (if_pos hd).symm, ?_⟩
                show (if ad_gB A u = -1 then [] else ad_aT A u) = if ad_dv A 10 u = true then (if ad_gB A u = -1 then [] else ad_aT A u) else ad_aT A u
                rw [if_pos hd])
      · show ad_R _ _ _ _ 84 _ _ _
        have htb := ad_tbN (ad_gn A) (v := v) (by omega)
        refine ad_iload_n dX8_collects_84 rfl ?_
        refine ad_iload_n dX8_collects_85 rfl ?_
        refine ad_ishr dX8_collects_86 ?_
        refine ad_iconst dX8_collects_87 ?_
        refine ad_iand dX8_collects_88 ?_
        rw [ad_bitI (by omega) (by omega)]
        refine ad_iconst dX8_collects_89 ?_
        refine ad_icmp_ne_p1 105 dX8_collects_90 (by decide) (fun h90 => ?_) (fun h90 => ?_)
        · skip
          refine ad_iinc dX8_collects_105 rfl (by decide) rfl (by dsimp only [ad_set]) ?_
          refine ad_goto 78 dX8_collects_108 (by decide) ?_
          exact ih (v + 1) _ m (by omega) hf (ad_h2_keep hm (Bool.eq_false_iff.mpr (fun z => h90 (htb.mpr z)))) (by omega)
        · show ad_R _ _ _ _ 93 _ _ _
          refine ad_aload_n dX8_collects_93 rfl ?_
          refine gf_X8_9 rfl dX8_collects_94 ?_
          refine ad_bipush dX8_collects_97 rfl ?_
          refine ad_iload_n dX8_collects_99 rfl ?_
          refine ad_imul dX8_collects_100 ?_
          refine ad_iconst dX8_collects_101 ?_
          refine ad_iadd dX8_collects_102 ?_
          refine ad_iconst dX8_collects_103 ?_
          refine ad_iasj (50 * v) dX8_collects_104 (by decide) ⟨by decide, by decide⟩ (by omega) (by show _ < 520; omega) ?_
          refine ad_iinc dX8_collects_105 rfl (by decide) rfl (by dsimp only [ad_set]) ?_
          refine ad_goto 78 dX8_collects_108 (by decide) ?_
          exact ih (v + 1) _ _ (by omega) (hf.trans (ad_f8.st (by decide) (by decide))) (ad_ra_set v (by omega) hm ⟨Nat.le_refl _, hm.1.1⟩ (fun u hu _ => hu) (by rw [ad_st_r1, ad_u1_ne _ _ (by omega)]; exact hm.2.1.1) (fun c _ _ h => by rw [ad_st_r1, ad_u1_ne _ _ (by omega)]) (fun c h1 h2 => by
            rw [ad_st_r1]; unfold ad_u1; split
            · decide
            · exact hm.2.2.2.2.2 c (by omega)) (fun u hu => ⟨ad_h2_s A v u hu, rfl, rfl, rfl, rfl, rfl⟩) (fun u hu hH => ⟨(hm.1.2 u hH).2.1, fun _ => rfl⟩) ⟨rfl, rfl, rfl, rfl⟩ (by rw [ad_st_r1, ad_u1_eq, if_neg]; show ¬ (ad_aH A v && !(ad_gn A v && decide (v < v + 1))) = true; rw [htb.mp h90, decide_eq_true (by omega)]; simp) (fun hv2 => by rw [ad_st_r1, ad_u1_ne _ _ (by omega), ad_u1_ne _ _ (by omega)]; exact hm.2.2.2.1 v hv2) (fun hv2 => by
            have hv2 : (ad_aH A v && !(ad_gn A v && decide (v < v + 1))) = true := hv2
            rw [htb.mp h90, decide_eq_true (show v < v + 1 by omega)] at hv2; simp at hv2)) (by omega)
  have hl1 : ∀ (n : Nat) (v : Nat) (x4 : Option Value) (m : ad_Mem), (v ≤ 10) → (ad_f8 [21] [] s1 m) → (ad_ra (m 21 0) (ad_md A (ad_gc A) (ad_dv A v))) → (((10 - v : Nat) : Int)).toNat ≤ n → ad_R g mX8_collects d (ad_ZQ mX8_collects (fun x m => x = ad_iv ((ad_pp (ad_gn A) 10 : Nat) : Int) ∧ ad_f8 [21, 28, 29] [] σ m ∧ ad_ra (m 21 0) (ad_gc A))) 20 [some (ad_rf g 8 0), some (ad_iv ((ad_bits (ad_live A) : Nat) : Int)), some (ad_iv ((ad_bits (ad_gn A) : Nat) : Int)), some (ad_iv (v : Int)), x4] [] m := by
    intro n
    induction n with
    | zero =>
      intro v x4 m hv hf hm hn
      have hgl := ad_bits_lt (ad_gn A)
      have hll := ad_bits_lt (ad_live A)
      refine ad_iload_n dX8_collects_20 rfl ?_
      refine ad_bipush dX8_collects_21 rfl ?_
      refine ad_icmp_ge 76 dX8_collects_23 (by decide) (by omega) (by omega) (fun h23 => ?_) (fun h23 => ?_)
      · skip
        refine ad_iconst dX8_collects_76 ?_
        refine ad_istore_n dX8_collects_77 (by decide) rfl (by dsimp only [ad_set]) ?_
        exact hl2 _ 0 _ m (by omega) hf (by rw [show v = 10 by omega] at hm; exact ad_ra_eqP hm ⟨rfl, rfl, rfl⟩ ⟨rfl, rfl, rfl, rfl⟩ (fun u => by show (ad_aH A u && !(ad_gn A u && decide (u < 0))) = ad_aH A u; rw [decide_eq_false (by omega), Bool.and_false, Bool.not_false, Bool.and_true]) (fun u _ => ⟨rfl, rfl, rfl, rfl⟩)) (Nat.le_refl _)
      · show ad_R _ _ _ _ 26 _ _ _
        exfalso; omega
    | succ n ih =>
      intro v x4 m hv hf hm hn
      have hgl := ad_bits_lt (ad_gn A)
      have hll := ad_bits_lt (ad_live A)
      refine ad_iload_n dX8_collects_20 rfl ?_
      refine ad_bipush dX8_collects_21 rfl ?_
      refine ad_icmp_ge 76 dX8_collects_23 (by decide) (by omega) (by omega) (fun h23 => ?_) (fun h23 => ?_)
      · skip
        refine ad_iconst dX8_collects_76 ?_
        refine ad_istore_n dX8_collects_77 (by decide) rfl (by dsimp only [ad_set]) ?_
        exact hl2 _ 0 _ m (by omega) hf (by rw [show v = 10 by omega] at hm; exact ad_ra_eqP hm ⟨rfl, rfl, rfl⟩ ⟨rfl, rfl, rfl, rfl⟩ (fun u => by show (ad_aH A u && !(ad_gn A u && decide (u < 0))) = ad_aH A u; rw [decide_eq_false (by omega), Bool.and_false, Bool.not_false, Bool.and_true]) (fun u _ => ⟨rfl, rfl, rfl, rfl⟩)) (Nat.le_refl _)
      · show ad_R _ _ _ _ 26 _ _ _
        refine ad_aload_n dX8_collects_26 rfl ?_
        refine gf_X8_9 rfl dX8_collects_27 ?_
        refine ad_bipush dX8_collects_30 rfl ?_
        refine ad_iload_n dX8_collects_32 rfl ?_
        refine ad_imul dX8_collects_33 ?_
        refine ad_iconst dX8_collects_34 ?_
        refine ad_iadd dX8_collects_35 ?_
        refine ad_ialj (50 * v + 4) dX8_collects_36 (by decide) ⟨by decide, by decide⟩ (by omega) (by show _ < 520; omega) rfl ?_
        refine ad_istore dX8_collects_37 (by decide) rfl (by dsimp only [ad_set]) ?_
        have htb := ad_tbN (ad_live A) (v := v) (by omega)
        refine ad_iload_n dX8_collects_39 rfl ?_
        refine ad_iload_n dX8_collects_40 rfl ?_
        refine ad_ishr dX8_collects_41 ?_
        refine ad_iconst dX8_collects_42 ?_
        refine ad_iand dX8_collects_43 ?_
        rw [ad_bitI (by omega) (by omega)]
        refine ad_iconst dX8_collects_44 ?_
        refine ad_icmp_ne_p1 70 dX8_collects_45 (by decide) (fun h45 => ?_) (fun h45 => ?_)
        · skip
          refine ad_iinc dX8_collects_70 rfl (by decide) rfl (by dsimp only [ad_set]) ?_
          refine ad_goto 20 dX8_collects_73 (by decide) ?_
          exact ih (v + 1) _ m (by omega) hf (ad_md_keep hw hm (fun z => absurd (htb.mpr z) h45)) (by omega)
        · show ad_R _ _ _ _ 48 _ _ _
          have hlv := htb.mp h45
          have hH := ad_live_H hlv
          have hBr := ad_B_rng hw hH
          have hd : ad_dv A v v = false := by unfold ad_dv; rw [decide_eq_false (by omega), Bool.and_false]
          have hb : m 21 0 (50 * v + 4) = ad_lk (ad_aB A v) := by
            have h1 := (hm.2.2.2.2.1 v hH).2.1
            rw [show ad_aB (ad_md A (ad_gc A) (ad_dv A v)) v = ad_aB A v by show (if ad_dv A v v = true then _ else _) = _; rw [hd, if_neg Bool.false_ne_true]] at h1
            exact h1
          have hlkr := ad_lk_rng (v := ad_aB A v) (by omega)
          have hlkn := ad_lk_no hBr.1
          rw [hb]
          refine ad_iload dX8_collects_48 rfl ?_
          refine ad_bipush dX8_collects_50 rfl ?_
          refine ad_icmp_eq 70 dX8_collects_52 (by decide) (by constructor <;> omega) (by decide) (fun h52 => ?_) (fun h52 => ?_)
          · skip
            refine ad_iinc dX8_collects_70 rfl (by decide) rfl (by dsimp only [ad_set]) ?_
            refine ad_goto 20 dX8_collects_73 (by decide) ?_
            exact ih (v + 1) _ m (by omega) hf (ad_md_keep hw hm (fun _ z => z.1 (hlkn.mp h52))) (by omega)
          · show ad_R _ _ _ _ 55 _ _ _
            have hBn : ad_aB A v ≠ -1 := fun z => h52 (hlkn.mpr z)
            obtain ⟨BB, hBB⟩ : ∃ BB : Nat, ad_aB A v = (BB : Int) := ⟨(ad_aB A v).toNat, by omega⟩
            rw [ad_lk_ge hBn, hBB]
            have htc := ad_tbN (ad_gn A) (v := BB) (by omega)
            have hLv := (hw.2.2.1 v hH).1
            refine ad_iload_n dX8_collects_55 rfl ?_
            refine ad_iload dX8_collects_56 rfl ?_
            refine ad_ishr dX8_collects_58 ?_
            refine ad_iconst dX8_collects_59 ?_
            refine ad_iand dX8_collects_60 ?_
            rw [ad_bitI (by omega) (by omega)]
            refine ad_iconst dX8_collects_61 ?_
            refine ad_icmp_ne_p1 70 dX8_collects_62 (by decide) (fun h62 => ?_) (fun h62 => ?_)
            · skip
              refine ad_iinc dX8_collects_70 rfl (by decide) rfl (by dsimp only [ad_set]) ?_
              refine ad_goto 20 dX8_collects_73 (by decide) ?_
              exact ih (v + 1) _ m (by omega) hf (ad_md_keep hw hm (fun _ z => h62 (htc.mpr (by have := z.2; rw [hBB, Int.toNat_natCast] at this; exact this)))) (by omega)
            · show ad_R _ _ _ _ 65 _ _ _
              have hgn : ad_aB A v ≠ -1 ∧ ad_gn A (ad_aB A v).toNat = true := ⟨hBn, by rw [hBB, Int.toNat_natCast]; exact htc.mp h62⟩
              refine ad_aload_n dX8_collects_65 rfl ?_
              refine ad_iload_n dX8_collects_66 rfl ?_
              refine ad_cv1v rfl cl_X8_109 dX8_collects_67 (c_X8_whole hm (v := v) hH hLv.2.2 (by rw [hf.1 29 0 (by decide) (by decide), g1.1 v (by omega), if_pos hH]; rfl) (fun j hj => (congrFun (hf.1 28 0 (by decide) (by decide)) _).trans ((g1.2 v (by omega) hH).2 j hj))) (by omega) (by show _ < 1; omega) (Nat.le_of_ble_eq_true rfl) (fun s67 q67 => ?_)
              refine ad_iinc dX8_collects_70 rfl (by decide) rfl (by dsimp only [ad_set]) ?_
              refine ad_goto 20 dX8_collects_73 (by decide) ?_
              exact ih (v + 1) _ _ (by omega) (hf.trans q67.1) (ad_md_whole q67.2 hlv hgn) (by omega)
  refine ad_aload_n dX8_collects_4 rfl ?_
  refine ad_cv0f rfl cl_X8_145 dX8_collects_5 (c_X8_reachedByHeads hr1 hw (by omega)) (by omega) (by show _ < 1; omega) (Nat.le_of_ble_eq_true rfl) ?_
  refine ad_istore_n dX8_collects_8 (by decide) rfl (by dsimp only [ad_set]) ?_
  refine ad_aload_n dX8_collects_9 rfl ?_
  refine ad_cv0f rfl cl_X8_142 dX8_collects_10 (c_X8_there hr1 (by omega)) (by omega) (by show _ < 1; omega) (Nat.le_of_ble_eq_true rfl) ?_
  refine ad_iload_n dX8_collects_13 rfl ?_
  refine ad_iconst dX8_collects_14 ?_
  refine ad_ixor dX8_collects_15 ?_
  refine ad_iand dX8_collects_16 ?_
  rw [ad_not_bits]
  change ad_R _ _ _ _ _ _ [ad_iv ((ad_bits (ad_gn A) : Nat) : Int)] _
  refine ad_istore_n dX8_collects_17 (by decide) rfl (by dsimp only [ad_set]) ?_
  refine ad_iconst dX8_collects_18 ?_
  refine ad_istore_n dX8_collects_19 (by decide) rfl (by dsimp only [ad_set]) ?_
  exact hl1 _ 0 _ _ (by omega) ad_f8.refl (ad_ra_eqH hr1 ⟨rfl, rfl, rfl, rfl, rfl, rfl⟩ ⟨rfl, rfl, rfl, rfl⟩ (fun u _ => by show (if ad_dv A 0 u = true then _ else _) = _ ∧ (if ad_dv A 0 u = true then _ else _) = _; rw [show ad_dv A 0 u = false by unfold ad_dv; rw [decide_eq_false (by omega), Bool.and_false]]; exact ⟨rfl, rfl⟩)) (Nat.le_refl _)
theorem c_X8_collect {g : ad_G} {d : Nat} {σ : ad_Mem} {C : ad_C7}  (hC : ad_c8 σ C) (h16d : 16 ≤ d) : ad_Q g mX8_collect d [ad_rf g 8 0] σ (fun x m => ad_an8 σ x m (ad_m_collect C)) := by
  have hC0 := hC
  obtain ⟨a1, a2, a3, a4, a5, a6⟩ := hC0
  have hr := a1.1
  have hw := a1.2
  refine ad_M1 (k := 0) rfl (by simp [Value.category]) rfl (Nat.le_of_ble_eq_true rfl) ?_
  simp only [List.map_cons, List.map_nil, List.replicate, List.cons_append, List.nil_append]
  refine ad_aload_n dX8_collect_0 rfl ?_
  refine ad_cv0q rfl cl_X8_151 dX8_collect_1 (c_X8_collects hr hw (by omega)) (by omega) (by show _ < 1; omega) (Nat.le_of_ble_eq_true rfl) (fun x1 s1 q1 => ?_)
  obtain ⟨rfl, b1, b2⟩ := q1
  exact ad_reti dX8_collect_4 rfl (⟨rfl, ad_c8_now hC (b1.mono (by decide) (by decide)) b2 (ad_wA_gc hw), (b1.mono (by decide) (by decide))⟩)
