/-! ===== the reference runs a statement of good form ===== -/
theorem ad_ne1 {x : Int} (h : 1 ≤ x) : x ≠ 0 := by omega
theorem ad_fts {S : List Int} {c a : Int} (h : 1 ≤ ad_ft S c a) (hc : c ≠ 115) : ad_ft S c a = 1 ∧ ad_s1 S c (a, 0) = (a + 1, 0) := by
  have h1 := ad_ft_1 (S := S) (p := a) hc
  have e : ad_ft S c a = 1 := by omega
  exact ⟨e, by rw [ad_s1_go (by omega), e]⟩
theorem ad_dg_D {S : List Int} {a : Int} (h : 1 ≤ ad_ft S 100 a) : ad_sg S a - 48 = ad_dg S a := by
  have hd : ad_isD (ad_sg S a) := Decidable.byContradiction (fun hd => by unfold ad_ft at h; rw [if_pos rfl, if_neg hd] at h; omega)
  unfold ad_dg; rw [if_pos hd]
theorem ad_fi_fn {S : List Int} {p : Int} {i n : Nat} (h : ad_fi S p = -1) (hx : ad_fx (ad_sg S p) = i) (hn : ad_slen.getD i 0 = n) (h0 : n ≠ 0) : ad_fn S i n 0 (p + 1) = -1 := by
  subst hx; subst hn
  unfold ad_fi at h
  rw [if_neg h0] at h; exact h
theorem ad_fi_118 {S : List Int} {p : Int} (hp : 0 ≤ p) (h : ad_fi S p = -1) (hs : ad_sg S p = 118) : (1 ≤ ad_ft S 112 (p + 1) ∧ ad_s1 S 112 (p + 1, 0) = (p + 2, 0)) ∧ (1 ≤ ad_ft S 112 (p + 2) ∧ ad_s1 S 112 (p + 2, 0) = (p + 3, 0)) ∧ 1 ≤ ad_lf S (p + 3) ∧ ad_s1 S 59 (p + 3 + ad_lf S (p + 3), 0) = (ad_pb S p, 0) := by
  have h0 := ad_fi_fn h (i := 0) (by rw [hs]; rfl) ad_slen_v.1 (by decide)
  obtain ⟨g1, h1⟩ := ad_fn_go (by omega) h0
  rw [ad_sch_all.1.1] at g1 h1
  obtain ⟨e1, s1⟩ := ad_fts g1 (by decide)
  rw [e1, show p + 1 + 1 = p + 2 by omega] at h1
  rw [show p + 1 + 1 = p + 2 by omega] at s1
  obtain ⟨g2, h2⟩ := ad_fn_go (by omega) h1
  rw [ad_sch_all.1.2.1] at g2 h2
  obtain ⟨e2, s2⟩ := ad_fts g2 (by decide)
  rw [e2, show p + 2 + 1 = p + 3 by omega] at h2
  rw [show p + 2 + 1 = p + 3 by omega] at s2
  obtain ⟨g3, h3⟩ := ad_fn_go (by omega) h2
  rw [ad_sch_all.1.2.2.1, ad_ft_S] at g3
  have hfe := (ad_fe_118 hp hs).2 h
  rw [s1, s2, ad_s1_go (by rw [ad_ft_S]; omega), ad_ft_S] at hfe
  exact ⟨⟨g1, s1⟩, ⟨g2, s2⟩, g3, hfe⟩
theorem ad_fi_104 {S : List Int} {p : Int} (hp : 0 ≤ p) (h : ad_fi S p = -1) (hs : ad_sg S p = 104) : (1 ≤ ad_ft S 100 (p + 1) ∧ ad_s1 S 100 (p + 1, 0) = (p + 2, 0)) ∧ (1 ≤ ad_ft S 112 (p + 2) ∧ ad_s1 S 112 (p + 2, 0) = (p + 3, 0)) ∧ ad_s1 S 59 (p + 3, 0) = (ad_pb S p, 0) := by
  have h0 := ad_fi_fn h (i := 1) (by rw [hs]; rfl) ad_slen_v.2.1 (by decide)
  obtain ⟨g1, h1⟩ := ad_fn_go (by omega) h0
  rw [ad_sch_all.2.1.1] at g1 h1
  obtain ⟨e1, s1⟩ := ad_fts g1 (by decide)
  rw [e1, show p + 1 + 1 = p + 2 by omega] at h1
  rw [show p + 1 + 1 = p + 2 by omega] at s1
  obtain ⟨g2, h2⟩ := ad_fn_go (by omega) h1
  rw [ad_sch_all.2.1.2.1] at g2 h2
  obtain ⟨e2, s2⟩ := ad_fts g2 (by decide)
  rw [show p + 2 + 1 = p + 3 by omega] at s2
  have hfe := (ad_fe_104 hp hs).2 h
  rw [s1, s2] at hfe
  exact ⟨⟨g1, s1⟩, ⟨g2, s2⟩, hfe⟩
theorem ad_fi_107 {S : List Int} {p : Int} (hp : 0 ≤ p) (h : ad_fi S p = -1) (hs : ad_sg S p = 107) : (1 ≤ ad_ft S 100 (p + 1) ∧ ad_s1 S 100 (p + 1, 0) = (p + 2, 0)) ∧ (1 ≤ ad_ft S 100 (p + 2) ∧ ad_s1 S 100 (p + 2, 0) = (p + 3, 0)) ∧ ad_s1 S 59 (p + 3, 0) = (ad_pb S p, 0) := by
  have h0 := ad_fi_fn h (i := 2) (by rw [hs]; rfl) ad_slen_v.2.2.1 (by decide)
  obtain ⟨g1, h1⟩ := ad_fn_go (by omega) h0
  rw [ad_sch_all.2.2.1.1] at g1 h1
  obtain ⟨e1, s1⟩ := ad_fts g1 (by decide)
  rw [e1, show p + 1 + 1 = p + 2 by omega] at h1
  rw [show p + 1 + 1 = p + 2 by omega] at s1
  obtain ⟨g2, h2⟩ := ad_fn_go (by omega) h1
  rw [ad_sch_all.2.2.1.2.1] at g2 h2
  obtain ⟨e2, s2⟩ := ad_fts g2 (by decide)
  rw [show p + 2 + 1 = p + 3 by omega] at s2
  have hfe := (ad_fe_107 hp hs).2 h
  rw [s1, s2] at hfe
  exact ⟨⟨g1, s1⟩, ⟨g2, s2⟩, hfe⟩
theorem ad_fi_100 {S : List Int} {p : Int} (hp : 0 ≤ p) (h : ad_fi S p = -1) (hs : ad_sg S p = 100) : (1 ≤ ad_ft S 100 (p + 1) ∧ ad_s1 S 100 (p + 1, 0) = (p + 2, 0)) ∧ ad_s1 S 59 (p + 2, 0) = (ad_pb S p, 0) := by
  have h0 := ad_fi_fn h (i := 3) (by rw [hs]; rfl) ad_slen_v.2.2.2.1 (by decide)
  obtain ⟨g1, h1⟩ := ad_fn_go (by omega) h0
  rw [ad_sch_all.2.2.2.1.1] at g1 h1
  obtain ⟨e1, s1⟩ := ad_fts g1 (by decide)
  rw [show p + 1 + 1 = p + 2 by omega] at s1
  have hfe := (ad_fe_100 hp hs).2 h
  rw [s1] at hfe
  exact ⟨⟨g1, s1⟩, hfe⟩
theorem ad_fi_120 {S : List Int} {p : Int} (hp : 0 ≤ p) (h : ad_fi S p = -1) (hs : ad_sg S p = 120) : (1 ≤ ad_ft S 100 (p + 1) ∧ ad_s1 S 100 (p + 1, 0) = (p + 2, 0)) ∧ (1 ≤ ad_ft S 100 (p + 2) ∧ ad_s1 S 100 (p + 2, 0) = (p + 3, 0)) ∧ (1 ≤ ad_ft S 100 (p + 3) ∧ ad_s1 S 100 (p + 3, 0) = (p + 4, 0)) ∧ (1 ≤ ad_ft S 108 (p + 4) ∧ ad_s1 S 108 (p + 4, 0) = (p + 5, 0)) ∧ ad_s1 S 59 (p + 5, 0) = (ad_pb S p, 0) := by
  have h0 := ad_fi_fn h (i := 5) (by rw [hs]; rfl) ad_slen_v.2.2.2.2.2 (by decide)
  obtain ⟨g1, h1⟩ := ad_fn_go (by omega) h0
  rw [ad_sch_all.2.2.2.2.2.1] at g1 h1
  obtain ⟨e1, s1⟩ := ad_fts g1 (by decide)
  rw [e1, show p + 1 + 1 = p + 2 by omega] at h1
  rw [show p + 1 + 1 = p + 2 by omega] at s1
  obtain ⟨g2, h2⟩ := ad_fn_go (by omega) h1
  rw [ad_sch_all.2.2.2.2.2.2.1] at g2 h2
  obtain ⟨e2, s2⟩ := ad_fts g2 (by decide)
  rw [e2, show p + 2 + 1 = p + 3 by omega] at h2
  rw [show p + 2 + 1 = p + 3 by omega] at s2
  obtain ⟨g3, h3⟩ := ad_fn_go (by omega) h2
  rw [ad_sch_all.2.2.2.2.2.2.2.1] at g3 h3
  obtain ⟨e3, s3⟩ := ad_fts g3 (by decide)
  rw [e3, show p + 3 + 1 = p + 4 by omega] at h3
  rw [show p + 3 + 1 = p + 4 by omega] at s3
  obtain ⟨g4, h4⟩ := ad_fn_go (by omega) h3
  rw [ad_sch_all.2.2.2.2.2.2.2.2.1] at g4 h4
  obtain ⟨e4, s4⟩ := ad_fts g4 (by decide)
  rw [show p + 4 + 1 = p + 5 by omega] at s4
  have hfe := (ad_fe_120 hp hs).2 h
  rw [s1, s2, s3, s4] at hfe
  exact ⟨⟨g1, s1⟩, ⟨g2, s2⟩, ⟨g3, s3⟩, ⟨g4, s4⟩, hfe⟩
theorem ad_tr_118 {A : ad_Ar} {S : List Int} {i : Int} (h : ad_sg S i = 118) : ad_t_run A S i = ad_t_comes A S (i + 3) (ad_dg S (i + 1)) (ad_dg S (i + 2)) := if_pos h
theorem ad_tr_104 {A : ad_Ar} {S : List Int} {i : Int} (h : ad_sg S i = 104) : ad_t_run A S i = ad_t_points A (ad_dg S (i + 1)) (ad_dg S (i + 2)) := by unfold ad_t_run; rw [if_neg (by omega), if_pos h]
theorem ad_tr_107 {A : ad_Ar} {S : List Int} {i : Int} (h : ad_sg S i = 107) : ad_t_run A S i = ad_t_becomes A (ad_dg S (i + 1)) (ad_dg S (i + 2)) := by unfold ad_t_run; rw [if_neg (by omega), if_neg (by omega), if_pos h]
theorem ad_tr_100 {A : ad_Ar} {S : List Int} {i : Int} (h : ad_sg S i = 100) : ad_t_run A S i = ad_t_binds A (ad_dg S (i + 1)) := by unfold ad_t_run; rw [if_neg (by omega), if_neg (by omega), if_neg (by omega), if_pos h]
theorem ad_tr_114 {A : ad_Ar} {S : List Int} {i : Int} (h : ad_sg S i = 114) : ad_t_run A S i = some (ad_rp A) := by unfold ad_t_run; rw [if_neg (by omega), if_neg (by omega), if_neg (by omega), if_neg (by omega), if_pos h]
theorem ad_tr_99 {A : ad_Ar} {S : List Int} {i : Int} (h : ad_sg S i = 99) : ad_t_run A S i = some (ad_gc A) := by unfold ad_t_run; rw [if_neg (by omega), if_neg (by omega), if_neg (by omega), if_neg (by omega), if_neg (by omega), if_pos h]
theorem ad_tr_120 {A : ad_Ar} {S : List Int} {i : Int} (h : ad_sg S i = 120) : ad_t_run A S i = ad_t_breaks A (ad_dg S (i + 1)) (10 * ad_dg S (i + 2) + ad_dg S (i + 3)) (ad_sg S (i + 4) - 97) := by unfold ad_t_run; rw [if_neg (by omega), if_neg (by omega), if_neg (by omega), if_neg (by omega), if_neg (by omega), if_neg (by omega), if_pos h]
abbrev ad_K7s : List Nat := [21, 28, 29, 30, 31, 32, 33]
abbrev ad_J7s : List Nat := [15, 16, 18, 19]
/-- what a statement leaves -/
def ad_sq8 (σ : ad_Mem) (A : ad_Ar) (S : List Int) (p : Int) (x : Value) (m : ad_Mem) : Prop := x = ad_pv ((ad_t_run A S p).isSome = true) ∧ ad_f8 ad_K7s ad_J7s σ m ∧ (m 8 0 15 = ad_pb S p ∧ m 8 0 16 = 0) ∧ ad_ra (m 21 0) ((ad_t_run A S p).getD A) ∧ ad_wA ((ad_t_run A S p).getD A)
theorem ad_sq8_yes {σ m : ad_Mem} {A B : ad_Ar} {S : List Int} {p : Int} (e : ad_t_run A S p = some B) (hf : ad_f8 ad_K7s ad_J7s σ m) (hu : ad_ru m (ad_pb S p, 0)) (hr : ad_ra (m 21 0) B) (hw : ad_wA B) : ad_sq8 σ A S p (ad_iv 1) m := by
  unfold ad_sq8; rw [e]; exact ⟨ad_pv_t rfl, hf, hu.1, hr, hw⟩
theorem ad_sq8_no {σ m : ad_Mem} {A : ad_Ar} {S : List Int} {p : Int} (e : ad_t_run A S p = none) (hw : ad_wA A) (h : ad_rw σ m S (ad_pb S p, 0) A) : ad_sq8 σ A S p (ad_iv 0) m := by
  unfold ad_sq8; rw [e]; exact ⟨ad_pv_f (fun z => by cases z), h.1.mono (by decide) (by decide), h.2.2.1.1, h.2.2.2, hw⟩
theorem ad_ru.fr {σ m : ad_Mem} {u : Int × Int} {ks js : List Nat} (h : ad_ru σ u) (hf : ad_f8 ks js σ m) (h1 : 15 ∉ js) (h2 : 16 ∉ js) : ad_ru m u := by
  unfold ad_ru; rw [hf.2 0 15 h1, hf.2 0 16 h2]; exact h
theorem ad_th {H : Nat → Bool} {b : Int} (hb : -1 ≤ b) : (ad_lk b = -9 ∨ (0 ≤ ad_lk b ∧ H (ad_lk b).toNat = true)) ↔ (b = -1 ∨ (0 ≤ b ∧ H b.toNat = true)) := by
  by_cases h : b = -1
  · exact ⟨fun _ => Or.inl h, fun _ => Or.inl ((ad_lk_no hb).mpr h)⟩
  · rw [ad_lk_ge h]
    exact ⟨fun z => z.elim (fun z => by omega) Or.inr, fun z => z.elim (fun z => absurd z h) Or.inr⟩
theorem ad_cd {H : Nat → Bool} {a b : Int} {c : Nat} (ha : -1 ≤ a) (hb : -1 ≤ b) : ((a = -1 ∨ (0 ≤ a ∧ H a.toNat = true)) ∧ (b = -1 ∨ (a ≠ -1 ∧ a ≠ b ∧ (0 ≤ b ∧ H b.toNat = true))) ∧ c < 10) ↔ ((ad_lk a = -9 ∨ (0 ≤ ad_lk a ∧ H (ad_lk a).toNat = true)) ∧ (ad_lk b = -9 ∨ ((0 ≤ ad_lk b ∧ H (ad_lk b).toNat = true) ∧ ad_lk a ≠ -9 ∧ ad_lk a ≠ ad_lk b)) ∧ c < 10) := by
  rw [ad_th ha]
  by_cases h : b = -1
  · have h9 := (ad_lk_no hb).mpr h
    exact ⟨fun z => ⟨z.1, Or.inl h9, z.2.2⟩, fun z => ⟨z.1, Or.inl h, z.2.2⟩⟩
  · rw [ad_lk_ge h]
    by_cases h2 : a = -1
    · have h9 := (ad_lk_no ha).mpr h2
      exact ⟨fun z => ⟨z.1, z.2.1.elim (fun q => absurd q h) (fun q => absurd h2 q.1), z.2.2⟩, fun z => ⟨z.1, z.2.1.elim (fun q => by omega) (fun q => absurd h9 q.2.1), z.2.2⟩⟩
    · rw [ad_lk_ge h2]
      exact ⟨fun z => ⟨z.1, z.2.1.elim (fun q => absurd q h) (fun q => Or.inr ⟨q.2.2, by omega, q.2.1⟩), z.2.2⟩, fun z => ⟨z.1, z.2.1.elim (fun q => by omega) (fun q => Or.inr ⟨h2, q.2.2, q.1⟩), z.2.2⟩⟩
theorem ad_lf_go {S : List Int} {a : Int} {k : Nat} (h1 : 1 ≤ ad_lf S a) (hk : (k : Int) ≤ ad_lf S a) (h : k = 0 ∨ (k < 12 ∧ ad_isL (ad_sg S (a + (k : Int))))) : (k : Int) < ad_lf S a ∧ ad_s1 S 108 (a + (k : Int), 0) = (a + ((k + 1 : Nat) : Int), 0) ∧ ad_ft S 108 (a + (k : Int)) ≠ 0 := by
  have hlf := ad_lf_ge S a
  have hkl : (k : Int) < ad_lf S a := by
    rcases h with z | ⟨z1, z3⟩
    · omega
    · rcases Int.lt_or_le (k : Int) (ad_lf S a) with q | q
      · exact q
      · have hq : (k : Int) = ad_lf S a := by omega
        have := ad_lf_max (S := S) (a := a) (by omega)
        rw [← hq] at this; exact absurd z3 this
  have his := hlf.2.2 k (by omega) hkl
  have e : ad_ft S 108 (a + (k : Int)) = 1 := by rw [ad_ft_L, if_pos his]
  refine ⟨hkl, ?_, by omega⟩
  rw [ad_s1_go (by omega), e, show a + ((k + 1 : Nat) : Int) = a + (k : Int) + 1 by omega]
theorem ad_lf_stop {S : List Int} {a : Int} {k : Nat} (hk : (k : Int) ≤ ad_lf S a) (h : 12 ≤ k ∨ ¬ ad_isL (ad_sg S (a + (k : Int)))) : (k : Int) = ad_lf S a := by
  have hlf := ad_lf_ge S a
  rcases Int.lt_or_le (k : Int) (ad_lf S a) with q | q
  · have := hlf.2.2 k (by omega) q
    rcases h with z | z
    · omega
    · exact absurd this z
  · omega
theorem ad_ra_dmg {a : Nat → Int} {A : ad_Ar} (hr : ad_ra a A) (hw : ad_wA A) {v p : Nat} {y : Int} (vH : ad_aH A v = true) (vB : ad_aB A v = -1) (hp : p < (ad_aL A v).length) (hy : 0 ≤ y ∧ y ≤ 7) : ad_ra (ad_u1 a (50 * v + 6 + p) y) (ad_dmg A v p y) := by
  have v10 := hr.H _ vH
  have vl := hr.1.2 v vH
  have hvv := hr.2.2.2.2.1 v vH
  have hv3 := hvv.2.2.1 vB
  have hL1 : ad_aL (ad_dmg A v p y) v = (ad_aL A v).set p y := (ad_L1_whole hw.S vH vB).trans (if_pos rfl)
  refine ad_ra_set v v10 hr ⟨Nat.le_refl _, hr.1.1⟩ (fun u hu _ => hu) (by rw [ad_u1_ne _ _ (by omega)]; exact hr.2.1.1) (fun c _ _ h => by rw [ad_u1_ne _ _ (by omega)]) (fun c h1 h2 => ?_) (fun u hu => ⟨rfl, rfl, rfl, rfl, rfl, rfl⟩) (fun u hu hH => ⟨?_, fun hB => (ad_L1_whole hw.S hH hB).trans (if_neg hu)⟩) ⟨rfl, rfl, rfl, rfl⟩ (by rw [ad_u1_ne _ _ (by omega)]; exact hr.2.2.1 v v10) (fun _ => by rw [ad_u1_ne _ _ (by omega), ad_u1_ne _ _ (by omega)]; exact hr.2.2.2.1 v vl.1) (fun _ => ⟨vl.1, by rw [hL1, List.length_set]; exact vl.2.1, vl.2.2, by rw [ad_u1_ne _ _ (by omega)]; exact hvv.1, by rw [ad_u1_ne _ _ (by omega)]; exact hvv.2.1, fun _ => ⟨by rw [ad_u1_ne _ _ (by omega), hL1, List.length_set]; exact hv3.1, fun j hj => ?_⟩, fun z => absurd vB z⟩)
  · unfold ad_u1; split
    · constructor <;> omega
    · exact hr.2.2.2.2.2 c (by omega)
  · have h1 := (ad_L1_ok hw (v := v) (p := p) (x := y) (by omega) _ u hH (Nat.le_refl _)).1
    have h2 : (ad_aL (ad_dmg A v p y) u).length = (ad_aL A u).length := h1
    rw [h2]; exact (hr.1.2 u hH).2.1
  · rw [hL1, List.length_set] at hj
    rw [hL1]
    by_cases hjp : j = p
    · subst hjp; rw [ad_u1_eq, List.getD_eq_getElem?_getD, List.getElem?_set_self hj]; rfl
    · rw [ad_u1_ne _ _ (by omega), hv3.2 j hj, List.getD_eq_getElem?_getD, List.getD_eq_getElem?_getD, List.getElem?_set_ne (fun z => hjp z.symm)]
theorem ad_ra_top {a : Nat → Int} {A : ad_Ar} (hr : ad_ra a A) {h v : Int} (hh : 0 ≤ h ∧ h < 4) (hv : -1 ≤ v ∧ v ≤ 9) : ad_ra (ad_u1 a (501 + h.toNat) (ad_lk v)) (ad_hd A (ad_eh (ad_aE A) h v) (ad_aK A) (ad_aF A) (ad_aN A)) := by
  have hl := ad_lk_rng (v := v) (by omega)
  refine ad_ra_hd hr (fun i h1 h2 => ad_u1_ne _ _ (by omega)) (fun q hq => ?_) ⟨by rw [ad_u1_ne _ _ (by omega)]; exact hr.2.1.2.2.1, by rw [ad_u1_ne _ _ (by omega)]; exact hr.2.1.2.2.2.1, by rw [ad_u1_ne _ _ (by omega)]; exact hr.2.1.2.2.2.2⟩ (fun i hi => ?_)
  · unfold ad_eh
    by_cases hqh : q = h.toNat
    · rw [if_pos hqh, hqh, ad_u1_eq]
    · rw [if_neg hqh, ad_u1_ne _ _ (by omega)]; exact hr.2.1.2.1 q hq
  · unfold ad_u1; split
    · constructor <;> omega
    · exact hr.2.2.2.2.2 i hi
theorem ad_wA_top {A : ad_Ar} (hw : ad_wA A) (hH : ∀ v, ad_aH A v = true → v < 10) {h v : Int} (hh : 0 ≤ h ∧ h < 4) (hv : v = -1 ∨ (0 ≤ v ∧ ad_aH A v.toNat = true)) : ad_wA (ad_hd A (ad_eh (ad_aE A) h v) (ad_aK A) (ad_aF A) (ad_aN A)) := by
  refine ad_wA_hd hw (fun q hq => ?_) (fun q hq => by unfold ad_eh; rw [if_neg (by omega)]; exact hw.2.2.2.2.2.2.2.2.2.2.2 q hq) hw.2.2.2.2.2.2.2.1
  unfold ad_eh
  by_cases hqh : q = h.toNat
  · rw [if_pos hqh]
    rcases hv with z | ⟨z1, z2⟩
    · exact ⟨by omega, fun y => absurd z y⟩
    · have := hH _ z2
      exact ⟨by omega, fun _ => ⟨by omega, z2⟩⟩
  · rw [if_neg hqh]; exact hw.2.2.2.2.2.2.1 q hq
theorem ad_spl_len {S : List Int} {i : Int} {n : Nat} : (ad_spl S i n).length = n := by unfold ad_spl; simp
theorem ad_cd_rng {A : ad_Ar} (hw : ad_wA A) {a b : Int} (ha : -1 ≤ a) (hb : -1 ≤ b) (h : (a = -1 ∨ (0 ≤ a ∧ ad_aH A a.toNat = true)) ∧ (b = -1 ∨ (a ≠ -1 ∧ a ≠ b ∧ (0 ≤ b ∧ ad_aH A b.toNat = true))) ∧ ad_aC A < 10) : (-1 ≤ a ∧ a < ad_aC A) ∧ (-1 ≤ b ∧ b < ad_aC A) := by
  obtain ⟨h1, h2, h3⟩ := h
  refine ⟨⟨ha, ?_⟩, hb, ?_⟩
  · rcases h1 with z | ⟨z1, z2⟩
    · omega
    · have := hw.2.1 _ z2; omega
  · rcases h2 with z | ⟨_, _, z1, z2⟩
    · omega
    · have := hw.2.1 _ z2; omega
theorem c_X8_st1 {g : ad_G} {d : Nat} {σ : ad_Mem} {S : List Int} {A : ad_Ar} {p : Int} (ht : ad_tp8 σ S) (hr : ad_ra (σ 21 0) A) (hw9 : ad_wA A) (hp : 0 ≤ p ∧ p ≤ 96) (hu : σ 8 0 15 = p ∧ σ 8 0 16 = 0) (hfi : ad_fi S p = -1) (h16d : 16 ≤ d) : ad_Q g mX8_statement d [ad_rf g 8 0, ad_iv 1] σ (ad_sq8 σ A S p) := by
  have h96 := ht.2.1
  have hc10 := hr.1.1
  refine ad_M1 (k := 7) rfl (by simp [Value.category]) rfl (Nat.le_of_ble_eq_true rfl) ?_
  simp only [List.map_cons, List.map_nil, List.replicate, List.cons_append, List.nil_append]
  refine ad_aload_n dX8_statement_0 rfl ?_
  refine gf_X8_157 rfl dX8_statement_1 ?_
  rw [hu.1]
  refine ad_aload_n dX8_statement_4 rfl ?_
  refine gf_X8_154 rfl dX8_statement_5 ?_
  rw [ht.1]
  refine ad_icmp_ge 23 dX8_statement_8 (by decide) (by omega) (by omega) (fun h8 => ?_) (fun h8 => ?_)
  · skip
    refine ad_iconst dX8_statement_23 ?_
    refine ad_istore_n dX8_statement_24 (by decide) rfl (by dsimp only [ad_set]) ?_
    refine ad_iload_n dX8_statement_25 rfl ?_
    refine ad_bipush dX8_statement_26 rfl ?_
    refine ad_icmp_eq 81 dX8_statement_28 (by decide) (by omega) (by omega) (fun h28 => ?_) (fun h28 => ?_)
    · exfalso; omega
    · show ad_R _ _ _ _ 31 _ _ _
      refine ad_iload_n dX8_statement_31 rfl ?_
      refine ad_bipush dX8_statement_32 rfl ?_
      refine ad_icmp_eq 81 dX8_statement_34 (by decide) (by omega) (by omega) (fun h34 => ?_) (fun h34 => ?_)
      · exfalso; omega
      · show ad_R _ _ _ _ 37 _ _ _
        refine ad_iload_n dX8_statement_37 rfl ?_
        refine ad_bipush dX8_statement_38 rfl ?_
        refine ad_icmp_eq 81 dX8_statement_40 (by decide) (by omega) (by omega) (fun h40 => ?_) (fun h40 => ?_)
        · exfalso; omega
        · show ad_R _ _ _ _ 43 _ _ _
          refine ad_iload_n dX8_statement_43 rfl ?_
          refine ad_bipush dX8_statement_44 rfl ?_
          refine ad_icmp_eq 81 dX8_statement_46 (by decide) (by omega) (by omega) (fun h46 => ?_) (fun h46 => ?_)
          · exfalso; omega
          · show ad_R _ _ _ _ 49 _ _ _
            refine ad_iload_n dX8_statement_49 rfl ?_
            refine ad_bipush dX8_statement_50 rfl ?_
            refine ad_icmp_eq 81 dX8_statement_52 (by decide) (by omega) (by omega) (fun h52 => ?_) (fun h52 => ?_)
            · exfalso; omega
            · show ad_R _ _ _ _ 55 _ _ _
              refine ad_iload_n dX8_statement_55 rfl ?_
              refine ad_bipush dX8_statement_56 rfl ?_
              refine ad_icmp_eq 81 dX8_statement_58 (by decide) (by omega) (by omega) (fun h58 => ?_) (fun h58 => ?_)
              · exfalso; omega
              · show ad_R _ _ _ _ 61 _ _ _
                refine ad_iload_n dX8_statement_61 rfl ?_
                refine ad_bipush dX8_statement_62 rfl ?_
                refine ad_icmp_eq 81 dX8_statement_64 (by decide) (by omega) (by omega) (fun h64 => ?_) (fun h64 => ?_)
                · exfalso; omega
                · show ad_R _ _ _ _ 67 _ _ _
                  exfalso
                  have := (ad_fe_6 (S := S) (p := p) (m := 0) (by
                    rw [ad_sg_out (by omega)]; rfl) hp.1).2 hfi
                  have := (Prod.mk.inj this).2
                  omega
  · show ad_R _ _ _ _ 11 _ _ _
    have hlt : 0 ≤ p ∧ p < S.length := by omega
    have hsr := ad_sg_rng ht.2.2.2 p
    refine ad_aload_n dX8_statement_11 rfl ?_
    refine gf_X8_25 rfl dX8_statement_12 ?_
    refine ad_aload_n dX8_statement_15 rfl ?_
    refine gf_X8_157 rfl dX8_statement_16 ?_
    rw [hu.1]
    refine ad_ialj (p.toNat) dX8_statement_19 (by decide) ⟨by decide, by decide⟩ (by omega) (by show _ < 96; omega) (ad_sg_t ht hlt) ?_
    refine ad_goto 24 dX8_statement_20 (by decide) ?_
    refine ad_istore_n dX8_statement_24 (by decide) rfl (by dsimp only [ad_set]) ?_
    refine ad_iload_n dX8_statement_25 rfl ?_
    refine ad_bipush dX8_statement_26 rfl ?_
    refine ad_icmp_eq 81 dX8_statement_28 (by decide) (by omega) (by omega) (fun h28 => ?_) (fun h28 => ?_)
    · skip
      refine ad_aload_n dX8_statement_81 rfl ?_
      refine ad_dup dX8_statement_82 rfl ?_
      refine gf_X8_157 rfl dX8_statement_83 ?_
      rw [hu.1]
      refine ad_iconst dX8_statement_86 ?_
      refine ad_iadd dX8_statement_87 ?_
      refine pf_X8_157 rfl dX8_statement_88 ?_
      have w0 := ad_rw_0 (σ := σ) ht hr hp hu.2
      refine ad_iload_n dX8_statement_91 rfl ?_
      refine ad_bipush dX8_statement_92 rfl ?_
      refine ad_icmp_ne 283 dX8_statement_94 (by decide) (by omega) (by omega) (fun h94 => ?_) (fun h94 => ?_)
      · exfalso; omega
      · show ad_R _ _ _ _ 97 _ _ _
        obtain ⟨t1, t2, hl1, hfe⟩ := ad_fi_118 hp.1 hfi h28
        have hda := ad_dg_rng S (p + 1)
        have hdb := ad_dg_rng S (p + 2)
        have hla := ad_lk_rng (v := ad_dg S (p + 1)) (by omega)
        have hlb := ad_lk_rng (v := ad_dg S (p + 2)) (by omega)
        refine ad_aload_n dX8_statement_97 rfl ?_
        refine ad_cv0q rfl cl_X8_169 dX8_statement_98 (c_X8_orN w0 (by omega)) (by omega) (by show _ < 1; omega) (Nat.le_of_ble_eq_true rfl) (fun x98 s98 q98 => ?_)
        obtain ⟨v98, rfl, b98, e98, w98⟩ := q98
        have hv98 : v98 = ad_lk (ad_dg S (p + 1)) := e98 rfl (ad_ne1 t1.1)
        subst hv98
        rw [t1.2] at w98
        refine ad_istore_n dX8_statement_101 (by decide) rfl (by dsimp only [ad_set]) ?_
        refine ad_aload_n dX8_statement_102 rfl ?_
        refine ad_cv0q rfl cl_X8_169 dX8_statement_103 (c_X8_orN w98 (by omega)) (by omega) (by show _ < 1; omega) (Nat.le_of_ble_eq_true rfl) (fun x103 s103 q103 => ?_)
        obtain ⟨v103, rfl, b103, e103, w103⟩ := q103
        have hv103 : v103 = ad_lk (ad_dg S (p + 2)) := e103 rfl (ad_ne1 t2.1)
        subst hv103
        rw [t2.2] at w103
        have h0 : ¬ ((ad_lk (ad_dg S (p + 1)) = -9 ∨ (0 ≤ ad_lk (ad_dg S (p + 1)) ∧ ad_aH A (ad_lk (ad_dg S (p + 1))).toNat = true)) ∧ (ad_lk (ad_dg S (p + 2)) = -9 ∨ ((0 ≤ ad_lk (ad_dg S (p + 2)) ∧ ad_aH A (ad_lk (ad_dg S (p + 2))).toNat = true) ∧ ad_lk (ad_dg S (p + 1)) ≠ -9 ∧ ad_lk (ad_dg S (p + 1)) ≠ ad_lk (ad_dg S (p + 2)))) ∧ ad_aC A < 10) → ad_R g mX8_statement d (ad_ZQ mX8_statement (fun x m => ad_sq8 σ A S p x m)) 168 [some (ad_rf g 8 0), some (ad_iv 1), some (ad_iv (ad_sg S p)), some (ad_iv (ad_lk (ad_dg S (p + 1)))), some (ad_iv (ad_lk (ad_dg S (p + 2)))), none, none, none, none] [ad_iv 0] s103 := by
          intro hcd
          have hl : ∀ (n : Nat) (k : Nat) (o : Option Value) (m : ad_Mem), (k ≤ 12) → ((k : Int) ≤ ad_lf S (p + 3)) → (ad_rw σ m S (p + 3 + (k : Int), 0) A) → (((13 - k : Nat) : Int)).toNat ≤ n → ad_R g mX8_statement d (ad_ZQ mX8_statement (fun x m => ad_sq8 σ A S p x m)) 196 [some (ad_rf g 8 0), some (ad_iv 1), some (ad_iv (ad_sg S p)), some (ad_iv (ad_lk (ad_dg S (p + 1)))), some (ad_iv (ad_lk (ad_dg S (p + 2)))), some (ad_iv 0), some (ad_iv (-9)), some (ad_iv (k : Int)), o] [] m := by
            intro n
            induction n with
            | zero =>
              intro k o m hk12 hk hw hn
              refine ad_iload dX8_statement_196 rfl ?_
              exfalso; omega
            | succ n ih =>
              intro k o m hk12 hk hw hn
              refine ad_iload dX8_statement_196 rfl ?_
              refine ad_if_eq 226 dX8_statement_198 (by decide) (by omega) (fun h198 => ?_) (fun h198 => ?_)
              · skip
                have hst := ad_lf_go hl1 hk (Or.inl (by omega))
                refine ad_aload_n dX8_statement_226 rfl ?_
                refine ad_bipush dX8_statement_227 rfl ?_
                refine ad_bipush dX8_statement_229 rfl ?_
                refine ad_cv2q rfl cl_X8_166 dX8_statement_231 (c_X8_tkL hw (by omega)) (by omega) (by show _ < 1; omega) (Nat.le_of_ble_eq_true rfl) (fun x231 s231 q231 => ?_)
                obtain ⟨v231, rfl, b231, e231, w231⟩ := q231
                refine ad_istore dX8_statement_234 (by decide) rfl (by dsimp only [ad_set]) ?_
                rw [hst.2.1] at w231
                refine ad_iload dX8_statement_236 rfl ?_
                refine ad_bipush dX8_statement_238 rfl ?_
                refine ad_icmp_eq 251 dX8_statement_240 (by decide) (by omega) (by omega) (fun h240 => ?_) (fun h240 => ?_)
                · skip
                  refine ad_iinc dX8_statement_251 rfl (by decide) rfl (by dsimp only [ad_set]) ?_
                  refine ad_goto 196 dX8_statement_254 (by decide) ?_
                  exact ih (k + 1) _ _ (by have := hst.1; omega) (by have := hst.1; omega) w231 (by omega)
                · exfalso; omega
              · show ad_R _ _ _ _ 201 _ _ _
                refine ad_iload dX8_statement_201 rfl ?_
                refine ad_bipush dX8_statement_203 rfl ?_
                refine ad_icmp_ge 257 dX8_statement_205 (by decide) (by omega) (by omega) (fun h205 => ?_) (fun h205 => ?_)
                · skip
                  refine ad_aload_n dX8_statement_257 rfl ?_
                  refine ad_bipush dX8_statement_258 rfl ?_
                  refine ad_bipush dX8_statement_260 rfl ?_
                  refine ad_cv2q rfl cl_X8_166 dX8_statement_262 (c_X8_tk9 hw (by omega)) (by omega) (by show _ < 1; omega) (Nat.le_of_ble_eq_true rfl) (fun x262 s262 q262 => ?_)
                  obtain ⟨z262, rfl, b262, w262⟩ := q262
                  refine ad_pop dX8_statement_265 rfl ?_
                  refine ad_iload dX8_statement_266 rfl ?_
                  refine ad_bipush dX8_statement_268 rfl ?_
                  refine ad_icmp_eq 280 dX8_statement_270 (by decide) (by omega) (by omega) (fun h270 => ?_) (fun h270 => ?_)
                  · skip
                    refine ad_iload dX8_statement_280 rfl ?_
                    have hkl := ad_lf_stop hk (Or.inl (by omega))
                    rw [hkl, hfe] at w262
                    exact ad_retn dX8_statement_282 rfl rfl (ad_sq8_no (by rw [ad_tr_118 h28]; unfold ad_t_comes; rw [if_neg (fun z => hcd ((ad_cd (by omega) (by omega)).mp z))]) hw9 w262)
                  · exfalso; omega
                · show ad_R _ _ _ _ 208 _ _ _
                  refine ad_aload_n dX8_statement_208 rfl ?_
                  refine gf_X8_160 rfl dX8_statement_209 ?_
                  rw [hw.2.2.1.1.2]
                  refine ad_if_ne 257 dX8_statement_212 (by decide) (show ad_rng 0 by decide) (fun h212 => ?_) (fun h212 => ?_)
                  · exfalso; exact h212 rfl
                  · show ad_R _ _ _ _ 215 _ _ _
                    refine ad_aload_n dX8_statement_215 rfl ?_
                    refine ad_bipush dX8_statement_216 rfl ?_
                    refine ad_bipush dX8_statement_218 rfl ?_
                    refine ad_cv2f rfl cl_X8_163 dX8_statement_220 (c_X8_isAt hw.2.1 hw.2.2.1.1.1 hw.2.2.1.2.1 (by decide)) (by omega) (by show _ < 1; omega) (Nat.le_of_ble_eq_true rfl) ?_
                    refine ad_ifp_eq 257 dX8_statement_223 (by decide) (fun h223 => ?_) (fun h223 => ?_)
                    · skip
                      refine ad_aload_n dX8_statement_257 rfl ?_
                      refine ad_bipush dX8_statement_258 rfl ?_
                      refine ad_bipush dX8_statement_260 rfl ?_
                      refine ad_cv2q rfl cl_X8_166 dX8_statement_262 (c_X8_tk9 hw (by omega)) (by omega) (by show _ < 1; omega) (Nat.le_of_ble_eq_true rfl) (fun x262 s262 q262 => ?_)
                      obtain ⟨z262, rfl, b262, w262⟩ := q262
                      refine ad_pop dX8_statement_265 rfl ?_
                      refine ad_iload dX8_statement_266 rfl ?_
                      refine ad_bipush dX8_statement_268 rfl ?_
                      refine ad_icmp_eq 280 dX8_statement_270 (by decide) (by omega) (by omega) (fun h270 => ?_) (fun h270 => ?_)
                      · skip
                        refine ad_iload dX8_statement_280 rfl ?_
                        have hkl := ad_lf_stop hk (Or.inr (by unfold ad_isL; omega))
                        rw [hkl, hfe] at w262
                        exact ad_retn dX8_statement_282 rfl rfl (ad_sq8_no (by rw [ad_tr_118 h28]; unfold ad_t_comes; rw [if_neg (fun z => hcd ((ad_cd (by omega) (by omega)).mp z))]) hw9 w262)
                      · exfalso; omega
                    · show ad_R _ _ _ _ 226 _ _ _
                      have hst := ad_lf_go hl1 hk (Or.inr ⟨by omega, by unfold ad_isL; omega⟩)
                      refine ad_aload_n dX8_statement_226 rfl ?_
                      refine ad_bipush dX8_statement_227 rfl ?_
                      refine ad_bipush dX8_statement_229 rfl ?_
                      refine ad_cv2q rfl cl_X8_166 dX8_statement_231 (c_X8_tkL hw (by omega)) (by omega) (by show _ < 1; omega) (Nat.le_of_ble_eq_true rfl) (fun x231 s231 q231 => ?_)
                      obtain ⟨v231, rfl, b231, e231, w231⟩ := q231
                      refine ad_istore dX8_statement_234 (by decide) rfl (by dsimp only [ad_set]) ?_
                      rw [hst.2.1] at w231
                      refine ad_iload dX8_statement_236 rfl ?_
                      refine ad_bipush dX8_statement_238 rfl ?_
                      refine ad_icmp_eq 251 dX8_statement_240 (by decide) (by omega) (by omega) (fun h240 => ?_) (fun h240 => ?_)
                      · skip
                        refine ad_iinc dX8_statement_251 rfl (by decide) rfl (by dsimp only [ad_set]) ?_
                        refine ad_goto 196 dX8_statement_254 (by decide) ?_
                        exact ih (k + 1) _ _ (by have := hst.1; omega) (by have := hst.1; omega) w231 (by omega)
                      · exfalso; omega
          refine ad_istore dX8_statement_168 (by decide) rfl (by dsimp only [ad_set]) ?_
          refine ad_iload_n dX8_statement_170 rfl ?_
          refine ad_if_eq 189 dX8_statement_171 (by decide) (by omega) (fun h171 => ?_) (fun h171 => ?_)
          · exfalso; omega
          · show ad_R _ _ _ _ 174 _ _ _
            refine ad_iload dX8_statement_174 rfl ?_
            refine ad_if_eq 189 dX8_statement_176 (by decide) (by omega) (fun h176 => ?_) (fun h176 => ?_)
            · skip
              refine ad_bipush dX8_statement_189 rfl ?_
              refine ad_istore dX8_statement_191 (by decide) rfl (by dsimp only [ad_set]) ?_
              refine ad_iconst dX8_statement_193 ?_
              refine ad_istore dX8_statement_194 (by decide) rfl (by dsimp only [ad_set]) ?_
              exact hl _ 0 none _ (by omega) (by show (0 : Int) ≤ _; omega) (by rw [show p + 3 + ((0 : Nat) : Int) = p + 3 by omega]; exact w103) (Nat.le_refl _)
            · exfalso; omega
        have h1 : ((ad_lk (ad_dg S (p + 1)) = -9 ∨ (0 ≤ ad_lk (ad_dg S (p + 1)) ∧ ad_aH A (ad_lk (ad_dg S (p + 1))).toNat = true)) ∧ (ad_lk (ad_dg S (p + 2)) = -9 ∨ ((0 ≤ ad_lk (ad_dg S (p + 2)) ∧ ad_aH A (ad_lk (ad_dg S (p + 2))).toNat = true) ∧ ad_lk (ad_dg S (p + 1)) ≠ -9 ∧ ad_lk (ad_dg S (p + 1)) ≠ ad_lk (ad_dg S (p + 2)))) ∧ ad_aC A < 10) → ad_R g mX8_statement d (ad_ZQ mX8_statement (fun x m => ad_sq8 σ A S p x m)) 168 [some (ad_rf g 8 0), some (ad_iv 1), some (ad_iv (ad_sg S p)), some (ad_iv (ad_lk (ad_dg S (p + 1)))), some (ad_iv (ad_lk (ad_dg S (p + 2)))), none, none, none, none] [ad_iv 1] s103 := by
          intro hcd
          have hpq := ad_cd_rng hw9 (ad_dg_rng S (p + 1)).1 (ad_dg_rng S (p + 2)).1 ((ad_cd (c := ad_aC A) (by omega) (by omega)).mpr hcd)
          have hl : ∀ (n : Nat) (k : Nat) (o : Option Value) (m : ad_Mem), (k ≤ 12) → ((k : Int) ≤ ad_lf S (p + 3)) → (ad_f8 [21] [15, 16] σ m) → (ad_rw m m S (p + 3 + (k : Int), 0) (ad_nv A (ad_spl S (p + 3) k) 0 (ad_dg S (p + 1)) (ad_dg S (p + 2)))) → (((13 - k : Nat) : Int)).toNat ≤ n → ad_R g mX8_statement d (ad_ZQ mX8_statement (fun x m => ad_sq8 σ A S p x m)) 196 [some (ad_rf g 8 0), some (ad_iv 1), some (ad_iv (ad_sg S p)), some (ad_iv (ad_lk (ad_dg S (p + 1)))), some (ad_iv (ad_lk (ad_dg S (p + 2)))), some (ad_iv 1), some (ad_iv (ad_aC A : Int)), some (ad_iv (k : Int)), o] [] m := by
            intro n
            induction n with
            | zero =>
              intro k o m hk12 hk hf hw hn
              refine ad_iload dX8_statement_196 rfl ?_
              exfalso; omega
            | succ n ih =>
              intro k o m hk12 hk hf hw hn
              refine ad_iload dX8_statement_196 rfl ?_
              refine ad_if_eq 226 dX8_statement_198 (by decide) (by omega) (fun h198 => ?_) (fun h198 => ?_)
              · skip
                have hst := ad_lf_go hl1 hk (Or.inl (by omega))
                refine ad_aload_n dX8_statement_226 rfl ?_
                refine ad_bipush dX8_statement_227 rfl ?_
                refine ad_bipush dX8_statement_229 rfl ?_
                refine ad_cv2q rfl cl_X8_166 dX8_statement_231 (c_X8_tkL hw (by omega)) (by omega) (by show _ < 1; omega) (Nat.le_of_ble_eq_true rfl) (fun x231 s231 q231 => ?_)
                obtain ⟨v231, rfl, b231, e231, w231⟩ := q231
                refine ad_istore dX8_statement_234 (by decide) rfl (by dsimp only [ad_set]) ?_
                rw [hst.2.1] at w231
                refine ad_iload dX8_statement_236 rfl ?_
                refine ad_bipush dX8_statement_238 rfl ?_
                refine ad_icmp_eq 251 dX8_statement_240 (by decide) (by omega) (by omega) (fun h240 => ?_) (fun h240 => ?_)
                · exfalso; omega
                · show ad_R _ _ _ _ 243 _ _ _
                  refine ad_aload_n dX8_statement_243 rfl ?_
                  refine ad_iload dX8_statement_244 rfl ?_
                  refine ad_iload dX8_statement_246 rfl ?_
                  refine ad_cv2v rfl cl_X8_122 dX8_statement_248 (c_X8_adds hcd.2.2 w231.2.2.2 (by rw [ad_spl_len]; have := hst.1; omega) (by constructor <;> omega)) (by omega) (by show _ < 1; omega) (Nat.le_of_ble_eq_true rfl) (fun s248 q248 => ?_)
                  obtain ⟨f248, r248⟩ := q248
                  rw [e231 rfl hst.2.2, ← ad_spl_s] at r248
                  refine ad_iinc dX8_statement_251 rfl (by decide) rfl (by dsimp only [ad_set]) ?_
                  refine ad_goto 196 dX8_statement_254 (by decide) ?_
                  exact ih (k + 1) _ _ (by have := hst.1; omega) (by have := hst.1; omega) (hf.trans ((w231.1.mono (by decide) (by decide)).trans (f248.mono (by decide) (by decide)))) ⟨ad_f8.refl, w231.2.1.fr f248 (by decide) (by decide), w231.2.2.1.fr f248 (by decide) (by decide), r248⟩ (by omega)
              · show ad_R _ _ _ _ 201 _ _ _
                refine ad_iload dX8_statement_201 rfl ?_
                refine ad_bipush dX8_statement_203 rfl ?_
                refine ad_icmp_ge 257 dX8_statement_205 (by decide) (by omega) (by omega) (fun h205 => ?_) (fun h205 => ?_)
                · skip
                  have hkl := ad_lf_stop hk (Or.inl (by omega))
                  have hkn : k = (ad_lf S (p + 3)).toNat := by omega
                  refine ad_aload_n dX8_statement_257 rfl ?_
                  refine ad_bipush dX8_statement_258 rfl ?_
                  refine ad_bipush dX8_statement_260 rfl ?_
                  refine ad_cv2q rfl cl_X8_166 dX8_statement_262 (c_X8_tk9 hw (by omega)) (by omega) (by show _ < 1; omega) (Nat.le_of_ble_eq_true rfl) (fun x262 s262 q262 => ?_)
                  obtain ⟨z262, rfl, b262, w262⟩ := q262
                  refine ad_pop dX8_statement_265 rfl ?_
                  rw [hkl, hfe] at w262
                  refine ad_iload dX8_statement_266 rfl ?_
                  refine ad_bipush dX8_statement_268 rfl ?_
                  refine ad_icmp_eq 280 dX8_statement_270 (by decide) (by omega) (by omega) (fun h270 => ?_) (fun h270 => ?_)
                  · exfalso; omega
                  · show ad_R _ _ _ _ 273 _ _ _
                    refine ad_aload_n dX8_statement_273 rfl ?_
                    refine ad_iload dX8_statement_274 rfl ?_
                    refine ad_cv1q rfl cl_X8_126 dX8_statement_276 (c_X8_hashed (l := ad_spl S (p + 3) k) hw9 hcd.2.2 w262.2.2.2 (by rw [hkn]; exact ad_spl_ok hl1) (by omega) (by omega) (by omega)) (by omega) (by show _ < 1; omega) (Nat.le_of_ble_eq_true rfl) (fun x276 s276 q276 => ?_)
                    obtain ⟨rfl, f276, r276⟩ := q276
                    refine ad_pop dX8_statement_279 rfl ?_
                    refine ad_iload dX8_statement_280 rfl ?_
                    exact ad_retn dX8_statement_282 rfl rfl (ad_sq8_yes (by rw [ad_tr_118 h28]; unfold ad_t_comes; rw [if_pos ((ad_cd (by omega) (by omega)).mpr hcd), ← hkn]) ((hf.mono (by decide) (by decide)).trans ((w262.1.mono (by decide) (by decide)).trans (f276.mono (by decide) (by decide)))) (w262.2.2.1.fr f276 (by decide) (by decide)) r276 (ad_wA_add hw9 hcd.2.2 (by rw [hkn]; exact ad_spl_ok hl1) (by omega) (by omega)))
                · show ad_R _ _ _ _ 208 _ _ _
                  refine ad_aload_n dX8_statement_208 rfl ?_
                  refine gf_X8_160 rfl dX8_statement_209 ?_
                  rw [hw.2.2.1.1.2]
                  refine ad_if_ne 257 dX8_statement_212 (by decide) (show ad_rng 0 by decide) (fun h212 => ?_) (fun h212 => ?_)
                  · exfalso; exact h212 rfl
                  · show ad_R _ _ _ _ 215 _ _ _
                    refine ad_aload_n dX8_statement_215 rfl ?_
                    refine ad_bipush dX8_statement_216 rfl ?_
                    refine ad_bipush dX8_statement_218 rfl ?_
                    refine ad_cv2f rfl cl_X8_163 dX8_statement_220 (c_X8_isAt hw.2.1 hw.2.2.1.1.1 hw.2.2.1.2.1 (by decide)) (by omega) (by show _ < 1; omega) (Nat.le_of_ble_eq_true rfl) ?_
                    refine ad_ifp_eq 257 dX8_statement_223 (by decide) (fun h223 => ?_) (fun h223 => ?_)
                    · skip
                      have hkl := ad_lf_stop hk (Or.inr (by unfold ad_isL; omega))
                      have hkn : k = (ad_lf S (p + 3)).toNat := by omega
                      refine ad_aload_n dX8_statement_257 rfl ?_
                      refine ad_bipush dX8_statement_258 rfl ?_
                      refine ad_bipush dX8_statement_260 rfl ?_
                      refine ad_cv2q rfl cl_X8_166 dX8_statement_262 (c_X8_tk9 hw (by omega)) (by omega) (by show _ < 1; omega) (Nat.le_of_ble_eq_true rfl) (fun x262 s262 q262 => ?_)
                      obtain ⟨z262, rfl, b262, w262⟩ := q262
                      refine ad_pop dX8_statement_265 rfl ?_
                      rw [hkl, hfe] at w262
                      refine ad_iload dX8_statement_266 rfl ?_
                      refine ad_bipush dX8_statement_268 rfl ?_
                      refine ad_icmp_eq 280 dX8_statement_270 (by decide) (by omega) (by omega) (fun h270 => ?_) (fun h270 => ?_)
                      · exfalso; omega
                      · show ad_R _ _ _ _ 273 _ _ _
                        refine ad_aload_n dX8_statement_273 rfl ?_
                        refine ad_iload dX8_statement_274 rfl ?_
                        refine ad_cv1q rfl cl_X8_126 dX8_statement_276 (c_X8_hashed (l := ad_spl S (p + 3) k) hw9 hcd.2.2 w262.2.2.2 (by rw [hkn]; exact ad_spl_ok hl1) (by omega) (by omega) (by omega)) (by omega) (by show _ < 1; omega) (Nat.le_of_ble_eq_true rfl) (fun x276 s276 q276 => ?_)
                        obtain ⟨rfl, f276, r276⟩ := q276
                        refine ad_pop dX8_statement_279 rfl ?_
                        refine ad_iload dX8_statement_280 rfl ?_
                        exact ad_retn dX8_statement_282 rfl rfl (ad_sq8_yes (by rw [ad_tr_118 h28]; unfold ad_t_comes; rw [if_pos ((ad_cd (by omega) (by omega)).mpr hcd), ← hkn]) ((hf.mono (by decide) (by decide)).trans ((w262.1.mono (by decide) (by decide)).trans (f276.mono (by decide) (by decide)))) (w262.2.2.1.fr f276 (by decide) (by decide)) r276 (ad_wA_add hw9 hcd.2.2 (by rw [hkn]; exact ad_spl_ok hl1) (by omega) (by omega)))
                    · show ad_R _ _ _ _ 226 _ _ _
                      have hst := ad_lf_go hl1 hk (Or.inr ⟨by omega, by unfold ad_isL; omega⟩)
                      refine ad_aload_n dX8_statement_226 rfl ?_
                      refine ad_bipush dX8_statement_227 rfl ?_
                      refine ad_bipush dX8_statement_229 rfl ?_
                      refine ad_cv2q rfl cl_X8_166 dX8_statement_231 (c_X8_tkL hw (by omega)) (by omega) (by show _ < 1; omega) (Nat.le_of_ble_eq_true rfl) (fun x231 s231 q231 => ?_)
                      obtain ⟨v231, rfl, b231, e231, w231⟩ := q231
                      refine ad_istore dX8_statement_234 (by decide) rfl (by dsimp only [ad_set]) ?_
                      rw [hst.2.1] at w231
                      refine ad_iload dX8_statement_236 rfl ?_
                      refine ad_bipush dX8_statement_238 rfl ?_
                      refine ad_icmp_eq 251 dX8_statement_240 (by decide) (by omega) (by omega) (fun h240 => ?_) (fun h240 => ?_)
                      · exfalso; omega
                      · show ad_R _ _ _ _ 243 _ _ _
                        refine ad_aload_n dX8_statement_243 rfl ?_
                        refine ad_iload dX8_statement_244 rfl ?_
                        refine ad_iload dX8_statement_246 rfl ?_
                        refine ad_cv2v rfl cl_X8_122 dX8_statement_248 (c_X8_adds hcd.2.2 w231.2.2.2 (by rw [ad_spl_len]; have := hst.1; omega) (by constructor <;> omega)) (by omega) (by show _ < 1; omega) (Nat.le_of_ble_eq_true rfl) (fun s248 q248 => ?_)
                        obtain ⟨f248, r248⟩ := q248
                        rw [e231 rfl hst.2.2, ← ad_spl_s] at r248
                        refine ad_iinc dX8_statement_251 rfl (by decide) rfl (by dsimp only [ad_set]) ?_
                        refine ad_goto 196 dX8_statement_254 (by decide) ?_
                        exact ih (k + 1) _ _ (by have := hst.1; omega) (by have := hst.1; omega) (hf.trans ((w231.1.mono (by decide) (by decide)).trans (f248.mono (by decide) (by decide)))) ⟨ad_f8.refl, w231.2.1.fr f248 (by decide) (by decide), w231.2.2.1.fr f248 (by decide) (by decide), r248⟩ (by omega)
          refine ad_istore dX8_statement_168 (by decide) rfl (by dsimp only [ad_set]) ?_
          refine ad_iload_n dX8_statement_170 rfl ?_
          refine ad_if_eq 189 dX8_statement_171 (by decide) (by omega) (fun h171 => ?_) (fun h171 => ?_)
          · exfalso; omega
          · show ad_R _ _ _ _ 174 _ _ _
            refine ad_iload dX8_statement_174 rfl ?_
            refine ad_if_eq 189 dX8_statement_176 (by decide) (by omega) (fun h176 => ?_) (fun h176 => ?_)
            · exfalso; omega
            · show ad_R _ _ _ _ 179 _ _ _
              refine ad_aload_n dX8_statement_179 rfl ?_
              refine ad_iload_n dX8_statement_180 rfl ?_
              refine ad_iload dX8_statement_181 rfl ?_
              refine ad_cv2q rfl cl_X8_119 dX8_statement_183 (c_X8_comes (p := (ad_dg S (p + 1))) (q := (ad_dg S (p + 2))) hcd.2.2 w103.2.2.2 (by omega) (by omega)) (by omega) (by show _ < 1; omega) (Nat.le_of_ble_eq_true rfl) (fun x183 s183 q183 => ?_)
              obtain ⟨rfl, f183, r183⟩ := q183
              refine ad_goto 191 dX8_statement_186 (by decide) ?_
              refine ad_istore dX8_statement_191 (by decide) rfl (by dsimp only [ad_set]) ?_
              refine ad_iconst dX8_statement_193 ?_
              refine ad_istore dX8_statement_194 (by decide) rfl (by dsimp only [ad_set]) ?_
              exact hl _ 0 none _ (by omega) (by show (0 : Int) ≤ _; omega) ((w103.1.mono (by decide) (by decide)).trans (f183.mono (by decide) (by decide))) (by rw [show p + 3 + ((0 : Nat) : Int) = p + 3 by omega]; exact ⟨ad_f8.refl, w103.2.1.fr f183 (by decide) (by decide), w103.2.2.1.fr f183 (by decide) (by decide), r183⟩) (Nat.le_refl _)
        refine ad_istore dX8_statement_106 (by decide) rfl (by dsimp only [ad_set]) ?_
        refine ad_iload_n dX8_statement_108 rfl ?_
        refine ad_bipush dX8_statement_109 rfl ?_
        refine ad_icmp_eq 122 dX8_statement_111 (by decide) (by omega) (by omega) (fun h111 => ?_) (fun h111 => ?_)
        · skip
          refine ad_iload dX8_statement_122 rfl ?_
          refine ad_bipush dX8_statement_124 rfl ?_
          refine ad_icmp_eq 150 dX8_statement_126 (by decide) (by omega) (by omega) (fun h126 => ?_) (fun h126 => ?_)
          · skip
            refine ad_aload_n dX8_statement_150 rfl ?_
            refine gf_X8_9 rfl dX8_statement_151 ?_
            refine ad_sipush dX8_statement_154 rfl ?_
            refine ad_ialj (500) dX8_statement_157 (by decide) ⟨by decide, by decide⟩ (by omega) (by show _ < 520; omega) (w103.2.2.2.2.1.1) ?_
            refine ad_bipush dX8_statement_158 rfl ?_
            refine ad_icmp_ge 167 dX8_statement_160 (by decide) (by omega) (by omega) (fun h160 => ?_) (fun h160 => ?_)
            · skip
              refine ad_iconst dX8_statement_167 ?_
              exact h0 (fun z => absurd z.2.2 (by omega))
            · show ad_R _ _ _ _ 163 _ _ _
              refine ad_iconst dX8_statement_163 ?_
              refine ad_goto 168 dX8_statement_164 (by decide) ?_
              exact h1 ⟨(Or.inl h111), Or.inl h126, by omega⟩
          · show ad_R _ _ _ _ 129 _ _ _
            refine ad_aload_n dX8_statement_129 rfl ?_
            refine ad_iload dX8_statement_130 rfl ?_
            refine ad_cv1f rfl cl_X8_59 dX8_statement_132 (c_X8_isThere w103.2.2.2 (by omega) (by omega)) (by omega) (by show _ < 1; omega) (Nat.le_of_ble_eq_true rfl) ?_
            refine ad_ifp_eq 167 dX8_statement_135 (by decide) (fun h135 => ?_) (fun h135 => ?_)
            · skip
              refine ad_iconst dX8_statement_167 ?_
              exact h0 (fun z => z.2.1.elim h126 (fun y => h135 y.1))
            · show ad_R _ _ _ _ 138 _ _ _
              refine ad_iload_n dX8_statement_138 rfl ?_
              refine ad_bipush dX8_statement_139 rfl ?_
              refine ad_icmp_eq 167 dX8_statement_141 (by decide) (by omega) (by omega) (fun h141 => ?_) (fun h141 => ?_)
              · skip
                refine ad_iconst dX8_statement_167 ?_
                exact h0 (fun z => z.2.1.elim h126 (fun y => y.2.1 h141))
              · show ad_R _ _ _ _ 144 _ _ _
                refine ad_iload_n dX8_statement_144 rfl ?_
                refine ad_iload dX8_statement_145 rfl ?_
                refine ad_icmp_eq 167 dX8_statement_147 (by decide) (by omega) (by omega) (fun h147 => ?_) (fun h147 => ?_)
                · skip
                  refine ad_iconst dX8_statement_167 ?_
                  exact h0 (fun z => z.2.1.elim h126 (fun y => y.2.2 h147))
                · show ad_R _ _ _ _ 150 _ _ _
                  refine ad_aload_n dX8_statement_150 rfl ?_
                  refine gf_X8_9 rfl dX8_statement_151 ?_
                  refine ad_sipush dX8_statement_154 rfl ?_
                  refine ad_ialj (500) dX8_statement_157 (by decide) ⟨by decide, by decide⟩ (by omega) (by show _ < 520; omega) (w103.2.2.2.2.1.1) ?_
                  refine ad_bipush dX8_statement_158 rfl ?_
                  refine ad_icmp_ge 167 dX8_statement_160 (by decide) (by omega) (by omega) (fun h160 => ?_) (fun h160 => ?_)
                  · skip
                    refine ad_iconst dX8_statement_167 ?_
                    exact h0 (fun z => absurd z.2.2 (by omega))
                  · show ad_R _ _ _ _ 163 _ _ _
                    refine ad_iconst dX8_statement_163 ?_
                    refine ad_goto 168 dX8_statement_164 (by decide) ?_
                    exact h1 ⟨(Or.inl h111), Or.inr ⟨h135, h141, h147⟩, by omega⟩
        · show ad_R _ _ _ _ 114 _ _ _
          refine ad_aload_n dX8_statement_114 rfl ?_
          refine ad_iload_n dX8_statement_115 rfl ?_
          refine ad_cv1f rfl cl_X8_59 dX8_statement_116 (c_X8_isThere w103.2.2.2 (by omega) (by omega)) (by omega) (by show _ < 1; omega) (Nat.le_of_ble_eq_true rfl) ?_
          refine ad_ifp_eq 167 dX8_statement_119 (by decide) (fun h119 => ?_) (fun h119 => ?_)
          · skip
            refine ad_iconst dX8_statement_167 ?_
            exact h0 (fun z => z.1.elim h111 h119)
          · show ad_R _ _ _ _ 122 _ _ _
            refine ad_iload dX8_statement_122 rfl ?_
            refine ad_bipush dX8_statement_124 rfl ?_
            refine ad_icmp_eq 150 dX8_statement_126 (by decide) (by omega) (by omega) (fun h126 => ?_) (fun h126 => ?_)
            · skip
              refine ad_aload_n dX8_statement_150 rfl ?_
              refine gf_X8_9 rfl dX8_statement_151 ?_
              refine ad_sipush dX8_statement_154 rfl ?_
              refine ad_ialj (500) dX8_statement_157 (by decide) ⟨by decide, by decide⟩ (by omega) (by show _ < 520; omega) (w103.2.2.2.2.1.1) ?_
              refine ad_bipush dX8_statement_158 rfl ?_
              refine ad_icmp_ge 167 dX8_statement_160 (by decide) (by omega) (by omega) (fun h160 => ?_) (fun h160 => ?_)
              · skip
                refine ad_iconst dX8_statement_167 ?_
                exact h0 (fun z => absurd z.2.2 (by omega))
              · show ad_R _ _ _ _ 163 _ _ _
                refine ad_iconst dX8_statement_163 ?_
                refine ad_goto 168 dX8_statement_164 (by decide) ?_
                exact h1 ⟨(Or.inr h119), Or.inl h126, by omega⟩
            · show ad_R _ _ _ _ 129 _ _ _
              refine ad_aload_n dX8_statement_129 rfl ?_
              refine ad_iload dX8_statement_130 rfl ?_
              refine ad_cv1f rfl cl_X8_59 dX8_statement_132 (c_X8_isThere w103.2.2.2 (by omega) (by omega)) (by omega) (by show _ < 1; omega) (Nat.le_of_ble_eq_true rfl) ?_
              refine ad_ifp_eq 167 dX8_statement_135 (by decide) (fun h135 => ?_) (fun h135 => ?_)
              · skip
                refine ad_iconst dX8_statement_167 ?_
                exact h0 (fun z => z.2.1.elim h126 (fun y => h135 y.1))
              · show ad_R _ _ _ _ 138 _ _ _
                refine ad_iload_n dX8_statement_138 rfl ?_
                refine ad_bipush dX8_statement_139 rfl ?_
                refine ad_icmp_eq 167 dX8_statement_141 (by decide) (by omega) (by omega) (fun h141 => ?_) (fun h141 => ?_)
                · skip
                  refine ad_iconst dX8_statement_167 ?_
                  exact h0 (fun z => z.2.1.elim h126 (fun y => y.2.1 h141))
                · show ad_R _ _ _ _ 144 _ _ _
                  refine ad_iload_n dX8_statement_144 rfl ?_
                  refine ad_iload dX8_statement_145 rfl ?_
                  refine ad_icmp_eq 167 dX8_statement_147 (by decide) (by omega) (by omega) (fun h147 => ?_) (fun h147 => ?_)
                  · skip
                    refine ad_iconst dX8_statement_167 ?_
                    exact h0 (fun z => z.2.1.elim h126 (fun y => y.2.2 h147))
                  · show ad_R _ _ _ _ 150 _ _ _
                    refine ad_aload_n dX8_statement_150 rfl ?_
                    refine gf_X8_9 rfl dX8_statement_151 ?_
                    refine ad_sipush dX8_statement_154 rfl ?_
                    refine ad_ialj (500) dX8_statement_157 (by decide) ⟨by decide, by decide⟩ (by omega) (by show _ < 520; omega) (w103.2.2.2.2.1.1) ?_
                    refine ad_bipush dX8_statement_158 rfl ?_
                    refine ad_icmp_ge 167 dX8_statement_160 (by decide) (by omega) (by omega) (fun h160 => ?_) (fun h160 => ?_)
                    · skip
                      refine ad_iconst dX8_statement_167 ?_
                      exact h0 (fun z => absurd z.2.2 (by omega))
                    · show ad_R _ _ _ _ 163 _ _ _
                      refine ad_iconst dX8_statement_163 ?_
                      refine ad_goto 168 dX8_statement_164 (by decide) ?_
                      exact h1 ⟨(Or.inr h119), Or.inr ⟨h135, h141, h147⟩, by omega⟩
    · show ad_R _ _ _ _ 31 _ _ _
      refine ad_iload_n dX8_statement_31 rfl ?_
      refine ad_bipush dX8_statement_32 rfl ?_
      refine ad_icmp_eq 81 dX8_statement_34 (by decide) (by omega) (by omega) (fun h34 => ?_) (fun h34 => ?_)
      · skip
        refine ad_aload_n dX8_statement_81 rfl ?_
        refine ad_dup dX8_statement_82 rfl ?_
        refine gf_X8_157 rfl dX8_statement_83 ?_
        rw [hu.1]
        refine ad_iconst dX8_statement_86 ?_
        refine ad_iadd dX8_statement_87 ?_
        refine pf_X8_157 rfl dX8_statement_88 ?_
        have w0 := ad_rw_0 (σ := σ) ht hr hp hu.2
        refine ad_iload_n dX8_statement_91 rfl ?_
        refine ad_bipush dX8_statement_92 rfl ?_
        refine ad_icmp_ne 283 dX8_statement_94 (by decide) (by omega) (by omega) (fun h94 => ?_) (fun h94 => ?_)
        · skip
          refine ad_iload_n dX8_statement_283 rfl ?_
          refine ad_bipush dX8_statement_284 rfl ?_
          refine ad_icmp_ne 365 dX8_statement_286 (by decide) (by omega) (by omega) (fun h286 => ?_) (fun h286 => ?_)
          · exfalso; omega
          · show ad_R _ _ _ _ 289 _ _ _
            obtain ⟨t1, t2, hfe⟩ := ad_fi_104 hp.1 hfi h34
            have hda := ad_dg_rng S (p + 1)
            have hdb := ad_dg_rng S (p + 2)
            have hlb := ad_lk_rng (v := ad_dg S (p + 2)) (by omega)
            refine ad_aload_n dX8_statement_289 rfl ?_
            refine ad_bipush dX8_statement_290 rfl ?_
            refine ad_bipush dX8_statement_292 rfl ?_
            refine ad_cv2q rfl cl_X8_166 dX8_statement_294 (c_X8_tkD w0 (by omega)) (by omega) (by show _ < 1; omega) (Nat.le_of_ble_eq_true rfl) (fun x294 s294 q294 => ?_)
            obtain ⟨v294, rfl, b294, e294, w294⟩ := q294
            have hv294 : v294 = ad_dg S (p + 1) := (e294 rfl (ad_ne1 t1.1)).trans (ad_dg_D t1.1)
            subst hv294
            rw [t1.2] at w294
            refine ad_istore_n dX8_statement_297 (by decide) rfl (by dsimp only [ad_set]) ?_
            refine ad_aload_n dX8_statement_298 rfl ?_
            refine ad_cv0q rfl cl_X8_169 dX8_statement_299 (c_X8_orN w294 (by omega)) (by omega) (by show _ < 1; omega) (Nat.le_of_ble_eq_true rfl) (fun x299 s299 q299 => ?_)
            obtain ⟨v299, rfl, b299, e299, w299⟩ := q299
            have hv299 : v299 = ad_lk (ad_dg S (p + 2)) := e299 rfl (ad_ne1 t2.1)
            subst hv299
            rw [t2.2] at w299
            refine ad_istore dX8_statement_302 (by decide) rfl (by dsimp only [ad_set]) ?_
            refine ad_aload_n dX8_statement_304 rfl ?_
            refine ad_bipush dX8_statement_305 rfl ?_
            refine ad_bipush dX8_statement_307 rfl ?_
            refine ad_cv2q rfl cl_X8_166 dX8_statement_309 (c_X8_tk9 w299 (by omega)) (by omega) (by show _ < 1; omega) (Nat.le_of_ble_eq_true rfl) (fun x309 s309 q309 => ?_)
            obtain ⟨z309, rfl, b309, w309⟩ := q309
            rw [hfe] at w309
            refine ad_pop dX8_statement_312 rfl ?_
            refine ad_iload_n dX8_statement_313 rfl ?_
            refine ad_iconst dX8_statement_314 ?_
            refine ad_icmp_ge 338 dX8_statement_315 (by decide) (by omega) (by omega) (fun h315 => ?_) (fun h315 => ?_)
            · skip
              refine ad_iconst dX8_statement_338 ?_
              refine ad_istore dX8_statement_339 (by decide) rfl (by dsimp only [ad_set]) ?_
              refine ad_iload_n dX8_statement_341 rfl ?_
              refine ad_if_eq 362 dX8_statement_342 (by decide) (by omega) (fun h342 => ?_) (fun h342 => ?_)
              · exfalso; omega
              · show ad_R _ _ _ _ 345 _ _ _
                refine ad_iload dX8_statement_345 rfl ?_
                refine ad_if_eq 362 dX8_statement_347 (by decide) (by omega) (fun h347 => ?_) (fun h347 => ?_)
                · skip
                  refine ad_iload dX8_statement_362 rfl ?_
                  exact ad_retn dX8_statement_364 rfl rfl (ad_sq8_no (by rw [ad_tr_104 h34]; unfold ad_t_points; rw [if_neg (fun z => absurd z.1.2 (by omega))]) hw9 w309)
                · exfalso; omega
            · show ad_R _ _ _ _ 318 _ _ _
              refine ad_iload dX8_statement_318 rfl ?_
              refine ad_bipush dX8_statement_320 rfl ?_
              refine ad_icmp_eq 334 dX8_statement_322 (by decide) (by omega) (by omega) (fun h322 => ?_) (fun h322 => ?_)
              · skip
                refine ad_iconst dX8_statement_334 ?_
                refine ad_goto 339 dX8_statement_335 (by decide) ?_
                refine ad_istore dX8_statement_339 (by decide) rfl (by dsimp only [ad_set]) ?_
                refine ad_iload_n dX8_statement_341 rfl ?_
                refine ad_if_eq 362 dX8_statement_342 (by decide) (by omega) (fun h342 => ?_) (fun h342 => ?_)
                · exfalso; omega
                · show ad_R _ _ _ _ 345 _ _ _
                  refine ad_iload dX8_statement_345 rfl ?_
                  refine ad_if_eq 362 dX8_statement_347 (by decide) (by omega) (fun h347 => ?_) (fun h347 => ?_)
                  · exfalso; omega
                  · show ad_R _ _ _ _ 350 _ _ _
                    refine ad_aload_n dX8_statement_350 rfl ?_
                    refine gf_X8_9 rfl dX8_statement_351 ?_
                    refine ad_sipush dX8_statement_354 rfl ?_
                    refine ad_iload_n dX8_statement_357 rfl ?_
                    refine ad_iadd dX8_statement_358 ?_
                    refine ad_iload dX8_statement_359 rfl ?_
                    refine ad_iasj (501 + (ad_dg S (p + 1)).toNat) dX8_statement_361 (by decide) ⟨by decide, by decide⟩ (by omega) (by show _ < 520; omega) ?_
                    refine ad_iload dX8_statement_362 rfl ?_
                    have hv := (ad_th (H := ad_aH A) (by omega)).mp (Or.inl h322)
                    exact ad_retn dX8_statement_364 rfl rfl (ad_sq8_yes (by rw [ad_tr_104 h34]; unfold ad_t_points; rw [if_pos ⟨by omega, hv⟩]) ((w309.1.mono (by decide) (by decide)).trans (ad_f8.st (by decide) (by decide))) (w309.2.2.1.fr (ad_f8.st (ks := [21]) (js := []) (by decide) (by decide)) (by decide) (by decide)) (by rw [ad_st_r1]; exact ad_ra_top w309.2.2.2 (by omega) (by omega)) (ad_wA_top hw9 hr.H (by omega) hv))
              · show ad_R _ _ _ _ 325 _ _ _
                refine ad_aload_n dX8_statement_325 rfl ?_
                refine ad_iload dX8_statement_326 rfl ?_
                refine ad_cv1f rfl cl_X8_59 dX8_statement_328 (c_X8_isThere w309.2.2.2 (by omega) (by omega)) (by omega) (by show _ < 1; omega) (Nat.le_of_ble_eq_true rfl) ?_
                refine ad_ifp_eq 338 dX8_statement_331 (by decide) (fun h331 => ?_) (fun h331 => ?_)
                · skip
                  refine ad_iconst dX8_statement_338 ?_
                  refine ad_istore dX8_statement_339 (by decide) rfl (by dsimp only [ad_set]) ?_
                  refine ad_iload_n dX8_statement_341 rfl ?_
                  refine ad_if_eq 362 dX8_statement_342 (by decide) (by omega) (fun h342 => ?_) (fun h342 => ?_)
                  · exfalso; omega
                  · show ad_R _ _ _ _ 345 _ _ _
                    refine ad_iload dX8_statement_345 rfl ?_
                    refine ad_if_eq 362 dX8_statement_347 (by decide) (by omega) (fun h347 => ?_) (fun h347 => ?_)
                    · skip
                      refine ad_iload dX8_statement_362 rfl ?_
                      exact ad_retn dX8_statement_364 rfl rfl (ad_sq8_no (by rw [ad_tr_104 h34]; unfold ad_t_points; rw [if_neg (fun z => ((ad_th (H := ad_aH A) (by omega)).mpr z.2).elim h322 h331)]) hw9 w309)
                    · exfalso; omega
                · show ad_R _ _ _ _ 334 _ _ _
                  refine ad_iconst dX8_statement_334 ?_
                  refine ad_goto 339 dX8_statement_335 (by decide) ?_
                  refine ad_istore dX8_statement_339 (by decide) rfl (by dsimp only [ad_set]) ?_
                  refine ad_iload_n dX8_statement_341 rfl ?_
                  refine ad_if_eq 362 dX8_statement_342 (by decide) (by omega) (fun h342 => ?_) (fun h342 => ?_)
                  · exfalso; omega
                  · show ad_R _ _ _ _ 345 _ _ _
                    refine ad_iload dX8_statement_345 rfl ?_
                    refine ad_if_eq 362 dX8_statement_347 (by decide) (by omega) (fun h347 => ?_) (fun h347 => ?_)
                    · exfalso; omega
                    · show ad_R _ _ _ _ 350 _ _ _
                      refine ad_aload_n dX8_statement_350 rfl ?_
                      refine gf_X8_9 rfl dX8_statement_351 ?_
                      refine ad_sipush dX8_statement_354 rfl ?_
                      refine ad_iload_n dX8_statement_357 rfl ?_
                      refine ad_iadd dX8_statement_358 ?_
                      refine ad_iload dX8_statement_359 rfl ?_
                      refine ad_iasj (501 + (ad_dg S (p + 1)).toNat) dX8_statement_361 (by decide) ⟨by decide, by decide⟩ (by omega) (by show _ < 520; omega) ?_
                      refine ad_iload dX8_statement_362 rfl ?_
                      have hv := (ad_th (H := ad_aH A) (by omega)).mp (Or.inr h331)
                      exact ad_retn dX8_statement_364 rfl rfl (ad_sq8_yes (by rw [ad_tr_104 h34]; unfold ad_t_points; rw [if_pos ⟨by omega, hv⟩]) ((w309.1.mono (by decide) (by decide)).trans (ad_f8.st (by decide) (by decide))) (w309.2.2.1.fr (ad_f8.st (ks := [21]) (js := []) (by decide) (by decide)) (by decide) (by decide)) (by rw [ad_st_r1]; exact ad_ra_top w309.2.2.2 (by omega) (by omega)) (ad_wA_top hw9 hr.H (by omega) hv))
        · exfalso; omega
      · show ad_R _ _ _ _ 37 _ _ _
        refine ad_iload_n dX8_statement_37 rfl ?_
        refine ad_bipush dX8_statement_38 rfl ?_
        refine ad_icmp_eq 81 dX8_statement_40 (by decide) (by omega) (by omega) (fun h40 => ?_) (fun h40 => ?_)
        · skip
          refine ad_aload_n dX8_statement_81 rfl ?_
          refine ad_dup dX8_statement_82 rfl ?_
          refine gf_X8_157 rfl dX8_statement_83 ?_
          rw [hu.1]
          refine ad_iconst dX8_statement_86 ?_
          refine ad_iadd dX8_statement_87 ?_
          refine pf_X8_157 rfl dX8_statement_88 ?_
          have w0 := ad_rw_0 (σ := σ) ht hr hp hu.2
          refine ad_iload_n dX8_statement_91 rfl ?_
          refine ad_bipush dX8_statement_92 rfl ?_
          refine ad_icmp_ne 283 dX8_statement_94 (by decide) (by omega) (by omega) (fun h94 => ?_) (fun h94 => ?_)
          · skip
            refine ad_iload_n dX8_statement_283 rfl ?_
            refine ad_bipush dX8_statement_284 rfl ?_
            refine ad_icmp_ne 365 dX8_statement_286 (by decide) (by omega) (by omega) (fun h286 => ?_) (fun h286 => ?_)
            · skip
              refine ad_iload_n dX8_statement_365 rfl ?_
              refine ad_bipush dX8_statement_366 rfl ?_
              refine ad_icmp_eq 377 dX8_statement_368 (by decide) (by omega) (by omega) (fun h368 => ?_) (fun h368 => ?_)
              · skip
                obtain ⟨t1, t2, hfe⟩ := ad_fi_107 hp.1 hfi h40
                have hda := ad_dg_rng S (p + 1)
                have hdb := ad_dg_rng S (p + 2)
                refine ad_aload_n dX8_statement_377 rfl ?_
                refine ad_bipush dX8_statement_378 rfl ?_
                refine ad_bipush dX8_statement_380 rfl ?_
                refine ad_cv2q rfl cl_X8_166 dX8_statement_382 (c_X8_tkD w0 (by omega)) (by omega) (by show _ < 1; omega) (Nat.le_of_ble_eq_true rfl) (fun x382 s382 q382 => ?_)
                obtain ⟨v382, rfl, b382, e382, w382⟩ := q382
                have hv382 : v382 = ad_dg S (p + 1) := (e382 rfl (ad_ne1 t1.1)).trans (ad_dg_D t1.1)
                subst hv382
                rw [t1.2] at w382
                refine ad_istore_n dX8_statement_385 (by decide) rfl (by dsimp only [ad_set]) ?_
                refine ad_iload_n dX8_statement_386 rfl ?_
                refine ad_bipush dX8_statement_387 rfl ?_
                refine ad_icmp_ne 403 dX8_statement_389 (by decide) (by omega) (by omega) (fun h389 => ?_) (fun h389 => ?_)
                · exfalso; omega
                · show ad_R _ _ _ _ 392 _ _ _
                  refine ad_aload_n dX8_statement_392 rfl ?_
                  refine ad_bipush dX8_statement_393 rfl ?_
                  refine ad_bipush dX8_statement_395 rfl ?_
                  refine ad_cv2q rfl cl_X8_166 dX8_statement_397 (c_X8_tkD w382 (by omega)) (by omega) (by show _ < 1; omega) (Nat.le_of_ble_eq_true rfl) (fun x397 s397 q397 => ?_)
                  obtain ⟨v397, rfl, b397, e397, w397⟩ := q397
                  have hv397 : v397 = ad_dg S (p + 2) := (e397 rfl (ad_ne1 t2.1)).trans (ad_dg_D t2.1)
                  subst hv397
                  rw [t2.2] at w397
                  refine ad_goto 404 dX8_statement_400 (by decide) ?_
                  have w404 := w397
                  refine ad_istore dX8_statement_404 (by decide) rfl (by dsimp only [ad_set]) ?_
                  refine ad_aload_n dX8_statement_406 rfl ?_
                  refine ad_bipush dX8_statement_407 rfl ?_
                  refine ad_bipush dX8_statement_409 rfl ?_
                  refine ad_cv2q rfl cl_X8_166 dX8_statement_411 (c_X8_tk9 w404 (by omega)) (by omega) (by show _ < 1; omega) (Nat.le_of_ble_eq_true rfl) (fun x411 s411 q411 => ?_)
                  obtain ⟨z411, rfl, b411, w411⟩ := q411
                  rw [hfe] at w411
                  refine ad_pop dX8_statement_414 rfl ?_
                  refine ad_iload_n dX8_statement_415 rfl ?_
                  refine ad_bipush dX8_statement_416 rfl ?_
                  refine ad_icmp_ne 434 dX8_statement_418 (by decide) (by omega) (by omega) (fun h418 => ?_) (fun h418 => ?_)
                  · exfalso; omega
                  · show ad_R _ _ _ _ 421 _ _ _
                    refine ad_iload_n dX8_statement_421 rfl ?_
                    refine ad_iconst dX8_statement_422 ?_
                    refine ad_icmp_gt 430 dX8_statement_423 (by decide) (by omega) (by omega) (fun h423 => ?_) (fun h423 => ?_)
                    · skip
                      refine ad_iconst dX8_statement_430 ?_
                      refine ad_goto 445 dX8_statement_431 (by decide) ?_
                      refine ad_istore dX8_statement_445 (by decide) rfl (by dsimp only [ad_set]) ?_
                      refine ad_iload_n dX8_statement_447 rfl ?_
                      refine ad_if_eq 471 dX8_statement_448 (by decide) (by omega) (fun h448 => ?_) (fun h448 => ?_)
                      · exfalso; omega
                      · show ad_R _ _ _ _ 451 _ _ _
                        refine ad_iload dX8_statement_451 rfl ?_
                        refine ad_if_eq 471 dX8_statement_453 (by decide) (by omega) (fun h453 => ?_) (fun h453 => ?_)
                        · skip
                          refine ad_iload_n dX8_statement_471 rfl ?_
                          refine ad_if_eq 505 dX8_statement_472 (by decide) (by omega) (fun h472 => ?_) (fun h472 => ?_)
                          · exfalso; omega
                          · show ad_R _ _ _ _ 475 _ _ _
                            refine ad_iload dX8_statement_475 rfl ?_
                            refine ad_if_eq 505 dX8_statement_477 (by decide) (by omega) (fun h477 => ?_) (fun h477 => ?_)
                            · skip
                              refine ad_iload dX8_statement_505 rfl ?_
                              exact ad_retn dX8_statement_507 rfl rfl (ad_sq8_no (by rw [ad_tr_107 h40]; unfold ad_t_becomes; rw [if_neg (by omega)]) hw9 w411)
                            · exfalso; omega
                        · exfalso; omega
                    · show ad_R _ _ _ _ 426 _ _ _
                      refine ad_iconst dX8_statement_426 ?_
                      refine ad_goto 445 dX8_statement_427 (by decide) ?_
                      refine ad_istore dX8_statement_445 (by decide) rfl (by dsimp only [ad_set]) ?_
                      refine ad_iload_n dX8_statement_447 rfl ?_
                      refine ad_if_eq 471 dX8_statement_448 (by decide) (by omega) (fun h448 => ?_) (fun h448 => ?_)
                      · exfalso; omega
                      · show ad_R _ _ _ _ 451 _ _ _
                        refine ad_iload dX8_statement_451 rfl ?_
                        refine ad_if_eq 471 dX8_statement_453 (by decide) (by omega) (fun h453 => ?_) (fun h453 => ?_)
                        · exfalso; omega
                        · show ad_R _ _ _ _ 456 _ _ _
                          refine ad_iload_n dX8_statement_456 rfl ?_
                          refine ad_bipush dX8_statement_457 rfl ?_
                          refine ad_icmp_ne 471 dX8_statement_459 (by decide) (by omega) (by omega) (fun h459 => ?_) (fun h459 => ?_)
                          · skip
                            refine ad_iload_n dX8_statement_471 rfl ?_
                            refine ad_if_eq 505 dX8_statement_472 (by decide) (by omega) (fun h472 => ?_) (fun h472 => ?_)
                            · exfalso; omega
                            · show ad_R _ _ _ _ 475 _ _ _
                              refine ad_iload dX8_statement_475 rfl ?_
                              refine ad_if_eq 505 dX8_statement_477 (by decide) (by omega) (fun h477 => ?_) (fun h477 => ?_)
                              · exfalso; omega
                              · show ad_R _ _ _ _ 480 _ _ _
                                refine ad_iload_n dX8_statement_480 rfl ?_
                                refine ad_bipush dX8_statement_481 rfl ?_
                                refine ad_icmp_ne 505 dX8_statement_483 (by decide) (by omega) (by omega) (fun h483 => ?_) (fun h483 => ?_)
                                · exfalso; omega
                                · show ad_R _ _ _ _ 486 _ _ _
                                  refine ad_aload_n dX8_statement_486 rfl ?_
                                  refine gf_X8_9 rfl dX8_statement_487 ?_
                                  refine ad_sipush dX8_statement_490 rfl ?_
                                  refine ad_iload_n dX8_statement_493 rfl ?_
                                  refine ad_iasj (505) dX8_statement_494 (by decide) ⟨by decide, by decide⟩ (by omega) (by show _ < 520; omega) ?_
                                  refine ad_aload_n dX8_statement_495 rfl ?_
                                  refine gf_X8_9 rfl dX8_statement_496 ?_
                                  refine ad_sipush dX8_statement_499 rfl ?_
                                  refine ad_iload dX8_statement_502 rfl ?_
                                  refine ad_iasj (506) dX8_statement_504 (by decide) ⟨by decide, by decide⟩ (by omega) (by show _ < 520; omega) ?_
                                  refine ad_iload dX8_statement_505 rfl ?_
                                  exact ad_retn dX8_statement_507 rfl rfl (ad_sq8_yes (by rw [ad_tr_107 h40]; unfold ad_t_becomes; rw [if_pos (by omega)]) ((w411.1.mono (by decide) (by decide)).trans ((ad_f8.st (by decide) (by decide)).trans (ad_f8.st (by decide) (by decide)))) (w411.2.2.1.fr ((ad_f8.st (ks := [21]) (js := []) (by decide) (by decide)).trans (ad_f8.st (by decide) (by decide))) (by decide) (by decide)) (by rw [ad_st_r1, ad_st_r1]; exact ad_ra_w (ad_ra_w w411.2.2.2 (j := 505) (by omega) (by constructor <;> omega)) (j := 506) (by omega) (by constructor <;> omega)) (ad_wA_hd hw9 hw9.2.2.2.2.2.2.1 hw9.2.2.2.2.2.2.2.2.2.2.2 ⟨by omega, by omega, hw9.2.2.2.2.2.2.2.1.2.2⟩))
                          · exfalso; omega
              · exfalso; omega
            · exfalso; omega
          · exfalso; omega
        · show ad_R _ _ _ _ 43 _ _ _
          refine ad_iload_n dX8_statement_43 rfl ?_
          refine ad_bipush dX8_statement_44 rfl ?_
          refine ad_icmp_eq 81 dX8_statement_46 (by decide) (by omega) (by omega) (fun h46 => ?_) (fun h46 => ?_)
          · skip
            refine ad_aload_n dX8_statement_81 rfl ?_
            refine ad_dup dX8_statement_82 rfl ?_
            refine gf_X8_157 rfl dX8_statement_83 ?_
            rw [hu.1]
            refine ad_iconst dX8_statement_86 ?_
            refine ad_iadd dX8_statement_87 ?_
            refine pf_X8_157 rfl dX8_statement_88 ?_
            have w0 := ad_rw_0 (σ := σ) ht hr hp hu.2
            refine ad_iload_n dX8_statement_91 rfl ?_
            refine ad_bipush dX8_statement_92 rfl ?_
            refine ad_icmp_ne 283 dX8_statement_94 (by decide) (by omega) (by omega) (fun h94 => ?_) (fun h94 => ?_)
            · skip
              refine ad_iload_n dX8_statement_283 rfl ?_
              refine ad_bipush dX8_statement_284 rfl ?_
              refine ad_icmp_ne 365 dX8_statement_286 (by decide) (by omega) (by omega) (fun h286 => ?_) (fun h286 => ?_)
              · skip
                refine ad_iload_n dX8_statement_365 rfl ?_
                refine ad_bipush dX8_statement_366 rfl ?_
                refine ad_icmp_eq 377 dX8_statement_368 (by decide) (by omega) (by omega) (fun h368 => ?_) (fun h368 => ?_)
                · exfalso; omega
                · show ad_R _ _ _ _ 371 _ _ _
                  refine ad_iload_n dX8_statement_371 rfl ?_
                  refine ad_bipush dX8_statement_372 rfl ?_
                  refine ad_icmp_ne 508 dX8_statement_374 (by decide) (by omega) (by omega) (fun h374 => ?_) (fun h374 => ?_)
                  · exfalso; omega
                  · show ad_R _ _ _ _ 377 _ _ _
                    obtain ⟨t1, hfe⟩ := ad_fi_100 hp.1 hfi h46
                    have hda := ad_dg_rng S (p + 1)
                    refine ad_aload_n dX8_statement_377 rfl ?_
                    refine ad_bipush dX8_statement_378 rfl ?_
                    refine ad_bipush dX8_statement_380 rfl ?_
                    refine ad_cv2q rfl cl_X8_166 dX8_statement_382 (c_X8_tkD w0 (by omega)) (by omega) (by show _ < 1; omega) (Nat.le_of_ble_eq_true rfl) (fun x382 s382 q382 => ?_)
                    obtain ⟨v382, rfl, b382, e382, w382⟩ := q382
                    have hv382 : v382 = ad_dg S (p + 1) := (e382 rfl (ad_ne1 t1.1)).trans (ad_dg_D t1.1)
                    subst hv382
                    rw [t1.2] at w382
                    refine ad_istore_n dX8_statement_385 (by decide) rfl (by dsimp only [ad_set]) ?_
                    refine ad_iload_n dX8_statement_386 rfl ?_
                    refine ad_bipush dX8_statement_387 rfl ?_
                    refine ad_icmp_ne 403 dX8_statement_389 (by decide) (by omega) (by omega) (fun h389 => ?_) (fun h389 => ?_)
                    · skip
                      refine ad_iconst dX8_statement_403 ?_
                      have w404 := w382
                      refine ad_istore dX8_statement_404 (by decide) rfl (by dsimp only [ad_set]) ?_
                      refine ad_aload_n dX8_statement_406 rfl ?_
                      refine ad_bipush dX8_statement_407 rfl ?_
                      refine ad_bipush dX8_statement_409 rfl ?_
                      refine ad_cv2q rfl cl_X8_166 dX8_statement_411 (c_X8_tk9 w404 (by omega)) (by omega) (by show _ < 1; omega) (Nat.le_of_ble_eq_true rfl) (fun x411 s411 q411 => ?_)
                      obtain ⟨z411, rfl, b411, w411⟩ := q411
                      rw [hfe] at w411
                      refine ad_pop dX8_statement_414 rfl ?_
                      refine ad_iload_n dX8_statement_415 rfl ?_
                      refine ad_bipush dX8_statement_416 rfl ?_
                      refine ad_icmp_ne 434 dX8_statement_418 (by decide) (by omega) (by omega) (fun h418 => ?_) (fun h418 => ?_)
                      · skip
                        refine ad_iload_n dX8_statement_434 rfl ?_
                        refine ad_bipush dX8_statement_435 rfl ?_
                        refine ad_icmp_gt 444 dX8_statement_437 (by decide) (by omega) (by omega) (fun h437 => ?_) (fun h437 => ?_)
                        · skip
                          refine ad_iconst dX8_statement_444 ?_
                          refine ad_istore dX8_statement_445 (by decide) rfl (by dsimp only [ad_set]) ?_
                          refine ad_iload_n dX8_statement_447 rfl ?_
                          refine ad_if_eq 471 dX8_statement_448 (by decide) (by omega) (fun h448 => ?_) (fun h448 => ?_)
                          · exfalso; omega
                          · show ad_R _ _ _ _ 451 _ _ _
                            refine ad_iload dX8_statement_451 rfl ?_
                            refine ad_if_eq 471 dX8_statement_453 (by decide) (by omega) (fun h453 => ?_) (fun h453 => ?_)
                            · skip
                              refine ad_iload_n dX8_statement_471 rfl ?_
                              refine ad_if_eq 505 dX8_statement_472 (by decide) (by omega) (fun h472 => ?_) (fun h472 => ?_)
                              · exfalso; omega
                              · show ad_R _ _ _ _ 475 _ _ _
                                refine ad_iload dX8_statement_475 rfl ?_
                                refine ad_if_eq 505 dX8_statement_477 (by decide) (by omega) (fun h477 => ?_) (fun h477 => ?_)
                                · skip
                                  refine ad_iload dX8_statement_505 rfl ?_
                                  exact ad_retn dX8_statement_507 rfl rfl (ad_sq8_no (by rw [ad_tr_100 h46]; unfold ad_t_binds; rw [if_neg (by omega)]) hw9 w411)
                                · exfalso; omega
                            · exfalso; omega
                        · show ad_R _ _ _ _ 440 _ _ _
                          refine ad_iconst dX8_statement_440 ?_
                          refine ad_goto 445 dX8_statement_441 (by decide) ?_
                          refine ad_istore dX8_statement_445 (by decide) rfl (by dsimp only [ad_set]) ?_
                          refine ad_iload_n dX8_statement_447 rfl ?_
                          refine ad_if_eq 471 dX8_statement_448 (by decide) (by omega) (fun h448 => ?_) (fun h448 => ?_)
                          · exfalso; omega
                          · show ad_R _ _ _ _ 451 _ _ _
                            refine ad_iload dX8_statement_451 rfl ?_
                            refine ad_if_eq 471 dX8_statement_453 (by decide) (by omega) (fun h453 => ?_) (fun h453 => ?_)
                            · exfalso; omega
                            · show ad_R _ _ _ _ 456 _ _ _
                              refine ad_iload_n dX8_statement_456 rfl ?_
                              refine ad_bipush dX8_statement_457 rfl ?_
                              refine ad_icmp_ne 471 dX8_statement_459 (by decide) (by omega) (by omega) (fun h459 => ?_) (fun h459 => ?_)
                              · exfalso; omega
                              · show ad_R _ _ _ _ 462 _ _ _
                                refine ad_aload_n dX8_statement_462 rfl ?_
                                refine gf_X8_9 rfl dX8_statement_463 ?_
                                refine ad_sipush dX8_statement_466 rfl ?_
                                refine ad_iload_n dX8_statement_469 rfl ?_
                                refine ad_iasj (507) dX8_statement_470 (by decide) ⟨by decide, by decide⟩ (by omega) (by show _ < 520; omega) ?_
                                refine ad_iload_n dX8_statement_471 rfl ?_
                                refine ad_if_eq 505 dX8_statement_472 (by decide) (by omega) (fun h472 => ?_) (fun h472 => ?_)
                                · exfalso; omega
                                · show ad_R _ _ _ _ 475 _ _ _
                                  refine ad_iload dX8_statement_475 rfl ?_
                                  refine ad_if_eq 505 dX8_statement_477 (by decide) (by omega) (fun h477 => ?_) (fun h477 => ?_)
                                  · exfalso; omega
                                  · show ad_R _ _ _ _ 480 _ _ _
                                    refine ad_iload_n dX8_statement_480 rfl ?_
                                    refine ad_bipush dX8_statement_481 rfl ?_
                                    refine ad_icmp_ne 505 dX8_statement_483 (by decide) (by omega) (by omega) (fun h483 => ?_) (fun h483 => ?_)
                                    · skip
                                      refine ad_iload dX8_statement_505 rfl ?_
                                      exact ad_retn dX8_statement_507 rfl rfl (ad_sq8_yes (by rw [ad_tr_100 h46]; unfold ad_t_binds; rw [if_pos (by omega)]) ((w411.1.mono (by decide) (by decide)).trans (ad_f8.st (by decide) (by decide))) (w411.2.2.1.fr (ad_f8.st (ks := [21]) (js := []) (by decide) (by decide)) (by decide) (by decide)) (by rw [ad_st_r1]; exact ad_ra_w w411.2.2.2 (j := 507) (by omega) (by constructor <;> omega)) (ad_wA_hd hw9 hw9.2.2.2.2.2.2.1 hw9.2.2.2.2.2.2.2.2.2.2.2 ⟨hw9.2.2.2.2.2.2.2.1.1, hw9.2.2.2.2.2.2.2.1.2.1, by omega⟩))
                                    · exfalso; omega
                      · exfalso; omega
                    · exfalso; omega
              · exfalso; omega
            · exfalso; omega
          · show ad_R _ _ _ _ 49 _ _ _
            refine ad_iload_n dX8_statement_49 rfl ?_
            refine ad_bipush dX8_statement_50 rfl ?_
            refine ad_icmp_eq 81 dX8_statement_52 (by decide) (by omega) (by omega) (fun h52 => ?_) (fun h52 => ?_)
            · skip
              refine ad_aload_n dX8_statement_81 rfl ?_
              refine ad_dup dX8_statement_82 rfl ?_
              refine gf_X8_157 rfl dX8_statement_83 ?_
              rw [hu.1]
              refine ad_iconst dX8_statement_86 ?_
              refine ad_iadd dX8_statement_87 ?_
              refine pf_X8_157 rfl dX8_statement_88 ?_
              have w0 := ad_rw_0 (σ := σ) ht hr hp hu.2
              refine ad_iload_n dX8_statement_91 rfl ?_
              refine ad_bipush dX8_statement_92 rfl ?_
              refine ad_icmp_ne 283 dX8_statement_94 (by decide) (by omega) (by omega) (fun h94 => ?_) (fun h94 => ?_)
              · skip
                refine ad_iload_n dX8_statement_283 rfl ?_
                refine ad_bipush dX8_statement_284 rfl ?_
                refine ad_icmp_ne 365 dX8_statement_286 (by decide) (by omega) (by omega) (fun h286 => ?_) (fun h286 => ?_)
                · skip
                  refine ad_iload_n dX8_statement_365 rfl ?_
                  refine ad_bipush dX8_statement_366 rfl ?_
                  refine ad_icmp_eq 377 dX8_statement_368 (by decide) (by omega) (by omega) (fun h368 => ?_) (fun h368 => ?_)
                  · exfalso; omega
                  · show ad_R _ _ _ _ 371 _ _ _
                    refine ad_iload_n dX8_statement_371 rfl ?_
                    refine ad_bipush dX8_statement_372 rfl ?_
                    refine ad_icmp_ne 508 dX8_statement_374 (by decide) (by omega) (by omega) (fun h374 => ?_) (fun h374 => ?_)
                    · skip
                      refine ad_iload_n dX8_statement_508 rfl ?_
                      refine ad_bipush dX8_statement_509 rfl ?_
                      refine ad_icmp_ne 644 dX8_statement_511 (by decide) (by omega) (by omega) (fun h511 => ?_) (fun h511 => ?_)
                      · skip
                        have hfe := (ad_fe_4 hp.1 (Or.inl h52)).2 hfi
                        refine ad_aload_n dX8_statement_644 rfl ?_
                        refine ad_bipush dX8_statement_645 rfl ?_
                        refine ad_bipush dX8_statement_647 rfl ?_
                        refine ad_cv2q rfl cl_X8_166 dX8_statement_649 (c_X8_tk9 w0 (by omega)) (by omega) (by show _ < 1; omega) (Nat.le_of_ble_eq_true rfl) (fun x649 s649 q649 => ?_)
                        obtain ⟨z649, rfl, b649, w649⟩ := q649
                        rw [hfe] at w649
                        refine ad_pop dX8_statement_652 rfl ?_
                        refine ad_iload_n dX8_statement_653 rfl ?_
                        refine ad_if_eq 668 dX8_statement_654 (by decide) (by omega) (fun h654 => ?_) (fun h654 => ?_)
                        · exfalso; omega
                        · show ad_R _ _ _ _ 657 _ _ _
                          refine ad_iload_n dX8_statement_657 rfl ?_
                          refine ad_bipush dX8_statement_658 rfl ?_
                          refine ad_icmp_ne 668 dX8_statement_660 (by decide) (by omega) (by omega) (fun h660 => ?_) (fun h660 => ?_)
                          · exfalso; omega
                          · show ad_R _ _ _ _ 663 _ _ _
                            refine ad_aload_n dX8_statement_663 rfl ?_
                            refine ad_cv0q rfl cl_X8_133 dX8_statement_664 (c_X8_repacks w649.2.2.2 hw9 (by omega)) (by omega) (by show _ < 1; omega) (Nat.le_of_ble_eq_true rfl) (fun x664 s664 q664 => ?_)
                            obtain ⟨rfl, r664, _, f664⟩ := q664
                            refine ad_pop dX8_statement_667 rfl ?_
                            refine ad_iload_n dX8_statement_668 rfl ?_
                            refine ad_if_eq 683 dX8_statement_669 (by decide) (by omega) (fun h669 => ?_) (fun h669 => ?_)
                            · exfalso; omega
                            · show ad_R _ _ _ _ 672 _ _ _
                              refine ad_iload_n dX8_statement_672 rfl ?_
                              refine ad_bipush dX8_statement_673 rfl ?_
                              refine ad_icmp_ne 683 dX8_statement_675 (by decide) (by omega) (by omega) (fun h675 => ?_) (fun h675 => ?_)
                              · skip
                                refine ad_iconst dX8_statement_683 ?_
                                exact ad_retn dX8_statement_684 rfl rfl (ad_sq8_yes (ad_tr_114 h52) ((w649.1.mono (by decide) (by decide)).trans (f664.mono (by decide) (by decide))) (w649.2.2.1.fr f664 (by decide) (by decide)) r664 (ad_wA_rp hw9))
                              · exfalso; omega
                      · exfalso; omega
                    · exfalso; omega
                · exfalso; omega
              · exfalso; omega
            · show ad_R _ _ _ _ 55 _ _ _
              refine ad_iload_n dX8_statement_55 rfl ?_
              refine ad_bipush dX8_statement_56 rfl ?_
              refine ad_icmp_eq 81 dX8_statement_58 (by decide) (by omega) (by omega) (fun h58 => ?_) (fun h58 => ?_)
              · skip
                refine ad_aload_n dX8_statement_81 rfl ?_
                refine ad_dup dX8_statement_82 rfl ?_
                refine gf_X8_157 rfl dX8_statement_83 ?_
                rw [hu.1]
                refine ad_iconst dX8_statement_86 ?_
                refine ad_iadd dX8_statement_87 ?_
                refine pf_X8_157 rfl dX8_statement_88 ?_
                have w0 := ad_rw_0 (σ := σ) ht hr hp hu.2
                refine ad_iload_n dX8_statement_91 rfl ?_
                refine ad_bipush dX8_statement_92 rfl ?_
                refine ad_icmp_ne 283 dX8_statement_94 (by decide) (by omega) (by omega) (fun h94 => ?_) (fun h94 => ?_)
                · skip
                  refine ad_iload_n dX8_statement_283 rfl ?_
                  refine ad_bipush dX8_statement_284 rfl ?_
                  refine ad_icmp_ne 365 dX8_statement_286 (by decide) (by omega) (by omega) (fun h286 => ?_) (fun h286 => ?_)
                  · skip
                    refine ad_iload_n dX8_statement_365 rfl ?_
                    refine ad_bipush dX8_statement_366 rfl ?_
                    refine ad_icmp_eq 377 dX8_statement_368 (by decide) (by omega) (by omega) (fun h368 => ?_) (fun h368 => ?_)
                    · exfalso; omega
                    · show ad_R _ _ _ _ 371 _ _ _
                      refine ad_iload_n dX8_statement_371 rfl ?_
                      refine ad_bipush dX8_statement_372 rfl ?_
                      refine ad_icmp_ne 508 dX8_statement_374 (by decide) (by omega) (by omega) (fun h374 => ?_) (fun h374 => ?_)
                      · skip
                        refine ad_iload_n dX8_statement_508 rfl ?_
                        refine ad_bipush dX8_statement_509 rfl ?_
                        refine ad_icmp_ne 644 dX8_statement_511 (by decide) (by omega) (by omega) (fun h511 => ?_) (fun h511 => ?_)
                        · skip
                          have hfe := (ad_fe_4 hp.1 (Or.inr h58)).2 hfi
                          refine ad_aload_n dX8_statement_644 rfl ?_
                          refine ad_bipush dX8_statement_645 rfl ?_
                          refine ad_bipush dX8_statement_647 rfl ?_
                          refine ad_cv2q rfl cl_X8_166 dX8_statement_649 (c_X8_tk9 w0 (by omega)) (by omega) (by show _ < 1; omega) (Nat.le_of_ble_eq_true rfl) (fun x649 s649 q649 => ?_)
                          obtain ⟨z649, rfl, b649, w649⟩ := q649
                          rw [hfe] at w649
                          refine ad_pop dX8_statement_652 rfl ?_
                          refine ad_iload_n dX8_statement_653 rfl ?_
                          refine ad_if_eq 668 dX8_statement_654 (by decide) (by omega) (fun h654 => ?_) (fun h654 => ?_)
                          · exfalso; omega
                          · show ad_R _ _ _ _ 657 _ _ _
                            refine ad_iload_n dX8_statement_657 rfl ?_
                            refine ad_bipush dX8_statement_658 rfl ?_
                            refine ad_icmp_ne 668 dX8_statement_660 (by decide) (by omega) (by omega) (fun h660 => ?_) (fun h660 => ?_)
                            · skip
                              refine ad_iload_n dX8_statement_668 rfl ?_
                              refine ad_if_eq 683 dX8_statement_669 (by decide) (by omega) (fun h669 => ?_) (fun h669 => ?_)
                              · exfalso; omega
                              · show ad_R _ _ _ _ 672 _ _ _
                                refine ad_iload_n dX8_statement_672 rfl ?_
                                refine ad_bipush dX8_statement_673 rfl ?_
                                refine ad_icmp_ne 683 dX8_statement_675 (by decide) (by omega) (by omega) (fun h675 => ?_) (fun h675 => ?_)
                                · exfalso; omega
                                · show ad_R _ _ _ _ 678 _ _ _
                                  refine ad_aload_n dX8_statement_678 rfl ?_
                                  refine ad_cv0q rfl cl_X8_151 dX8_statement_679 (c_X8_collects w649.2.2.2 hw9 (by omega)) (by omega) (by show _ < 1; omega) (Nat.le_of_ble_eq_true rfl) (fun x679 s679 q679 => ?_)
                                  obtain ⟨rfl, f679, r679⟩ := q679
                                  refine ad_pop dX8_statement_682 rfl ?_
                                  refine ad_iconst dX8_statement_683 ?_
                                  exact ad_retn dX8_statement_684 rfl rfl (ad_sq8_yes (ad_tr_99 h58) ((w649.1.mono (by decide) (by decide)).trans (f679.mono (by decide) (by decide))) (w649.2.2.1.fr f679 (by decide) (by decide)) r679 (ad_wA_gc hw9))
                            · exfalso; omega
                        · exfalso; omega
                      · exfalso; omega
                  · exfalso; omega
                · exfalso; omega
              · show ad_R _ _ _ _ 61 _ _ _
                refine ad_iload_n dX8_statement_61 rfl ?_
                refine ad_bipush dX8_statement_62 rfl ?_
                refine ad_icmp_eq 81 dX8_statement_64 (by decide) (by omega) (by omega) (fun h64 => ?_) (fun h64 => ?_)
                · skip
                  refine ad_aload_n dX8_statement_81 rfl ?_
                  refine ad_dup dX8_statement_82 rfl ?_
                  refine gf_X8_157 rfl dX8_statement_83 ?_
                  rw [hu.1]
                  refine ad_iconst dX8_statement_86 ?_
                  refine ad_iadd dX8_statement_87 ?_
                  refine pf_X8_157 rfl dX8_statement_88 ?_
                  have w0 := ad_rw_0 (σ := σ) ht hr hp hu.2
                  refine ad_iload_n dX8_statement_91 rfl ?_
                  refine ad_bipush dX8_statement_92 rfl ?_
                  refine ad_icmp_ne 283 dX8_statement_94 (by decide) (by omega) (by omega) (fun h94 => ?_) (fun h94 => ?_)
                  · skip
                    refine ad_iload_n dX8_statement_283 rfl ?_
                    refine ad_bipush dX8_statement_284 rfl ?_
                    refine ad_icmp_ne 365 dX8_statement_286 (by decide) (by omega) (by omega) (fun h286 => ?_) (fun h286 => ?_)
                    · skip
                      refine ad_iload_n dX8_statement_365 rfl ?_
                      refine ad_bipush dX8_statement_366 rfl ?_
                      refine ad_icmp_eq 377 dX8_statement_368 (by decide) (by omega) (by omega) (fun h368 => ?_) (fun h368 => ?_)
                      · exfalso; omega
                      · show ad_R _ _ _ _ 371 _ _ _
                        refine ad_iload_n dX8_statement_371 rfl ?_
                        refine ad_bipush dX8_statement_372 rfl ?_
                        refine ad_icmp_ne 508 dX8_statement_374 (by decide) (by omega) (by omega) (fun h374 => ?_) (fun h374 => ?_)
                        · skip
                          refine ad_iload_n dX8_statement_508 rfl ?_
                          refine ad_bipush dX8_statement_509 rfl ?_
                          refine ad_icmp_ne 644 dX8_statement_511 (by decide) (by omega) (by omega) (fun h511 => ?_) (fun h511 => ?_)
                          · exfalso; omega
                          · show ad_R _ _ _ _ 514 _ _ _
                            obtain ⟨t1, t2, t3, t4, hfe⟩ := ad_fi_120 hp.1 hfi h64
                            have hda := ad_dg_rng S (p + 1)
                            have hdb := ad_dg_rng S (p + 2)
                            have hdc := ad_dg_rng S (p + 3)
                            refine ad_aload_n dX8_statement_514 rfl ?_
                            refine ad_bipush dX8_statement_515 rfl ?_
                            refine ad_bipush dX8_statement_517 rfl ?_
                            refine ad_cv2q rfl cl_X8_166 dX8_statement_519 (c_X8_tkD w0 (by omega)) (by omega) (by show _ < 1; omega) (Nat.le_of_ble_eq_true rfl) (fun x519 s519 q519 => ?_)
                            obtain ⟨v519, rfl, b519, e519, w519⟩ := q519
                            have hv519 : v519 = ad_dg S (p + 1) := (e519 rfl (ad_ne1 t1.1)).trans (ad_dg_D t1.1)
                            subst hv519
                            rw [t1.2] at w519
                            refine ad_istore_n dX8_statement_522 (by decide) rfl (by dsimp only [ad_set]) ?_
                            refine ad_bipush dX8_statement_523 rfl ?_
                            refine ad_aload_n dX8_statement_525 rfl ?_
                            refine ad_bipush dX8_statement_526 rfl ?_
                            refine ad_bipush dX8_statement_528 rfl ?_
                            refine ad_cv2q rfl cl_X8_166 dX8_statement_530 (c_X8_tkD w519 (by omega)) (by omega) (by show _ < 1; omega) (Nat.le_of_ble_eq_true rfl) (fun x530 s530 q530 => ?_)
                            obtain ⟨v530, rfl, b530, e530, w530⟩ := q530
                            have hv530 : v530 = ad_dg S (p + 2) := (e530 rfl (ad_ne1 t2.1)).trans (ad_dg_D t2.1)
                            subst hv530
                            rw [t2.2] at w530
                            refine ad_imul dX8_statement_533 ?_
                            refine ad_istore dX8_statement_534 (by decide) rfl (by dsimp only [ad_set]) ?_
                            refine ad_iload dX8_statement_536 rfl ?_
                            refine ad_aload_n dX8_statement_538 rfl ?_
                            refine ad_bipush dX8_statement_539 rfl ?_
                            refine ad_bipush dX8_statement_541 rfl ?_
                            refine ad_cv2q rfl cl_X8_166 dX8_statement_543 (c_X8_tkD w530 (by omega)) (by omega) (by show _ < 1; omega) (Nat.le_of_ble_eq_true rfl) (fun x543 s543 q543 => ?_)
                            obtain ⟨v543, rfl, b543, e543, w543⟩ := q543
                            have hv543 : v543 = ad_dg S (p + 3) := (e543 rfl (ad_ne1 t3.1)).trans (ad_dg_D t3.1)
                            subst hv543
                            rw [t3.2] at w543
                            refine ad_iadd dX8_statement_546 ?_
                            refine ad_istore dX8_statement_547 (by decide) rfl (by dsimp only [ad_set]) ?_
                            refine ad_aload_n dX8_statement_549 rfl ?_
                            refine ad_bipush dX8_statement_550 rfl ?_
                            refine ad_bipush dX8_statement_552 rfl ?_
                            refine ad_cv2q rfl cl_X8_166 dX8_statement_554 (c_X8_tkL w543 (by omega)) (by omega) (by show _ < 1; omega) (Nat.le_of_ble_eq_true rfl) (fun x554 s554 q554 => ?_)
                            obtain ⟨v554, rfl, b554, e554, w554⟩ := q554
                            have hv554 : v554 = ad_sg S (p + 4) - 97 := e554 rfl (ad_ne1 t4.1)
                            subst hv554
                            rw [t4.2] at w554
                            refine ad_istore dX8_statement_557 (by decide) rfl (by dsimp only [ad_set]) ?_
                            refine ad_aload_n dX8_statement_559 rfl ?_
                            refine ad_bipush dX8_statement_560 rfl ?_
                            refine ad_bipush dX8_statement_562 rfl ?_
                            refine ad_cv2q rfl cl_X8_166 dX8_statement_564 (c_X8_tk9 w554 (by omega)) (by omega) (by show _ < 1; omega) (Nat.le_of_ble_eq_true rfl) (fun x564 s564 q564 => ?_)
                            obtain ⟨z564, rfl, b564, w564⟩ := q564
                            rw [hfe] at w564
                            refine ad_pop dX8_statement_567 rfl ?_
                            refine ad_aload_n dX8_statement_568 rfl ?_
                            refine ad_iload_n dX8_statement_569 rfl ?_
                            refine ad_cv1f rfl cl_X8_59 dX8_statement_570 (c_X8_isThere w564.2.2.2 (by omega) (by omega)) (by omega) (by show _ < 1; omega) (Nat.le_of_ble_eq_true rfl) ?_
                            refine ad_ifp_eq 612 dX8_statement_573 (by decide) (fun h573 => ?_) (fun h573 => ?_)
                            · skip
                              refine ad_iconst dX8_statement_612 ?_
                              refine ad_istore dX8_statement_613 (by decide) rfl (by dsimp only [ad_set]) ?_
                              refine ad_iload_n dX8_statement_615 rfl ?_
                              refine ad_if_eq 641 dX8_statement_616 (by decide) (by omega) (fun h616 => ?_) (fun h616 => ?_)
                              · exfalso; omega
                              · show ad_R _ _ _ _ 619 _ _ _
                                refine ad_iload dX8_statement_619 rfl ?_
                                refine ad_if_eq 641 dX8_statement_621 (by decide) (by omega) (fun h621 => ?_) (fun h621 => ?_)
                                · skip
                                  refine ad_iload dX8_statement_641 rfl ?_
                                  exact ad_retn dX8_statement_643 rfl rfl (ad_sq8_no (by rw [ad_tr_120 h64]; unfold ad_t_breaks; rw [if_neg (fun z => h573 z.1)]) hw9 w564)
                                · exfalso; omega
                            · show ad_R _ _ _ _ 576 _ _ _
                              refine ad_aload_n dX8_statement_576 rfl ?_
                              have hg := w564.2.2.2.2.2.2.2.2
                              have vr := w564.2.2.2.2.2.2.2.1 _ h573.2
                              have v10 := hr.H _ h573.2
                              have vl12 := (hr.1.2 _ h573.2).2.1
                              have vBr := ad_B_rng hw9 h573.2
                              have vlk := ad_lk_no vBr.1
                              have hv3 : ad_lk (ad_aB A (ad_dg S (p + 1)).toNat) = -9 → _ := fun z => (vr.2.2.1 (vlk.mp z)).1
                              refine gf_X8_9 rfl dX8_statement_577 ?_
                              refine ad_bipush dX8_statement_580 rfl ?_
                              refine ad_iload_n dX8_statement_582 rfl ?_
                              refine ad_imul dX8_statement_583 ?_
                              refine ad_iconst dX8_statement_584 ?_
                              refine ad_iadd dX8_statement_585 ?_
                              refine ad_ialj (50 * (ad_dg S (p + 1)).toNat + 4) dX8_statement_586 (by decide) ⟨by decide, by decide⟩ (by omega) (by show _ < 520; omega) (vr.2.1) ?_
                              refine ad_bipush dX8_statement_587 rfl ?_
                              refine ad_icmp_ne 612 dX8_statement_589 (by decide) (by have := ad_lk_rng (v := ad_aB A (ad_dg S (p + 1)).toNat) (by omega); constructor <;> omega) (by decide) (fun h589 => ?_) (fun h589 => ?_)
                              · skip
                                refine ad_iconst dX8_statement_612 ?_
                                refine ad_istore dX8_statement_613 (by decide) rfl (by dsimp only [ad_set]) ?_
                                refine ad_iload_n dX8_statement_615 rfl ?_
                                refine ad_if_eq 641 dX8_statement_616 (by decide) (by omega) (fun h616 => ?_) (fun h616 => ?_)
                                · exfalso; omega
                                · show ad_R _ _ _ _ 619 _ _ _
                                  refine ad_iload dX8_statement_619 rfl ?_
                                  refine ad_if_eq 641 dX8_statement_621 (by decide) (by omega) (fun h621 => ?_) (fun h621 => ?_)
                                  · skip
                                    refine ad_iload dX8_statement_641 rfl ?_
                                    exact ad_retn dX8_statement_643 rfl rfl (ad_sq8_no (by rw [ad_tr_120 h64]; unfold ad_t_breaks; rw [if_neg (fun z => h589 (vlk.mpr z.2.1))]) hw9 w564)
                                  · exfalso; omega
                              · show ad_R _ _ _ _ 592 _ _ _
                                refine ad_iload dX8_statement_592 rfl ?_
                                refine ad_aload_n dX8_statement_594 rfl ?_
                                have h589 := Decidable.not_not.mp h589
                                have vB := vlk.mp h589
                                have vlen := hv3 h589
                                refine gf_X8_9 rfl dX8_statement_595 ?_
                                refine ad_bipush dX8_statement_598 rfl ?_
                                refine ad_iload_n dX8_statement_600 rfl ?_
                                refine ad_imul dX8_statement_601 ?_
                                refine ad_iconst dX8_statement_602 ?_
                                refine ad_iadd dX8_statement_603 ?_
                                refine ad_ialj (50 * (ad_dg S (p + 1)).toNat + 5) dX8_statement_604 (by decide) ⟨by decide, by decide⟩ (by omega) (by show _ < 520; omega) (vlen) ?_
                                refine ad_icmp_ge 612 dX8_statement_605 (by decide) (by omega) (by omega) (fun h605 => ?_) (fun h605 => ?_)
                                · skip
                                  refine ad_iconst dX8_statement_612 ?_
                                  refine ad_istore dX8_statement_613 (by decide) rfl (by dsimp only [ad_set]) ?_
                                  refine ad_iload_n dX8_statement_615 rfl ?_
                                  refine ad_if_eq 641 dX8_statement_616 (by decide) (by omega) (fun h616 => ?_) (fun h616 => ?_)
                                  · exfalso; omega
                                  · show ad_R _ _ _ _ 619 _ _ _
                                    refine ad_iload dX8_statement_619 rfl ?_
                                    refine ad_if_eq 641 dX8_statement_621 (by decide) (by omega) (fun h621 => ?_) (fun h621 => ?_)
                                    · skip
                                      refine ad_iload dX8_statement_641 rfl ?_
                                      exact ad_retn dX8_statement_643 rfl rfl (ad_sq8_no (by rw [ad_tr_120 h64]; unfold ad_t_breaks; rw [if_neg (fun z => by have := z.2.2.2; have h1 := z.2.2.2; omega)]) hw9 w564)
                                    · exfalso; omega
                                · show ad_R _ _ _ _ 608 _ _ _
                                  refine ad_iconst dX8_statement_608 ?_
                                  refine ad_goto 613 dX8_statement_609 (by decide) ?_
                                  refine ad_istore dX8_statement_613 (by decide) rfl (by dsimp only [ad_set]) ?_
                                  refine ad_iload_n dX8_statement_615 rfl ?_
                                  refine ad_if_eq 641 dX8_statement_616 (by decide) (by omega) (fun h616 => ?_) (fun h616 => ?_)
                                  · exfalso; omega
                                  · show ad_R _ _ _ _ 619 _ _ _
                                    refine ad_iload dX8_statement_619 rfl ?_
                                    refine ad_if_eq 641 dX8_statement_621 (by decide) (by omega) (fun h621 => ?_) (fun h621 => ?_)
                                    · exfalso; omega
                                    · show ad_R _ _ _ _ 624 _ _ _
                                      refine ad_aload_n dX8_statement_624 rfl ?_
                                      refine gf_X8_9 rfl dX8_statement_625 ?_
                                      refine ad_bipush dX8_statement_628 rfl ?_
                                      refine ad_iload_n dX8_statement_630 rfl ?_
                                      refine ad_imul dX8_statement_631 ?_
                                      refine ad_bipush dX8_statement_632 rfl ?_
                                      refine ad_iadd dX8_statement_634 ?_
                                      refine ad_iload dX8_statement_635 rfl ?_
                                      refine ad_iadd dX8_statement_637 ?_
                                      refine ad_iload dX8_statement_638 rfl ?_
                                      refine ad_iasj (50 * (ad_dg S (p + 1)).toNat + 6 + (10 * ad_dg S (p + 2) + ad_dg S (p + 3)).toNat) dX8_statement_640 (by decide) ⟨by decide, by decide⟩ (by omega) (by show _ < 520; omega) ?_
                                      refine ad_iload dX8_statement_641 rfl ?_
                                      exact ad_retn dX8_statement_643 rfl rfl (ad_sq8_yes (by rw [ad_tr_120 h64]; unfold ad_t_breaks; rw [if_pos ⟨h573, vB, by omega, by omega⟩]) ((w564.1.mono (by decide) (by decide)).trans (ad_f8.st (by decide) (by decide))) (w564.2.2.1.fr (ad_f8.st (ks := [21]) (js := []) (by decide) (by decide)) (by decide) (by decide)) (by rw [ad_st_r1]; exact ad_ra_dmg w564.2.2.2 hw9 h573.2 vB (by omega) (by omega)) (ad_wA_dmg hw9 (by omega)))
                        · exfalso; omega
                    · exfalso; omega
                  · exfalso; omega
                · show ad_R _ _ _ _ 67 _ _ _
                  exfalso
                  have := (ad_fe_6 (S := S) (p := p) (m := 0) (by
                    exact ad_fx_6 (by omega)) hp.1).2 hfi
                  have := (Prod.mk.inj this).2
                  omega
