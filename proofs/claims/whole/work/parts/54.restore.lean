/-! ===== the reference: letters restored ===== -/
theorem ad_good_len12 {s : List Int} : ∀ {l : List (Int × Int)}, ad_good s l → l.length ≤ (ad_spell s l).length
  | [], _ => Nat.le_refl _
  | (m, w) :: l, h => by
    have ih := ad_good_len12 (l := l) (fun q hq => h q (List.mem_cons_of_mem _ hq))
    have h0 := h (m, w) List.mem_cons_self
    simp only [ad_spell, List.length_append, List.length_cons]
    split
    · simp; omega
    · simp only [List.length_map, List.length_range]
      rcases h0 with h0 | h0
      · contradiction
      · have := h0.1
        simp only at this
        omega
theorem ad_T12 {A : ad_Ar} (hw : ad_wA A) {v : Nat} (hv : ad_aH A v = true) : (ad_aT A v).length ≤ 12 := by
  by_cases hb : ad_aB A v = -1
  · rw [hw.2.2.2.2.2.2.2.2.2.2.1 v hb]; simp
  · obtain ⟨-, -, h1, h2⟩ := (hw.2.2.2.2.1 v hv).2 hb
    have := ad_good_len12 h2
    have := (hw.2.2.1 v hv).1.2.1
    rw [← h1] at *
    omega
/-- a step spelled: where it stands -/
theorem ad_sp_at {s : List Int} {l : List (Int × Int)} (hg : ad_good s l) {i : Nat} (hi : i < l.length) :
    ((l.getD i (0, 0)).1 = 0 → (ad_spell s l).getD (ad_spell s (l.take i)).length 0 = (l.getD i (0, 0)).2) ∧
    ((l.getD i (0, 0)).1 ≠ 0 → 0 < (l.getD i (0, 0)).1 ∧ 0 ≤ (l.getD i (0, 0)).2 ∧ (l.getD i (0, 0)).2 + (l.getD i (0, 0)).1 ≤ s.length ∧ ∀ j : Nat, (j : Int) < (l.getD i (0, 0)).1 → (ad_spell s l).getD ((ad_spell s (l.take i)).length + j) 0 = s.getD ((l.getD i (0, 0)).2.toNat + j) 0) ∧
    (ad_spell s (l.take (i + 1))).length = (ad_spell s (l.take i)).length + (max 1 (l.getD i (0, 0)).1).toNat ∧ (ad_spell s (l.take (i + 1))).length ≤ (ad_spell s l).length ∧ 0 ≤ (l.getD i (0, 0)).1 := by
  have hq : l.getD i (0, 0) = l[i] := by rw [List.getD_eq_getElem?_getD, List.getElem?_eq_getElem hi]; rfl
  have hm : l[i] ∈ l := List.getElem_mem hi
  rw [hq]
  have hgi := hg _ hm
  have e1 : l.take (i + 1) = l.take i ++ [l[i]] := by rw [List.take_succ]; simp [List.getElem?_eq_getElem hi]
  have e2 : l = l.take i ++ (l[i] :: l.drop (i + 1)) := by rw [← List.drop_eq_getElem_cons hi, List.take_append_drop]
  have e3 : ad_spell s l = ad_spell s (l.take i) ++ (ad_spell s [l[i]] ++ ad_spell s (l.drop (i + 1))) := by
    conv => lhs; rw [e2]
    rw [ad_spell_app, ← List.singleton_append, ad_spell_app]
  have e4 : ad_spell s (l.take (i + 1)) = ad_spell s (l.take i) ++ ad_spell s [l[i]] := by rw [e1, ad_spell_app]
  rw [e3, e4]
  generalize ad_spell s (l.take i) = pre
  generalize ad_spell s (l.drop (i + 1)) = post
  generalize l[i] = q at hgi hm
  obtain ⟨m, w⟩ := q
  have e5 : ad_spell s [(m, w)] = if m = 0 then [w] else (List.range m.toNat).map (fun j => s.getD (w.toNat + j) (-1)) := by simp [ad_spell]
  rw [e5]
  simp only at hgi ⊢
  refine ⟨fun h => ?_, fun h => ?_, ?_, ?_, ?_⟩
  · rw [if_pos h, List.getD_eq_getElem?_getD, List.getElem?_append_right (by omega)]
    simp
  · rcases hgi with h0 | ⟨h1, h2, h3⟩
    · exact absurd h0 h
    · refine ⟨h1, h2, h3, fun j hj => ?_⟩
      rw [if_neg h, List.getD_eq_getElem?_getD, List.getElem?_append_right (by omega), Nat.add_sub_cancel_left, List.getElem?_append_left (by simp; omega), List.getElem?_map, List.getElem?_range (by omega)]
      simp only [Option.map_some, Option.getD_some]
      rw [List.getD_eq_getElem?_getD, List.getD_eq_getElem?_getD, List.getElem?_eq_getElem (show w.toNat + j < s.length by omega)]
      rfl
  · rw [List.length_append]
    congr 1
    rcases hgi with h0 | ⟨h1, h2, h3⟩
    · rw [if_pos h0, h0]; rfl
    · rw [if_neg (by omega), List.length_map, List.length_range]; omega
  · rw [List.length_append, List.length_append, List.length_append]; omega
  · omega
/-- the versions D are restored -/
def ad_rq (σ : ad_Mem) (A : ad_Ar) (D : Nat → Bool) : Prop := ad_rr σ D (ad_aL A) ∧ ∀ v, D v = true → ad_aH A v = true
def ad_fl (m : ad_Mem) (v : Nat) (l : List Int) (i : Nat) : Prop := ∀ j, j < i → m 28 0 (12 * v + j) = l.getD j 0
theorem ad_fl_put {m : ad_Mem} {v : Nat} {l : List Int} {j : Nat} {x : Int} (h : ad_fl m v l j) (hx : x = l.getD j 0) : ad_fl (ad_st m 28 0 (12 * v + j) x) v l (j + 1) := fun q hq => by
  rw [ad_st_r1]
  by_cases hqj : q = j
  · subst hqj; rw [ad_u1_eq]; exact hx
  · rw [ad_u1_ne _ _ (by omega)]; exact h q (by omega)
theorem ad_rq_put {m : ad_Mem} {A : ad_Ar} {D : Nat → Bool} {v j : Nat} {x : Int} (h : ad_rq m A D) (hd : D v = false) (hv : v < 10) (hj : j < 12) : ad_rq (ad_st m 28 0 (12 * v + j) x) A D := by
  refine ⟨⟨fun u hu => by rw [ad_st_ne _ _ (by decide)]; exact h.1.1 u hu, fun u hu hdu => ⟨(h.1.2 u hu hdu).1, fun i hi => ?_⟩⟩, h.2⟩
  have hl := (h.1.2 u hu hdu).1
  have hne : u ≠ v := fun e => by rw [e, hd] at hdu; cases hdu
  rw [ad_st_r1, ad_u1_ne _ _ (by omega)]
  exact (h.1.2 u hu hdu).2 i hi
theorem ad_rq_end {m : ad_Mem} {A : ad_Ar} {D : Nat → Bool} {v n : Nat} (h : ad_rq m A D) (hv : v < 10) (hH : ad_aH A v = true) (hl : (ad_aL A v).length ≤ 12) (hn : n = (ad_aL A v).length) (hf : ad_fl m v (ad_aL A v) n) : ad_rq (ad_st m 29 0 v (n : Int)) A (fun u => D u || u == v) := by
  subst hn
  refine ⟨⟨fun u hu => ?_, fun u hu hdu => ?_⟩, fun u hu => ?_⟩
  · rw [ad_st_r1]
    by_cases huv : u = v
    · subst huv; rw [ad_u1_eq, if_pos (by simp)]
    · rw [ad_u1_ne _ _ huv, h.1.1 u hu]
      have : (u == v) = false := by simpa using huv
      show _ = if (D u || u == v) = true then ((ad_aL A u).length : Int) else -9
      rw [this, Bool.or_false]
  · rw [ad_st_ne _ _ (by decide)]
    by_cases huv : u = v
    · subst huv; exact ⟨hl, hf⟩
    · have : (u == v) = false := by simpa using huv
      have hdu : (D u || u == v) = true := hdu
      rw [this, Bool.or_false] at hdu
      exact h.1.2 u hu hdu
  · rcases Bool.or_eq_true_iff.mp hu with h1 | h1
    · exact h.2 u h1
    · rw [show u = v by simpa using h1]; exact hH
theorem ad_neg9 {n : Nat} : ¬ ((n : Int) = -9) := by omega
theorem ad_B_rng {A : ad_Ar} (hw : ad_wA A) {v : Nat} (h : ad_aH A v = true) : -1 ≤ ad_aB A v ∧ ad_aB A v ≤ 9 := by
  have h1 := hw.2.2.2.2.1 v h
  by_cases hz : ad_aB A v = -1
  · omega
  · have := (h1.2 hz).1; omega
theorem ad_dep_d {A : ad_Ar} (hw : ad_wA A) {v : Nat} (h : ad_aH A v = true) : ad_dep A v ≤ 8 ∧ (ad_aB A v = -1 → ad_dep A v = 0) ∧ (ad_aB A v ≠ -1 → ad_dep A v = ad_dep A (ad_aB A v).toNat + 1) := ⟨(ad_dep_facts hw h).1, (ad_dep_facts hw h).2.2⟩
theorem c_X8_restores_s {g : ad_G} {A : ad_Ar} (hw : ad_wA A) (fuel : Nat) (hrec : ∀ (v : Nat) (d : Nat) (σ : ad_Mem) (D : Nat → Bool), ad_ra (σ 21 0) A → ad_aH A v = true → ad_dep A v + 1 ≤ fuel → fuel + 1 ≤ d → ad_rq σ A D → True → ad_V g mX8_restores_ d [ad_rf g 8 0, ad_iv (v : Int)] σ (fun m => ad_f8 [28, 29] [] σ m ∧ ∃ D1, ad_rq m A D1 ∧ D1 v = true ∧ (∀ u, D u = true → D1 u = true) ∧ ∀ u, D1 u = true → D u = true ∨ ad_dep A u ≤ ad_dep A v)) (v : Nat) (d : Nat) (σ : ad_Mem) (D : Nat → Bool) (hr : ad_ra (σ 21 0) A) (hv : ad_aH A v = true) (hdep : ad_dep A v ≤ fuel) (hd : fuel + 2 ≤ d) (hq0 : ad_rq σ A D) : ad_V g mX8_restores_ d [ad_rf g 8 0, ad_iv (v : Int)] σ (fun m => ad_f8 [28, 29] [] σ m ∧ ∃ D1, ad_rq m A D1 ∧ D1 v = true ∧ (∀ u, D u = true → D1 u = true) ∧ ∀ u, D1 u = true → D u = true ∨ ad_dep A u ≤ ad_dep A v) := by
  have hr0 := hr
  obtain ⟨⟨r1, r1b⟩, ⟨r2, r3, r4, r5, r6⟩, r7, r8, r9, r10⟩ := hr
  obtain ⟨hvc, hl12, ht12⟩ := r1b v hv
  have hv10 : v < 10 := by omega
  obtain ⟨hv1, hv2, hv3, hv4⟩ := r9 v hv
  have hwB := hw.2.2.2.2.1 v hv
  have hdd := ad_dep_d hw hv
  have hlk := ad_lk_no hwB.1
  have hl29 := hq0.1.1 v hv10
  have hend : ∀ (b : Int) (n : Nat) (x5 x6 x7 x8 : Option Value) (m : ad_Mem) (D1 : Nat → Bool), ad_f8 [28, 29] [] σ m → ad_rq m A D1 → (∀ u, D u = true → D1 u = true) → (∀ u, D1 u = true → D u = true ∨ ad_dep A u ≤ ad_dep A v) → n = (ad_aL A v).length → ad_fl m v (ad_aL A v) n → ad_R g mX8_restores_ d (ad_ZV mX8_restores_ (fun m => ad_f8 [28, 29] [] σ m ∧ ∃ D1, ad_rq m A D1 ∧ D1 v = true ∧ (∀ u, D u = true → D1 u = true) ∧ ∀ u, D1 u = true → D u = true ∨ ad_dep A u ≤ ad_dep A v)) 210 [some (ad_rf g 8 0), some (ad_iv (v : Int)), some (ad_iv (50 * (v : Int))), some (ad_iv b), some (ad_iv (n : Int)), x5, x6, x7, x8] [] m := by
    intro b n x5 x6 x7 x8 m D1 hf hq hs1 hs2 hn hfl
    refine ad_aload_n dX8_restores__210 rfl ?_
    refine gf_X8_34 rfl dX8_restores__211 ?_
    refine ad_iload_n dX8_restores__214 rfl ?_
    refine ad_iload dX8_restores__215 rfl ?_
    refine ad_iasj (v) dX8_restores__217 (by decide) ⟨by decide, by decide⟩ (by omega) (by show _ < 10; omega) ?_
    exact ad_retv dX8_restores__218 rfl (by
          refine ⟨hf.trans (ad_f8.st (by decide) (by decide)), _, ad_rq_end hq hv10 hv hl12 hn hfl, by simp, fun u hu => ?_, fun u hu => ?_⟩
          · simp [hs1 u hu]
          · rcases Bool.or_eq_true_iff.mp hu with h1 | h1
            · exact hs2 u h1
            · right; rw [show u = v by simpa using h1]; exact Nat.le_refl _)
  have hwh : D v = false → ad_aB A v = -1 → ∀ (x4 x5 x6 x7 x8 : Option Value), ad_R g mX8_restores_ d (ad_ZV mX8_restores_ (fun m => ad_f8 [28, 29] [] σ m ∧ ∃ D1, ad_rq m A D1 ∧ D1 v = true ∧ (∀ u, D u = true → D1 u = true) ∧ ∀ u, D1 u = true → D u = true ∨ ad_dep A u ≤ ad_dep A v)) 35 [some (ad_rf g 8 0), some (ad_iv (v : Int)), some (ad_iv (50 * (v : Int))), some (ad_iv (-9)), x4, x5, x6, x7, x8] [] σ := by
    intro hDv hb x4 x5 x6 x7 x8
    have hwl : ∀ (n : Nat) (i : Nat) (m : ad_Mem), (i ≤ (ad_aL A v).length) → (ad_f8 [28, 29] [] σ m) → (ad_rq m A D) → (ad_fl m v (ad_aL A v) i) → ((((ad_aL A v).length - i : Nat) : Int)).toNat ≤ n → ad_R g mX8_restores_ d (ad_ZV mX8_restores_ (fun m => ad_f8 [28, 29] [] σ m ∧ ∃ D1, ad_rq m A D1 ∧ D1 v = true ∧ (∀ u, D u = true → D1 u = true) ∧ ∀ u, D1 u = true → D u = true ∨ ad_dep A u ≤ ad_dep A v)) 48 [some (ad_rf g 8 0), some (ad_iv (v : Int)), some (ad_iv (50 * (v : Int))), some (ad_iv (-9)), some (ad_iv ((ad_aL A v).length : Int)), some (ad_iv (i : Int)), x6, x7, x8] [] m := by
      intro n
      induction n with
      | zero =>
        intro i m hi hf hq hfl hn
        refine ad_iload dX8_restores__48 rfl ?_
        refine ad_iload dX8_restores__50 rfl ?_
        refine ad_icmp_ge 85 dX8_restores__52 (by decide) (by omega) (by omega) (fun h52 => ?_) (fun h52 => ?_)
        · skip
          refine ad_goto 210 dX8_restores__85 (by decide) ?_
          exact hend _ _ _ _ _ _ _ D hf hq (fun _ h => h) (fun _ h => Or.inl h) rfl (fun j hj => hfl j (by omega))
        · show ad_R _ _ _ _ 55 _ _ _
          exfalso; omega
      | succ n ih =>
        intro i m hi hf hq hfl hn
        refine ad_iload dX8_restores__48 rfl ?_
        refine ad_iload dX8_restores__50 rfl ?_
        refine ad_icmp_ge 85 dX8_restores__52 (by decide) (by omega) (by omega) (fun h52 => ?_) (fun h52 => ?_)
        · skip
          refine ad_goto 210 dX8_restores__85 (by decide) ?_
          exact hend _ _ _ _ _ _ _ D hf hq (fun _ h => h) (fun _ h => Or.inl h) rfl (fun j hj => hfl j (by omega))
        · show ad_R _ _ _ _ 55 _ _ _
          refine ad_aload_n dX8_restores__55 rfl ?_
          refine gf_X8_31 rfl dX8_restores__56 ?_
          refine ad_bipush dX8_restores__59 rfl ?_
          refine ad_iload_n dX8_restores__61 rfl ?_
          refine ad_imul dX8_restores__62 ?_
          refine ad_iload dX8_restores__63 rfl ?_
          refine ad_iadd dX8_restores__65 ?_
          refine ad_aload_n dX8_restores__66 rfl ?_
          refine gf_X8_9 rfl dX8_restores__67 ?_
          refine ad_iload_n dX8_restores__70 rfl ?_
          refine ad_bipush dX8_restores__71 rfl ?_
          refine ad_iadd dX8_restores__73 ?_
          refine ad_iload dX8_restores__74 rfl ?_
          refine ad_iadd dX8_restores__76 ?_
          refine ad_ialj (50 * v + 6 + i) dX8_restores__77 (by decide) ⟨by decide, by decide⟩ (by omega) (by show _ < 520; omega) ((congrFun (hf.1 21 0 (by decide) (by decide)) _).trans ((hv3 hb).2 i (by omega))) ?_
          refine ad_iasj (12 * v + i) dX8_restores__78 (by decide) ⟨by decide, by decide⟩ (by omega) (by show _ < 120; omega) ?_
          refine ad_iinc dX8_restores__79 rfl (by decide) rfl (by dsimp only [ad_set]) ?_
          refine ad_goto 48 dX8_restores__82 (by decide) ?_
          exact ih (i + 1) _ (by omega) (hf.trans (ad_f8.st (by decide) (by decide))) (ad_rq_put hq hDv hv10 (by omega)) (ad_fl_put hfl rfl) (by omega)
    refine ad_aload_n dX8_restores__35 rfl ?_
    refine gf_X8_9 rfl dX8_restores__36 ?_
    refine ad_iload_n dX8_restores__39 rfl ?_
    refine ad_iconst dX8_restores__40 ?_
    refine ad_iadd dX8_restores__41 ?_
    refine ad_ialj (50 * v + 5) dX8_restores__42 (by decide) ⟨by decide, by decide⟩ (by omega) (by show _ < 520; omega) ((hv3 hb).1) ?_
    refine ad_istore dX8_restores__43 (by decide) rfl (by dsimp only [ad_set]) ?_
    refine ad_iconst dX8_restores__45 ?_
    refine ad_istore dX8_restores__46 (by decide) rfl (by dsimp only [ad_set]) ?_
    exact hwl _ 0 σ (by omega) ad_f8.refl hq0 (fun j hj => by omega) (Nat.le_refl _)
  have hde : D v = false → ∀ (B : Nat) (x4 x5 x6 x7 x8 : Option Value), ad_aB A v = (B : Int) → ad_R g mX8_restores_ d (ad_ZV mX8_restores_ (fun m => ad_f8 [28, 29] [] σ m ∧ ∃ D1, ad_rq m A D1 ∧ D1 v = true ∧ (∀ u, D u = true → D1 u = true) ∧ ∀ u, D1 u = true → D u = true ∨ ad_dep A u ≤ ad_dep A v)) 88 [some (ad_rf g 8 0), some (ad_iv (v : Int)), some (ad_iv (50 * (v : Int))), some (ad_iv (B : Int)), some (ad_iv 0), x5, x6, x7, x8] [] σ := by
    intro hDv B x4 x5 x6 x7 x8 hB
    have hBn : ad_aB A v ≠ -1 := by omega
    obtain ⟨hB1, hB2, hsp, hg8⟩ := hwB.2 hBn
    rw [hB, Int.toNat_natCast] at hB2 hsp hg8
    have hdB := hdd.2.2 hBn
    rw [hB, Int.toNat_natCast] at hdB
    have hB10 : B < 10 := by omega
    have hBl := (r1b B hB2).2.1
    obtain ⟨hT1, hT2⟩ := hv4 hBn
    have hsl : ∀ (n : Nat) (s : Nat) (x6 x7 x8 : Option Value) (m : ad_Mem) (D1 : Nat → Bool), s ≤ (ad_aT A v).length → ad_f8 [28, 29] [] σ m → ad_rq m A D1 → D1 v = false → D1 B = true → (∀ u, D u = true → D1 u = true) → (∀ u, D1 u = true → D u = true ∨ ad_dep A u ≤ ad_dep A v) → ad_fl m v (ad_aL A v) (ad_spell (ad_aL A B) ((ad_aT A v).take s)).length → (ad_aT A v).length - s ≤ n → ad_R g mX8_restores_ d (ad_ZV mX8_restores_ (fun m => ad_f8 [28, 29] [] σ m ∧ ∃ D1, ad_rq m A D1 ∧ D1 v = true ∧ (∀ u, D u = true → D1 u = true) ∧ ∀ u, D1 u = true → D u = true ∨ ad_dep A u ≤ ad_dep A v)) 96 [some (ad_rf g 8 0), some (ad_iv (v : Int)), some (ad_iv (50 * (v : Int))), some (ad_iv (B : Int)), some (ad_iv (((ad_spell (ad_aL A B) ((ad_aT A v).take s)).length : Nat) : Int)), some (ad_iv (s : Int)), x6, x7, x8] [] m := by
      intro n
      induction n with
      | zero =>
        intro s x6 x7 x8 m D1 hs hf hq hDv1 hD1 hs1 hs2 hfl hn
        refine ad_iload dX8_restores__96 rfl ?_
        refine ad_aload_n dX8_restores__98 rfl ?_
        refine gf_X8_9 rfl dX8_restores__99 ?_
        refine ad_iload_n dX8_restores__102 rfl ?_
        refine ad_bipush dX8_restores__103 rfl ?_
        refine ad_iadd dX8_restores__105 ?_
        refine ad_ialj (50 * v + 18) dX8_restores__106 (by decide) ⟨by decide, by decide⟩ (by omega) (by show _ < 520; omega) ((congrFun (hf.1 21 0 (by decide) (by decide)) _).trans (hT1)) ?_
        refine ad_icmp_ge 210 dX8_restores__107 (by decide) (by omega) (by omega) (fun h107 => ?_) (fun h107 => ?_)
        · skip
          exact hend _ _ _ _ _ _ _ D1 hf hq hs1 hs2 (by rw [show s = (ad_aT A v).length by omega, List.take_length, ← hsp]) hfl
        · show ad_R _ _ _ _ 110 _ _ _
          exfalso; omega
      | succ n ih =>
        intro s x6 x7 x8 m D1 hs hf hq hDv1 hD1 hs1 hs2 hfl hn
        have hout : ∀ (m : ad_Mem) (i : Nat), s < (ad_aT A v).length → ad_f8 [28, 29] [] σ m → ad_rq m A D1 → ad_fl m v (ad_aL A v) ((ad_spell (ad_aL A B) ((ad_aT A v).take s)).length + i) → ((ad_spell (ad_aL A B) ((ad_aT A v).take s)).length + i = (ad_spell (ad_aL A B) ((ad_aT A v).take (s + 1))).length) → ad_R g mX8_restores_ d (ad_ZV mX8_restores_ (fun m => ad_f8 [28, 29] [] σ m ∧ ∃ D1, ad_rq m A D1 ∧ D1 v = true ∧ (∀ u, D u = true → D1 u = true) ∧ ∀ u, D1 u = true → D u = true ∨ ad_dep A u ≤ ad_dep A v)) 204 [some (ad_rf g 8 0), some (ad_iv (v : Int)), some (ad_iv (50 * (v : Int))), some (ad_iv (B : Int)), some (ad_iv (((ad_spell (ad_aL A B) ((ad_aT A v).take s)).length + i : Nat) : Int)), some (ad_iv (s : Int)), some (ad_iv ((ad_aT A v).getD s (0, 0)).1), some (ad_iv ((ad_aT A v).getD s (0, 0)).2), some (ad_iv (i : Int))] [] m := by
          intro m i hs hf hq hfl hk
          rw [hk] at hfl ⊢
          refine ad_iinc dX8_restores__204 rfl (by decide) rfl (by dsimp only [ad_set]) ?_
          refine ad_goto 96 dX8_restores__207 (by decide) ?_
          exact ih (s + 1) _ _ _ _ D1 (by omega) hf hq hDv1 hD1 hs1 hs2 hfl (by omega)
        have hin : ∀ (n2 : Nat) (i : Nat) (m : ad_Mem), s < (ad_aT A v).length → (i : Int) ≤ max 1 ((ad_aT A v).getD s (0, 0)).1 → ad_f8 [28, 29] [] σ m → ad_rq m A D1 → ad_fl m v (ad_aL A v) ((ad_spell (ad_aL A B) ((ad_aT A v).take s)).length + i) → (max 1 ((ad_aT A v).getD s (0, 0)).1 - i).toNat ≤ n2 → ad_R g mX8_restores_ d (ad_ZV mX8_restores_ (fun m => ad_f8 [28, 29] [] σ m ∧ ∃ D1, ad_rq m A D1 ∧ D1 v = true ∧ (∀ u, D u = true → D1 u = true) ∧ ∀ u, D1 u = true → D u = true ∨ ad_dep A u ≤ ad_dep A v)) 147 [some (ad_rf g 8 0), some (ad_iv (v : Int)), some (ad_iv (50 * (v : Int))), some (ad_iv (B : Int)), some (ad_iv (((ad_spell (ad_aL A B) ((ad_aT A v).take s)).length + i : Nat) : Int)), some (ad_iv (s : Int)), some (ad_iv ((ad_aT A v).getD s (0, 0)).1), some (ad_iv ((ad_aT A v).getD s (0, 0)).2), some (ad_iv (i : Int))] [] m := by
          intro n2
          induction n2 with
          | zero =>
            intro i m hs hi hf hq hfl hn2
            obtain ⟨k1, k2, k3, k4, k5⟩ := ad_sp_at hg8 hs
            rw [← hsp] at k1 k2 k4
            have hk6 : ¬ ((ad_aT A v).getD s (0, 0)).1 ≠ 0 ∨ (0 < ((ad_aT A v).getD s (0, 0)).1 ∧ 0 ≤ ((ad_aT A v).getD s (0, 0)).2 ∧ ((ad_aT A v).getD s (0, 0)).2 + ((ad_aT A v).getD s (0, 0)).1 ≤ (ad_aL A B).length) := by
              by_cases hz : ((ad_aT A v).getD s (0, 0)).1 ≠ 0
              · exact Or.inr ⟨(k2 hz).1, (k2 hz).2.1, (k2 hz).2.2.1⟩
              · exact Or.inl hz
            refine ad_iload dX8_restores__147 rfl ?_
            refine ad_iconst dX8_restores__149 ?_
            refine ad_iload dX8_restores__150 rfl ?_
            refine ad_mmax rfl lk_X8_67 dX8_restores__152 (by omega) (by omega) (by omega) (Nat.le_of_ble_eq_true rfl) ?_
            refine ad_icmp_ge 204 dX8_restores__155 (by decide) (by omega) (by omega) (fun h155 => ?_) (fun h155 => ?_)
            · skip
              exact hout m i hs hf hq hfl (by omega)
            · show ad_R _ _ _ _ 158 _ _ _
              exfalso; omega
          | succ n2 ih2 =>
            intro i m hs hi hf hq hfl hn2
            obtain ⟨k1, k2, k3, k4, k5⟩ := ad_sp_at hg8 hs
            rw [← hsp] at k1 k2 k4
            have hk6 : ¬ ((ad_aT A v).getD s (0, 0)).1 ≠ 0 ∨ (0 < ((ad_aT A v).getD s (0, 0)).1 ∧ 0 ≤ ((ad_aT A v).getD s (0, 0)).2 ∧ ((ad_aT A v).getD s (0, 0)).2 + ((ad_aT A v).getD s (0, 0)).1 ≤ (ad_aL A B).length) := by
              by_cases hz : ((ad_aT A v).getD s (0, 0)).1 ≠ 0
              · exact Or.inr ⟨(k2 hz).1, (k2 hz).2.1, (k2 hz).2.2.1⟩
              · exact Or.inl hz
            refine ad_iload dX8_restores__147 rfl ?_
            refine ad_iconst dX8_restores__149 ?_
            refine ad_iload dX8_restores__150 rfl ?_
            refine ad_mmax rfl lk_X8_67 dX8_restores__152 (by omega) (by omega) (by omega) (Nat.le_of_ble_eq_true rfl) ?_
            refine ad_icmp_ge 204 dX8_restores__155 (by decide) (by omega) (by omega) (fun h155 => ?_) (fun h155 => ?_)
            · skip
              exact hout m i hs hf hq hfl (by omega)
            · show ad_R _ _ _ _ 158 _ _ _
              have hlt : (ad_spell (ad_aL A B) ((ad_aT A v).take s)).length + i < (ad_aL A v).length := by omega
              refine ad_aload_n dX8_restores__158 rfl ?_
              refine gf_X8_31 rfl dX8_restores__159 ?_
              refine ad_bipush dX8_restores__162 rfl ?_
              refine ad_iload_n dX8_restores__164 rfl ?_
              refine ad_imul dX8_restores__165 ?_
              refine ad_iload dX8_restores__166 rfl ?_
              refine ad_iadd dX8_restores__168 ?_
              refine ad_iload dX8_restores__169 rfl ?_
              refine ad_if_ne 179 dX8_restores__171 (by decide) (by omega) (fun h171 => ?_) (fun h171 => ?_)
              · skip
                have k22 := k2 h171
                refine ad_aload_n dX8_restores__179 rfl ?_
                refine gf_X8_31 rfl dX8_restores__180 ?_
                refine ad_bipush dX8_restores__183 rfl ?_
                refine ad_iload_n dX8_restores__185 rfl ?_
                refine ad_imul dX8_restores__186 ?_
                refine ad_iload dX8_restores__187 rfl ?_
                refine ad_iadd dX8_restores__189 ?_
                refine ad_iload dX8_restores__190 rfl ?_
                refine ad_iadd dX8_restores__192 ?_
                refine ad_ialj (12 * B + (((ad_aT A v).getD s (0, 0)).2.toNat + i)) dX8_restores__193 (by decide) ⟨by decide, by decide⟩ (by omega) (by show _ < 120; omega) ((hq.1.2 B hB10 hD1).2 _ (by omega)) ?_
                refine ad_iasj (12 * v + ((ad_spell (ad_aL A B) ((ad_aT A v).take s)).length + i)) dX8_restores__194 (by decide) ⟨by decide, by decide⟩ (by omega) (by show _ < 120; omega) ?_
                refine ad_iinc dX8_restores__195 rfl (by decide) rfl (by dsimp only [ad_set]) ?_
                refine ad_iinc dX8_restores__198 rfl (by decide) rfl (by dsimp only [ad_set]) ?_
                refine ad_goto 147 dX8_restores__201 (by decide) ?_
                exact ih2 (i + 1) _ hs (by omega) (hf.trans (ad_f8.st (by decide) (by decide))) (ad_rq_put hq hDv1 hv10 (by omega)) (ad_fl_put hfl (by
                  rw [k22.2.2.2 i (by omega)])) (by omega)
              · show ad_R _ _ _ _ 174 _ _ _
                refine ad_iload dX8_restores__174 rfl ?_
                refine ad_goto 194 dX8_restores__176 (by decide) ?_
                refine ad_iasj (12 * v + ((ad_spell (ad_aL A B) ((ad_aT A v).take s)).length + i)) dX8_restores__194 (by decide) ⟨by decide, by decide⟩ (by omega) (by show _ < 120; omega) ?_
                refine ad_iinc dX8_restores__195 rfl (by decide) rfl (by dsimp only [ad_set]) ?_
                refine ad_iinc dX8_restores__198 rfl (by decide) rfl (by dsimp only [ad_set]) ?_
                refine ad_goto 147 dX8_restores__201 (by decide) ?_
                exact ih2 (i + 1) _ hs (by omega) (hf.trans (ad_f8.st (by decide) (by decide))) (ad_rq_put hq hDv1 hv10 (by omega)) (ad_fl_put hfl (by
                  rw [show i = 0 by omega, Nat.add_zero]; exact (k1 (by omega)).symm)) (by omega)
        refine ad_iload dX8_restores__96 rfl ?_
        refine ad_aload_n dX8_restores__98 rfl ?_
        refine gf_X8_9 rfl dX8_restores__99 ?_
        refine ad_iload_n dX8_restores__102 rfl ?_
        refine ad_bipush dX8_restores__103 rfl ?_
        refine ad_iadd dX8_restores__105 ?_
        refine ad_ialj (50 * v + 18) dX8_restores__106 (by decide) ⟨by decide, by decide⟩ (by omega) (by show _ < 520; omega) ((congrFun (hf.1 21 0 (by decide) (by decide)) _).trans (hT1)) ?_
        refine ad_icmp_ge 210 dX8_restores__107 (by decide) (by omega) (by omega) (fun h107 => ?_) (fun h107 => ?_)
        · skip
          exact hend _ _ _ _ _ _ _ D1 hf hq hs1 hs2 (by rw [show s = (ad_aT A v).length by omega, List.take_length, ← hsp]) hfl
        · show ad_R _ _ _ _ 110 _ _ _
          refine ad_aload_n dX8_restores__110 rfl ?_
          refine gf_X8_9 rfl dX8_restores__111 ?_
          refine ad_iload_n dX8_restores__114 rfl ?_
          refine ad_bipush dX8_restores__115 rfl ?_
          refine ad_iadd dX8_restores__117 ?_
          refine ad_iconst dX8_restores__118 ?_
          refine ad_iload dX8_restores__119 rfl ?_
          refine ad_imul dX8_restores__121 ?_
          refine ad_iadd dX8_restores__122 ?_
          refine ad_ialj (50 * v + 20 + 2 * s) dX8_restores__123 (by decide) ⟨by decide, by decide⟩ (by omega) (by show _ < 520; omega) ((congrFun (hf.1 21 0 (by decide) (by decide)) _).trans ((hT2 s (by omega)).1)) ?_
          refine ad_istore dX8_restores__124 (by decide) rfl (by dsimp only [ad_set]) ?_
          refine ad_aload_n dX8_restores__126 rfl ?_
          refine gf_X8_9 rfl dX8_restores__127 ?_
          refine ad_iload_n dX8_restores__130 rfl ?_
          refine ad_bipush dX8_restores__131 rfl ?_
          refine ad_iadd dX8_restores__133 ?_
          refine ad_iconst dX8_restores__134 ?_
          refine ad_iload dX8_restores__135 rfl ?_
          refine ad_imul dX8_restores__137 ?_
          refine ad_iadd dX8_restores__138 ?_
          refine ad_iconst dX8_restores__139 ?_
          refine ad_iadd dX8_restores__140 ?_
          refine ad_ialj (50 * v + 20 + 2 * s + 1) dX8_restores__141 (by decide) ⟨by decide, by decide⟩ (by omega) (by show _ < 520; omega) ((congrFun (hf.1 21 0 (by decide) (by decide)) _).trans ((hT2 s (by omega)).2)) ?_
          refine ad_istore dX8_restores__142 (by decide) rfl (by dsimp only [ad_set]) ?_
          refine ad_iconst dX8_restores__144 ?_
          refine ad_istore dX8_restores__145 (by decide) rfl (by dsimp only [ad_set]) ?_
          exact hin _ 0 m (by omega) (by omega) hf hq hfl (Nat.le_refl _)
    refine ad_aload_n dX8_restores__88 rfl ?_
    refine ad_iload_n dX8_restores__89 rfl ?_
    refine ad_cv1v rfl cl_X8_63 dX8_restores__90 (hrec B (d - 1) σ D hr0 hB2 (by omega) (by omega) hq0 trivial) (by omega) (by show _ < 1; omega) (Nat.le_of_ble_eq_true rfl) (fun s90 q90 => ?_)
    obtain ⟨f1, D1, f2, f3, f4, f5⟩ := q90
    have hDv1 : D1 v = false := by
      cases hz : D1 v with
      | false => rfl
      | true => rcases f5 v hz with h1 | h1
                · rw [hDv] at h1; cases h1
                · omega
    refine ad_iconst dX8_restores__93 ?_
    refine ad_istore dX8_restores__94 (by decide) rfl (by dsimp only [ad_set]) ?_
    exact hsl _ 0 _ _ _ _ D1 (by omega) f1 f2 hDv1 f3 f4 (fun u hu => (f5 u hu).imp id (fun h => by omega)) (fun j hj => by simp [ad_spell] at hj) (Nat.le_refl _)
  refine ad_M1 (k := 7) rfl (by simp [Value.category]) rfl (Nat.le_of_ble_eq_true rfl) ?_
  simp only [List.map_cons, List.map_nil, List.replicate, List.cons_append, List.nil_append]
  refine ad_aload_n dX8_restores__0 rfl ?_
  refine gf_X8_34 rfl dX8_restores__1 ?_
  refine ad_iload_n dX8_restores__4 rfl ?_
  refine ad_ialj (v) dX8_restores__5 (by decide) ⟨by decide, by decide⟩ (by omega) (by show _ < 10; omega) (hl29) ?_
  refine ad_bipush dX8_restores__6 rfl ?_
  refine ad_icmp_eq 12 dX8_restores__8 (by decide) (by split <;> omega) (by decide) (fun h8 => ?_) (fun h8 => ?_)
  · skip
    have hDv : D v = false := by
      cases hz : D v with
      | false => rfl
      | true => rw [hz, if_pos rfl] at h8; exact absurd h8 ad_neg9
    refine ad_bipush dX8_restores__12 rfl ?_
    refine ad_iload_n dX8_restores__14 rfl ?_
    refine ad_imul dX8_restores__15 ?_
    refine ad_istore_n dX8_restores__16 (by decide) rfl (by dsimp only [ad_set]) ?_
    refine ad_aload_n dX8_restores__17 rfl ?_
    refine gf_X8_9 rfl dX8_restores__18 ?_
    refine ad_iload_n dX8_restores__21 rfl ?_
    refine ad_iconst dX8_restores__22 ?_
    refine ad_iadd dX8_restores__23 ?_
    refine ad_ialj (50 * v + 4) dX8_restores__24 (by decide) ⟨by decide, by decide⟩ (by omega) (by show _ < 520; omega) (hv2) ?_
    refine ad_istore_n dX8_restores__25 (by decide) rfl (by dsimp only [ad_set]) ?_
    refine ad_iconst dX8_restores__26 ?_
    refine ad_istore dX8_restores__27 (by decide) rfl (by dsimp only [ad_set]) ?_
    refine ad_iload_n dX8_restores__29 rfl ?_
    refine ad_bipush dX8_restores__30 rfl ?_
    refine ad_icmp_ne 88 dX8_restores__32 (by decide) (by have := ad_lk_rng (v := ad_aB A v) (by have := ad_B_rng hw hv; omega); omega) (by decide) (fun h32 => ?_) (fun h32 => ?_)
    · skip
      have hb : ad_aB A v ≠ -1 := fun q => h32 (hlk.mpr q)
      have hb2 := (hwB.2 hb).1
      obtain ⟨B, hB⟩ : ∃ B : Nat, ad_aB A v = (B : Int) := ⟨(ad_aB A v).toNat, by omega⟩
      rw [ad_lk_ge hb, hB]
      exact hde hDv B none _ _ _ _ hB
    · show ad_R _ _ _ _ 35 _ _ _
      have h32 : ad_lk (ad_aB A v) = -9 := Decidable.not_not.mp h32
      have hb : ad_aB A v = -1 := hlk.mp h32
      rw [h32]
      exact hwh hDv hb _ _ _ _ _
  · show ad_R _ _ _ _ 11 _ _ _
    exact ad_retv dX8_restores__11 rfl (by
        have hDv : D v = true := by
          cases hz : D v with
          | true => rfl
          | false => rw [hz, if_neg (by decide)] at h8; exact absurd rfl h8
        exact ⟨ad_f8.refl, D, hq0, hDv, fun _ h => h, fun _ h => Or.inl h⟩)
theorem c_X8_restores_ {g : ad_G} {A : ad_Ar} (hw : ad_wA A) : ∀ (fuel v d : Nat) (σ : ad_Mem) (D : Nat → Bool), ad_ra (σ 21 0) A → ad_aH A v = true → ad_dep A v ≤ fuel → fuel + 2 ≤ d → ad_rq σ A D → ad_V g mX8_restores_ d [ad_rf g 8 0, ad_iv (v : Int)] σ (fun m => ad_f8 [28, 29] [] σ m ∧ ∃ D1, ad_rq m A D1 ∧ D1 v = true ∧ (∀ u, D u = true → D1 u = true) ∧ ∀ u, D1 u = true → D u = true ∨ ad_dep A u ≤ ad_dep A v)
  | 0, v, d, σ, D, h1, h2, h3, h4, h5 => c_X8_restores_s hw 0 (fun v d σ D _ _ h3 _ _ _ => by omega) v d σ D h1 h2 h3 h4 h5
  | fuel + 1, v, d, σ, D, h1, h2, h3, h4, h5 => c_X8_restores_s hw (fuel + 1) (fun v d σ D h1 h2 h3 h4 h5 _ => c_X8_restores_ hw fuel v d σ D h1 h2 (by omega) (by omega) h5) v d σ D h1 h2 h3 h4 h5
