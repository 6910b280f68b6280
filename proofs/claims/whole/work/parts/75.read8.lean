/-! ===== the reference reads letters ===== -/
def ad_tp8 (σ : ad_Mem) (S : List Int) : Prop := σ 8 0 13 = (S.length : Int) ∧ S.length ≤ 96 ∧ (∀ i, i < S.length → σ 26 0 i = S.getD i 0) ∧ ∀ x ∈ S, 0 ≤ x ∧ x ≤ 255
theorem ad_tp8.fr {σ m : ad_Mem} {S : List Int} {ks js : List Nat} (h : ad_tp8 σ S) (hf : ad_f8 ks js σ m) (h1 : 26 ∉ ks) (h2 : 13 ∉ js) : ad_tp8 m S := by
  unfold ad_tp8
  rw [hf.1 26 0 (by decide) h1, hf.2 0 13 h2]; exact h
theorem ad_sg_t {σ : ad_Mem} {S : List Int} (h : ad_tp8 σ S) {a : Int} (ha : 0 ≤ a ∧ a < S.length) : σ 26 0 a.toNat = ad_sg S a := by
  unfold ad_sg
  rw [if_pos ha, h.2.2.1 _ (by omega), ad_gD_any (by omega) (-1)]
theorem ad_sg_out {S : List Int} {a : Int} (h : (S.length : Int) ≤ a) : ad_sg S a = -1 := by unfold ad_sg; rw [if_neg (by omega)]
/-- one step of reading: where, the fault (0: none) -/
def ad_s1 (S : List Int) (c : Int) (u : Int × Int) : Int × Int := if u.2 ≠ 0 then u else if ad_ft S c u.1 = 0 then (u.1, -1000 - u.1) else (u.1 + ad_ft S c u.1, 0)
def ad_sF (S : List Int) (i : Nat) : Nat → Nat → Int × Int → Int × Int
  | 0, _, u => u
  | n + 1, k, u => ad_sF S i n (k + 1) (ad_s1 S (ad_sch i k) u)
def ad_en (S : List Int) (i : Nat) : Nat → Nat → Int → Int
  | 0, _, a => a
  | n + 1, k, a => ad_en S i n (k + 1) (a + ad_ft S (ad_sch i k) a)
theorem ad_s1_stay {S : List Int} {c : Int} {u : Int × Int} (h : u.2 ≠ 0) : ad_s1 S c u = u := if_pos h
theorem ad_sF_stay {S : List Int} {i : Nat} : ∀ (n k : Nat) (u : Int × Int), u.2 ≠ 0 → ad_sF S i n k u = u
  | 0, _, _, _ => rfl
  | n + 1, k, u, h => by rw [ad_sF, ad_s1_stay h]; exact ad_sF_stay n _ u h
theorem ad_sF_fn {S : List Int} {i : Nat} : ∀ (n k : Nat) (a : Int), 0 ≤ a → (ad_fn S i n k a ≠ -1 → (ad_sF S i n k (a, 0)).2 = -1000 - ad_fn S i n k a) ∧ (ad_fn S i n k a = -1 → ad_sF S i n k (a, 0) = (ad_en S i n k a, 0))
  | 0, k, a, h => ⟨fun z => absurd rfl z, fun _ => rfl⟩
  | n + 1, k, a, h => by
    have hr := ad_ft_rng S (ad_sch i k) a
    rw [ad_fn, ad_sF, ad_en]
    by_cases hz : ad_ft S (ad_sch i k) a = 0
    · have hs : ad_s1 S (ad_sch i k) (a, 0) = (a, -1000 - a) := by
        unfold ad_s1; rw [if_neg (fun z => z rfl), if_pos hz]
      rw [if_pos hz, hs]
      refine ⟨fun _ => ?_, fun z => by omega⟩
      rw [ad_sF_stay n (k + 1) (a, -1000 - a) (by show -1000 - a ≠ 0; omega)]
    · have hs : ad_s1 S (ad_sch i k) (a, 0) = (a + ad_ft S (ad_sch i k) a, 0) := by
        unfold ad_s1; rw [if_neg (fun z => z rfl), if_neg hz]
      rw [if_neg hz, hs]
      exact ad_sF_fn n (k + 1) _ (by omega)
theorem ad_pb_step (S : List Int) (q : Int) : ad_pb S q = if q < S.length ∧ ad_sg S q ≠ 59 then ad_pb S (q + 1) else q + 1 := by
  unfold ad_pb
  by_cases hq : q < S.length
  · rw [show (S.length - q).toNat = (S.length - (q + 1)).toNat + 1 by omega, ad_pbN]
  · rw [if_neg (fun z => hq z.1), show (S.length - q).toNat = 0 by omega, ad_pbN]
theorem ad_pb_skip {S : List Int} : ∀ (n : Nat) (q : Int), (∀ j : Nat, j < n → ad_sg S (q + j) ≠ -1 ∧ ad_sg S (q + j) ≠ 59) → 0 ≤ q → ad_pb S q = ad_pb S (q + n)
  | 0, q, _, _ => by rw [show q + ((0 : Nat) : Int) = q by omega]
  | n + 1, q, h, hq => by
    have h0 := h 0 (by omega)
    rw [show q + ((0 : Nat) : Int) = q by omega] at h0
    have hl : q < S.length := by
      rcases Int.lt_or_le q S.length with z | z
      · exact z
      · exact absurd (ad_sg_out z) h0.1
    rw [ad_pb_step, if_pos ⟨hl, h0.2⟩, ad_pb_skip n (q + 1) (fun j hj => by have := h (j + 1) (by omega); rw [show q + ((j + 1 : Nat) : Int) = q + 1 + j by omega] at this; exact this) (by omega)]
    congr 1; omega
theorem ad_pb_at {S : List Int} {q : Int} (h : ad_sg S q = 59) : ad_pb S q = q + 1 := by rw [ad_pb_step, if_neg (fun z => z.2 h)]
/-- what fits is neither the end nor a ; -/
theorem ad_ft_nos {S : List Int} {c a : Int} (hc : c = 100 ∨ c = 108 ∨ c = 112 ∨ c = 115) : ∀ j : Nat, (j : Int) < ad_ft S c a → ad_sg S (a + j) ≠ -1 ∧ ad_sg S (a + j) ≠ 59 := by
  intro j hj
  have hlf := ad_lf_ge S a
  unfold ad_ft at hj
  rcases hc with rfl | rfl | rfl | rfl
  · rw [if_pos rfl] at hj
    by_cases hz : ad_isD (ad_sg S a)
    · rw [if_pos hz] at hj
      rw [show a + (j : Int) = a by omega]; unfold ad_isD at hz; omega
    · rw [if_neg hz] at hj; omega
  · rw [if_neg (by decide), if_pos rfl] at hj
    by_cases hz : ad_isL (ad_sg S a)
    · rw [if_pos hz] at hj
      rw [show a + (j : Int) = a by omega]; unfold ad_isL at hz; omega
    · rw [if_neg hz] at hj; omega
  · rw [if_neg (by decide), if_neg (by decide), if_pos rfl] at hj
    by_cases hz : ad_isD (ad_sg S a) ∨ ad_sg S a = 46
    · rw [if_pos hz] at hj
      rw [show a + (j : Int) = a by omega]; unfold ad_isD at hz; omega
    · rw [if_neg hz] at hj; omega
  · rw [if_neg (by decide), if_neg (by decide), if_neg (by decide), if_pos rfl] at hj
    have := hlf.2.2 j (by omega) hj
    unfold ad_isL at this; omega
theorem ad_ft_59 {S : List Int} {a : Int} : ad_ft S 59 a = if ad_sg S a = 59 then 1 else 0 := rfl
theorem ad_sch_all : (ad_sch 0 0 = 112 ∧ ad_sch 0 1 = 112 ∧ ad_sch 0 2 = 115 ∧ ad_sch 0 3 = 59) ∧ (ad_sch 1 0 = 100 ∧ ad_sch 1 1 = 112 ∧ ad_sch 1 2 = 59) ∧ (ad_sch 2 0 = 100 ∧ ad_sch 2 1 = 100 ∧ ad_sch 2 2 = 59) ∧ (ad_sch 3 0 = 100 ∧ ad_sch 3 1 = 59) ∧ ad_sch 4 0 = 59 ∧ (ad_sch 5 0 = 100 ∧ ad_sch 5 1 = 100 ∧ ad_sch 5 2 = 100 ∧ ad_sch 5 3 = 108 ∧ ad_sch 5 4 = 59) := by decide +kernel
theorem ad_sch_k : ∀ i, i < 6 → ∀ k, k < ad_slen.getD i 0 → (k + 1 = ad_slen.getD i 0 ∧ ad_sch i k = 59) ∨ (k + 1 < ad_slen.getD i 0 ∧ (ad_sch i k = 100 ∨ ad_sch i k = 108 ∨ ad_sch i k = 112 ∨ ad_sch i k = 115)) := by decide +kernel
theorem ad_en_pb {S : List Int} {i : Nat} (hi : i < 6) : ∀ (n k : Nat) (a : Int), 0 ≤ a → 0 < n → n + k = ad_slen.getD i 0 → ad_fn S i n k a = -1 → ad_en S i n k a = ad_pb S a
  | 0, _, _, _, h0, _, _ => absurd h0 (by omega)
  | n + 1, k, a, ha, _, hn, h => by
    have hr := ad_ft_rng S (ad_sch i k) a
    obtain ⟨g1, g2⟩ := ad_fn_go ha h
    rw [ad_en]
    rcases ad_sch_k i hi k (by omega) with ⟨h1, h2⟩ | ⟨h1, h2⟩
    · rw [show n = 0 by omega, ad_en, h2]
      rw [h2, ad_ft_59] at g1
      by_cases hz : ad_sg S a = 59
      · rw [ad_ft_59, if_pos hz, ad_pb_at hz]
      · rw [if_neg hz] at g1; omega
    · have ih := ad_en_pb hi n (k + 1) _ (by omega) (by omega) (by omega) g2
      rw [ih]
      have hs := ad_pb_skip (S := S) (ad_ft S (ad_sch i k) a).toNat a (fun j hj => ad_ft_nos h2 j (by omega)) ha
      rw [hs]; congr 1; omega
/-- the whole reading of a statement behind its sign -/
theorem ad_st_read {S : List Int} {p : Int} (hp : 0 ≤ p) (hx : ad_fx (ad_sg S p) < 6) (hs : ad_sg S p ≠ 59) (hn1 : ad_sg S p ≠ -1) : (ad_fi S p ≠ -1 → (ad_sF S (ad_fx (ad_sg S p)) (ad_slen.getD (ad_fx (ad_sg S p)) 0) 0 (p + 1, 0)).2 = -1000 - ad_fi S p) ∧ (ad_fi S p = -1 → ad_sF S (ad_fx (ad_sg S p)) (ad_slen.getD (ad_fx (ad_sg S p)) 0) 0 (p + 1, 0) = (ad_pb S p, 0)) := by
  have hne : ∀ i, i < 6 → ad_slen.getD i 0 ≠ 0 := by decide +kernel
  have hl := hne _ hx
  have hf := ad_sF_fn (S := S) (i := ad_fx (ad_sg S p)) (ad_slen.getD (ad_fx (ad_sg S p)) 0) 0 (p + 1) (by omega)
  unfold ad_fi
  rw [if_neg hl]
  refine ⟨hf.1, fun h => ?_⟩
  rw [hf.2 h, ad_en_pb hx _ 0 (p + 1) (by omega) (by omega) (by omega) h]
  have h1 := ad_pb_skip (S := S) 1 p (fun j hj => by rw [show p + (j : Int) = p by omega]; exact ⟨hn1, hs⟩) hp
  rw [h1]; rfl
theorem ad_s1_rng {S : List Int} (h96 : S.length ≤ 96) {c : Int} (hc : c = 100 ∨ c = 108 ∨ c = 112 ∨ c = 59) {u : Int × Int} (h : (0 ≤ u.1 ∧ u.1 ≤ 97) ∧ -2000 ≤ u.2 ∧ u.2 ≤ 0) : (0 ≤ (ad_s1 S c u).1 ∧ (ad_s1 S c u).1 ≤ 97) ∧ -2000 ≤ (ad_s1 S c u).2 ∧ (ad_s1 S c u).2 ≤ 0 := by
  have hr := ad_ft_rng S c u.1
  have h1 := ad_ft_1 (S := S) (c := c) (p := u.1) (by omega)
  unfold ad_s1
  split
  · exact h
  · split
    · simp only; omega
    · rename_i hz
      have hl : u.1 < S.length := by
        rcases Int.lt_or_le u.1 S.length with z | z
        · exact z
        · exfalso
          apply hz
          have hs := ad_sg_out z
          have hD : ¬ ad_isD (ad_sg S u.1) := by rw [hs]; unfold ad_isD; omega
          have hL : ¬ ad_isL (ad_sg S u.1) := by rw [hs]; unfold ad_isL; omega
          rcases hc with rfl | rfl | rfl | rfl
          · unfold ad_ft; rw [if_pos rfl, if_neg hD]
          · unfold ad_ft; rw [if_neg (by decide), if_pos rfl, if_neg hL]
          · unfold ad_ft; rw [if_neg (by decide), if_neg (by decide), if_pos rfl, if_neg (fun z => z.elim hD (fun z => by omega))]
          · rw [ad_ft_59, if_neg (by omega)]
      simp only; omega
theorem c_X8_isAt {g : ad_G} {d : Nat} {σ : ad_Mem} {S : List Int} {a lo hi : Int} (ht : ad_tp8 σ S) (hu : σ 8 0 15 = a) (h0 : 0 ≤ a ∧ a ≤ 97) (hlo : 1 ≤ lo ∧ lo ≤ hi ∧ hi ≤ 255) : ad_Q g mX8_isAt d [ad_rf g 8 0, ad_iv lo, ad_iv hi] σ (fun x m => x = ad_pv (lo ≤ ad_sg S a ∧ ad_sg S a ≤ hi) ∧ m = σ) := by
  have h96 := ht.2.1
  refine ad_M1 (k := 0) rfl (by simp [Value.category]) rfl (Nat.le_of_ble_eq_true rfl) ?_
  simp only [List.map_cons, List.map_nil, List.replicate, List.cons_append, List.nil_append]
  refine ad_aload_n dX8_isAt_0 rfl ?_
  refine gf_X8_157 rfl dX8_isAt_1 ?_
  rw [hu]
  refine ad_aload_n dX8_isAt_4 rfl ?_
  refine gf_X8_154 rfl dX8_isAt_5 ?_
  rw [ht.1]
  refine ad_icmp_ge 41 dX8_isAt_8 (by decide) (by omega) (by omega) (fun h8 => ?_) (fun h8 => ?_)
  · skip
    refine ad_iconst dX8_isAt_41 ?_
    exact ad_ret0 dX8_isAt_42 rfl (⟨ad_pv_f (by rw [ad_sg_out (by omega)]; omega), rfl⟩)
  · show ad_R _ _ _ _ 11 _ _ _
    have hlt : 0 ≤ a ∧ a < S.length := by omega
    have hsr := ad_sg_rng ht.2.2.2 a
    refine ad_aload_n dX8_isAt_11 rfl ?_
    refine gf_X8_25 rfl dX8_isAt_12 ?_
    refine ad_aload_n dX8_isAt_15 rfl ?_
    refine gf_X8_157 rfl dX8_isAt_16 ?_
    rw [hu]
    refine ad_ialj (a.toNat) dX8_isAt_19 (by decide) ⟨by decide, by decide⟩ (by omega) (by show _ < 96; omega) (ad_sg_t ht hlt) ?_
    refine ad_iload_n dX8_isAt_20 rfl ?_
    refine ad_icmp_lt 41 dX8_isAt_21 (by decide) (by omega) (by omega) (fun h21 => ?_) (fun h21 => ?_)
    · skip
      refine ad_iconst dX8_isAt_41 ?_
      exact ad_ret0 dX8_isAt_42 rfl (⟨ad_pv_f (by omega), rfl⟩)
    · show ad_R _ _ _ _ 24 _ _ _
      refine ad_aload_n dX8_isAt_24 rfl ?_
      refine gf_X8_25 rfl dX8_isAt_25 ?_
      refine ad_aload_n dX8_isAt_28 rfl ?_
      refine gf_X8_157 rfl dX8_isAt_29 ?_
      rw [hu]
      refine ad_ialj (a.toNat) dX8_isAt_32 (by decide) ⟨by decide, by decide⟩ (by omega) (by show _ < 96; omega) (ad_sg_t ht hlt) ?_
      refine ad_iload_n dX8_isAt_33 rfl ?_
      refine ad_icmp_gt 41 dX8_isAt_34 (by decide) (by omega) (by omega) (fun h34 => ?_) (fun h34 => ?_)
      · skip
        refine ad_iconst dX8_isAt_41 ?_
        exact ad_ret0 dX8_isAt_42 rfl (⟨ad_pv_f (by omega), rfl⟩)
      · show ad_R _ _ _ _ 37 _ _ _
        refine ad_iconst dX8_isAt_37 ?_
        refine ad_goto 42 dX8_isAt_38 (by decide) ?_
        exact ad_ret1 dX8_isAt_42 rfl (⟨ad_pv_t (by omega), rfl⟩)
theorem c_X8_takes {g : ad_G} {d : Nat} {σ : ad_Mem} {S : List Int} {u : Int × Int} {lo hi c : Int} (ht : ad_tp8 σ S) (hu : σ 8 0 15 = u.1 ∧ σ 8 0 16 = u.2) (h0 : (0 ≤ u.1 ∧ u.1 ≤ 97) ∧ -2000 ≤ u.2 ∧ u.2 ≤ 0) (hlo : 1 ≤ lo ∧ lo ≤ hi ∧ hi ≤ 255) (hft : ad_ft S c u.1 = if lo ≤ ad_sg S u.1 ∧ ad_sg S u.1 ≤ hi then 1 else 0) (h2d : 2 ≤ d) : ad_Q g mX8_takes d [ad_rf g 8 0, ad_iv lo, ad_iv hi] σ (fun x m => ∃ v, x = ad_iv v ∧ (0 ≤ v ∧ v ≤ hi - lo) ∧ (u.2 = 0 → ad_ft S c u.1 ≠ 0 → v = ad_sg S u.1 - lo) ∧ ad_f8 [] [15, 16] σ m ∧ m 8 0 15 = (ad_s1 S c u).1 ∧ m 8 0 16 = (ad_s1 S c u).2) := by
  have h96 := ht.2.1
  refine ad_M1 (k := 0) rfl (by simp [Value.category]) rfl (Nat.le_of_ble_eq_true rfl) ?_
  simp only [List.map_cons, List.map_nil, List.replicate, List.cons_append, List.nil_append]
  refine ad_aload_n dX8_takes_0 rfl ?_
  refine gf_X8_160 rfl dX8_takes_1 ?_
  rw [hu.2]
  refine ad_if_eq 9 dX8_takes_4 (by decide) (by omega) (fun h4 => ?_) (fun h4 => ?_)
  · skip
    refine ad_aload_n dX8_takes_9 rfl ?_
    refine ad_iload_n dX8_takes_10 rfl ?_
    refine ad_iload_n dX8_takes_11 rfl ?_
    refine ad_cv2f rfl cl_X8_163 dX8_takes_12 (c_X8_isAt ht hu.1 h0.1 hlo) (by omega) (by show _ < 1; omega) (Nat.le_of_ble_eq_true rfl) ?_
    refine ad_ifp_ne 32 dX8_takes_15 (by decide) (fun h15 => ?_) (fun h15 => ?_)
    · skip
      refine ad_aload_n dX8_takes_32 rfl ?_
      refine ad_dup dX8_takes_33 rfl ?_
      refine gf_X8_157 rfl dX8_takes_34 ?_
      rw [hu.1]
      have hlt : 0 ≤ u.1 ∧ u.1 < S.length := ⟨h0.1.1, Decidable.byContradiction (fun z => by have := ad_sg_out (S := S) (a := u.1) (by omega); omega)⟩
      refine ad_iconst dX8_takes_37 ?_
      refine ad_iadd dX8_takes_38 ?_
      refine pf_X8_157 rfl dX8_takes_39 ?_
      refine ad_aload_n dX8_takes_42 rfl ?_
      refine gf_X8_25 rfl dX8_takes_43 ?_
      refine ad_aload_n dX8_takes_46 rfl ?_
      refine gf_X8_157 rfl dX8_takes_47 ?_
      rw [ad_st_r1, ad_u1_eq]
      refine ad_iconst dX8_takes_50 ?_
      refine ad_isub dX8_takes_51 ?_
      refine ad_ialj (u.1.toNat) dX8_takes_52 (by decide) ⟨by decide, by decide⟩ (by omega) (by show _ < 96; omega) (((congrFun (ad_st_ne _ _ (by decide)) _).trans (ad_sg_t ht hlt))) ?_
      refine ad_iload_n dX8_takes_53 rfl ?_
      refine ad_isub dX8_takes_54 ?_
      exact ad_reti dX8_takes_55 rfl (by
            have hf1 : ad_ft S c u.1 = 1 := by rw [hft, if_pos h15]
            have hs : ad_s1 S c u = (u.1 + 1, 0) := by unfold ad_s1; rw [if_neg (fun z => z h4), if_neg (by omega), hf1]
            refine ⟨_, rfl, by omega, fun _ _ => rfl, ad_f8.sj (by decide), ?_, ?_⟩
            · rw [hs, ad_st_r1, ad_u1_eq]
            · rw [hs, ad_st_r1, ad_u1_ne _ _ (by decide), hu.2]; exact h4)
    · show ad_R _ _ _ _ 18 _ _ _
      refine ad_aload_n dX8_takes_18 rfl ?_
      refine ad_sipush dX8_takes_19 rfl ?_
      refine ad_aload_n dX8_takes_22 rfl ?_
      refine gf_X8_157 rfl dX8_takes_23 ?_
      rw [hu.1]
      refine ad_isub dX8_takes_26 ?_
      refine pf_X8_160 rfl dX8_takes_27 ?_
      refine ad_iconst dX8_takes_30 ?_
      exact ad_reti dX8_takes_31 rfl (by
            have hf0 : ad_ft S c u.1 = 0 := by rw [hft, if_neg h15]
            have hs : ad_s1 S c u = (u.1, -1000 - u.1) := by unfold ad_s1; rw [if_neg (fun z => z h4), if_pos hf0]
            refine ⟨0, rfl, by omega, fun _ z => absurd hf0 z, ad_f8.sj (by decide), ?_, ?_⟩
            · rw [hs, ad_st_r1, ad_u1_ne _ _ (by decide)]; exact hu.1
            · rw [hs, ad_st_r1, ad_u1_eq])
  · show ad_R _ _ _ _ 7 _ _ _
    refine ad_iconst dX8_takes_7 ?_
    exact ad_reti dX8_takes_8 rfl (by
          refine ⟨0, rfl, by omega, fun z => absurd z h4, ad_f8.refl, ?_, ?_⟩
          · rw [ad_s1_stay h4]; exact hu.1
          · rw [ad_s1_stay h4]; exact hu.2)
theorem c_X8_orNone {g : ad_G} {d : Nat} {σ : ad_Mem} {S : List Int} {u : Int × Int} (ht : ad_tp8 σ S) (hu : σ 8 0 15 = u.1 ∧ σ 8 0 16 = u.2) (h0 : (0 ≤ u.1 ∧ u.1 ≤ 97) ∧ -2000 ≤ u.2 ∧ u.2 ≤ 0) (h3d : 3 ≤ d) : ad_Q g mX8_orNone d [ad_rf g 8 0] σ (fun x m => ∃ v, x = ad_iv v ∧ (v = -9 ∨ (0 ≤ v ∧ v ≤ 9)) ∧ (u.2 = 0 → ad_ft S 112 u.1 ≠ 0 → v = ad_lk (ad_dg S u.1)) ∧ ad_f8 [] [15, 16] σ m ∧ m 8 0 15 = (ad_s1 S 112 u).1 ∧ m 8 0 16 = (ad_s1 S 112 u).2) := by
  refine ad_M1 (k := 0) rfl (by simp [Value.category]) rfl (Nat.le_of_ble_eq_true rfl) ?_
  simp only [List.map_cons, List.map_nil, List.replicate, List.cons_append, List.nil_append]
  refine ad_aload_n dX8_orNone_0 rfl ?_
  refine gf_X8_160 rfl dX8_orNone_1 ?_
  rw [hu.2]
  refine ad_if_ne 31 dX8_orNone_4 (by decide) (by omega) (fun h4 => ?_) (fun h4 => ?_)
  · skip
    refine ad_aload_n dX8_orNone_31 rfl ?_
    refine ad_bipush dX8_orNone_32 rfl ?_
    refine ad_bipush dX8_orNone_34 rfl ?_
    refine ad_cv2q rfl cl_X8_166 dX8_orNone_36 (c_X8_takes ht hu h0 (lo := 48) (hi := 57) (c := 100) (by decide) rfl (by omega)) (by omega) (by show _ < 1; omega) (Nat.le_of_ble_eq_true rfl) (fun x36 s36 q36 => ?_)
    obtain ⟨v, rfl, v1, v2, v3, v4, v5⟩ := q36
    exact ad_reti dX8_orNone_39 rfl (by
          have hss : ad_s1 S 100 u = ad_s1 S 112 u := by
            rw [ad_s1_stay h4, ad_s1_stay h4]
          rw [hss] at v4 v5
          refine ⟨v, rfl, Or.inr (by omega), fun z1 z2 => ?_, v3, v4, v5⟩
          exact absurd z1 h4)
  · show ad_R _ _ _ _ 7 _ _ _
    refine ad_aload_n dX8_orNone_7 rfl ?_
    refine ad_bipush dX8_orNone_8 rfl ?_
    refine ad_bipush dX8_orNone_10 rfl ?_
    refine ad_cv2f rfl cl_X8_163 dX8_orNone_12 (c_X8_isAt ht hu.1 h0.1 (by decide)) (by omega) (by show _ < 1; omega) (Nat.le_of_ble_eq_true rfl) ?_
    refine ad_ifp_eq 31 dX8_orNone_15 (by decide) (fun h15 => ?_) (fun h15 => ?_)
    · skip
      refine ad_aload_n dX8_orNone_31 rfl ?_
      refine ad_bipush dX8_orNone_32 rfl ?_
      refine ad_bipush dX8_orNone_34 rfl ?_
      refine ad_cv2q rfl cl_X8_166 dX8_orNone_36 (c_X8_takes ht hu h0 (lo := 48) (hi := 57) (c := 100) (by decide) rfl (by omega)) (by omega) (by show _ < 1; omega) (Nat.le_of_ble_eq_true rfl) (fun x36 s36 q36 => ?_)
      obtain ⟨v, rfl, v1, v2, v3, v4, v5⟩ := q36
      exact ad_reti dX8_orNone_39 rfl (by
            have hss : ad_s1 S 100 u = ad_s1 S 112 u := by
              have hq : ad_ft S 100 u.1 = ad_ft S 112 u.1 := by
                unfold ad_ft
                rw [if_neg (show ¬ (112 : Int) = 100 by decide), if_neg (show ¬ (112 : Int) = 108 by decide), if_pos rfl, if_pos rfl]
                by_cases hd : ad_isD (ad_sg S u.1)
                · rw [if_pos hd, if_pos (Or.inl hd)]
                · rw [if_neg hd, if_neg (fun z : ad_isD (ad_sg S u.1) ∨ ad_sg S u.1 = 46 => z.elim hd (fun z => h15 (by omega)))]
              unfold ad_s1; rw [hq]
            rw [hss] at v4 v5
            refine ⟨v, rfl, Or.inr (by omega), fun z1 z2 => ?_, v3, v4, v5⟩
            have hd : ad_isD (ad_sg S u.1) := Decidable.byContradiction (fun hd => z2 (by unfold ad_ft; rw [if_neg (by decide), if_neg (by decide), if_pos rfl, if_neg (fun z => z.elim hd (fun z => h15 (by omega)))]))
            rw [v2 z1 (by unfold ad_ft; rw [if_pos rfl, if_pos hd]; decide)]
            unfold ad_dg
            rw [if_pos hd, ad_lk_ge (by unfold ad_isD at hd; omega)])
    · show ad_R _ _ _ _ 18 _ _ _
      refine ad_aload_n dX8_orNone_18 rfl ?_
      refine ad_dup dX8_orNone_19 rfl ?_
      refine gf_X8_157 rfl dX8_orNone_20 ?_
      rw [hu.1]
      refine ad_iconst dX8_orNone_23 ?_
      refine ad_iadd dX8_orNone_24 ?_
      refine pf_X8_157 rfl dX8_orNone_25 ?_
      refine ad_bipush dX8_orNone_28 rfl ?_
      exact ad_reti dX8_orNone_30 rfl (by
            have h4 : u.2 = 0 := Decidable.not_not.mp h4
            have hsg : ad_sg S u.1 = 46 := by omega
            have hf1 : ad_ft S 112 u.1 = 1 := by unfold ad_ft; rw [if_neg (by decide), if_neg (by decide), if_pos rfl, if_pos (Or.inr hsg)]
            have hs : ad_s1 S 112 u = (u.1 + 1, 0) := by unfold ad_s1; rw [if_neg (fun z => z h4), if_neg (by omega), hf1]
            refine ⟨-9, rfl, Or.inl rfl, fun _ _ => ?_, ad_f8.sj (by decide), ?_, ?_⟩
            · unfold ad_dg; rw [if_neg (by unfold ad_isD; omega)]; rfl
            · rw [hs, ad_st_r1, ad_u1_eq]
            · rw [hs, ad_st_r1, ad_u1_ne _ _ (by decide), hu.2]; exact h4)
