/-! ===== the reference reads a statement, and does not run it ===== -/
theorem ad_lfN_max (S : List Int) (i : Int) : ∀ (n : Nat) (k : Int), ad_lfN S i n k < k + n → ¬ ad_isL (ad_sg S (i + ad_lfN S i n k))
  | 0, k, h => by simp only [ad_lfN] at h; omega
  | n + 1, k, h => by
    rw [ad_lfN] at h ⊢
    by_cases hk : ad_isL (ad_sg S (i + k))
    · rw [if_pos hk] at h ⊢
      exact ad_lfN_max S i n (k + 1) (by omega)
    · rw [if_neg hk]; exact hk
theorem ad_lf_max {S : List Int} {a : Int} (h : ad_lf S a < 12) : ¬ ad_isL (ad_sg S (a + ad_lf S a)) := ad_lfN_max S a 12 0 (by unfold ad_lf at h; omega)
/-- the reading state while letters are taken: k of them -/
def ad_l1 (S : List Int) (u : Int × Int) (k : Nat) : Int × Int := if u.2 ≠ 0 then u else if k = 0 then u else if ad_lf S u.1 = 0 then (u.1, -1000 - u.1) else (u.1 + (k : Int), 0)
def ad_li (S : List Int) (u : Int × Int) (k : Nat) : Prop := k ≤ 12 ∧ (u.2 ≠ 0 ∨ ad_lf S u.1 = 0 → k ≤ 1) ∧ (u.2 = 0 ∧ ad_lf S u.1 ≠ 0 → (k : Int) ≤ ad_lf S u.1)
theorem ad_ft_L {S : List Int} {a : Int} : ad_ft S 108 a = if ad_isL (ad_sg S a) then 1 else 0 := rfl
theorem ad_ft_S {S : List Int} {a : Int} : ad_ft S 115 a = ad_lf S a := rfl
theorem ad_lf_0 {S : List Int} {a : Int} : ad_lf S a = 0 ↔ ¬ ad_isL (ad_sg S a) := by
  have h1 := ad_lf_ge S a
  constructor
  · intro z hh
    have := ad_lf_max (S := S) (a := a) (by omega)
    rw [z, Int.add_zero] at this; exact this hh
  · intro z
    rcases Int.lt_or_le 0 (ad_lf S a) with q | q
    · have := h1.2.2 0 (Int.le_refl 0) q
      rw [Int.add_zero] at this; exact absurd this z
    · omega
theorem ad_s1_go {S : List Int} {c a : Int} (h : ad_ft S c a ≠ 0) : ad_s1 S c (a, 0) = (a + ad_ft S c a, 0) := by unfold ad_s1; rw [if_neg (fun z => z rfl), if_neg h]
theorem ad_s1_no {S : List Int} {c a : Int} (h : ad_ft S c a = 0) : ad_s1 S c (a, 0) = (a, -1000 - a) := by unfold ad_s1; rw [if_neg (fun z => z rfl), if_pos h]
theorem ad_l1_step {S : List Int} {u : Int × Int} {k : Nat} (h0 : 0 ≤ u.1) (hi : ad_li S u k) (h : k = 0 ∨ (k < 12 ∧ (ad_l1 S u k).2 = 0 ∧ ad_isL (ad_sg S (ad_l1 S u k).1))) : ad_s1 S 108 (ad_l1 S u k) = ad_l1 S u (k + 1) ∧ ad_li S u (k + 1) := by
  obtain ⟨a, f⟩ := u
  obtain ⟨i1, i2, i3⟩ := hi
  have hlf := ad_lf_ge S a
  by_cases hf : f = 0
  · subst hf
    have e0 : ad_l1 S (a, 0) 0 = (a, 0) := rfl
    by_cases hl : ad_lf S a = 0
    · have hk : k = 0 := by
        rcases h with z | ⟨z1, z2, z3⟩
        · exact z
        · by_cases hk : k = 0
          · exact hk
          · unfold ad_l1 at z2; rw [if_neg (fun z => z rfl), if_neg hk, if_pos hl] at z2; simp only at z2 h0; omega
      subst hk
      rw [e0, ad_s1_no (by rw [ad_ft_L, if_neg (ad_lf_0.mp hl)])]
      refine ⟨?_, by omega, fun _ => by omega, fun z => absurd hl z.2⟩
      unfold ad_l1; rw [if_neg (fun z => z rfl), if_neg (by omega), if_pos hl]
    · have hL : ∀ q : Nat, 0 < q → ad_l1 S (a, 0) q = (a + (q : Int), 0) := fun q hq => by unfold ad_l1; rw [if_neg (fun z => z rfl), if_neg (by omega), if_neg hl]
      have ek : ad_l1 S (a, 0) k = (a + (k : Int), 0) := by
        by_cases hk : k = 0
        · subst hk; rw [e0]; simp
        · exact hL k (by omega)
      have hki : (k : Int) ≤ ad_lf S a := i3 ⟨rfl, hl⟩
      have hkl : (k : Int) < ad_lf S a := by
        rcases h with z | ⟨z1, z2, z3⟩
        · omega
        · rcases Int.lt_or_le (k : Int) (ad_lf S a) with q | q
          · exact q
          · rw [ek] at z3
            have hq : (k : Int) = ad_lf S a := by omega
            have := ad_lf_max (S := S) (a := a) (by omega)
            rw [← hq] at this; exact absurd z3 this
      have his := hlf.2.2 k (by omega) hkl
      rw [ek, hL (k + 1) (by omega), ad_s1_go (by rw [ad_ft_L, if_pos his]; decide), ad_ft_L, if_pos his]
      exact ⟨by rw [show a + ((k + 1 : Nat) : Int) = a + (k : Int) + 1 by omega], by omega, fun z => absurd z (fun z => z.elim (fun z => z rfl) hl), fun _ => by show ((k + 1 : Nat) : Int) ≤ ad_lf S a; omega⟩
  · have e : ∀ q, ad_l1 S (a, f) q = (a, f) := fun q => if_pos hf
    have hk : k = 0 := by
      rcases h with z | ⟨z1, z2, z3⟩
      · exact z
      · rw [e] at z2; exact absurd z2 hf
    subst hk
    rw [e, e]
    exact ⟨ad_s1_stay hf, by omega, fun _ => by omega, fun z => absurd z.1 hf⟩
theorem ad_l1_end {S : List Int} {u : Int × Int} {k : Nat} (h0 : 0 ≤ u.1) (hi : ad_li S u k) (hk : 0 < k) (h : 12 ≤ k ∨ (ad_l1 S u k).2 ≠ 0 ∨ ¬ ad_isL (ad_sg S (ad_l1 S u k).1)) : ad_l1 S u k = ad_s1 S 115 u := by
  obtain ⟨a, f⟩ := u
  obtain ⟨i1, i2, i3⟩ := hi
  have hlf := ad_lf_ge S a
  by_cases hf : f = 0
  · subst hf
    by_cases hl : ad_lf S a = 0
    · rw [ad_s1_no (by rw [ad_ft_S]; exact hl)]
      unfold ad_l1; rw [if_neg (fun z => z rfl), if_neg (by omega), if_pos hl]
    · have ek : ad_l1 S (a, 0) k = (a + (k : Int), 0) := by unfold ad_l1; rw [if_neg (fun z => z rfl), if_neg (by omega), if_neg hl]
      have hki : (k : Int) ≤ ad_lf S a := i3 ⟨rfl, hl⟩
      have hkl : (k : Int) = ad_lf S a := by
        rcases Int.lt_or_le (k : Int) (ad_lf S a) with q | q
        · rw [ek] at h
          have hq := hlf.2.2 k (by omega) q
          rcases h with z | z | z
          · omega
          · exact absurd rfl z
          · exact absurd hq z
        · omega
      rw [ek, ad_s1_go (by rw [ad_ft_S]; exact hl), ad_ft_S, hkl]
  · rw [ad_s1_stay hf]; exact if_pos hf
theorem ad_s1_rngS {S : List Int} {u : Int × Int} (h : (0 ≤ u.1 ∧ u.1 ≤ 97) ∧ -2000 ≤ u.2 ∧ u.2 ≤ 0) : -2000 ≤ (ad_s1 S 115 u).2 ∧ (ad_s1 S 115 u).2 ≤ 0 := by
  unfold ad_s1
  split
  · exact h.2
  · split
    · simp only; omega
    · simp only; omega
theorem ad_fx_ne {c : Int} {i : Nat} (h : ad_fx c = i) (hi : i < 6) : c ≠ 59 ∧ c ≠ -1 := by
  constructor
  · rintro rfl
    have : ad_fx 59 = 6 := by decide
    omega
  · rintro rfl
    have : ad_fx (-1) = 6 := by decide
    omega
theorem ad_sF_0 (S : List Int) (u : Int × Int) : ad_sF S 0 4 0 u = ad_s1 S 59 (ad_s1 S 115 (ad_s1 S 112 (ad_s1 S 112 u))) := by
  show ad_s1 S (ad_sch 0 3) (ad_s1 S (ad_sch 0 2) (ad_s1 S (ad_sch 0 1) (ad_s1 S (ad_sch 0 0) u))) = _
  rw [ad_sch_all.1.1, ad_sch_all.1.2.1, ad_sch_all.1.2.2.1, ad_sch_all.1.2.2.2]
theorem ad_sF_1 (S : List Int) (u : Int × Int) : ad_sF S 1 3 0 u = ad_s1 S 59 (ad_s1 S 112 (ad_s1 S 100 u)) := by
  show ad_s1 S (ad_sch 1 2) (ad_s1 S (ad_sch 1 1) (ad_s1 S (ad_sch 1 0) u)) = _
  rw [ad_sch_all.2.1.1, ad_sch_all.2.1.2.1, ad_sch_all.2.1.2.2]
theorem ad_sF_2 (S : List Int) (u : Int × Int) : ad_sF S 2 3 0 u = ad_s1 S 59 (ad_s1 S 100 (ad_s1 S 100 u)) := by
  show ad_s1 S (ad_sch 2 2) (ad_s1 S (ad_sch 2 1) (ad_s1 S (ad_sch 2 0) u)) = _
  rw [ad_sch_all.2.2.1.1, ad_sch_all.2.2.1.2.1, ad_sch_all.2.2.1.2.2]
theorem ad_sF_3 (S : List Int) (u : Int × Int) : ad_sF S 3 2 0 u = ad_s1 S 59 (ad_s1 S 100 u) := by
  show ad_s1 S (ad_sch 3 1) (ad_s1 S (ad_sch 3 0) u) = _
  rw [ad_sch_all.2.2.2.1.1, ad_sch_all.2.2.2.1.2]
theorem ad_sF_4 (S : List Int) (u : Int × Int) : ad_sF S 4 1 0 u = ad_s1 S 59 u := by
  show ad_s1 S (ad_sch 4 0) u = _
  rw [ad_sch_all.2.2.2.2.1]
theorem ad_sF_5 (S : List Int) (u : Int × Int) : ad_sF S 5 5 0 u = ad_s1 S 59 (ad_s1 S 108 (ad_s1 S 100 (ad_s1 S 100 (ad_s1 S 100 u)))) := by
  show ad_s1 S (ad_sch 5 4) (ad_s1 S (ad_sch 5 3) (ad_s1 S (ad_sch 5 2) (ad_s1 S (ad_sch 5 1) (ad_s1 S (ad_sch 5 0) u)))) = _
  rw [ad_sch_all.2.2.2.2.2.1, ad_sch_all.2.2.2.2.2.2.1, ad_sch_all.2.2.2.2.2.2.2.1, ad_sch_all.2.2.2.2.2.2.2.2.1, ad_sch_all.2.2.2.2.2.2.2.2.2]
/-- the state at the end says where the form fails -/
def ad_fe (S : List Int) (p : Int) (u : Int × Int) : Prop := (ad_fi S p ≠ -1 → u.2 = -1000 - ad_fi S p) ∧ (ad_fi S p = -1 → u = (ad_pb S p, 0))
theorem ad_fe_of {S : List Int} {p : Int} (hp : 0 ≤ p) {i n : Nat} (hx : ad_fx (ad_sg S p) = i) (hi : i < 6) (hn : ad_slen.getD i 0 = n) : ad_fe S p (ad_sF S i n 0 (p + 1, 0)) := by
  subst hx; subst hn
  exact ad_st_read hp hi (ad_fx_ne rfl hi).1 (ad_fx_ne rfl hi).2
theorem ad_slen_v : ad_slen.getD 0 0 = 4 ∧ ad_slen.getD 1 0 = 3 ∧ ad_slen.getD 2 0 = 3 ∧ ad_slen.getD 3 0 = 2 ∧ ad_slen.getD 4 0 = 1 ∧ ad_slen.getD 5 0 = 5 := by decide +kernel
theorem ad_fe_118 {S : List Int} {p : Int} (hp : 0 ≤ p) (h : ad_sg S p = 118) : ad_fe S p (ad_s1 S 59 (ad_s1 S 115 (ad_s1 S 112 (ad_s1 S 112 (p + 1, 0))))) := ad_sF_0 S _ ▸ ad_fe_of hp (by rw [h]; rfl) (by decide) ad_slen_v.1
theorem ad_fe_104 {S : List Int} {p : Int} (hp : 0 ≤ p) (h : ad_sg S p = 104) : ad_fe S p (ad_s1 S 59 (ad_s1 S 112 (ad_s1 S 100 (p + 1, 0)))) := ad_sF_1 S _ ▸ ad_fe_of hp (by rw [h]; rfl) (by decide) ad_slen_v.2.1
theorem ad_fe_107 {S : List Int} {p : Int} (hp : 0 ≤ p) (h : ad_sg S p = 107) : ad_fe S p (ad_s1 S 59 (ad_s1 S 100 (ad_s1 S 100 (p + 1, 0)))) := ad_sF_2 S _ ▸ ad_fe_of hp (by rw [h]; rfl) (by decide) ad_slen_v.2.2.1
theorem ad_fe_100 {S : List Int} {p : Int} (hp : 0 ≤ p) (h : ad_sg S p = 100) : ad_fe S p (ad_s1 S 59 (ad_s1 S 100 (p + 1, 0))) := ad_sF_3 S _ ▸ ad_fe_of hp (by rw [h]; rfl) (by decide) ad_slen_v.2.2.2.1
theorem ad_fe_4 {S : List Int} {p : Int} (hp : 0 ≤ p) (h : ad_sg S p = 114 ∨ ad_sg S p = 99) : ad_fe S p (ad_s1 S 59 (p + 1, 0)) := ad_sF_4 S _ ▸ ad_fe_of hp (by rcases h with h | h <;> rw [h] <;> rfl) (by decide) ad_slen_v.2.2.2.2.1
theorem ad_fe_120 {S : List Int} {p : Int} (hp : 0 ≤ p) (h : ad_sg S p = 120) : ad_fe S p (ad_s1 S 59 (ad_s1 S 108 (ad_s1 S 100 (ad_s1 S 100 (ad_s1 S 100 (p + 1, 0)))))) := ad_sF_5 S _ ▸ ad_fe_of hp (by rw [h]; rfl) (by decide) ad_slen_v.2.2.2.2.2
theorem ad_fe_6 {S : List Int} {p : Int} {m : Int} (h : ad_fx (ad_sg S p) = 6) (hp : 0 ≤ p) : ad_fe S p (m, -1000 - p) := by
  have hq : ad_fi S p = p := by unfold ad_fi; rw [h, if_pos (by decide)]
  exact ⟨fun _ => by rw [hq], fun z => by omega⟩
theorem ad_fx_6 {c : Int} (h : c ≠ 118 ∧ c ≠ 104 ∧ c ≠ 107 ∧ c ≠ 100 ∧ c ≠ 114 ∧ c ≠ 99 ∧ c ≠ 120) : ad_fx c = 6 := by
  unfold ad_fx
  rw [if_neg h.1, if_neg h.2.1, if_neg h.2.2.1, if_neg h.2.2.2.1, if_neg h.2.2.2.2.1, if_neg h.2.2.2.2.2.1, if_neg h.2.2.2.2.2.2]
/-- reading goes on from a memory: nothing else has changed -/
def ad_ru (m : ad_Mem) (u : Int × Int) : Prop := (m 8 0 15 = u.1 ∧ m 8 0 16 = u.2) ∧ (0 ≤ u.1 ∧ u.1 ≤ 97) ∧ -2000 ≤ u.2 ∧ u.2 ≤ 0
def ad_rw (σ m : ad_Mem) (S : List Int) (u : Int × Int) (A : ad_Ar) : Prop := ad_f8 [] [15, 16] σ m ∧ ad_tp8 m S ∧ ad_ru m u ∧ ad_ra (m 21 0) A
theorem ad_rw.next {σ m n : ad_Mem} {S : List Int} {u v : Int × Int} {A : ad_Ar} (h : ad_rw σ m S u A) (hf : ad_f8 [] [15, 16] m n) (hu : ad_ru n v) : ad_rw σ n S v A :=
  ⟨h.1.trans hf, h.2.1.fr hf (by decide) (by decide), hu, ad_ra_congr (fun i _ => congrFun (hf.1 21 0 (by decide) (by decide)) i) h.2.2.2⟩
theorem ad_rw.of {σ m : ad_Mem} {S : List Int} {u : Int × Int} {A : ad_Ar} (h : ad_rw σ m S u A) : ad_rw m m S u A := ⟨ad_f8.refl, h.2.1, h.2.2.1, h.2.2.2⟩
theorem ad_rw_0 {σ : ad_Mem} {S : List Int} {p : Int} {A : ad_Ar} (ht : ad_tp8 σ S) (hr : ad_ra (σ 21 0) A) (hp : 0 ≤ p ∧ p ≤ 96) (h0 : σ 8 0 16 = 0) : ad_rw σ (ad_st σ 8 0 15 (p + 1)) S (p + 1, 0) A := by
  have hf : ad_f8 [] [15, 16] σ (ad_st σ 8 0 15 (p + 1)) := ad_f8.sj (by decide)
  refine ⟨hf, ht.fr hf (by decide) (by decide), ⟨⟨by rw [ad_st_r1, ad_u1_eq], by rw [ad_st_r1, ad_u1_ne _ _ (by decide)]; exact h0⟩, ?_⟩, ad_ra_congr (fun i _ => congrFun (hf.1 21 0 (by decide) (by decide)) i) hr⟩
  simp only; omega
theorem c_X8_tkD {g : ad_G} {d : Nat} {σ0 σ : ad_Mem} {S : List Int} {u : Int × Int} {A : ad_Ar} (h : ad_rw σ0 σ S u A) (h2d : 2 ≤ d) : ad_Q g mX8_takes d [ad_rf g 8 0, ad_iv 48, ad_iv 57] σ (fun x m => ∃ v, x = ad_iv v ∧ (0 ≤ v ∧ v ≤ 9) ∧ (u.2 = 0 → ad_ft S 100 u.1 ≠ 0 → v = ad_sg S u.1 - 48) ∧ ad_rw σ0 m S (ad_s1 S 100 u) A) :=
  (c_X8_takes h.2.1 h.2.2.1.1 h.2.2.1.2 (lo := 48) (hi := 57) (c := 100) (by decide) rfl h2d).mono (fun x s ⟨v, hx, h1, h2, h3, h4, h5⟩ => ⟨v, hx, by omega, h2, h.next h3 ⟨⟨h4, h5⟩, ad_s1_rng h.2.1.2.1 (by decide) h.2.2.1.2⟩⟩)
theorem c_X8_tkL {g : ad_G} {d : Nat} {σ0 σ : ad_Mem} {S : List Int} {u : Int × Int} {A : ad_Ar} (h : ad_rw σ0 σ S u A) (h2d : 2 ≤ d) : ad_Q g mX8_takes d [ad_rf g 8 0, ad_iv 97, ad_iv 104] σ (fun x m => ∃ v, x = ad_iv v ∧ (0 ≤ v ∧ v ≤ 7) ∧ (u.2 = 0 → ad_ft S 108 u.1 ≠ 0 → v = ad_sg S u.1 - 97) ∧ ad_rw σ0 m S (ad_s1 S 108 u) A) :=
  (c_X8_takes h.2.1 h.2.2.1.1 h.2.2.1.2 (lo := 97) (hi := 104) (c := 108) (by decide) rfl h2d).mono (fun x s ⟨v, hx, h1, h2, h3, h4, h5⟩ => ⟨v, hx, by omega, h2, h.next h3 ⟨⟨h4, h5⟩, ad_s1_rng h.2.1.2.1 (by decide) h.2.2.1.2⟩⟩)
theorem c_X8_tk9 {g : ad_G} {d : Nat} {σ0 σ : ad_Mem} {S : List Int} {u : Int × Int} {A : ad_Ar} (h : ad_rw σ0 σ S u A) (h2d : 2 ≤ d) : ad_Q g mX8_takes d [ad_rf g 8 0, ad_iv 59, ad_iv 59] σ (fun x m => ∃ v, x = ad_iv v ∧ (0 ≤ v ∧ v ≤ 9) ∧ ad_rw σ0 m S (ad_s1 S 59 u) A) :=
  (c_X8_takes h.2.1 h.2.2.1.1 h.2.2.1.2 (lo := 59) (hi := 59) (c := 59) (by decide) (by rw [ad_ft_59]; split <;> split <;> omega) h2d).mono (fun x s ⟨v, hx, h1, h2, h3, h4, h5⟩ => ⟨v, hx, by omega, h.next h3 ⟨⟨h4, h5⟩, ad_s1_rng h.2.1.2.1 (by decide) h.2.2.1.2⟩⟩)
theorem ad_s1_112 {S : List Int} {u : Int × Int} : ad_s1 S 112 u = ad_s1 S 100 u ∨ (u.2 = 0 ∧ ad_sg S u.1 = 46 ∧ ad_s1 S 112 u = (u.1 + 1, 0)) := by
  by_cases hu : u.2 = 0
  · by_cases h46 : ad_sg S u.1 = 46
    · refine Or.inr ⟨hu, h46, ?_⟩
      have hf1 : ad_ft S 112 u.1 = 1 := by unfold ad_ft; rw [if_neg (by decide), if_neg (by decide), if_pos rfl, if_pos (Or.inr h46)]
      unfold ad_s1; rw [if_neg (fun z => z hu), if_neg (by omega), hf1]
    · refine Or.inl ?_
      have hq : ad_ft S 112 u.1 = ad_ft S 100 u.1 := by
        unfold ad_ft
        rw [if_neg (show ¬ (112 : Int) = 100 by decide), if_neg (show ¬ (112 : Int) = 108 by decide), if_pos rfl, if_pos rfl]
        by_cases hd : ad_isD (ad_sg S u.1)
        · rw [if_pos hd, if_pos (Or.inl hd)]
        · rw [if_neg hd, if_neg (fun z : ad_isD (ad_sg S u.1) ∨ ad_sg S u.1 = 46 => z.elim hd h46)]
      unfold ad_s1; rw [hq]
  · exact Or.inl (by rw [ad_s1_stay hu, ad_s1_stay hu])
theorem c_X8_orN {g : ad_G} {d : Nat} {σ0 σ : ad_Mem} {S : List Int} {u : Int × Int} {A : ad_Ar} (h : ad_rw σ0 σ S u A) (h3d : 3 ≤ d) : ad_Q g mX8_orNone d [ad_rf g 8 0] σ (fun x m => ∃ v, x = ad_iv v ∧ (v = -9 ∨ (0 ≤ v ∧ v ≤ 9)) ∧ (u.2 = 0 → ad_ft S 112 u.1 ≠ 0 → v = ad_lk (ad_dg S u.1)) ∧ ad_rw σ0 m S (ad_s1 S 112 u) A) :=
  (c_X8_orNone h.2.1 h.2.2.1.1 h.2.2.1.2 h3d).mono (fun x s ⟨v, hx, h1, h2, h3, h4, h5⟩ => ⟨v, hx, h1, h2, h.next h3 ⟨⟨h4, h5⟩, by
    have hr := ad_s1_rng h.2.1.2.1 (c := 100) (by decide) h.2.2.1.2
    have hlen := h.2.1.2.1
    rcases ad_s1_112 (S := S) (u := u) with e | ⟨_, e1, e2⟩
    · rw [e]; exact hr
    · have hl : u.1 < S.length := by
        rcases Int.lt_or_le u.1 S.length with z | z
        · exact z
        · have := ad_sg_out z; omega
      have := h.2.2.1.2
      rw [e2]; simp only; omega⟩⟩)
theorem c_X8_st0 {g : ad_G} {d : Nat} {σ : ad_Mem} {S : List Int} {A : ad_Ar} {p : Int} (ht : ad_tp8 σ S) (hr : ad_ra (σ 21 0) A) (hp : 0 ≤ p ∧ p ≤ 96) (hu : σ 8 0 15 = p ∧ σ 8 0 16 = 0) (h6d : 6 ≤ d) : ad_Q g mX8_statement d [ad_rf g 8 0, ad_iv 0] σ (fun x m => ∃ b, x = ad_iv b ∧ ad_f8 [] [15, 16] σ m ∧ ad_fe S p (m 8 0 15, m 8 0 16)) := by
  have h96 := ht.2.1
  have hc10 := hr.1.1
  refine ad_M1 (k := 7) rfl (by simp [Value.category]) rfl (Nat.le_of_ble_eq_true rfl) ?_
  simp only [List.map_cons, List.map_nil, List.replicate, List.cons_append, List.nil_append]
  refine ad_aload_n dX8_statement_0 rfl ?_
  refine gf_X8_157 rfl dX8_statement_1 ?_
  rw [hu.1]
  refine ad_aload_n dX8_statement_4 rfl ?_
  refine gf_X8_154 rfl dX8_statement_5 ?_
  rw [ht.1]
  refine ad_icmp_ge 23 dX8_statement_8 (by decide) (by omega) (by omega) (fun h8 => ?_) (fun h8 => ?_)
  · skip
    refine ad_iconst dX8_statement_23 ?_
    refine ad_istore_n dX8_statement_24 (by decide) rfl (by dsimp only [ad_set]) ?_
    refine ad_iload_n dX8_statement_25 rfl ?_
    refine ad_bipush dX8_statement_26 rfl ?_
    refine ad_icmp_eq 81 dX8_statement_28 (by decide) (by omega) (by omega) (fun h28 => ?_) (fun h28 => ?_)
    · exfalso; omega
    · show ad_R _ _ _ _ 31 _ _ _
      refine ad_iload_n dX8_statement_31 rfl ?_
      refine ad_bipush dX8_statement_32 rfl ?_
      refine ad_icmp_eq 81 dX8_statement_34 (by decide) (by omega) (by omega) (fun h34 => ?_) (fun h34 => ?_)
      · exfalso; omega
      · show ad_R _ _ _ _ 37 _ _ _
        refine ad_iload_n dX8_statement_37 rfl ?_
        refine ad_bipush dX8_statement_38 rfl ?_
        refine ad_icmp_eq 81 dX8_statement_40 (by decide) (by omega) (by omega) (fun h40 => ?_) (fun h40 => ?_)
        · exfalso; omega
        · show ad_R _ _ _ _ 43 _ _ _
          refine ad_iload_n dX8_statement_43 rfl ?_
          refine ad_bipush dX8_statement_44 rfl ?_
          refine ad_icmp_eq 81 dX8_statement_46 (by decide) (by omega) (by omega) (fun h46 => ?_) (fun h46 => ?_)
          · exfalso; omega
          · show ad_R _ _ _ _ 49 _ _ _
            refine ad_iload_n dX8_statement_49 rfl ?_
            refine ad_bipush dX8_statement_50 rfl ?_
            refine ad_icmp_eq 81 dX8_statement_52 (by decide) (by omega) (by omega) (fun h52 => ?_) (fun h52 => ?_)
            · exfalso; omega
            · show ad_R _ _ _ _ 55 _ _ _
              refine ad_iload_n dX8_statement_55 rfl ?_
              refine ad_bipush dX8_statement_56 rfl ?_
              refine ad_icmp_eq 81 dX8_statement_58 (by decide) (by omega) (by omega) (fun h58 => ?_) (fun h58 => ?_)
              · exfalso; omega
              · show ad_R _ _ _ _ 61 _ _ _
                refine ad_iload_n dX8_statement_61 rfl ?_
                refine ad_bipush dX8_statement_62 rfl ?_
                refine ad_icmp_eq 81 dX8_statement_64 (by decide) (by omega) (by omega) (fun h64 => ?_) (fun h64 => ?_)
                · exfalso; omega
                · show ad_R _ _ _ _ 67 _ _ _
                  refine ad_aload_n dX8_statement_67 rfl ?_
                  refine ad_sipush dX8_statement_68 rfl ?_
                  refine ad_aload_n dX8_statement_71 rfl ?_
                  refine gf_X8_157 rfl dX8_statement_72 ?_
                  rw [hu.1]
                  refine ad_isub dX8_statement_75 ?_
                  refine pf_X8_160 rfl dX8_statement_76 ?_
                  refine ad_iconst dX8_statement_79 ?_
                  exact ad_ret0 dX8_statement_80 rfl (by
                    refine ⟨_, rfl, ad_f8.sj (by decide), ?_⟩
                    rw [ad_st_r1, ad_u1_eq]
                    exact ad_fe_6 (by
                      rw [ad_sg_out (by omega)]; rfl) hp.1)
  · show ad_R _ _ _ _ 11 _ _ _
    have hlt : 0 ≤ p ∧ p < S.length := by omega
    have hsr := ad_sg_rng ht.2.2.2 p
    refine ad_aload_n dX8_statement_11 rfl ?_
    refine gf_X8_25 rfl dX8_statement_12 ?_
    refine ad_aload_n dX8_statement_15 rfl ?_
    refine gf_X8_157 rfl dX8_statement_16 ?_
    rw [hu.1]
    refine ad_ialj (p.toNat) dX8_statement_19 (by decide) ⟨by decide, by decide⟩ (by omega) (by show _ < 96; omega) (ad_sg_t ht hlt) ?_
    refine ad_goto 24 dX8_statement_20 (by decide) ?_
    refine ad_istore_n dX8_statement_24 (by decide) rfl (by dsimp only [ad_set]) ?_
    refine ad_iload_n dX8_statement_25 rfl ?_
    refine ad_bipush dX8_statement_26 rfl ?_
    refine ad_icmp_eq 81 dX8_statement_28 (by decide) (by omega) (by omega) (fun h28 => ?_) (fun h28 => ?_)
    · skip
      refine ad_aload_n dX8_statement_81 rfl ?_
      refine ad_dup dX8_statement_82 rfl ?_
      refine gf_X8_157 rfl dX8_statement_83 ?_
      rw [hu.1]
      refine ad_iconst dX8_statement_86 ?_
      refine ad_iadd dX8_statement_87 ?_
      refine pf_X8_157 rfl dX8_statement_88 ?_
      have w0 := ad_rw_0 (σ := σ) ht hr hp hu.2
      refine ad_iload_n dX8_statement_91 rfl ?_
      refine ad_bipush dX8_statement_92 rfl ?_
      refine ad_icmp_ne 283 dX8_statement_94 (by decide) (by omega) (by omega) (fun h94 => ?_) (fun h94 => ?_)
      · exfalso; omega
      · show ad_R _ _ _ _ 97 _ _ _
        refine ad_aload_n dX8_statement_97 rfl ?_
        refine ad_cv0q rfl cl_X8_169 dX8_statement_98 (c_X8_orN w0 (by omega)) (by omega) (by show _ < 1; omega) (Nat.le_of_ble_eq_true rfl) (fun x98 s98 q98 => ?_)
        obtain ⟨va, rfl, b98, e98, w98⟩ := q98
        refine ad_istore_n dX8_statement_101 (by decide) rfl (by dsimp only [ad_set]) ?_
        refine ad_aload_n dX8_statement_102 rfl ?_
        refine ad_cv0q rfl cl_X8_169 dX8_statement_103 (c_X8_orN w98 (by omega)) (by omega) (by show _ < 1; omega) (Nat.le_of_ble_eq_true rfl) (fun x103 s103 q103 => ?_)
        obtain ⟨vb, rfl, b103, e103, w103⟩ := q103
        obtain ⟨u, hue⟩ : ∃ u, u = ad_s1 S 112 (ad_s1 S 112 (p + 1, 0)) := ⟨_, rfl⟩
        rw [← hue] at w103
        have hu0 : 0 ≤ u.1 := w103.2.2.1.2.1.1
        have h168 : ∀ b : Int, (b = 0 ∨ b = 1) → ad_R g mX8_statement d (ad_ZQ mX8_statement (fun x m => ∃ b, x = ad_iv b ∧ ad_f8 [] [15, 16] σ m ∧ ad_fe S p (m 8 0 15, m 8 0 16))) 168 [some (ad_rf g 8 0), some (ad_iv 0), some (ad_iv (ad_sg S p)), some (ad_iv va), some (ad_iv vb), none, none, none, none] [ad_iv b] s103 := by
          intro b hb
          have hl : ∀ (n : Nat) (k : Nat) (o : Option Value) (m : ad_Mem), (k ≤ 12) → (ad_rw σ m S (ad_l1 S u k) A) → (ad_li S u k) → (((13 - k : Nat) : Int)).toNat ≤ n → ad_R g mX8_statement d (ad_ZQ mX8_statement (fun x m => ∃ b, x = ad_iv b ∧ ad_f8 [] [15, 16] σ m ∧ ad_fe S p (m 8 0 15, m 8 0 16))) 196 [some (ad_rf g 8 0), some (ad_iv 0), some (ad_iv (ad_sg S p)), some (ad_iv va), some (ad_iv vb), some (ad_iv b), some (ad_iv (-9)), some (ad_iv (k : Int)), o] [] m := by
            intro n
            induction n with
            | zero =>
              intro k o m hk12 hw hi hn
              refine ad_iload dX8_statement_196 rfl ?_
              exfalso; omega
            | succ n ih =>
              intro k o m hk12 hw hi hn
              refine ad_iload dX8_statement_196 rfl ?_
              refine ad_if_eq 226 dX8_statement_198 (by decide) (by omega) (fun h198 => ?_) (fun h198 => ?_)
              · skip
                have hst := ad_l1_step hu0 hi (Or.inl (by omega))
                refine ad_aload_n dX8_statement_226 rfl ?_
                refine ad_bipush dX8_statement_227 rfl ?_
                refine ad_bipush dX8_statement_229 rfl ?_
                refine ad_cv2q rfl cl_X8_166 dX8_statement_231 (c_X8_tkL hw (by omega)) (by omega) (by show _ < 1; omega) (Nat.le_of_ble_eq_true rfl) (fun x231 s231 q231 => ?_)
                obtain ⟨v231, rfl, b231, e231, w231⟩ := q231
                refine ad_istore dX8_statement_234 (by decide) rfl (by dsimp only [ad_set]) ?_
                refine ad_iload dX8_statement_236 rfl ?_
                refine ad_bipush dX8_statement_238 rfl ?_
                refine ad_icmp_eq 251 dX8_statement_240 (by decide) (by omega) (by omega) (fun h240 => ?_) (fun h240 => ?_)
                · skip
                  refine ad_iinc dX8_statement_251 rfl (by decide) rfl (by dsimp only [ad_set]) ?_
                  refine ad_goto 196 dX8_statement_254 (by decide) ?_
                  exact ih (k + 1) _ _ (by have := hst.2.1; omega) (by rw [← hst.1]; exact w231) hst.2 (by omega)
                · exfalso; omega
              · show ad_R _ _ _ _ 201 _ _ _
                refine ad_iload dX8_statement_201 rfl ?_
                refine ad_bipush dX8_statement_203 rfl ?_
                refine ad_icmp_ge 257 dX8_statement_205 (by decide) (by omega) (by omega) (fun h205 => ?_) (fun h205 => ?_)
                · skip
                  refine ad_aload_n dX8_statement_257 rfl ?_
                  refine ad_bipush dX8_statement_258 rfl ?_
                  refine ad_bipush dX8_statement_260 rfl ?_
                  refine ad_cv2q rfl cl_X8_166 dX8_statement_262 (c_X8_tk9 hw (by omega)) (by omega) (by show _ < 1; omega) (Nat.le_of_ble_eq_true rfl) (fun x262 s262 q262 => ?_)
                  obtain ⟨z262, rfl, b262, w262⟩ := q262
                  refine ad_pop dX8_statement_265 rfl ?_
                  refine ad_iload dX8_statement_266 rfl ?_
                  refine ad_bipush dX8_statement_268 rfl ?_
                  refine ad_icmp_eq 280 dX8_statement_270 (by decide) (by omega) (by omega) (fun h270 => ?_) (fun h270 => ?_)
                  · skip
                    refine ad_iload dX8_statement_280 rfl ?_
                    exact ad_retn dX8_statement_282 rfl ((by rcases hb with rfl | rfl <;> rfl)) ⟨_, rfl, w262.1, by
                      rw [w262.2.2.1.1.1, w262.2.2.1.1.2]; exact (by
                      have he := ad_l1_end hu0 hi (by omega) (Or.inl (by omega))
                      rw [he, hue]; exact ad_fe_118 hp.1 h28)⟩
                  · exfalso; omega
                · show ad_R _ _ _ _ 208 _ _ _
                  refine ad_aload_n dX8_statement_208 rfl ?_
                  refine gf_X8_160 rfl dX8_statement_209 ?_
                  rw [hw.2.2.1.1.2]
                  have hf2 := hw.2.2.1.2.2
                  refine ad_if_ne 257 dX8_statement_212 (by decide) (by constructor <;> omega) (fun h212 => ?_) (fun h212 => ?_)
                  · skip
                    refine ad_aload_n dX8_statement_257 rfl ?_
                    refine ad_bipush dX8_statement_258 rfl ?_
                    refine ad_bipush dX8_statement_260 rfl ?_
                    refine ad_cv2q rfl cl_X8_166 dX8_statement_262 (c_X8_tk9 hw (by omega)) (by omega) (by show _ < 1; omega) (Nat.le_of_ble_eq_true rfl) (fun x262 s262 q262 => ?_)
                    obtain ⟨z262, rfl, b262, w262⟩ := q262
                    refine ad_pop dX8_statement_265 rfl ?_
                    refine ad_iload dX8_statement_266 rfl ?_
                    refine ad_bipush dX8_statement_268 rfl ?_
                    refine ad_icmp_eq 280 dX8_statement_270 (by decide) (by omega) (by omega) (fun h270 => ?_) (fun h270 => ?_)
                    · skip
                      refine ad_iload dX8_statement_280 rfl ?_
                      exact ad_retn dX8_statement_282 rfl ((by rcases hb with rfl | rfl <;> rfl)) ⟨_, rfl, w262.1, by
                        rw [w262.2.2.1.1.1, w262.2.2.1.1.2]; exact (by
                        have he := ad_l1_end hu0 hi (by omega) (Or.inr (Or.inl h212))
                        rw [he, hue]; exact ad_fe_118 hp.1 h28)⟩
                    · exfalso; omega
                  · show ad_R _ _ _ _ 215 _ _ _
                    refine ad_aload_n dX8_statement_215 rfl ?_
                    refine ad_bipush dX8_statement_216 rfl ?_
                    refine ad_bipush dX8_statement_218 rfl ?_
                    refine ad_cv2f rfl cl_X8_163 dX8_statement_220 (c_X8_isAt hw.2.1 hw.2.2.1.1.1 hw.2.2.1.2.1 (by decide)) (by omega) (by show _ < 1; omega) (Nat.le_of_ble_eq_true rfl) ?_
                    refine ad_ifp_eq 257 dX8_statement_223 (by decide) (fun h223 => ?_) (fun h223 => ?_)
                    · skip
                      refine ad_aload_n dX8_statement_257 rfl ?_
                      refine ad_bipush dX8_statement_258 rfl ?_
                      refine ad_bipush dX8_statement_260 rfl ?_
                      refine ad_cv2q rfl cl_X8_166 dX8_statement_262 (c_X8_tk9 hw (by omega)) (by omega) (by show _ < 1; omega) (Nat.le_of_ble_eq_true rfl) (fun x262 s262 q262 => ?_)
                      obtain ⟨z262, rfl, b262, w262⟩ := q262
                      refine ad_pop dX8_statement_265 rfl ?_
                      refine ad_iload dX8_statement_266 rfl ?_
                      refine ad_bipush dX8_statement_268 rfl ?_
                      refine ad_icmp_eq 280 dX8_statement_270 (by decide) (by omega) (by omega) (fun h270 => ?_) (fun h270 => ?_)
                      · skip
                        refine ad_iload dX8_statement_280 rfl ?_
                        exact ad_retn dX8_statement_282 rfl ((by rcases hb with rfl | rfl <;> rfl)) ⟨_, rfl, w262.1, by
                          rw [w262.2.2.1.1.1, w262.2.2.1.1.2]; exact (by
                          have he := ad_l1_end hu0 hi (by omega) (Or.inr (Or.inr (by unfold ad_isL; omega)))
                          rw [he, hue]; exact ad_fe_118 hp.1 h28)⟩
                      · exfalso; omega
                    · show ad_R _ _ _ _ 226 _ _ _
                      have hst := ad_l1_step hu0 hi (Or.inr ⟨by omega, Decidable.not_not.mp h212, by unfold ad_isL; omega⟩)
                      refine ad_aload_n dX8_statement_226 rfl ?_
                      refine ad_bipush dX8_statement_227 rfl ?_
                      refine ad_bipush dX8_statement_229 rfl ?_
                      refine ad_cv2q rfl cl_X8_166 dX8_statement_231 (c_X8_tkL hw (by omega)) (by omega) (by show _ < 1; omega) (Nat.le_of_ble_eq_true rfl) (fun x231 s231 q231 => ?_)
                      obtain ⟨v231, rfl, b231, e231, w231⟩ := q231
                      refine ad_istore dX8_statement_234 (by decide) rfl (by dsimp only [ad_set]) ?_
                      refine ad_iload dX8_statement_236 rfl ?_
                      refine ad_bipush dX8_statement_238 rfl ?_
                      refine ad_icmp_eq 251 dX8_statement_240 (by decide) (by omega) (by omega) (fun h240 => ?_) (fun h240 => ?_)
                      · skip
                        refine ad_iinc dX8_statement_251 rfl (by decide) rfl (by dsimp only [ad_set]) ?_
                        refine ad_goto 196 dX8_statement_254 (by decide) ?_
                        exact ih (k + 1) _ _ (by have := hst.2.1; omega) (by rw [← hst.1]; exact w231) hst.2 (by omega)
                      · exfalso; omega
          refine ad_istore dX8_statement_168 (by decide) rfl (by dsimp only [ad_set]) ?_
          refine ad_iload_n dX8_statement_170 rfl ?_
          refine ad_if_eq 189 dX8_statement_171 (by decide) (by omega) (fun h171 => ?_) (fun h171 => ?_)
          · skip
            refine ad_bipush dX8_statement_189 rfl ?_
            refine ad_istore dX8_statement_191 (by decide) rfl (by dsimp only [ad_set]) ?_
            refine ad_iconst dX8_statement_193 ?_
            refine ad_istore dX8_statement_194 (by decide) rfl (by dsimp only [ad_set]) ?_
            exact hl _ 0 none _ (by omega) (by
              show ad_rw σ s103 S (ad_l1 S u 0) A
              have e : ad_l1 S u 0 = u := by unfold ad_l1; split <;> rfl
              rw [e]; exact w103) ⟨by omega, fun _ => by omega, fun _ => by have := ad_lf_ge S u.1; show (0 : Int) ≤ _; omega⟩ (Nat.le_refl _)
          · exfalso; omega
        refine ad_istore dX8_statement_106 (by decide) rfl (by dsimp only [ad_set]) ?_
        refine ad_iload_n dX8_statement_108 rfl ?_
        refine ad_bipush dX8_statement_109 rfl ?_
        refine ad_icmp_eq 122 dX8_statement_111 (by decide) (by omega) (by omega) (fun h111 => ?_) (fun h111 => ?_)
        · skip
          refine ad_iload dX8_statement_122 rfl ?_
          refine ad_bipush dX8_statement_124 rfl ?_
          refine ad_icmp_eq 150 dX8_statement_126 (by decide) (by omega) (by omega) (fun h126 => ?_) (fun h126 => ?_)
          · skip
            refine ad_aload_n dX8_statement_150 rfl ?_
            refine gf_X8_9 rfl dX8_statement_151 ?_
            refine ad_sipush dX8_statement_154 rfl ?_
            refine ad_ialj (500) dX8_statement_157 (by decide) ⟨by decide, by decide⟩ (by omega) (by show _ < 520; omega) (w103.2.2.2.2.1.1) ?_
            refine ad_bipush dX8_statement_158 rfl ?_
            refine ad_icmp_ge 167 dX8_statement_160 (by decide) (by omega) (by omega) (fun h160 => ?_) (fun h160 => ?_)
            · skip
              refine ad_iconst dX8_statement_167 ?_
              exact h168 0 (by decide)
            · show ad_R _ _ _ _ 163 _ _ _
              refine ad_iconst dX8_statement_163 ?_
              refine ad_goto 168 dX8_statement_164 (by decide) ?_
              exact h168 1 (by decide)
          · show ad_R _ _ _ _ 129 _ _ _
            refine ad_aload_n dX8_statement_129 rfl ?_
            refine ad_iload dX8_statement_130 rfl ?_
            refine ad_cv1f rfl cl_X8_59 dX8_statement_132 (c_X8_isThere w103.2.2.2 (by omega) (by omega)) (by omega) (by show _ < 1; omega) (Nat.le_of_ble_eq_true rfl) ?_
            refine ad_ifp_eq 167 dX8_statement_135 (by decide) (fun h135 => ?_) (fun h135 => ?_)
            · skip
              refine ad_iconst dX8_statement_167 ?_
              exact h168 0 (by decide)
            · show ad_R _ _ _ _ 138 _ _ _
              refine ad_iload_n dX8_statement_138 rfl ?_
              refine ad_bipush dX8_statement_139 rfl ?_
              refine ad_icmp_eq 167 dX8_statement_141 (by decide) (by omega) (by omega) (fun h141 => ?_) (fun h141 => ?_)
              · skip
                refine ad_iconst dX8_statement_167 ?_
                exact h168 0 (by decide)
              · show ad_R _ _ _ _ 144 _ _ _
                refine ad_iload_n dX8_statement_144 rfl ?_
                refine ad_iload dX8_statement_145 rfl ?_
                refine ad_icmp_eq 167 dX8_statement_147 (by decide) (by omega) (by omega) (fun h147 => ?_) (fun h147 => ?_)
                · skip
                  refine ad_iconst dX8_statement_167 ?_
                  exact h168 0 (by decide)
                · show ad_R _ _ _ _ 150 _ _ _
                  refine ad_aload_n dX8_statement_150 rfl ?_
                  refine gf_X8_9 rfl dX8_statement_151 ?_
                  refine ad_sipush dX8_statement_154 rfl ?_
                  refine ad_ialj (500) dX8_statement_157 (by decide) ⟨by decide, by decide⟩ (by omega) (by show _ < 520; omega) (w103.2.2.2.2.1.1) ?_
                  refine ad_bipush dX8_statement_158 rfl ?_
                  refine ad_icmp_ge 167 dX8_statement_160 (by decide) (by omega) (by omega) (fun h160 => ?_) (fun h160 => ?_)
                  · skip
                    refine ad_iconst dX8_statement_167 ?_
                    exact h168 0 (by decide)
                  · show ad_R _ _ _ _ 163 _ _ _
                    refine ad_iconst dX8_statement_163 ?_
                    refine ad_goto 168 dX8_statement_164 (by decide) ?_
                    exact h168 1 (by decide)
        · show ad_R _ _ _ _ 114 _ _ _
          refine ad_aload_n dX8_statement_114 rfl ?_
          refine ad_iload_n dX8_statement_115 rfl ?_
          refine ad_cv1f rfl cl_X8_59 dX8_statement_116 (c_X8_isThere w103.2.2.2 (by omega) (by omega)) (by omega) (by show _ < 1; omega) (Nat.le_of_ble_eq_true rfl) ?_
          refine ad_ifp_eq 167 dX8_statement_119 (by decide) (fun h119 => ?_) (fun h119 => ?_)
          · skip
            refine ad_iconst dX8_statement_167 ?_
            exact h168 0 (by decide)
          · show ad_R _ _ _ _ 122 _ _ _
            refine ad_iload dX8_statement_122 rfl ?_
            refine ad_bipush dX8_statement_124 rfl ?_
            refine ad_icmp_eq 150 dX8_statement_126 (by decide) (by omega) (by omega) (fun h126 => ?_) (fun h126 => ?_)
            · skip
              refine ad_aload_n dX8_statement_150 rfl ?_
              refine gf_X8_9 rfl dX8_statement_151 ?_
              refine ad_sipush dX8_statement_154 rfl ?_
              refine ad_ialj (500) dX8_statement_157 (by decide) ⟨by decide, by decide⟩ (by omega) (by show _ < 520; omega) (w103.2.2.2.2.1.1) ?_
              refine ad_bipush dX8_statement_158 rfl ?_
              refine ad_icmp_ge 167 dX8_statement_160 (by decide) (by omega) (by omega) (fun h160 => ?_) (fun h160 => ?_)
              · skip
                refine ad_iconst dX8_statement_167 ?_
                exact h168 0 (by decide)
              · show ad_R _ _ _ _ 163 _ _ _
                refine ad_iconst dX8_statement_163 ?_
                refine ad_goto 168 dX8_statement_164 (by decide) ?_
                exact h168 1 (by decide)
            · show ad_R _ _ _ _ 129 _ _ _
              refine ad_aload_n dX8_statement_129 rfl ?_
              refine ad_iload dX8_statement_130 rfl ?_
              refine ad_cv1f rfl cl_X8_59 dX8_statement_132 (c_X8_isThere w103.2.2.2 (by omega) (by omega)) (by omega) (by show _ < 1; omega) (Nat.le_of_ble_eq_true rfl) ?_
              refine ad_ifp_eq 167 dX8_statement_135 (by decide) (fun h135 => ?_) (fun h135 => ?_)
              · skip
                refine ad_iconst dX8_statement_167 ?_
                exact h168 0 (by decide)
              · show ad_R _ _ _ _ 138 _ _ _
                refine ad_iload_n dX8_statement_138 rfl ?_
                refine ad_bipush dX8_statement_139 rfl ?_
                refine ad_icmp_eq 167 dX8_statement_141 (by decide) (by omega) (by omega) (fun h141 => ?_) (fun h141 => ?_)
                · skip
                  refine ad_iconst dX8_statement_167 ?_
                  exact h168 0 (by decide)
                · show ad_R _ _ _ _ 144 _ _ _
                  refine ad_iload_n dX8_statement_144 rfl ?_
                  refine ad_iload dX8_statement_145 rfl ?_
                  refine ad_icmp_eq 167 dX8_statement_147 (by decide) (by omega) (by omega) (fun h147 => ?_) (fun h147 => ?_)
                  · skip
                    refine ad_iconst dX8_statement_167 ?_
                    exact h168 0 (by decide)
                  · show ad_R _ _ _ _ 150 _ _ _
                    refine ad_aload_n dX8_statement_150 rfl ?_
                    refine gf_X8_9 rfl dX8_statement_151 ?_
                    refine ad_sipush dX8_statement_154 rfl ?_
                    refine ad_ialj (500) dX8_statement_157 (by decide) ⟨by decide, by decide⟩ (by omega) (by show _ < 520; omega) (w103.2.2.2.2.1.1) ?_
                    refine ad_bipush dX8_statement_158 rfl ?_
                    refine ad_icmp_ge 167 dX8_statement_160 (by decide) (by omega) (by omega) (fun h160 => ?_) (fun h160 => ?_)
                    · skip
                      refine ad_iconst dX8_statement_167 ?_
                      exact h168 0 (by decide)
                    · show ad_R _ _ _ _ 163 _ _ _
                      refine ad_iconst dX8_statement_163 ?_
                      refine ad_goto 168 dX8_statement_164 (by decide) ?_
                      exact h168 1 (by decide)
    · show ad_R _ _ _ _ 31 _ _ _
      refine ad_iload_n dX8_statement_31 rfl ?_
      refine ad_bipush dX8_statement_32 rfl ?_
      refine ad_icmp_eq 81 dX8_statement_34 (by decide) (by omega) (by omega) (fun h34 => ?_) (fun h34 => ?_)
      · skip
        refine ad_aload_n dX8_statement_81 rfl ?_
        refine ad_dup dX8_statement_82 rfl ?_
        refine gf_X8_157 rfl dX8_statement_83 ?_
        rw [hu.1]
        refine ad_iconst dX8_statement_86 ?_
        refine ad_iadd dX8_statement_87 ?_
        refine pf_X8_157 rfl dX8_statement_88 ?_
        have w0 := ad_rw_0 (σ := σ) ht hr hp hu.2
        refine ad_iload_n dX8_statement_91 rfl ?_
        refine ad_bipush dX8_statement_92 rfl ?_
        refine ad_icmp_ne 283 dX8_statement_94 (by decide) (by omega) (by omega) (fun h94 => ?_) (fun h94 => ?_)
        · skip
          refine ad_iload_n dX8_statement_283 rfl ?_
          refine ad_bipush dX8_statement_284 rfl ?_
          refine ad_icmp_ne 365 dX8_statement_286 (by decide) (by omega) (by omega) (fun h286 => ?_) (fun h286 => ?_)
          · exfalso; omega
          · show ad_R _ _ _ _ 289 _ _ _
            refine ad_aload_n dX8_statement_289 rfl ?_
            refine ad_bipush dX8_statement_290 rfl ?_
            refine ad_bipush dX8_statement_292 rfl ?_
            refine ad_cv2q rfl cl_X8_166 dX8_statement_294 (c_X8_tkD w0 (by omega)) (by omega) (by show _ < 1; omega) (Nat.le_of_ble_eq_true rfl) (fun x294 s294 q294 => ?_)
            obtain ⟨va, rfl, b294, e294, w294⟩ := q294
            refine ad_istore_n dX8_statement_297 (by decide) rfl (by dsimp only [ad_set]) ?_
            refine ad_aload_n dX8_statement_298 rfl ?_
            refine ad_cv0q rfl cl_X8_169 dX8_statement_299 (c_X8_orN w294 (by omega)) (by omega) (by show _ < 1; omega) (Nat.le_of_ble_eq_true rfl) (fun x299 s299 q299 => ?_)
            obtain ⟨vb, rfl, b299, e299, w299⟩ := q299
            refine ad_istore dX8_statement_302 (by decide) rfl (by dsimp only [ad_set]) ?_
            refine ad_aload_n dX8_statement_304 rfl ?_
            refine ad_bipush dX8_statement_305 rfl ?_
            refine ad_bipush dX8_statement_307 rfl ?_
            refine ad_cv2q rfl cl_X8_166 dX8_statement_309 (c_X8_tk9 w299 (by omega)) (by omega) (by show _ < 1; omega) (Nat.le_of_ble_eq_true rfl) (fun x309 s309 q309 => ?_)
            obtain ⟨z309, rfl, b309, w309⟩ := q309
            refine ad_pop dX8_statement_312 rfl ?_
            refine ad_iload_n dX8_statement_313 rfl ?_
            refine ad_iconst dX8_statement_314 ?_
            refine ad_icmp_ge 338 dX8_statement_315 (by decide) (by omega) (by omega) (fun h315 => ?_) (fun h315 => ?_)
            · skip
              refine ad_iconst dX8_statement_338 ?_
              refine ad_istore dX8_statement_339 (by decide) rfl (by dsimp only [ad_set]) ?_
              refine ad_iload_n dX8_statement_341 rfl ?_
              refine ad_if_eq 362 dX8_statement_342 (by decide) (by omega) (fun h342 => ?_) (fun h342 => ?_)
              · skip
                refine ad_iload dX8_statement_362 rfl ?_
                exact ad_retn dX8_statement_364 rfl (rfl) ⟨_, rfl, w309.1, by
                  rw [w309.2.2.1.1.1, w309.2.2.1.1.2]; exact ad_fe_104 hp.1 h34⟩
              · exfalso; omega
            · show ad_R _ _ _ _ 318 _ _ _
              refine ad_iload dX8_statement_318 rfl ?_
              refine ad_bipush dX8_statement_320 rfl ?_
              refine ad_icmp_eq 334 dX8_statement_322 (by decide) (by omega) (by omega) (fun h322 => ?_) (fun h322 => ?_)
              · skip
                refine ad_iconst dX8_statement_334 ?_
                refine ad_goto 339 dX8_statement_335 (by decide) ?_
                refine ad_istore dX8_statement_339 (by decide) rfl (by dsimp only [ad_set]) ?_
                refine ad_iload_n dX8_statement_341 rfl ?_
                refine ad_if_eq 362 dX8_statement_342 (by decide) (by omega) (fun h342 => ?_) (fun h342 => ?_)
                · skip
                  refine ad_iload dX8_statement_362 rfl ?_
                  exact ad_retn dX8_statement_364 rfl (rfl) ⟨_, rfl, w309.1, by
                    rw [w309.2.2.1.1.1, w309.2.2.1.1.2]; exact ad_fe_104 hp.1 h34⟩
                · exfalso; omega
              · show ad_R _ _ _ _ 325 _ _ _
                refine ad_aload_n dX8_statement_325 rfl ?_
                refine ad_iload dX8_statement_326 rfl ?_
                refine ad_cv1f rfl cl_X8_59 dX8_statement_328 (c_X8_isThere w309.2.2.2 (by omega) (by omega)) (by omega) (by show _ < 1; omega) (Nat.le_of_ble_eq_true rfl) ?_
                refine ad_ifp_eq 338 dX8_statement_331 (by decide) (fun h331 => ?_) (fun h331 => ?_)
                · skip
                  refine ad_iconst dX8_statement_338 ?_
                  refine ad_istore dX8_statement_339 (by decide) rfl (by dsimp only [ad_set]) ?_
                  refine ad_iload_n dX8_statement_341 rfl ?_
                  refine ad_if_eq 362 dX8_statement_342 (by decide) (by omega) (fun h342 => ?_) (fun h342 => ?_)
                  · skip
                    refine ad_iload dX8_statement_362 rfl ?_
                    exact ad_retn dX8_statement_364 rfl (rfl) ⟨_, rfl, w309.1, by
                      rw [w309.2.2.1.1.1, w309.2.2.1.1.2]; exact ad_fe_104 hp.1 h34⟩
                  · exfalso; omega
                · show ad_R _ _ _ _ 334 _ _ _
                  refine ad_iconst dX8_statement_334 ?_
                  refine ad_goto 339 dX8_statement_335 (by decide) ?_
                  refine ad_istore dX8_statement_339 (by decide) rfl (by dsimp only [ad_set]) ?_
                  refine ad_iload_n dX8_statement_341 rfl ?_
                  refine ad_if_eq 362 dX8_statement_342 (by decide) (by omega) (fun h342 => ?_) (fun h342 => ?_)
                  · skip
                    refine ad_iload dX8_statement_362 rfl ?_
                    exact ad_retn dX8_statement_364 rfl (rfl) ⟨_, rfl, w309.1, by
                      rw [w309.2.2.1.1.1, w309.2.2.1.1.2]; exact ad_fe_104 hp.1 h34⟩
                  · exfalso; omega
        · exfalso; omega
      · show ad_R _ _ _ _ 37 _ _ _
        refine ad_iload_n dX8_statement_37 rfl ?_
        refine ad_bipush dX8_statement_38 rfl ?_
        refine ad_icmp_eq 81 dX8_statement_40 (by decide) (by omega) (by omega) (fun h40 => ?_) (fun h40 => ?_)
        · skip
          refine ad_aload_n dX8_statement_81 rfl ?_
          refine ad_dup dX8_statement_82 rfl ?_
          refine gf_X8_157 rfl dX8_statement_83 ?_
          rw [hu.1]
          refine ad_iconst dX8_statement_86 ?_
          refine ad_iadd dX8_statement_87 ?_
          refine pf_X8_157 rfl dX8_statement_88 ?_
          have w0 := ad_rw_0 (σ := σ) ht hr hp hu.2
          refine ad_iload_n dX8_statement_91 rfl ?_
          refine ad_bipush dX8_statement_92 rfl ?_
          refine ad_icmp_ne 283 dX8_statement_94 (by decide) (by omega) (by omega) (fun h94 => ?_) (fun h94 => ?_)
          · skip
            refine ad_iload_n dX8_statement_283 rfl ?_
            refine ad_bipush dX8_statement_284 rfl ?_
            refine ad_icmp_ne 365 dX8_statement_286 (by decide) (by omega) (by omega) (fun h286 => ?_) (fun h286 => ?_)
            · skip
              refine ad_iload_n dX8_statement_365 rfl ?_
              refine ad_bipush dX8_statement_366 rfl ?_
              refine ad_icmp_eq 377 dX8_statement_368 (by decide) (by omega) (by omega) (fun h368 => ?_) (fun h368 => ?_)
              · skip
                refine ad_aload_n dX8_statement_377 rfl ?_
                refine ad_bipush dX8_statement_378 rfl ?_
                refine ad_bipush dX8_statement_380 rfl ?_
                refine ad_cv2q rfl cl_X8_166 dX8_statement_382 (c_X8_tkD w0 (by omega)) (by omega) (by show _ < 1; omega) (Nat.le_of_ble_eq_true rfl) (fun x382 s382 q382 => ?_)
                obtain ⟨va, rfl, b382, e382, w382⟩ := q382
                refine ad_istore_n dX8_statement_385 (by decide) rfl (by dsimp only [ad_set]) ?_
                refine ad_iload_n dX8_statement_386 rfl ?_
                refine ad_bipush dX8_statement_387 rfl ?_
                refine ad_icmp_ne 403 dX8_statement_389 (by decide) (by omega) (by omega) (fun h389 => ?_) (fun h389 => ?_)
                · exfalso; omega
                · show ad_R _ _ _ _ 392 _ _ _
                  refine ad_aload_n dX8_statement_392 rfl ?_
                  refine ad_bipush dX8_statement_393 rfl ?_
                  refine ad_bipush dX8_statement_395 rfl ?_
                  refine ad_cv2q rfl cl_X8_166 dX8_statement_397 (c_X8_tkD w382 (by omega)) (by omega) (by show _ < 1; omega) (Nat.le_of_ble_eq_true rfl) (fun x397 s397 q397 => ?_)
                  obtain ⟨vb, rfl, b397, e397, w397⟩ := q397
                  refine ad_goto 404 dX8_statement_400 (by decide) ?_
                  have w404 := w397
                  refine ad_istore dX8_statement_404 (by decide) rfl (by dsimp only [ad_set]) ?_
                  refine ad_aload_n dX8_statement_406 rfl ?_
                  refine ad_bipush dX8_statement_407 rfl ?_
                  refine ad_bipush dX8_statement_409 rfl ?_
                  refine ad_cv2q rfl cl_X8_166 dX8_statement_411 (c_X8_tk9 w404 (by omega)) (by omega) (by show _ < 1; omega) (Nat.le_of_ble_eq_true rfl) (fun x411 s411 q411 => ?_)
                  obtain ⟨z411, rfl, b411, w411⟩ := q411
                  refine ad_pop dX8_statement_414 rfl ?_
                  refine ad_iload_n dX8_statement_415 rfl ?_
                  refine ad_bipush dX8_statement_416 rfl ?_
                  refine ad_icmp_ne 434 dX8_statement_418 (by decide) (by omega) (by omega) (fun h418 => ?_) (fun h418 => ?_)
                  · exfalso; omega
                  · show ad_R _ _ _ _ 421 _ _ _
                    refine ad_iload_n dX8_statement_421 rfl ?_
                    refine ad_iconst dX8_statement_422 ?_
                    refine ad_icmp_gt 430 dX8_statement_423 (by decide) (by omega) (by omega) (fun h423 => ?_) (fun h423 => ?_)
                    · skip
                      refine ad_iconst dX8_statement_430 ?_
                      refine ad_goto 445 dX8_statement_431 (by decide) ?_
                      refine ad_istore dX8_statement_445 (by decide) rfl (by dsimp only [ad_set]) ?_
                      refine ad_iload_n dX8_statement_447 rfl ?_
                      refine ad_if_eq 471 dX8_statement_448 (by decide) (by omega) (fun h448 => ?_) (fun h448 => ?_)
                      · skip
                        refine ad_iload_n dX8_statement_471 rfl ?_
                        refine ad_if_eq 505 dX8_statement_472 (by decide) (by omega) (fun h472 => ?_) (fun h472 => ?_)
                        · skip
                          refine ad_iload dX8_statement_505 rfl ?_
                          exact ad_retn dX8_statement_507 rfl (rfl) ⟨_, rfl, w411.1, by
                            rw [w411.2.2.1.1.1, w411.2.2.1.1.2]; exact ad_fe_107 hp.1 h40⟩
                        · exfalso; omega
                      · exfalso; omega
                    · show ad_R _ _ _ _ 426 _ _ _
                      refine ad_iconst dX8_statement_426 ?_
                      refine ad_goto 445 dX8_statement_427 (by decide) ?_
                      refine ad_istore dX8_statement_445 (by decide) rfl (by dsimp only [ad_set]) ?_
                      refine ad_iload_n dX8_statement_447 rfl ?_
                      refine ad_if_eq 471 dX8_statement_448 (by decide) (by omega) (fun h448 => ?_) (fun h448 => ?_)
                      · skip
                        refine ad_iload_n dX8_statement_471 rfl ?_
                        refine ad_if_eq 505 dX8_statement_472 (by decide) (by omega) (fun h472 => ?_) (fun h472 => ?_)
                        · skip
                          refine ad_iload dX8_statement_505 rfl ?_
                          exact ad_retn dX8_statement_507 rfl (rfl) ⟨_, rfl, w411.1, by
                            rw [w411.2.2.1.1.1, w411.2.2.1.1.2]; exact ad_fe_107 hp.1 h40⟩
                        · exfalso; omega
                      · exfalso; omega
              · exfalso; omega
            · exfalso; omega
          · exfalso; omega
        · show ad_R _ _ _ _ 43 _ _ _
          refine ad_iload_n dX8_statement_43 rfl ?_
          refine ad_bipush dX8_statement_44 rfl ?_
          refine ad_icmp_eq 81 dX8_statement_46 (by decide) (by omega) (by omega) (fun h46 => ?_) (fun h46 => ?_)
          · skip
            refine ad_aload_n dX8_statement_81 rfl ?_
            refine ad_dup dX8_statement_82 rfl ?_
            refine gf_X8_157 rfl dX8_statement_83 ?_
            rw [hu.1]
            refine ad_iconst dX8_statement_86 ?_
            refine ad_iadd dX8_statement_87 ?_
            refine pf_X8_157 rfl dX8_statement_88 ?_
            have w0 := ad_rw_0 (σ := σ) ht hr hp hu.2
            refine ad_iload_n dX8_statement_91 rfl ?_
            refine ad_bipush dX8_statement_92 rfl ?_
            refine ad_icmp_ne 283 dX8_statement_94 (by decide) (by omega) (by omega) (fun h94 => ?_) (fun h94 => ?_)
            · skip
              refine ad_iload_n dX8_statement_283 rfl ?_
              refine ad_bipush dX8_statement_284 rfl ?_
              refine ad_icmp_ne 365 dX8_statement_286 (by decide) (by omega) (by omega) (fun h286 => ?_) (fun h286 => ?_)
              · skip
                refine ad_iload_n dX8_statement_365 rfl ?_
                refine ad_bipush dX8_statement_366 rfl ?_
                refine ad_icmp_eq 377 dX8_statement_368 (by decide) (by omega) (by omega) (fun h368 => ?_) (fun h368 => ?_)
                · exfalso; omega
                · show ad_R _ _ _ _ 371 _ _ _
                  refine ad_iload_n dX8_statement_371 rfl ?_
                  refine ad_bipush dX8_statement_372 rfl ?_
                  refine ad_icmp_ne 508 dX8_statement_374 (by decide) (by omega) (by omega) (fun h374 => ?_) (fun h374 => ?_)
                  · exfalso; omega
                  · show ad_R _ _ _ _ 377 _ _ _
                    refine ad_aload_n dX8_statement_377 rfl ?_
                    refine ad_bipush dX8_statement_378 rfl ?_
                    refine ad_bipush dX8_statement_380 rfl ?_
                    refine ad_cv2q rfl cl_X8_166 dX8_statement_382 (c_X8_tkD w0 (by omega)) (by omega) (by show _ < 1; omega) (Nat.le_of_ble_eq_true rfl) (fun x382 s382 q382 => ?_)
                    obtain ⟨va, rfl, b382, e382, w382⟩ := q382
                    refine ad_istore_n dX8_statement_385 (by decide) rfl (by dsimp only [ad_set]) ?_
                    refine ad_iload_n dX8_statement_386 rfl ?_
                    refine ad_bipush dX8_statement_387 rfl ?_
                    refine ad_icmp_ne 403 dX8_statement_389 (by decide) (by omega) (by omega) (fun h389 => ?_) (fun h389 => ?_)
                    · skip
                      refine ad_iconst dX8_statement_403 ?_
                      have w404 := w382
                      refine ad_istore dX8_statement_404 (by decide) rfl (by dsimp only [ad_set]) ?_
                      refine ad_aload_n dX8_statement_406 rfl ?_
                      refine ad_bipush dX8_statement_407 rfl ?_
                      refine ad_bipush dX8_statement_409 rfl ?_
                      refine ad_cv2q rfl cl_X8_166 dX8_statement_411 (c_X8_tk9 w404 (by omega)) (by omega) (by show _ < 1; omega) (Nat.le_of_ble_eq_true rfl) (fun x411 s411 q411 => ?_)
                      obtain ⟨z411, rfl, b411, w411⟩ := q411
                      refine ad_pop dX8_statement_414 rfl ?_
                      refine ad_iload_n dX8_statement_415 rfl ?_
                      refine ad_bipush dX8_statement_416 rfl ?_
                      refine ad_icmp_ne 434 dX8_statement_418 (by decide) (by omega) (by omega) (fun h418 => ?_) (fun h418 => ?_)
                      · skip
                        refine ad_iload_n dX8_statement_434 rfl ?_
                        refine ad_bipush dX8_statement_435 rfl ?_
                        refine ad_icmp_gt 444 dX8_statement_437 (by decide) (by omega) (by omega) (fun h437 => ?_) (fun h437 => ?_)
                        · skip
                          refine ad_iconst dX8_statement_444 ?_
                          refine ad_istore dX8_statement_445 (by decide) rfl (by dsimp only [ad_set]) ?_
                          refine ad_iload_n dX8_statement_447 rfl ?_
                          refine ad_if_eq 471 dX8_statement_448 (by decide) (by omega) (fun h448 => ?_) (fun h448 => ?_)
                          · skip
                            refine ad_iload_n dX8_statement_471 rfl ?_
                            refine ad_if_eq 505 dX8_statement_472 (by decide) (by omega) (fun h472 => ?_) (fun h472 => ?_)
                            · skip
                              refine ad_iload dX8_statement_505 rfl ?_
                              exact ad_retn dX8_statement_507 rfl (rfl) ⟨_, rfl, w411.1, by
                                rw [w411.2.2.1.1.1, w411.2.2.1.1.2]; exact ad_fe_100 hp.1 h46⟩
                            · exfalso; omega
                          · exfalso; omega
                        · show ad_R _ _ _ _ 440 _ _ _
                          refine ad_iconst dX8_statement_440 ?_
                          refine ad_goto 445 dX8_statement_441 (by decide) ?_
                          refine ad_istore dX8_statement_445 (by decide) rfl (by dsimp only [ad_set]) ?_
                          refine ad_iload_n dX8_statement_447 rfl ?_
                          refine ad_if_eq 471 dX8_statement_448 (by decide) (by omega) (fun h448 => ?_) (fun h448 => ?_)
                          · skip
                            refine ad_iload_n dX8_statement_471 rfl ?_
                            refine ad_if_eq 505 dX8_statement_472 (by decide) (by omega) (fun h472 => ?_) (fun h472 => ?_)
                            · skip
                              refine ad_iload dX8_statement_505 rfl ?_
                              exact ad_retn dX8_statement_507 rfl (rfl) ⟨_, rfl, w411.1, by
                                rw [w411.2.2.1.1.1, w411.2.2.1.1.2]; exact ad_fe_100 hp.1 h46⟩
                            · exfalso; omega
                          · exfalso; omega
                      · exfalso; omega
                    · exfalso; omega
              · exfalso; omega
            · exfalso; omega
          · show ad_R _ _ _ _ 49 _ _ _
            refine ad_iload_n dX8_statement_49 rfl ?_
            refine ad_bipush dX8_statement_50 rfl ?_
            refine ad_icmp_eq 81 dX8_statement_52 (by decide) (by omega) (by omega) (fun h52 => ?_) (fun h52 => ?_)
            · skip
              refine ad_aload_n dX8_statement_81 rfl ?_
              refine ad_dup dX8_statement_82 rfl ?_
              refine gf_X8_157 rfl dX8_statement_83 ?_
              rw [hu.1]
              refine ad_iconst dX8_statement_86 ?_
              refine ad_iadd dX8_statement_87 ?_
              refine pf_X8_157 rfl dX8_statement_88 ?_
              have w0 := ad_rw_0 (σ := σ) ht hr hp hu.2
              refine ad_iload_n dX8_statement_91 rfl ?_
              refine ad_bipush dX8_statement_92 rfl ?_
              refine ad_icmp_ne 283 dX8_statement_94 (by decide) (by omega) (by omega) (fun h94 => ?_) (fun h94 => ?_)
              · skip
                refine ad_iload_n dX8_statement_283 rfl ?_
                refine ad_bipush dX8_statement_284 rfl ?_
                refine ad_icmp_ne 365 dX8_statement_286 (by decide) (by omega) (by omega) (fun h286 => ?_) (fun h286 => ?_)
                · skip
                  refine ad_iload_n dX8_statement_365 rfl ?_
                  refine ad_bipush dX8_statement_366 rfl ?_
                  refine ad_icmp_eq 377 dX8_statement_368 (by decide) (by omega) (by omega) (fun h368 => ?_) (fun h368 => ?_)
                  · exfalso; omega
                  · show ad_R _ _ _ _ 371 _ _ _
                    refine ad_iload_n dX8_statement_371 rfl ?_
                    refine ad_bipush dX8_statement_372 rfl ?_
                    refine ad_icmp_ne 508 dX8_statement_374 (by decide) (by omega) (by omega) (fun h374 => ?_) (fun h374 => ?_)
                    · skip
                      refine ad_iload_n dX8_statement_508 rfl ?_
                      refine ad_bipush dX8_statement_509 rfl ?_
                      refine ad_icmp_ne 644 dX8_statement_511 (by decide) (by omega) (by omega) (fun h511 => ?_) (fun h511 => ?_)
                      · skip
                        refine ad_aload_n dX8_statement_644 rfl ?_
                        refine ad_bipush dX8_statement_645 rfl ?_
                        refine ad_bipush dX8_statement_647 rfl ?_
                        refine ad_cv2q rfl cl_X8_166 dX8_statement_649 (c_X8_tk9 w0 (by omega)) (by omega) (by show _ < 1; omega) (Nat.le_of_ble_eq_true rfl) (fun x649 s649 q649 => ?_)
                        obtain ⟨z649, rfl, b649, w649⟩ := q649
                        refine ad_pop dX8_statement_652 rfl ?_
                        refine ad_iload_n dX8_statement_653 rfl ?_
                        refine ad_if_eq 668 dX8_statement_654 (by decide) (by omega) (fun h654 => ?_) (fun h654 => ?_)
                        · skip
                          refine ad_iload_n dX8_statement_668 rfl ?_
                          refine ad_if_eq 683 dX8_statement_669 (by decide) (by omega) (fun h669 => ?_) (fun h669 => ?_)
                          · skip
                            refine ad_iconst dX8_statement_683 ?_
                            exact ad_retn dX8_statement_684 rfl (rfl) ⟨_, rfl, w649.1, by
                              rw [w649.2.2.1.1.1, w649.2.2.1.1.2]; exact ad_fe_4 hp.1 (Or.inl h52)⟩
                          · exfalso; omega
                        · exfalso; omega
                      · exfalso; omega
                    · exfalso; omega
                · exfalso; omega
              · exfalso; omega
            · show ad_R _ _ _ _ 55 _ _ _
              refine ad_iload_n dX8_statement_55 rfl ?_
              refine ad_bipush dX8_statement_56 rfl ?_
              refine ad_icmp_eq 81 dX8_statement_58 (by decide) (by omega) (by omega) (fun h58 => ?_) (fun h58 => ?_)
              · skip
                refine ad_aload_n dX8_statement_81 rfl ?_
                refine ad_dup dX8_statement_82 rfl ?_
                refine gf_X8_157 rfl dX8_statement_83 ?_
                rw [hu.1]
                refine ad_iconst dX8_statement_86 ?_
                refine ad_iadd dX8_statement_87 ?_
                refine pf_X8_157 rfl dX8_statement_88 ?_
                have w0 := ad_rw_0 (σ := σ) ht hr hp hu.2
                refine ad_iload_n dX8_statement_91 rfl ?_
                refine ad_bipush dX8_statement_92 rfl ?_
                refine ad_icmp_ne 283 dX8_statement_94 (by decide) (by omega) (by omega) (fun h94 => ?_) (fun h94 => ?_)
                · skip
                  refine ad_iload_n dX8_statement_283 rfl ?_
                  refine ad_bipush dX8_statement_284 rfl ?_
                  refine ad_icmp_ne 365 dX8_statement_286 (by decide) (by omega) (by omega) (fun h286 => ?_) (fun h286 => ?_)
                  · skip
                    refine ad_iload_n dX8_statement_365 rfl ?_
                    refine ad_bipush dX8_statement_366 rfl ?_
                    refine ad_icmp_eq 377 dX8_statement_368 (by decide) (by omega) (by omega) (fun h368 => ?_) (fun h368 => ?_)
                    · exfalso; omega
                    · show ad_R _ _ _ _ 371 _ _ _
                      refine ad_iload_n dX8_statement_371 rfl ?_
                      refine ad_bipush dX8_statement_372 rfl ?_
                      refine ad_icmp_ne 508 dX8_statement_374 (by decide) (by omega) (by omega) (fun h374 => ?_) (fun h374 => ?_)
                      · skip
                        refine ad_iload_n dX8_statement_508 rfl ?_
                        refine ad_bipush dX8_statement_509 rfl ?_
                        refine ad_icmp_ne 644 dX8_statement_511 (by decide) (by omega) (by omega) (fun h511 => ?_) (fun h511 => ?_)
                        · skip
                          refine ad_aload_n dX8_statement_644 rfl ?_
                          refine ad_bipush dX8_statement_645 rfl ?_
                          refine ad_bipush dX8_statement_647 rfl ?_
                          refine ad_cv2q rfl cl_X8_166 dX8_statement_649 (c_X8_tk9 w0 (by omega)) (by omega) (by show _ < 1; omega) (Nat.le_of_ble_eq_true rfl) (fun x649 s649 q649 => ?_)
                          obtain ⟨z649, rfl, b649, w649⟩ := q649
                          refine ad_pop dX8_statement_652 rfl ?_
                          refine ad_iload_n dX8_statement_653 rfl ?_
                          refine ad_if_eq 668 dX8_statement_654 (by decide) (by omega) (fun h654 => ?_) (fun h654 => ?_)
                          · skip
                            refine ad_iload_n dX8_statement_668 rfl ?_
                            refine ad_if_eq 683 dX8_statement_669 (by decide) (by omega) (fun h669 => ?_) (fun h669 => ?_)
                            · skip
                              refine ad_iconst dX8_statement_683 ?_
                              exact ad_retn dX8_statement_684 rfl (rfl) ⟨_, rfl, w649.1, by
                                rw [w649.2.2.1.1.1, w649.2.2.1.1.2]; exact ad_fe_4 hp.1 (Or.inr h58)⟩
                            · exfalso; omega
                          · exfalso; omega
                        · exfalso; omega
                      · exfalso; omega
                  · exfalso; omega
                · exfalso; omega
              · show ad_R _ _ _ _ 61 _ _ _
                refine ad_iload_n dX8_statement_61 rfl ?_
                refine ad_bipush dX8_statement_62 rfl ?_
                refine ad_icmp_eq 81 dX8_statement_64 (by decide) (by omega) (by omega) (fun h64 => ?_) (fun h64 => ?_)
                · skip
                  refine ad_aload_n dX8_statement_81 rfl ?_
                  refine ad_dup dX8_statement_82 rfl ?_
                  refine gf_X8_157 rfl dX8_statement_83 ?_
                  rw [hu.1]
                  refine ad_iconst dX8_statement_86 ?_
                  refine ad_iadd dX8_statement_87 ?_
                  refine pf_X8_157 rfl dX8_statement_88 ?_
                  have w0 := ad_rw_0 (σ := σ) ht hr hp hu.2
                  refine ad_iload_n dX8_statement_91 rfl ?_
                  refine ad_bipush dX8_statement_92 rfl ?_
                  refine ad_icmp_ne 283 dX8_statement_94 (by decide) (by omega) (by omega) (fun h94 => ?_) (fun h94 => ?_)
                  · skip
                    refine ad_iload_n dX8_statement_283 rfl ?_
                    refine ad_bipush dX8_statement_284 rfl ?_
                    refine ad_icmp_ne 365 dX8_statement_286 (by decide) (by omega) (by omega) (fun h286 => ?_) (fun h286 => ?_)
                    · skip
                      refine ad_iload_n dX8_statement_365 rfl ?_
                      refine ad_bipush dX8_statement_366 rfl ?_
                      refine ad_icmp_eq 377 dX8_statement_368 (by decide) (by omega) (by omega) (fun h368 => ?_) (fun h368 => ?_)
                      · exfalso; omega
                      · show ad_R _ _ _ _ 371 _ _ _
                        refine ad_iload_n dX8_statement_371 rfl ?_
                        refine ad_bipush dX8_statement_372 rfl ?_
                        refine ad_icmp_ne 508 dX8_statement_374 (by decide) (by omega) (by omega) (fun h374 => ?_) (fun h374 => ?_)
                        · skip
                          refine ad_iload_n dX8_statement_508 rfl ?_
                          refine ad_bipush dX8_statement_509 rfl ?_
                          refine ad_icmp_ne 644 dX8_statement_511 (by decide) (by omega) (by omega) (fun h511 => ?_) (fun h511 => ?_)
                          · exfalso; omega
                          · show ad_R _ _ _ _ 514 _ _ _
                            refine ad_aload_n dX8_statement_514 rfl ?_
                            refine ad_bipush dX8_statement_515 rfl ?_
                            refine ad_bipush dX8_statement_517 rfl ?_
                            refine ad_cv2q rfl cl_X8_166 dX8_statement_519 (c_X8_tkD w0 (by omega)) (by omega) (by show _ < 1; omega) (Nat.le_of_ble_eq_true rfl) (fun x519 s519 q519 => ?_)
                            obtain ⟨va, rfl, b519, e519, w519⟩ := q519
                            refine ad_istore_n dX8_statement_522 (by decide) rfl (by dsimp only [ad_set]) ?_
                            refine ad_bipush dX8_statement_523 rfl ?_
                            refine ad_aload_n dX8_statement_525 rfl ?_
                            refine ad_bipush dX8_statement_526 rfl ?_
                            refine ad_bipush dX8_statement_528 rfl ?_
                            refine ad_cv2q rfl cl_X8_166 dX8_statement_530 (c_X8_tkD w519 (by omega)) (by omega) (by show _ < 1; omega) (Nat.le_of_ble_eq_true rfl) (fun x530 s530 q530 => ?_)
                            obtain ⟨vb, rfl, b530, e530, w530⟩ := q530
                            refine ad_imul dX8_statement_533 ?_
                            refine ad_istore dX8_statement_534 (by decide) rfl (by dsimp only [ad_set]) ?_
                            refine ad_iload dX8_statement_536 rfl ?_
                            refine ad_aload_n dX8_statement_538 rfl ?_
                            refine ad_bipush dX8_statement_539 rfl ?_
                            refine ad_bipush dX8_statement_541 rfl ?_
                            refine ad_cv2q rfl cl_X8_166 dX8_statement_543 (c_X8_tkD w530 (by omega)) (by omega) (by show _ < 1; omega) (Nat.le_of_ble_eq_true rfl) (fun x543 s543 q543 => ?_)
                            obtain ⟨vc, rfl, b543, e543, w543⟩ := q543
                            refine ad_iadd dX8_statement_546 ?_
                            refine ad_istore dX8_statement_547 (by decide) rfl (by dsimp only [ad_set]) ?_
                            refine ad_aload_n dX8_statement_549 rfl ?_
                            refine ad_bipush dX8_statement_550 rfl ?_
                            refine ad_bipush dX8_statement_552 rfl ?_
                            refine ad_cv2q rfl cl_X8_166 dX8_statement_554 (c_X8_tkL w543 (by omega)) (by omega) (by show _ < 1; omega) (Nat.le_of_ble_eq_true rfl) (fun x554 s554 q554 => ?_)
                            obtain ⟨vx, rfl, b554, e554, w554⟩ := q554
                            refine ad_istore dX8_statement_557 (by decide) rfl (by dsimp only [ad_set]) ?_
                            refine ad_aload_n dX8_statement_559 rfl ?_
                            refine ad_bipush dX8_statement_560 rfl ?_
                            refine ad_bipush dX8_statement_562 rfl ?_
                            refine ad_cv2q rfl cl_X8_166 dX8_statement_564 (c_X8_tk9 w554 (by omega)) (by omega) (by show _ < 1; omega) (Nat.le_of_ble_eq_true rfl) (fun x564 s564 q564 => ?_)
                            obtain ⟨z564, rfl, b564, w564⟩ := q564
                            refine ad_pop dX8_statement_567 rfl ?_
                            refine ad_aload_n dX8_statement_568 rfl ?_
                            refine ad_iload_n dX8_statement_569 rfl ?_
                            refine ad_cv1f rfl cl_X8_59 dX8_statement_570 (c_X8_isThere w564.2.2.2 (by omega) (by omega)) (by omega) (by show _ < 1; omega) (Nat.le_of_ble_eq_true rfl) ?_
                            refine ad_ifp_eq 612 dX8_statement_573 (by decide) (fun h573 => ?_) (fun h573 => ?_)
                            · skip
                              refine ad_iconst dX8_statement_612 ?_
                              refine ad_istore dX8_statement_613 (by decide) rfl (by dsimp only [ad_set]) ?_
                              refine ad_iload_n dX8_statement_615 rfl ?_
                              refine ad_if_eq 641 dX8_statement_616 (by decide) (by omega) (fun h616 => ?_) (fun h616 => ?_)
                              · skip
                                refine ad_iload dX8_statement_641 rfl ?_
                                exact ad_retn dX8_statement_643 rfl (rfl) ⟨_, rfl, w564.1, by
                                  rw [w564.2.2.1.1.1, w564.2.2.1.1.2]; exact ad_fe_120 hp.1 h64⟩
                              · exfalso; omega
                            · show ad_R _ _ _ _ 576 _ _ _
                              refine ad_aload_n dX8_statement_576 rfl ?_
                              have hg := w564.2.2.2.2.2.2.2.2
                              refine gf_X8_9 rfl dX8_statement_577 ?_
                              refine ad_bipush dX8_statement_580 rfl ?_
                              refine ad_iload_n dX8_statement_582 rfl ?_
                              refine ad_imul dX8_statement_583 ?_
                              refine ad_iconst dX8_statement_584 ?_
                              refine ad_iadd dX8_statement_585 ?_
                              refine ad_ialj (50 * va.toNat + 4) dX8_statement_586 (by decide) ⟨by decide, by decide⟩ (by omega) (by show _ < 520; omega) rfl ?_
                              refine ad_bipush dX8_statement_587 rfl ?_
                              refine ad_icmp_ne 612 dX8_statement_589 (by decide) (hg _ (by omega)) (by decide) (fun h589 => ?_) (fun h589 => ?_)
                              · skip
                                refine ad_iconst dX8_statement_612 ?_
                                refine ad_istore dX8_statement_613 (by decide) rfl (by dsimp only [ad_set]) ?_
                                refine ad_iload_n dX8_statement_615 rfl ?_
                                refine ad_if_eq 641 dX8_statement_616 (by decide) (by omega) (fun h616 => ?_) (fun h616 => ?_)
                                · skip
                                  refine ad_iload dX8_statement_641 rfl ?_
                                  exact ad_retn dX8_statement_643 rfl (rfl) ⟨_, rfl, w564.1, by
                                    rw [w564.2.2.1.1.1, w564.2.2.1.1.2]; exact ad_fe_120 hp.1 h64⟩
                                · exfalso; omega
                              · show ad_R _ _ _ _ 592 _ _ _
                                refine ad_iload dX8_statement_592 rfl ?_
                                refine ad_aload_n dX8_statement_594 rfl ?_
                                refine gf_X8_9 rfl dX8_statement_595 ?_
                                refine ad_bipush dX8_statement_598 rfl ?_
                                refine ad_iload_n dX8_statement_600 rfl ?_
                                refine ad_imul dX8_statement_601 ?_
                                refine ad_iconst dX8_statement_602 ?_
                                refine ad_iadd dX8_statement_603 ?_
                                refine ad_ialj (50 * va.toNat + 5) dX8_statement_604 (by decide) ⟨by decide, by decide⟩ (by omega) (by show _ < 520; omega) rfl ?_
                                refine ad_icmp_ge 612 dX8_statement_605 (by decide) (by constructor <;> omega) (hg _ (by omega)) (fun h605 => ?_) (fun h605 => ?_)
                                · skip
                                  refine ad_iconst dX8_statement_612 ?_
                                  refine ad_istore dX8_statement_613 (by decide) rfl (by dsimp only [ad_set]) ?_
                                  refine ad_iload_n dX8_statement_615 rfl ?_
                                  refine ad_if_eq 641 dX8_statement_616 (by decide) (by omega) (fun h616 => ?_) (fun h616 => ?_)
                                  · skip
                                    refine ad_iload dX8_statement_641 rfl ?_
                                    exact ad_retn dX8_statement_643 rfl (rfl) ⟨_, rfl, w564.1, by
                                      rw [w564.2.2.1.1.1, w564.2.2.1.1.2]; exact ad_fe_120 hp.1 h64⟩
                                  · exfalso; omega
                                · show ad_R _ _ _ _ 608 _ _ _
                                  refine ad_iconst dX8_statement_608 ?_
                                  refine ad_goto 613 dX8_statement_609 (by decide) ?_
                                  refine ad_istore dX8_statement_613 (by decide) rfl (by dsimp only [ad_set]) ?_
                                  refine ad_iload_n dX8_statement_615 rfl ?_
                                  refine ad_if_eq 641 dX8_statement_616 (by decide) (by omega) (fun h616 => ?_) (fun h616 => ?_)
                                  · skip
                                    refine ad_iload dX8_statement_641 rfl ?_
                                    exact ad_retn dX8_statement_643 rfl (rfl) ⟨_, rfl, w564.1, by
                                      rw [w564.2.2.1.1.1, w564.2.2.1.1.2]; exact ad_fe_120 hp.1 h64⟩
                                  · exfalso; omega
                        · exfalso; omega
                    · exfalso; omega
                  · exfalso; omega
                · show ad_R _ _ _ _ 67 _ _ _
                  refine ad_aload_n dX8_statement_67 rfl ?_
                  refine ad_sipush dX8_statement_68 rfl ?_
                  refine ad_aload_n dX8_statement_71 rfl ?_
                  refine gf_X8_157 rfl dX8_statement_72 ?_
                  rw [hu.1]
                  refine ad_isub dX8_statement_75 ?_
                  refine pf_X8_160 rfl dX8_statement_76 ?_
                  refine ad_iconst dX8_statement_79 ?_
                  exact ad_ret0 dX8_statement_80 rfl (by
                    refine ⟨_, rfl, ad_f8.sj (by decide), ?_⟩
                    rw [ad_st_r1, ad_u1_eq]
                    exact ad_fe_6 (by
                      exact ad_fx_6 (by omega)) hp.1)
