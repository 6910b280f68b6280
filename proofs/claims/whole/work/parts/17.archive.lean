/-! ===== an archive as a mathematical value ===== -/
/-- came, there, letters (restored), first parent, second parent, hash, base, steps, heads, kind, figure, bound; -1: none -/
abbrev ad_Ar : Type := Nat × (Nat → Bool) × (Nat → List Int) × (Nat → Int) × (Nat → Int) × (Nat → Int) × (Nat → Int) × (Nat → List (Int × Int)) × (Nat → Int) × Int × Int × Int
def ad_mk (c : Nat) (h : Nat → Bool) (l : Nat → List Int) (p q g b : Nat → Int) (t : Nat → List (Int × Int)) (e : Nat → Int) (k f n : Int) : ad_Ar := (c, h, l, p, q, g, b, t, e, k, f, n)
def ad_aC (A : ad_Ar) : Nat := A.1
def ad_aH (A : ad_Ar) : Nat → Bool := A.2.1
def ad_aL (A : ad_Ar) : Nat → List Int := A.2.2.1
def ad_aP (A : ad_Ar) : Nat → Int := A.2.2.2.1
def ad_aQ (A : ad_Ar) : Nat → Int := A.2.2.2.2.1
def ad_aG (A : ad_Ar) : Nat → Int := A.2.2.2.2.2.1
def ad_aB (A : ad_Ar) : Nat → Int := A.2.2.2.2.2.2.1
def ad_aT (A : ad_Ar) : Nat → List (Int × Int) := A.2.2.2.2.2.2.2.1
def ad_aE (A : ad_Ar) : Nat → Int := A.2.2.2.2.2.2.2.2.1
def ad_aK (A : ad_Ar) : Int := A.2.2.2.2.2.2.2.2.2.1
def ad_aF (A : ad_Ar) : Int := A.2.2.2.2.2.2.2.2.2.2.1
def ad_aN (A : ad_Ar) : Int := A.2.2.2.2.2.2.2.2.2.2.2
section admk
variable (c : Nat) (h : Nat → Bool) (l : Nat → List Int) (p q g b : Nat → Int) (t : Nat → List (Int × Int)) (e : Nat → Int) (k f n : Int)
theorem ad_mkC : ad_aC (ad_mk c h l p q g b t e k f n) = c := rfl
theorem ad_mkH : ad_aH (ad_mk c h l p q g b t e k f n) = h := rfl
theorem ad_mkL : ad_aL (ad_mk c h l p q g b t e k f n) = l := rfl
theorem ad_mkP : ad_aP (ad_mk c h l p q g b t e k f n) = p := rfl
theorem ad_mkQ : ad_aQ (ad_mk c h l p q g b t e k f n) = q := rfl
theorem ad_mkG : ad_aG (ad_mk c h l p q g b t e k f n) = g := rfl
theorem ad_mkB : ad_aB (ad_mk c h l p q g b t e k f n) = b := rfl
theorem ad_mkT : ad_aT (ad_mk c h l p q g b t e k f n) = t := rfl
theorem ad_mkE : ad_aE (ad_mk c h l p q g b t e k f n) = e := rfl
theorem ad_mkK : ad_aK (ad_mk c h l p q g b t e k f n) = k := rfl
theorem ad_mkF : ad_aF (ad_mk c h l p q g b t e k f n) = f := rfl
theorem ad_mkN : ad_aN (ad_mk c h l p q g b t e k f n) = n := rfl
end admk
/-- a set of the first n numbers as bits -/
def ad_bN (p : Nat → Bool) : Nat → Nat
  | 0 => 0
  | n + 1 => ad_bN p n + if p n = true then 2 ^ n else 0
def ad_bits (p : Nat → Bool) : Nat := ad_bN p 10
theorem ad_bN_lt (p : Nat → Bool) : ∀ n, ad_bN p n < 2 ^ n
  | 0 => by simp [ad_bN]
  | n + 1 => by
    have := ad_bN_lt p n
    rw [ad_bN, Nat.pow_succ]
    split <;> omega
theorem ad_bN_tb (p : Nat → Bool) : ∀ n i, (ad_bN p n).testBit i = (decide (i < n) && p i)
  | 0, i => by simp [ad_bN]
  | n + 1, i => by
    have h1 := ad_bN_lt p n
    have ih := ad_bN_tb p n
    rw [ad_bN]
    by_cases hp : p n = true
    · have e := Nat.two_pow_add_eq_or_of_lt h1 1
      rw [Nat.mul_one] at e
      rw [if_pos hp, Nat.add_comm, e]
      rw [Nat.testBit_or, ih, Nat.testBit_two_pow]
      by_cases hi : i = n
      · subst hi; simp [hp]
      · have : (decide (n = i)) = false := by simp; omega
        rw [this]
        by_cases h2 : i < n
        · simp [h2, show i < n + 1 by omega]
        · simp [h2, show ¬ i < n + 1 by omega]
    · rw [if_neg hp, Nat.add_zero, ih]
      by_cases hi : i = n
      · subst hi; simp [hp]
      · by_cases h2 : i < n
        · simp [h2, show i < n + 1 by omega]
        · simp [h2, show ¬ i < n + 1 by omega]
theorem ad_bits_lt (p : Nat → Bool) : ad_bits p < 1024 := ad_bN_lt p 10
theorem ad_bits_tb (p : Nat → Bool) (i : Nat) : (ad_bits p).testBit i = (decide (i < 10) && p i) := ad_bN_tb p 10 i
theorem ad_bits_ext {x : Nat} {p : Nat → Bool} (h : ∀ i, x.testBit i = (decide (i < 10) && p i)) : x = ad_bits p := Nat.eq_of_testBit_eq (fun i => by rw [h, ad_bits_tb])
theorem ad_bits_congr {p q : Nat → Bool} (h : ∀ i, i < 10 → p i = q i) : ad_bits p = ad_bits q := ad_bits_ext (fun i => by
  rw [ad_bits_tb]
  by_cases hi : i < 10
  · rw [h i hi]
  · simp [hi])
theorem ad_bits_tbI (p : Nat → Bool) {v : Int} (h0 : 0 ≤ v) : ad_tb (ad_bits p : Nat) v ↔ v < 10 ∧ p v.toNat = true := by
  show (((ad_bits p : Nat) : Int).toNat).testBit v.toNat = true ↔ _
  rw [Int.toNat_natCast, ad_bits_tb]
  simp
/-- what is reached from a version by its parents (fuel) -/
def ad_rc (P Q : Nat → Int) : Nat → Nat → Nat → Bool
  | 0, _, _ => false
  | n + 1, v, w => decide (w = v) || (decide (0 ≤ P v) && ad_rc P Q n (P v).toNat w) || (decide (0 ≤ Q v) && ad_rc P Q n (Q v).toNat w)
def ad_pw (P Q : Nat → Int) : Prop := ∀ v, -1 ≤ P v ∧ P v < v ∧ -1 ≤ Q v ∧ Q v < v
theorem ad_rc_fuel {P Q : Nat → Int} (h : ad_pw P Q) : ∀ (n m v : Nat), v < n → v < m → ad_rc P Q n v = ad_rc P Q m v := by
  intro n
  induction n with
  | zero => intro m v h1; omega
  | succ n ih =>
    intro m v h1 h2
    cases m with
    | zero => omega
    | succ m =>
      funext w
      unfold ad_rc
      have hv := h v
      congr 1
      · congr 1
        by_cases hp : 0 ≤ P v
        · rw [ih m (P v).toNat (by omega) (by omega)]
        · simp [hp]
      · by_cases hp : 0 ≤ Q v
        · rw [ih m (Q v).toNat (by omega) (by omega)]
        · simp [hp]
def ad_reach (P Q : Nat → Int) (v w : Nat) : Bool := ad_rc P Q (v + 1) v w
theorem ad_reach_eq {P Q : Nat → Int} (h : ad_pw P Q) (v w : Nat) : ad_reach P Q v w = (decide (w = v) || (decide (0 ≤ P v) && ad_reach P Q (P v).toNat w) || (decide (0 ≤ Q v) && ad_reach P Q (Q v).toNat w)) := by
  have hv := h v
  show ad_rc P Q (v + 1) v w = _
  rw [ad_rc]
  congr 1
  · congr 1
    by_cases hp : 0 ≤ P v
    · rw [ad_rc_fuel h v ((P v).toNat + 1) (P v).toNat (by omega) (by omega)]; rfl
    · simp [hp]
  · by_cases hp : 0 ≤ Q v
    · rw [ad_rc_fuel h v ((Q v).toNat + 1) (Q v).toNat (by omega) (by omega)]; rfl
    · simp [hp]
/-- the chain of bases (fuel) -/
def ad_ch (H : Nat → Bool) (B : Nat → Int) : Nat → Int → List Nat
  | 0, _ => []
  | n + 1, v => if 0 ≤ v ∧ H v.toNat = true then v.toNat :: ad_ch H B n (B v.toNat) else []
/-- an archive that can be -/
def ad_wA (A : ad_Ar) : Prop :=
  ad_aC A ≤ 10 ∧ (∀ v, ad_aH A v = true → v < ad_aC A) ∧
  (∀ v, ad_aH A v = true → (1 ≤ (ad_aL A v).length ∧ (ad_aL A v).length ≤ 12 ∧ ∀ x ∈ ad_aL A v, 0 ≤ x ∧ x ≤ 7) ∧ (0 ≤ ad_aG A v ∧ ad_aG A v < 9973)) ∧
  ad_pw (ad_aP A) (ad_aQ A) ∧
  (∀ v, ad_aH A v = true → -1 ≤ ad_aB A v ∧ (ad_aB A v ≠ -1 → ad_aB A v < 10 ∧ ad_aH A (ad_aB A v).toNat = true ∧ ad_aL A v = ad_spell (ad_aL A (ad_aB A v).toNat) (ad_aT A v) ∧ ad_good (ad_aL A (ad_aB A v).toNat) (ad_aT A v))) ∧
  (∃ dep : Nat → Nat, ∀ v, ad_aH A v = true → dep v ≤ 8 ∧ (ad_aB A v = -1 → dep v = 0) ∧ (ad_aB A v ≠ -1 → dep v = dep (ad_aB A v).toNat + 1)) ∧
  (∀ h, h < 4 → -1 ≤ ad_aE A h ∧ (ad_aE A h ≠ -1 → ad_aE A h < 10 ∧ ad_aH A (ad_aE A h).toNat = true)) ∧
  ((0 ≤ ad_aK A ∧ ad_aK A ≤ 5) ∧ (0 ≤ ad_aF A ∧ ad_aF A ≤ 9) ∧ (0 ≤ ad_aN A ∧ ad_aN A ≤ 8)) ∧
  ((∀ v, ad_aH A v = false → ad_aL A v = [] ∧ ad_aG A v = 0 ∧ ad_aB A v = -1) ∧ (∀ v, ad_aC A ≤ v → ad_aP A v = -1 ∧ ad_aQ A v = -1) ∧ (∀ v, ad_aB A v = -1 → ad_aT A v = []) ∧ (∀ h, 4 ≤ h → ad_aE A h = -1))
/-- the class's store s holds the archive A -/
def ad_rC (σ : ad_Mem) (s : Nat) (A : ad_Ar) : Prop :=
  σ 4 s 3 = (ad_aC A : Int) ∧ σ 4 s 4 = (ad_bits (ad_aH A) : Int) ∧ (σ 4 s 5 = ad_aK A ∧ σ 4 s 6 = ad_aF A ∧ σ 4 s 7 = ad_aN A) ∧ (∀ h, h < 4 → σ 19 s h = ad_aE A h) ∧
  (∀ v, v < 10 → ad_nw σ (10 * s + v) ∧ ad_dw σ (10 * s + v)) ∧
  (∀ v, ad_aH A v = true → ad_nl σ (10 * s + v) = ad_aL A v ∧ σ 6 (10 * s + v) 5 = ad_aG A v ∧ σ 6 (10 * s + v) 6 = ad_aB A v ∧ (ad_aB A v ≠ -1 → ad_ds σ (10 * s + v) = ad_aT A v)) ∧
  (∀ v, v < ad_aC A → σ 6 (10 * s + v) 2 = ad_aP A v ∧ σ 6 (10 * s + v) 3 = ad_aQ A v ∧ σ 6 (10 * s + v) 4 = (ad_bits (ad_reach (ad_aP A) (ad_aQ A) v) : Int)) ∧
  ad_nw σ (30 + s)
/-- the rows of the store s -/
def ad_Ts (s : Nat) (k i : Nat) : Prop := (k = 4 ∧ i = s) ∨ (k = 19 ∧ i = s) ∨ ((k = 2 ∨ k = 12) ∧ i = 30 + s) ∨ ((k = 0 ∨ k = 2 ∨ k = 6 ∨ k = 10 ∨ k = 11 ∨ k = 12) ∧ 10 * s ≤ i ∧ i < 10 * s + 10)
theorem ad_rC_congr {σ σ' : ad_Mem} {s : Nat} {A : ad_Ar} (hw : ad_wA A) (h : ∀ k i, ad_Ts s k i → σ' k i = σ k i) (hr : ad_rC σ s A) : ad_rC σ' s A := by
  obtain ⟨h1, h2, h3, h4, h5, h6, h7, h8⟩ := hr
  have e4 := h 4 s (Or.inl ⟨rfl, rfl⟩)
  have e19 := h 19 s (Or.inr (Or.inl ⟨rfl, rfl⟩))
  have ev : ∀ k v, (k = 0 ∨ k = 2 ∨ k = 6 ∨ k = 10 ∨ k = 11 ∨ k = 12) → v < 10 → σ' k (10 * s + v) = σ k (10 * s + v) := fun k v hk hv => h k _ (Or.inr (Or.inr (Or.inr ⟨hk, by omega, by omega⟩)))
  have hc := hw.1
  have hH := hw.2.1
  refine ⟨by rw [e4]; exact h1, by rw [e4]; exact h2, by rw [e4]; exact h3, fun q hq => by rw [e19]; exact h4 q hq, fun v hv => ⟨ad_nw_congr (ev 2 v (by simp) hv) (ev 12 v (by simp) hv) (h5 v hv).1, ad_dw_congr (ev 0 v (by simp) hv) (ev 10 v (by simp) hv) (ev 11 v (by simp) hv) (h5 v hv).2⟩, fun v hv => ?_, fun v hv => ?_, ad_nw_congr (h 2 (30 + s) (Or.inr (Or.inr (Or.inl ⟨Or.inl rfl, rfl⟩)))) (h 12 (30 + s) (Or.inr (Or.inr (Or.inl ⟨Or.inr rfl, rfl⟩)))) h8⟩
  · have hv10 : v < 10 := by have := hH v hv; omega
    obtain ⟨g1, g2, g3, g4⟩ := h6 v hv
    rw [ad_nl_congr (ev 2 v (by simp) hv10) (ev 12 v (by simp) hv10), ad_ds_congr (ev 0 v (by simp) hv10) (ev 10 v (by simp) hv10) (ev 11 v (by simp) hv10), ev 6 v (by simp) hv10]
    exact ⟨g1, g2, g3, g4⟩
  · rw [ev 6 v (by simp) (by omega)]
    exact h7 v hv
/-- the part of it that bases and depths rest on -/
def ad_wS (A : ad_Ar) : Prop := ad_aC A ≤ 10 ∧ (∀ v, ad_aH A v = true → v < ad_aC A) ∧ (∀ v, ad_aH A v = true → -1 ≤ ad_aB A v ∧ (ad_aB A v ≠ -1 → ad_aB A v < 10 ∧ ad_aH A (ad_aB A v).toNat = true)) ∧
  (∃ dep : Nat → Nat, ∀ v, ad_aH A v = true → dep v ≤ 8 ∧ (ad_aB A v = -1 → dep v = 0) ∧ (ad_aB A v ≠ -1 → dep v = dep (ad_aB A v).toNat + 1))
def ad_rS (σ : ad_Mem) (s : Nat) (A : ad_Ar) : Prop := σ 4 s 3 = (ad_aC A : Int) ∧ σ 4 s 4 = (ad_bits (ad_aH A) : Int) ∧ ∀ v, ad_aH A v = true → σ 6 (10 * s + v) 6 = ad_aB A v
theorem ad_wA.S {A : ad_Ar} (hw : ad_wA A) : ad_wS A := ⟨hw.1, hw.2.1, fun v hv => ⟨(hw.2.2.2.2.1 v hv).1, fun hb => ⟨((hw.2.2.2.2.1 v hv).2 hb).1, ((hw.2.2.2.2.1 v hv).2 hb).2.1⟩⟩, hw.2.2.2.2.2.1⟩
theorem ad_rC.S {σ : ad_Mem} {s : Nat} {A : ad_Ar} (hr : ad_rC σ s A) : ad_rS σ s A := ⟨hr.1, hr.2.1, fun v hv => (hr.2.2.2.2.2.1 v hv).2.2.1⟩
