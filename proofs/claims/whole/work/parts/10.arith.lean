/-! ===== numbers: quotients and bits of the machine, on whole numbers ===== -/
theorem ad_iN (n : Nat) : Int32.ofInt (n : Int) = nI n := Int32.ofInt_eq_ofNat
theorem ad_rem_h {a b : Int} (h0 : 0 ≤ a) (h1 : a ≤ 2147483647) (h2 : 0 < b) (h3 : b ≤ 2147483647) : ad_rem a b = a % b := by
  unfold ad_rem
  rw [rem_toInt, ad_toInt ⟨by omega, h1⟩, ad_toInt ⟨by omega, h3⟩, Int.tmod_eq_emod_of_nonneg h0]
theorem ad_div_h {a b : Int} (h0 : 0 ≤ a) (h1 : a ≤ 2147483647) (h2 : 0 < b) (h3 : b ≤ 2147483647) : ad_div a b = a / b := by
  obtain ⟨n, rfl⟩ := Int.eq_ofNat_of_zero_le h0
  obtain ⟨k, rfl⟩ := Int.eq_ofNat_of_zero_le (by omega : 0 ≤ b)
  unfold ad_div
  rw [ad_iN, ad_iN, pk_div (by omega) (by omega) (by omega), nI_toInt (Nat.lt_of_le_of_lt (Nat.div_le_self _ _) (by omega))]
  exact Int.natCast_ediv n k
theorem ad_and_n {a b : Nat} (ha : a < 2 ^ 31) : ad_and a b = ((a &&& b : Nat) : Int) := by
  unfold ad_and
  have e : nI a &&& nI b = nI (a &&& b) := by
    rw [← Int32.toBitVec_inj]
    show BitVec.ofNat 32 a &&& BitVec.ofNat 32 b = BitVec.ofNat 32 (a &&& b)
    exact BitVec.ofNat_and.symm
  rw [ad_iN, ad_iN, e, nI_toInt (Nat.lt_of_le_of_lt Nat.and_le_left ha)]
theorem ad_or_n {a b : Nat} (ha : a < 2 ^ 31) (hb : b < 2 ^ 31) : ad_or a b = ((a ||| b : Nat) : Int) := by
  unfold ad_or
  have e : nI a ||| nI b = nI (a ||| b) := by
    rw [← Int32.toBitVec_inj]
    show BitVec.ofNat 32 a ||| BitVec.ofNat 32 b = BitVec.ofNat 32 (a ||| b)
    exact BitVec.ofNat_or.symm
  rw [ad_iN, ad_iN, e, nI_toInt (Nat.or_lt_two_pow ha hb)]
theorem ad_shl_n {k : Nat} (hk : k < 31) : ad_shl 1 k = ((2 ^ k : Nat) : Int) := by
  have h : ∀ k, k < 31 → ad_shl 1 (k : Nat) = ((2 ^ k : Nat) : Int) := by decide +kernel
  exact h k hk
theorem ad_shr_n {a k : Nat} (ha : a < 2 ^ 31) (hk : k < 32) : ad_shr a k = ((a >>> k : Nat) : Int) := by
  unfold ad_shr
  have hs : ((nI k &&& 31).toBitVec.smod 32).toNat = k := by
    have h : ∀ k, k < 32 → ((nI k &&& 31).toBitVec.smod 32).toNat = k := by decide +kernel
    exact h k hk
  rw [ad_iN, ad_iN, pk_shrN ha (nI k &&& 31) k hs, nI_toInt (Nat.lt_of_le_of_lt (Nat.div_le_self _ _) ha), Nat.shiftRight_eq_div_pow]
theorem ad_bit {a k : Nat} (ha : a < 2 ^ 31) (hk : k < 32) : ad_and (ad_shr a k) 1 = if a.testBit k then 1 else 0 := by
  rw [ad_shr_n ha hk]
  have h1 : a >>> k < 2 ^ 31 := Nat.lt_of_le_of_lt (Nat.shiftRight_le a k) ha
  have := ad_and_n (a := a >>> k) (b := 1) h1
  rw [show ((1 : Nat) : Int) = 1 from rfl] at this
  rw [this, Nat.and_one_is_mod]
  have h2 : a.testBit k = decide ((a >>> k) % 2 = 1) := by
    rw [Nat.testBit, Nat.one_and_eq_mod_two]
    rcases Nat.mod_two_eq_zero_or_one (a >>> k) with h | h <;> simp [h]
  rw [h2]
  rcases Nat.mod_two_eq_zero_or_one (a >>> k) with h | h <;> simp [h]
theorem ad_not_n {a b : Nat} (ha : a < 2 ^ 31) (hb : b < 2 ^ 31) : ad_and a (ad_xor b (-1)) = ((a ^^^ (a &&& b) : Nat) : Int) := by
  unfold ad_and ad_xor
  rw [ad_ofto, ad_iN, ad_iN]
  have e : nI a &&& (nI b ^^^ Int32.ofInt (-1)) = nI (a ^^^ (a &&& b)) := by
    rw [← Int32.toBitVec_inj]
    show BitVec.ofNat 32 a &&& (BitVec.ofNat 32 b ^^^ BitVec.ofInt 32 (-1)) = BitVec.ofNat 32 (a ^^^ (a &&& b))
    rw [BitVec.ofNat_xor, BitVec.ofNat_and]
    have hm : BitVec.ofInt 32 (-1) = BitVec.allOnes 32 := by decide
    rw [hm, BitVec.xor_allOnes]
    ext i hi
    simp only [BitVec.getElem_and, BitVec.getElem_not, BitVec.getElem_xor]
    cases (BitVec.ofNat 32 a)[i] <;> cases (BitVec.ofNat 32 b)[i] <;> rfl
  rw [e, nI_toInt (Nat.xor_lt_two_pow ha (Nat.lt_of_le_of_lt Nat.and_le_left ha))]
theorem ad_and_rng (a b : Int) : ad_rng (ad_and a b) := ⟨by unfold ad_and; have := Int32.le_toInt (Int32.ofInt a &&& Int32.ofInt b); omega, by unfold ad_and; have := Int32.toInt_lt (Int32.ofInt a &&& Int32.ofInt b); omega⟩
theorem ad_pv_t {c : Prop} [Decidable c] (h : c) : ad_iv 1 = ad_pv c := by rw [ad_pv, if_pos h]
theorem ad_pv_f {c : Prop} [Decidable c] (h : ¬ c) : ad_iv 0 = ad_pv c := by rw [ad_pv, if_neg h]
theorem ad_pv_c {c c' : Prop} [Decidable c] [Decidable c'] (h : c ↔ c') : ad_pv c = ad_pv c' := by
  rw [ad_pv, ad_pv]
  by_cases hc : c
  · rw [if_pos hc, if_pos (h.mp hc)]
  · rw [if_neg hc, if_neg (fun q => hc (h.mpr q))]
/-- lists out of the memory -/
def ad_nl (σ : ad_Mem) (j : Nat) : List Int := (List.range (σ 2 j 1).toNat).map (σ 12 j)
def ad_nw (σ : ad_Mem) (j : Nat) : Prop := 0 ≤ σ 2 j 1 ∧ σ 2 j 1 ≤ (ad_len 12 j : Int) ∧ ∀ k, 0 ≤ σ 12 j k ∧ σ 12 j k ≤ 255
theorem ad_nl_len (σ : ad_Mem) (j : Nat) : (ad_nl σ j).length = (σ 2 j 1).toNat := by unfold ad_nl; simp
theorem ad_nl_at (σ : ad_Mem) (j k : Nat) (h : k < (σ 2 j 1).toNat) : (ad_nl σ j)[k]? = some (σ 12 j k) := by
  unfold ad_nl
  rw [List.getElem?_map, List.getElem?_range h]
  rfl
theorem ad_nl_drop (σ : ad_Mem) (j k : Nat) (h : k < (σ 2 j 1).toNat) : (ad_nl σ j).drop k = σ 12 j k :: (ad_nl σ j).drop (k + 1) := by
  have hl : k < (ad_nl σ j).length := by rw [ad_nl_len]; exact h
  rw [List.drop_eq_getElem_cons hl]
  congr 1
  have := ad_nl_at σ j k h
  rw [List.getElem?_eq_getElem hl] at this
  exact Option.some.inj this
theorem ad_nl_end (σ : ad_Mem) (j k : Nat) (h : (σ 2 j 1).toNat ≤ k) : (ad_nl σ j).drop k = [] := List.drop_eq_nil_of_le (by rw [ad_nl_len]; exact h)
theorem ad_len12 (j : Nat) : (ad_len 12 j : Int) ≤ 96 ∧ 12 ≤ (ad_len 12 j : Int) := by
  show ((if j = 33 then 96 else 12 : Nat) : Int) ≤ 96 ∧ 12 ≤ ((if j = 33 then 96 else 12 : Nat) : Int)
  split <;> omega
/-- the length of the common beginning -/
def ad_cpl : List Int → List Int → Nat
  | a :: l, b :: m => if a = b then ad_cpl l m + 1 else 0
  | _, _ => 0
def ad_hs (l : List Int) : Int := l.foldl (fun h x => (31 * h + x) % 9973) 7
theorem ad_cpl_le : ∀ (l m : List Int), ad_cpl l m ≤ l.length ∧ ad_cpl l m ≤ m.length
  | [], m => by cases m <;> simp [ad_cpl]
  | a :: l, [] => by simp [ad_cpl]
  | a :: l, b :: m => by
    unfold ad_cpl
    have := ad_cpl_le l m
    split
    · simp; omega
    · simp
theorem ad_cpl_all : ∀ (l m : List Int), l.length = m.length → (ad_cpl l m = l.length ↔ l = m)
  | [], m, h => by cases m with
    | nil => simp [ad_cpl]
    | cons b m => simp at h
  | a :: l, [], h => by simp at h
  | a :: l, b :: m, h => by
    unfold ad_cpl
    have ih := ad_cpl_all l m (by simpa using h)
    by_cases hab : a = b
    · rw [if_pos hab]
      simp only [List.length_cons, List.cons.injEq, hab, true_and]
      rw [← ih]; omega
    · rw [if_neg hab]
      simp [hab]
theorem ad_cpl_0l (m : List Int) : ad_cpl [] m = 0 := by cases m <;> rfl
theorem ad_cpl_0r (l : List Int) : ad_cpl l [] = 0 := by cases l <;> rfl
theorem ad_cpl_s {l m : List Int} {a b : Int} (h : a = b) : ad_cpl (a :: l) (b :: m) = ad_cpl l m + 1 := by rw [ad_cpl, if_pos h]
theorem ad_cpl_n {l m : List Int} {a b : Int} (h : ¬ a = b) : ad_cpl (a :: l) (b :: m) = 0 := by rw [ad_cpl, if_neg h]
theorem ad_hs_fold (l : List Int) (hl : ∀ x ∈ l, 0 ≤ x ∧ x ≤ 255) : ∀ h : Int, 0 ≤ h → h < 9973 → 0 ≤ l.foldl (fun h x => (31 * h + x) % 9973) h ∧ l.foldl (fun h x => (31 * h + x) % 9973) h < 9973 := by
  induction l with
  | nil => intro h h0 h1; exact ⟨h0, h1⟩
  | cons a l ih =>
    intro h h0 h1
    rw [List.foldl_cons]
    exact ih (fun x hx => hl x (List.mem_cons_of_mem _ hx)) _ (by omega) (by omega)
theorem ad_nl_mem {σ : ad_Mem} {j : Nat} {x : Int} (h : x ∈ ad_nl σ j) : ∃ k, k < (σ 2 j 1).toNat ∧ x = σ 12 j k := by
  unfold ad_nl at h
  obtain ⟨k, hk, rfl⟩ := List.mem_map.mp h
  exact ⟨k, List.mem_range.mp hk, rfl⟩
theorem ad_hs_rng (σ : ad_Mem) (j : Nat) (hw : ad_nw σ j) : 0 ≤ ad_hs (ad_nl σ j) ∧ ad_hs (ad_nl σ j) < 9973 :=
  ad_hs_fold _ (fun x hx => by obtain ⟨k, -, rfl⟩ := ad_nl_mem hx; exact hw.2.2 k) 7 (by omega) (by omega)
/-- a bit of a number is set -/
abbrev ad_tb (a k : Int) : Prop := a.toNat.testBit k.toNat = true
theorem ad_bitI {a k : Int} (ha : 0 ≤ a ∧ a ≤ 2147483647) (hk : 0 ≤ k ∧ k < 32) : ad_and (ad_shr a k) 1 = if ad_tb a k then 1 else 0 := by
  have h := ad_bit (a := a.toNat) (k := k.toNat) (by omega) (by omega)
  rw [show ((a.toNat : Nat) : Int) = a by omega, show ((k.toNat : Nat) : Int) = k by omega] at h
  exact h
theorem ad_p1_eq (q : Prop) [Decidable q] : (Int32.ofInt (if q then 1 else 0) = Int32.ofInt 1) ↔ q := by
  by_cases h : q
  · rw [if_pos h]; exact ⟨fun _ => h, fun _ => rfl⟩
  · rw [if_neg h]; exact ⟨fun e => absurd e (by decide), fun e => absurd e h⟩
section adp1
variable {g : ad_G} {μ : ad_MI} {d : Nat} {Z : Nat → List Value → ad_Mem → Prop} {pc : Nat} {L : List (Option Value)} {S : List Value} {σ : ad_Mem}
theorem ad_icmp_ne_p1 {q : Prop} [Decidable q] {off : Int} (tgt : Nat) (hd : decode μ.2.1 pc = .ok (.if_icmp .ne off, 3)) (ht : (pc : Int) + off = (tgt : Int)) (kt : ¬ q → ad_R g μ d Z tgt L S σ) (kf : q → ad_R g μ d Z (pc + 3) L S σ) : ad_R g μ d Z pc L (ad_iv 1 :: ad_pv q :: S) σ := by
  intro p e R s m args below meth c cells slots Q C hZ H locs ls hP hS hl
  exact lv_icmp_ne C.1 C.2.1 hd ht (fun h => kt (fun z => h ((ad_p1_eq q).mpr z)) p e R s m args below meth c cells slots Q C hZ H locs ls hP hS hl) (fun h => kf ((ad_p1_eq q).mp h) p e R s m args below meth c cells slots Q C hZ H locs ls hP hS hl)
theorem ad_icmp_eq_p1 {q : Prop} [Decidable q] {off : Int} (tgt : Nat) (hd : decode μ.2.1 pc = .ok (.if_icmp .eq off, 3)) (ht : (pc : Int) + off = (tgt : Int)) (kt : q → ad_R g μ d Z tgt L S σ) (kf : ¬ q → ad_R g μ d Z (pc + 3) L S σ) : ad_R g μ d Z pc L (ad_iv 1 :: ad_pv q :: S) σ := by
  intro p e R s m args below meth c cells slots Q C hZ H locs ls hP hS hl
  exact lv_icmp_eq C.1 C.2.1 hd ht (fun h => kt ((ad_p1_eq q).mp h) p e R s m args below meth c cells slots Q C hZ H locs ls hP hS hl) (fun h => kf (fun z => h ((ad_p1_eq q).mpr z)) p e R s m args below meth c cells slots Q C hZ H locs ls hP hS hl)
end adp1
def ad_ushr (a b : Int) : Int := ((Int32.ofInt a).toUInt32 >>> ((Int32.ofInt b).toUInt32 &&& Int32.toUInt32 31)).toInt32.toInt
section adush
variable {g : ad_G} {μ : ad_MI} {d : Nat} {Z : Nat → List Value → ad_Mem → Prop} {pc : Nat} {L : List (Option Value)} {S : List Value} {σ : ad_Mem}
theorem ad_iushr {a b : Int} (hd : decode μ.2.1 pc = .ok (.iushr, 1)) (k : ad_R g μ d Z (pc + 1) L (ad_iv (ad_ushr a b) :: S) σ) : ad_R g μ d Z pc L (ad_iv b :: ad_iv a :: S) σ := by
  intro p e R s m args below meth c cells slots Q C hZ H locs ls hP hS hl
  have k2 := k p e R s m args below meth c cells slots Q C hZ H locs ls hP hS hl
  unfold ad_ushr at k2
  rw [ad_iv_to] at k2
  exact lv_iushr C.1 C.2.1 hd rfl k2
theorem ad_ldcw {index : Nat} {n : Int} (hd : decode μ.2.1 pc = .ok (.ldc_w index, 3)) (hc : Cond.constant μ.1.cls index (Int32.ofInt n) ∈ ad_TB) (k : ad_R g μ d Z (pc + 3) L (ad_iv n :: S) σ) : ad_R g μ d Z pc L S σ := by
  intro p e R s m args below meth c cells slots Q C hZ H locs ls hP hS hl
  exact lv_ldcw C.1 C.2.1 C.2.2.2.1 (C.2.2.2.2.1 _ hc) hd (k p e R s m args below meth c cells slots Q C hZ H locs ls hP hS hl)
end adush
