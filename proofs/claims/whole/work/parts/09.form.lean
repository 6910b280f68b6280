/-! ===== the forms of contracts, returns, calls by their number of arguments ===== -/
/-- returns a value -/
def ad_Q (g : ad_G) (μ : ad_MI) (d : Nat) (av : List Value) (σ : ad_Mem) (P : Value → ad_Mem → Prop) : Prop := ad_M g μ d av σ (fun v s => ∃ x, v = some x ∧ P x s)
/-- returns nothing -/
def ad_V (g : ad_G) (μ : ad_MI) (d : Nat) (av : List Value) (σ : ad_Mem) (P : ad_Mem → Prop) : Prop := ad_M g μ d av σ (fun v s => v = none ∧ P s)
abbrev ad_ZQ (μ : ad_MI) (P : Value → ad_Mem → Prop) : Nat → List Value → ad_Mem → Prop := ad_Zr μ (fun v s => ∃ x, v = some x ∧ P x s)
abbrev ad_ZV (μ : ad_MI) (P : ad_Mem → Prop) : Nat → List Value → ad_Mem → Prop := ad_Zr μ (fun v s => v = none ∧ P s)
theorem ad_Q.mono {g : ad_G} {μ : ad_MI} {d : Nat} {av : List Value} {σ : ad_Mem} {P P' : Value → ad_Mem → Prop} (h : ad_Q g μ d av σ P) (hP : ∀ x s, P x s → P' x s) : ad_Q g μ d av σ P' :=
  ad_M.mono h (fun v s ⟨x, h1, h2⟩ => ⟨x, h1, hP x s h2⟩)
theorem ad_V.mono {g : ad_G} {μ : ad_MI} {d : Nat} {av : List Value} {σ : ad_Mem} {P P' : ad_Mem → Prop} (h : ad_V g μ d av σ P) (hP : ∀ s, P s → P' s) : ad_V g μ d av σ P' :=
  ad_M.mono h (fun v s ⟨h1, h2⟩ => ⟨h1, hP s h2⟩)
theorem ad_entL (av : List Value) (hc : ∀ v ∈ av, v.category = 1) (k : Nat) : ∀ (b i : Nat) (v : Value), ad_at (av.map some ++ List.replicate k none) i = some v → (b + i, v) ∈ lv_args b av := by
  induction av with
  | nil =>
    intro b i v h
    exfalso
    induction k generalizing i with
    | zero => cases h
    | succ k ih => cases i with
      | zero => cases h
      | succ i => exact ih i h
  | cons w l ih =>
    intro b i v h
    have hw : ¬ w.category = 2 := by have := hc w List.mem_cons_self; omega
    cases i with
    | zero =>
      have hv : w = v := Option.some.inj h
      subst hv
      exact List.mem_cons_self
    | succ i =>
      have h2 := ih (fun v hv => hc v (List.mem_cons_of_mem _ hv)) (b + 1) i v h
      unfold lv_args
      rw [if_neg hw]
      refine List.mem_cons_of_mem _ ?_
      have e : b + (i + 1) = b + 1 + i := by omega
      rw [e]
      exact h2
theorem ad_entN (av : List Value) (hc : ∀ v ∈ av, v.category = 1) : (lg_sl av).length = av.length := by
  induction av with
  | nil => rfl
  | cons w l ih =>
    have hw : ¬ w.category = 2 := by have := hc w List.mem_cons_self; omega
    have := ih (fun v hv => hc v (List.mem_cons_of_mem _ hv))
    unfold lg_sl at this ⊢
    rw [List.flatMap_cons, if_neg hw, List.length_append, this]
    simp; omega
theorem ad_M1 {g : ad_G} {μ : ad_MI} {d : Nat} {av : List Value} {σ : ad_Mem} {Q : Option Value → ad_Mem → Prop} {L : List (Option Value)} (k : Nat) (hL : L = av.map some ++ List.replicate k none) (hc : ∀ v ∈ av, v.category = 1) (hy : plainName μ.1.cls = true) (hn : av.length ≤ μ.2.2.1)
    (kk : ad_R g μ d (ad_Zr μ Q) 0 L [] σ) : ad_M g μ d av σ Q := by
  subst hL
  exact ad_M_of hy (by rw [ad_entN av hc]; exact hn) (fun i v h => by have := ad_entL av hc k 0 i v h; rwa [Nat.zero_add] at this) kk
section adform
variable {g : ad_G} {μ : ad_MI} {d : Nat} {pc : Nat} {L : List (Option Value)} {σ : ad_Mem} {P : Value → ad_Mem → Prop} {P0 : ad_Mem → Prop}
theorem ad_reti {x : Int} (hd : decode μ.2.1 pc = .ok (.ireturn, 1)) (hr : μ.2.2.2 = some .int) (h : P (ad_iv x) σ) : ad_R g μ d (ad_ZQ μ P) pc L [ad_iv x] σ :=
  ad_stop (Or.inr (Or.inl ⟨hd, _, rfl, ⟨_, rfl, h⟩, _, hr, rfl⟩))
theorem ad_retp {q : Prop} [Decidable q] (hd : decode μ.2.1 pc = .ok (.ireturn, 1)) (hr : μ.2.2.2 = some .boolean) (h : P (ad_pv q) σ) : ad_R g μ d (ad_ZQ μ P) pc L [ad_pv q] σ :=
  ad_stop (Or.inr (Or.inl ⟨hd, _, rfl, ⟨_, rfl, h⟩, _, hr, by by_cases hq : q <;> simp only [hq, if_true, if_false] <;> rfl⟩))
theorem ad_ret1 (hd : decode μ.2.1 pc = .ok (.ireturn, 1)) (hr : μ.2.2.2 = some .boolean) (h : P (ad_iv 1) σ) : ad_R g μ d (ad_ZQ μ P) pc L [ad_iv 1] σ :=
  ad_stop (Or.inr (Or.inl ⟨hd, _, rfl, ⟨_, rfl, h⟩, _, hr, rfl⟩))
theorem ad_ret0 (hd : decode μ.2.1 pc = .ok (.ireturn, 1)) (hr : μ.2.2.2 = some .boolean) (h : P (ad_iv 0) σ) : ad_R g μ d (ad_ZQ μ P) pc L [ad_iv 0] σ :=
  ad_stop (Or.inr (Or.inl ⟨hd, _, rfl, ⟨_, rfl, h⟩, _, hr, rfl⟩))
theorem ad_retl {x : Int} (hd : decode μ.2.1 pc = .ok (.lreturn, 1)) (hr : μ.2.2.2 = some .long) (h : P (ad_lv x) σ) : ad_R g μ d (ad_ZQ μ P) pc L [ad_lv x] σ :=
  ad_stop (Or.inr (Or.inr (Or.inl ⟨hd, _, rfl, ⟨_, rfl, h⟩, hr⟩)))
theorem ad_reta {x : Nat} {n : String} (hd : decode μ.2.1 pc = .ok (.areturn, 1)) (hr : μ.2.2.2 = some (.object n)) (h : P (.ref x) σ) : ad_R g μ d (ad_ZQ μ P) pc L [.ref x] σ :=
  ad_stop (Or.inr (Or.inr (Or.inr ⟨hd, _, rfl, ⟨_, rfl, h⟩, _, hr⟩)))
theorem ad_retv (hd : decode μ.2.1 pc = .ok (.return_, 1)) (hr : μ.2.2.2 = none) (h : P0 σ) : ad_R g μ d (ad_ZV μ P0) pc L [] σ :=
  ad_stop (Or.inl ⟨hd, hr, rfl, rfl, h⟩)
end adform
theorem ad_nat : Cond.native arraycopyName ∈ ad_TB := ad_in 466 (by decide +kernel) rfl
theorem ad_nst : Cond.static arraycopyName ∈ ad_TB := ad_in 465 (by decide +kernel) rfl
theorem ad_nin : Cond.initialized "java/lang/System" ∈ ad_TB := ad_in 76 (by decide +kernel) rfl
theorem ad_mmaxS : Cond.static Lib.Math.max.name ∈ ad_TB := ad_in 106 (by decide +kernel) rfl
theorem ad_mminS : Cond.static Lib.Math.min.name ∈ ad_TB := ad_in 462 (by decide +kernel) rfl
theorem ad_mIn : Cond.initialized "java/lang/Math" ∈ ad_TB := ad_in 66 (by decide +kernel) rfl
set_option maxRecDepth 100000 in
theorem ad_mmaxC : Cond.code Lib.Math.max.name Lib.Math.max.code 2 (some .int) ∈ ad_TB := ad_inC1 46 rfl
set_option maxRecDepth 100000 in
theorem ad_mminC : Cond.code Lib.Math.min.name Lib.Math.min.code 2 (some .int) ∈ ad_TB := ad_inC2 162 rfl
section adcalls
variable {g : ad_G} {μ : ad_MI} {d : Nat} {Z : Nat → List Value → ad_Mem → Prop} {pc : Nat} {L : List (Option Value)} {S : List Value} {σ σ1 : ad_Mem} {μ' : ad_MI} {own : String} {idx k i : Nat} {v : Value} {P : Value → ad_Mem → Prop} {P0 : ad_Mem → Prop}
theorem ad_cv0q (hμ : μ.1.cls = own) (hcw : ad_CV own idx μ' 0 k) (hd : decode μ.2.1 pc = .ok (.invokevirtual idx, 3)) (hM : ad_Q g μ' (d - 1) [ad_rf g k i] σ P) (hdd : 1 ≤ d) (hi : i < ad_cnt k) (hW : (S.map fun v => v.category).sum ≤ 8) (kk : ∀ x σ', P x σ' → ad_R g μ d Z (pc + 3) L (x :: S) σ') : ad_R g μ d Z pc L (ad_rf g k i :: S) σ := by
  subst hμ
  refine ad_callV (d' := d - 1) (As := []) hcw hd hi hM (by omega) rfl hW rfl ?_
  rintro v σ' ⟨x, rfl, h⟩
  exact kk x σ' h
theorem ad_cv0f (hμ : μ.1.cls = own) (hcw : ad_CV own idx μ' 0 k) (hd : decode μ.2.1 pc = .ok (.invokevirtual idx, 3)) (hM : ad_Q g μ' (d - 1) [ad_rf g k i] σ (fun x s => x = v ∧ s = σ1)) (hdd : 1 ≤ d) (hi : i < ad_cnt k) (hW : (S.map fun v => v.category).sum ≤ 8) (kk : ad_R g μ d Z (pc + 3) L (v :: S) σ1) : ad_R g μ d Z pc L (ad_rf g k i :: S) σ := by
  subst hμ
  refine ad_callV (d' := d - 1) (As := []) hcw hd hi hM (by omega) rfl hW rfl ?_
  rintro v σ' ⟨x, rfl, rfl, rfl⟩
  exact kk
theorem ad_cv0v (hμ : μ.1.cls = own) (hcw : ad_CV own idx μ' 0 k) (hd : decode μ.2.1 pc = .ok (.invokevirtual idx, 3)) (hM : ad_V g μ' (d - 1) [ad_rf g k i] σ P0) (hdd : 1 ≤ d) (hi : i < ad_cnt k) (hW : (S.map fun v => v.category).sum ≤ 8) (kk : ∀ σ', P0 σ' → ad_R g μ d Z (pc + 3) L S σ') : ad_R g μ d Z pc L (ad_rf g k i :: S) σ := by
  subst hμ
  refine ad_callV (d' := d - 1) (As := []) hcw hd hi hM (by omega) rfl hW rfl ?_
  rintro v σ' ⟨rfl, h⟩
  exact kk σ' h
theorem ad_cv0w (hμ : μ.1.cls = own) (hcw : ad_CV own idx μ' 0 k) (hd : decode μ.2.1 pc = .ok (.invokevirtual idx, 3)) (hM : ad_V g μ' (d - 1) [ad_rf g k i] σ (fun s => s = σ1)) (hdd : 1 ≤ d) (hi : i < ad_cnt k) (hW : (S.map fun v => v.category).sum ≤ 8) (kk : ad_R g μ d Z (pc + 3) L S σ1) : ad_R g μ d Z pc L (ad_rf g k i :: S) σ := by
  subst hμ
  refine ad_callV (d' := d - 1) (As := []) hcw hd hi hM (by omega) rfl hW rfl ?_
  rintro v σ' ⟨rfl, rfl⟩
  exact kk
theorem ad_cv1q {a1 : Value} (hμ : μ.1.cls = own) (hcw : ad_CV own idx μ' 1 k) (hd : decode μ.2.1 pc = .ok (.invokevirtual idx, 3)) (hM : ad_Q g μ' (d - 1) [ad_rf g k i, a1] σ P) (hdd : 1 ≤ d) (hi : i < ad_cnt k) (hW : (S.map fun v => v.category).sum ≤ 8) (kk : ∀ x σ', P x σ' → ad_R g μ d Z (pc + 3) L (x :: S) σ') : ad_R g μ d Z pc L (a1 :: ad_rf g k i :: S) σ := by
  subst hμ
  refine ad_callV (d' := d - 1) (As := [a1]) hcw hd hi hM (by omega) rfl hW rfl ?_
  rintro v σ' ⟨x, rfl, h⟩
  exact kk x σ' h
theorem ad_cv1f {a1 : Value} (hμ : μ.1.cls = own) (hcw : ad_CV own idx μ' 1 k) (hd : decode μ.2.1 pc = .ok (.invokevirtual idx, 3)) (hM : ad_Q g μ' (d - 1) [ad_rf g k i, a1] σ (fun x s => x = v ∧ s = σ1)) (hdd : 1 ≤ d) (hi : i < ad_cnt k) (hW : (S.map fun v => v.category).sum ≤ 8) (kk : ad_R g μ d Z (pc + 3) L (v :: S) σ1) : ad_R g μ d Z pc L (a1 :: ad_rf g k i :: S) σ := by
  subst hμ
  refine ad_callV (d' := d - 1) (As := [a1]) hcw hd hi hM (by omega) rfl hW rfl ?_
  rintro v σ' ⟨x, rfl, rfl, rfl⟩
  exact kk
theorem ad_cv1v {a1 : Value} (hμ : μ.1.cls = own) (hcw : ad_CV own idx μ' 1 k) (hd : decode μ.2.1 pc = .ok (.invokevirtual idx, 3)) (hM : ad_V g μ' (d - 1) [ad_rf g k i, a1] σ P0) (hdd : 1 ≤ d) (hi : i < ad_cnt k) (hW : (S.map fun v => v.category).sum ≤ 8) (kk : ∀ σ', P0 σ' → ad_R g μ d Z (pc + 3) L S σ') : ad_R g μ d Z pc L (a1 :: ad_rf g k i :: S) σ := by
  subst hμ
  refine ad_callV (d' := d - 1) (As := [a1]) hcw hd hi hM (by omega) rfl hW rfl ?_
  rintro v σ' ⟨rfl, h⟩
  exact kk σ' h
theorem ad_cv1w {a1 : Value} (hμ : μ.1.cls = own) (hcw : ad_CV own idx μ' 1 k) (hd : decode μ.2.1 pc = .ok (.invokevirtual idx, 3)) (hM : ad_V g μ' (d - 1) [ad_rf g k i, a1] σ (fun s => s = σ1)) (hdd : 1 ≤ d) (hi : i < ad_cnt k) (hW : (S.map fun v => v.category).sum ≤ 8) (kk : ad_R g μ d Z (pc + 3) L S σ1) : ad_R g μ d Z pc L (a1 :: ad_rf g k i :: S) σ := by
  subst hμ
  refine ad_callV (d' := d - 1) (As := [a1]) hcw hd hi hM (by omega) rfl hW rfl ?_
  rintro v σ' ⟨rfl, rfl⟩
  exact kk
theorem ad_cs1q {a1 : Value} (hμ : μ.1.cls = own) (hcw : ad_CS own idx μ' 1) (hd : decode μ.2.1 pc = .ok (.invokestatic idx, 3)) (hM : ad_Q g μ' (d - 1) [a1] σ P) (hdd : 1 ≤ d) (hW : (S.map fun v => v.category).sum ≤ 8) (kk : ∀ x σ', P x σ' → ad_R g μ d Z (pc + 3) L (x :: S) σ') : ad_R g μ d Z pc L (a1 :: S) σ := by
  subst hμ
  refine ad_callS (d' := d - 1) (As := [a1]) hcw hd hM (by omega) rfl hW rfl ?_
  rintro v σ' ⟨x, rfl, h⟩
  exact kk x σ' h
theorem ad_cs1f {a1 : Value} (hμ : μ.1.cls = own) (hcw : ad_CS own idx μ' 1) (hd : decode μ.2.1 pc = .ok (.invokestatic idx, 3)) (hM : ad_Q g μ' (d - 1) [a1] σ (fun x s => x = v ∧ s = σ1)) (hdd : 1 ≤ d) (hW : (S.map fun v => v.category).sum ≤ 8) (kk : ad_R g μ d Z (pc + 3) L (v :: S) σ1) : ad_R g μ d Z pc L (a1 :: S) σ := by
  subst hμ
  refine ad_callS (d' := d - 1) (As := [a1]) hcw hd hM (by omega) rfl hW rfl ?_
  rintro v σ' ⟨x, rfl, rfl, rfl⟩
  exact kk
theorem ad_cs1v {a1 : Value} (hμ : μ.1.cls = own) (hcw : ad_CS own idx μ' 1) (hd : decode μ.2.1 pc = .ok (.invokestatic idx, 3)) (hM : ad_V g μ' (d - 1) [a1] σ P0) (hdd : 1 ≤ d) (hW : (S.map fun v => v.category).sum ≤ 8) (kk : ∀ σ', P0 σ' → ad_R g μ d Z (pc + 3) L S σ') : ad_R g μ d Z pc L (a1 :: S) σ := by
  subst hμ
  refine ad_callS (d' := d - 1) (As := [a1]) hcw hd hM (by omega) rfl hW rfl ?_
  rintro v σ' ⟨rfl, h⟩
  exact kk σ' h
theorem ad_cs1w {a1 : Value} (hμ : μ.1.cls = own) (hcw : ad_CS own idx μ' 1) (hd : decode μ.2.1 pc = .ok (.invokestatic idx, 3)) (hM : ad_V g μ' (d - 1) [a1] σ (fun s => s = σ1)) (hdd : 1 ≤ d) (hW : (S.map fun v => v.category).sum ≤ 8) (kk : ad_R g μ d Z (pc + 3) L S σ1) : ad_R g μ d Z pc L (a1 :: S) σ := by
  subst hμ
  refine ad_callS (d' := d - 1) (As := [a1]) hcw hd hM (by omega) rfl hW rfl ?_
  rintro v σ' ⟨rfl, rfl⟩
  exact kk
theorem ad_cv2q {a1 a2 : Value} (hμ : μ.1.cls = own) (hcw : ad_CV own idx μ' 2 k) (hd : decode μ.2.1 pc = .ok (.invokevirtual idx, 3)) (hM : ad_Q g μ' (d - 1) [ad_rf g k i, a1, a2] σ P) (hdd : 1 ≤ d) (hi : i < ad_cnt k) (hW : (S.map fun v => v.category).sum ≤ 8) (kk : ∀ x σ', P x σ' → ad_R g μ d Z (pc + 3) L (x :: S) σ') : ad_R g μ d Z pc L (a2 :: a1 :: ad_rf g k i :: S) σ := by
  subst hμ
  refine ad_callV (d' := d - 1) (As := [a1, a2]) hcw hd hi hM (by omega) rfl hW rfl ?_
  rintro v σ' ⟨x, rfl, h⟩
  exact kk x σ' h
theorem ad_cv2f {a1 a2 : Value} (hμ : μ.1.cls = own) (hcw : ad_CV own idx μ' 2 k) (hd : decode μ.2.1 pc = .ok (.invokevirtual idx, 3)) (hM : ad_Q g μ' (d - 1) [ad_rf g k i, a1, a2] σ (fun x s => x = v ∧ s = σ1)) (hdd : 1 ≤ d) (hi : i < ad_cnt k) (hW : (S.map fun v => v.category).sum ≤ 8) (kk : ad_R g μ d Z (pc + 3) L (v :: S) σ1) : ad_R g μ d Z pc L (a2 :: a1 :: ad_rf g k i :: S) σ := by
  subst hμ
  refine ad_callV (d' := d - 1) (As := [a1, a2]) hcw hd hi hM (by omega) rfl hW rfl ?_
  rintro v σ' ⟨x, rfl, rfl, rfl⟩
  exact kk
theorem ad_cv2v {a1 a2 : Value} (hμ : μ.1.cls = own) (hcw : ad_CV own idx μ' 2 k) (hd : decode μ.2.1 pc = .ok (.invokevirtual idx, 3)) (hM : ad_V g μ' (d - 1) [ad_rf g k i, a1, a2] σ P0) (hdd : 1 ≤ d) (hi : i < ad_cnt k) (hW : (S.map fun v => v.category).sum ≤ 8) (kk : ∀ σ', P0 σ' → ad_R g μ d Z (pc + 3) L S σ') : ad_R g μ d Z pc L (a2 :: a1 :: ad_rf g k i :: S) σ := by
  subst hμ
  refine ad_callV (d' := d - 1) (As := [a1, a2]) hcw hd hi hM (by omega) rfl hW rfl ?_
  rintro v σ' ⟨rfl, h⟩
  exact kk σ' h
theorem ad_cv2w {a1 a2 : Value} (hμ : μ.1.cls = own) (hcw : ad_CV own idx μ' 2 k) (hd : decode μ.2.1 pc = .ok (.invokevirtual idx, 3)) (hM : ad_V g μ' (d - 1) [ad_rf g k i, a1, a2] σ (fun s => s = σ1)) (hdd : 1 ≤ d) (hi : i < ad_cnt k) (hW : (S.map fun v => v.category).sum ≤ 8) (kk : ad_R g μ d Z (pc + 3) L S σ1) : ad_R g μ d Z pc L (a2 :: a1 :: ad_rf g k i :: S) σ := by
  subst hμ
  refine ad_callV (d' := d - 1) (As := [a1, a2]) hcw hd hi hM (by omega) rfl hW rfl ?_
  rintro v σ' ⟨rfl, rfl⟩
  exact kk
theorem ad_cs2q {a1 a2 : Value} (hμ : μ.1.cls = own) (hcw : ad_CS own idx μ' 2) (hd : decode μ.2.1 pc = .ok (.invokestatic idx, 3)) (hM : ad_Q g μ' (d - 1) [a1, a2] σ P) (hdd : 1 ≤ d) (hW : (S.map fun v => v.category).sum ≤ 8) (kk : ∀ x σ', P x σ' → ad_R g μ d Z (pc + 3) L (x :: S) σ') : ad_R g μ d Z pc L (a2 :: a1 :: S) σ := by
  subst hμ
  refine ad_callS (d' := d - 1) (As := [a1, a2]) hcw hd hM (by omega) rfl hW rfl ?_
  rintro v σ' ⟨x, rfl, h⟩
  exact kk x σ' h
theorem ad_cs2f {a1 a2 : Value} (hμ : μ.1.cls = own) (hcw : ad_CS own idx μ' 2) (hd : decode μ.2.1 pc = .ok (.invokestatic idx, 3)) (hM : ad_Q g μ' (d - 1) [a1, a2] σ (fun x s => x = v ∧ s = σ1)) (hdd : 1 ≤ d) (hW : (S.map fun v => v.category).sum ≤ 8) (kk : ad_R g μ d Z (pc + 3) L (v :: S) σ1) : ad_R g μ d Z pc L (a2 :: a1 :: S) σ := by
  subst hμ
  refine ad_callS (d' := d - 1) (As := [a1, a2]) hcw hd hM (by omega) rfl hW rfl ?_
  rintro v σ' ⟨x, rfl, rfl, rfl⟩
  exact kk
theorem ad_cs2v {a1 a2 : Value} (hμ : μ.1.cls = own) (hcw : ad_CS own idx μ' 2) (hd : decode μ.2.1 pc = .ok (.invokestatic idx, 3)) (hM : ad_V g μ' (d - 1) [a1, a2] σ P0) (hdd : 1 ≤ d) (hW : (S.map fun v => v.category).sum ≤ 8) (kk : ∀ σ', P0 σ' → ad_R g μ d Z (pc + 3) L S σ') : ad_R g μ d Z pc L (a2 :: a1 :: S) σ := by
  subst hμ
  refine ad_callS (d' := d - 1) (As := [a1, a2]) hcw hd hM (by omega) rfl hW rfl ?_
  rintro v σ' ⟨rfl, h⟩
  exact kk σ' h
theorem ad_cs2w {a1 a2 : Value} (hμ : μ.1.cls = own) (hcw : ad_CS own idx μ' 2) (hd : decode μ.2.1 pc = .ok (.invokestatic idx, 3)) (hM : ad_V g μ' (d - 1) [a1, a2] σ (fun s => s = σ1)) (hdd : 1 ≤ d) (hW : (S.map fun v => v.category).sum ≤ 8) (kk : ad_R g μ d Z (pc + 3) L S σ1) : ad_R g μ d Z pc L (a2 :: a1 :: S) σ := by
  subst hμ
  refine ad_callS (d' := d - 1) (As := [a1, a2]) hcw hd hM (by omega) rfl hW rfl ?_
  rintro v σ' ⟨rfl, rfl⟩
  exact kk
theorem ad_cv3q {a1 a2 a3 : Value} (hμ : μ.1.cls = own) (hcw : ad_CV own idx μ' 3 k) (hd : decode μ.2.1 pc = .ok (.invokevirtual idx, 3)) (hM : ad_Q g μ' (d - 1) [ad_rf g k i, a1, a2, a3] σ P) (hdd : 1 ≤ d) (hi : i < ad_cnt k) (hW : (S.map fun v => v.category).sum ≤ 8) (kk : ∀ x σ', P x σ' → ad_R g μ d Z (pc + 3) L (x :: S) σ') : ad_R g μ d Z pc L (a3 :: a2 :: a1 :: ad_rf g k i :: S) σ := by
  subst hμ
  refine ad_callV (d' := d - 1) (As := [a1, a2, a3]) hcw hd hi hM (by omega) rfl hW rfl ?_
  rintro v σ' ⟨x, rfl, h⟩
  exact kk x σ' h
theorem ad_cv3f {a1 a2 a3 : Value} (hμ : μ.1.cls = own) (hcw : ad_CV own idx μ' 3 k) (hd : decode μ.2.1 pc = .ok (.invokevirtual idx, 3)) (hM : ad_Q g μ' (d - 1) [ad_rf g k i, a1, a2, a3] σ (fun x s => x = v ∧ s = σ1)) (hdd : 1 ≤ d) (hi : i < ad_cnt k) (hW : (S.map fun v => v.category).sum ≤ 8) (kk : ad_R g μ d Z (pc + 3) L (v :: S) σ1) : ad_R g μ d Z pc L (a3 :: a2 :: a1 :: ad_rf g k i :: S) σ := by
  subst hμ
  refine ad_callV (d' := d - 1) (As := [a1, a2, a3]) hcw hd hi hM (by omega) rfl hW rfl ?_
  rintro v σ' ⟨x, rfl, rfl, rfl⟩
  exact kk
theorem ad_cv3v {a1 a2 a3 : Value} (hμ : μ.1.cls = own) (hcw : ad_CV own idx μ' 3 k) (hd : decode μ.2.1 pc = .ok (.invokevirtual idx, 3)) (hM : ad_V g μ' (d - 1) [ad_rf g k i, a1, a2, a3] σ P0) (hdd : 1 ≤ d) (hi : i < ad_cnt k) (hW : (S.map fun v => v.category).sum ≤ 8) (kk : ∀ σ', P0 σ' → ad_R g μ d Z (pc + 3) L S σ') : ad_R g μ d Z pc L (a3 :: a2 :: a1 :: ad_rf g k i :: S) σ := by
  subst hμ
  refine ad_callV (d' := d - 1) (As := [a1, a2, a3]) hcw hd hi hM (by omega) rfl hW rfl ?_
  rintro v σ' ⟨rfl, h⟩
  exact kk σ' h
theorem ad_cv3w {a1 a2 a3 : Value} (hμ : μ.1.cls = own) (hcw : ad_CV own idx μ' 3 k) (hd : decode μ.2.1 pc = .ok (.invokevirtual idx, 3)) (hM : ad_V g μ' (d - 1) [ad_rf g k i, a1, a2, a3] σ (fun s => s = σ1)) (hdd : 1 ≤ d) (hi : i < ad_cnt k) (hW : (S.map fun v => v.category).sum ≤ 8) (kk : ad_R g μ d Z (pc + 3) L S σ1) : ad_R g μ d Z pc L (a3 :: a2 :: a1 :: ad_rf g k i :: S) σ := by
  subst hμ
  refine ad_callV (d' := d - 1) (As := [a1, a2, a3]) hcw hd hi hM (by omega) rfl hW rfl ?_
  rintro v σ' ⟨rfl, rfl⟩
  exact kk
theorem ad_cs3q {a1 a2 a3 : Value} (hμ : μ.1.cls = own) (hcw : ad_CS own idx μ' 3) (hd : decode μ.2.1 pc = .ok (.invokestatic idx, 3)) (hM : ad_Q g μ' (d - 1) [a1, a2, a3] σ P) (hdd : 1 ≤ d) (hW : (S.map fun v => v.category).sum ≤ 8) (kk : ∀ x σ', P x σ' → ad_R g μ d Z (pc + 3) L (x :: S) σ') : ad_R g μ d Z pc L (a3 :: a2 :: a1 :: S) σ := by
  subst hμ
  refine ad_callS (d' := d - 1) (As := [a1, a2, a3]) hcw hd hM (by omega) rfl hW rfl ?_
  rintro v σ' ⟨x, rfl, h⟩
  exact kk x σ' h
theorem ad_cs3f {a1 a2 a3 : Value} (hμ : μ.1.cls = own) (hcw : ad_CS own idx μ' 3) (hd : decode μ.2.1 pc = .ok (.invokestatic idx, 3)) (hM : ad_Q g μ' (d - 1) [a1, a2, a3] σ (fun x s => x = v ∧ s = σ1)) (hdd : 1 ≤ d) (hW : (S.map fun v => v.category).sum ≤ 8) (kk : ad_R g μ d Z (pc + 3) L (v :: S) σ1) : ad_R g μ d Z pc L (a3 :: a2 :: a1 :: S) σ := by
  subst hμ
  refine ad_callS (d' := d - 1) (As := [a1, a2, a3]) hcw hd hM (by omega) rfl hW rfl ?_
  rintro v σ' ⟨x, rfl, rfl, rfl⟩
  exact kk
theorem ad_cs3v {a1 a2 a3 : Value} (hμ : μ.1.cls = own) (hcw : ad_CS own idx μ' 3) (hd : decode μ.2.1 pc = .ok (.invokestatic idx, 3)) (hM : ad_V g μ' (d - 1) [a1, a2, a3] σ P0) (hdd : 1 ≤ d) (hW : (S.map fun v => v.category).sum ≤ 8) (kk : ∀ σ', P0 σ' → ad_R g μ d Z (pc + 3) L S σ') : ad_R g μ d Z pc L (a3 :: a2 :: a1 :: S) σ := by
  subst hμ
  refine ad_callS (d' := d - 1) (As := [a1, a2, a3]) hcw hd hM (by omega) rfl hW rfl ?_
  rintro v σ' ⟨rfl, h⟩
  exact kk σ' h
theorem ad_cs3w {a1 a2 a3 : Value} (hμ : μ.1.cls = own) (hcw : ad_CS own idx μ' 3) (hd : decode μ.2.1 pc = .ok (.invokestatic idx, 3)) (hM : ad_V g μ' (d - 1) [a1, a2, a3] σ (fun s => s = σ1)) (hdd : 1 ≤ d) (hW : (S.map fun v => v.category).sum ≤ 8) (kk : ad_R g μ d Z (pc + 3) L S σ1) : ad_R g μ d Z pc L (a3 :: a2 :: a1 :: S) σ := by
  subst hμ
  refine ad_callS (d' := d - 1) (As := [a1, a2, a3]) hcw hd hM (by omega) rfl hW rfl ?_
  rintro v σ' ⟨rfl, rfl⟩
  exact kk
theorem ad_cv4q {a1 a2 a3 a4 : Value} (hμ : μ.1.cls = own) (hcw : ad_CV own idx μ' 4 k) (hd : decode μ.2.1 pc = .ok (.invokevirtual idx, 3)) (hM : ad_Q g μ' (d - 1) [ad_rf g k i, a1, a2, a3, a4] σ P) (hdd : 1 ≤ d) (hi : i < ad_cnt k) (hW : (S.map fun v => v.category).sum ≤ 8) (kk : ∀ x σ', P x σ' → ad_R g μ d Z (pc + 3) L (x :: S) σ') : ad_R g μ d Z pc L (a4 :: a3 :: a2 :: a1 :: ad_rf g k i :: S) σ := by
  subst hμ
  refine ad_callV (d' := d - 1) (As := [a1, a2, a3, a4]) hcw hd hi hM (by omega) rfl hW rfl ?_
  rintro v σ' ⟨x, rfl, h⟩
  exact kk x σ' h
theorem ad_cv4f {a1 a2 a3 a4 : Value} (hμ : μ.1.cls = own) (hcw : ad_CV own idx μ' 4 k) (hd : decode μ.2.1 pc = .ok (.invokevirtual idx, 3)) (hM : ad_Q g μ' (d - 1) [ad_rf g k i, a1, a2, a3, a4] σ (fun x s => x = v ∧ s = σ1)) (hdd : 1 ≤ d) (hi : i < ad_cnt k) (hW : (S.map fun v => v.category).sum ≤ 8) (kk : ad_R g μ d Z (pc + 3) L (v :: S) σ1) : ad_R g μ d Z pc L (a4 :: a3 :: a2 :: a1 :: ad_rf g k i :: S) σ := by
  subst hμ
  refine ad_callV (d' := d - 1) (As := [a1, a2, a3, a4]) hcw hd hi hM (by omega) rfl hW rfl ?_
  rintro v σ' ⟨x, rfl, rfl, rfl⟩
  exact kk
theorem ad_cv4v {a1 a2 a3 a4 : Value} (hμ : μ.1.cls = own) (hcw : ad_CV own idx μ' 4 k) (hd : decode μ.2.1 pc = .ok (.invokevirtual idx, 3)) (hM : ad_V g μ' (d - 1) [ad_rf g k i, a1, a2, a3, a4] σ P0) (hdd : 1 ≤ d) (hi : i < ad_cnt k) (hW : (S.map fun v => v.category).sum ≤ 8) (kk : ∀ σ', P0 σ' → ad_R g μ d Z (pc + 3) L S σ') : ad_R g μ d Z pc L (a4 :: a3 :: a2 :: a1 :: ad_rf g k i :: S) σ := by
  subst hμ
  refine ad_callV (d' := d - 1) (As := [a1, a2, a3, a4]) hcw hd hi hM (by omega) rfl hW rfl ?_
  rintro v σ' ⟨rfl, h⟩
  exact kk σ' h
theorem ad_cv4w {a1 a2 a3 a4 : Value} (hμ : μ.1.cls = own) (hcw : ad_CV own idx μ' 4 k) (hd : decode μ.2.1 pc = .ok (.invokevirtual idx, 3)) (hM : ad_V g μ' (d - 1) [ad_rf g k i, a1, a2, a3, a4] σ (fun s => s = σ1)) (hdd : 1 ≤ d) (hi : i < ad_cnt k) (hW : (S.map fun v => v.category).sum ≤ 8) (kk : ad_R g μ d Z (pc + 3) L S σ1) : ad_R g μ d Z pc L (a4 :: a3 :: a2 :: a1 :: ad_rf g k i :: S) σ := by
  subst hμ
  refine ad_callV (d' := d - 1) (As := [a1, a2, a3, a4]) hcw hd hi hM (by omega) rfl hW rfl ?_
  rintro v σ' ⟨rfl, rfl⟩
  exact kk
theorem ad_cs4q {a1 a2 a3 a4 : Value} (hμ : μ.1.cls = own) (hcw : ad_CS own idx μ' 4) (hd : decode μ.2.1 pc = .ok (.invokestatic idx, 3)) (hM : ad_Q g μ' (d - 1) [a1, a2, a3, a4] σ P) (hdd : 1 ≤ d) (hW : (S.map fun v => v.category).sum ≤ 8) (kk : ∀ x σ', P x σ' → ad_R g μ d Z (pc + 3) L (x :: S) σ') : ad_R g μ d Z pc L (a4 :: a3 :: a2 :: a1 :: S) σ := by
  subst hμ
  refine ad_callS (d' := d - 1) (As := [a1, a2, a3, a4]) hcw hd hM (by omega) rfl hW rfl ?_
  rintro v σ' ⟨x, rfl, h⟩
  exact kk x σ' h
theorem ad_cs4f {a1 a2 a3 a4 : Value} (hμ : μ.1.cls = own) (hcw : ad_CS own idx μ' 4) (hd : decode μ.2.1 pc = .ok (.invokestatic idx, 3)) (hM : ad_Q g μ' (d - 1) [a1, a2, a3, a4] σ (fun x s => x = v ∧ s = σ1)) (hdd : 1 ≤ d) (hW : (S.map fun v => v.category).sum ≤ 8) (kk : ad_R g μ d Z (pc + 3) L (v :: S) σ1) : ad_R g μ d Z pc L (a4 :: a3 :: a2 :: a1 :: S) σ := by
  subst hμ
  refine ad_callS (d' := d - 1) (As := [a1, a2, a3, a4]) hcw hd hM (by omega) rfl hW rfl ?_
  rintro v σ' ⟨x, rfl, rfl, rfl⟩
  exact kk
theorem ad_cs4v {a1 a2 a3 a4 : Value} (hμ : μ.1.cls = own) (hcw : ad_CS own idx μ' 4) (hd : decode μ.2.1 pc = .ok (.invokestatic idx, 3)) (hM : ad_V g μ' (d - 1) [a1, a2, a3, a4] σ P0) (hdd : 1 ≤ d) (hW : (S.map fun v => v.category).sum ≤ 8) (kk : ∀ σ', P0 σ' → ad_R g μ d Z (pc + 3) L S σ') : ad_R g μ d Z pc L (a4 :: a3 :: a2 :: a1 :: S) σ := by
  subst hμ
  refine ad_callS (d' := d - 1) (As := [a1, a2, a3, a4]) hcw hd hM (by omega) rfl hW rfl ?_
  rintro v σ' ⟨rfl, h⟩
  exact kk σ' h
theorem ad_cs4w {a1 a2 a3 a4 : Value} (hμ : μ.1.cls = own) (hcw : ad_CS own idx μ' 4) (hd : decode μ.2.1 pc = .ok (.invokestatic idx, 3)) (hM : ad_V g μ' (d - 1) [a1, a2, a3, a4] σ (fun s => s = σ1)) (hdd : 1 ≤ d) (hW : (S.map fun v => v.category).sum ≤ 8) (kk : ad_R g μ d Z (pc + 3) L S σ1) : ad_R g μ d Z pc L (a4 :: a3 :: a2 :: a1 :: S) σ := by
  subst hμ
  refine ad_callS (d' := d - 1) (As := [a1, a2, a3, a4]) hcw hd hM (by omega) rfl hW rfl ?_
  rintro v σ' ⟨rfl, rfl⟩
  exact kk
theorem ad_mmax {a b : Int} (hμ : μ.1.cls = own) (hlk : Cond.methodLink own idx ⟨"java/lang/Math", "max", "(II)I"⟩ ∈ ad_TB) (hd : decode μ.2.1 pc = .ok (.invokestatic idx, 3)) (ha : ad_rng a) (hb : ad_rng b) (hdd : 1 ≤ d) (hW : (S.map fun v => v.category).sum ≤ 8) (kk : ad_R g μ d Z (pc + 3) L (ad_iv (max a b) :: S) σ) : ad_R g μ d Z pc L (ad_iv b :: ad_iv a :: S) σ := by
  subst hμ
  intro p e R s m args below meth c cells slots Q C hZ H locs ls hP hS hl
  have hroom := C.2.2.2.2.2.2.2.2.2.2.1
  have hcs := C.2.2.2.2.2.2.2.2.2.2.2
  have ok := C.2.2.2.2.1
  refine va_mmax C.1 C.2.1 (C.2.2.1.trans hl.1.symm) C.2.2.2.1 (ok _ hlk) (ok _ ad_mmaxS) (ok _ ad_mIn) (ok _ ad_mmaxC) (by omega) (by omega) hcs.1 hcs.2 hd ?_
  have ee : (if Int32.ofInt a < Int32.ofInt b then Int32.ofInt b else Int32.ofInt a) = Int32.ofInt (max a b) := by
    by_cases h : a < b
    · rw [if_pos ((ad_lt_h ha hb).mpr h)]
      congr 1; omega
    · rw [if_neg (fun q => h ((ad_lt_h ha hb).mp q))]
      congr 1; omega
  rw [ee]
  exact kk p e R s m args below meth c cells slots Q C hZ H locs ls hP hS hl
theorem ad_mmin {a b : Int} (hμ : μ.1.cls = own) (hlk : Cond.methodLink own idx ⟨"java/lang/Math", "min", "(II)I"⟩ ∈ ad_TB) (hd : decode μ.2.1 pc = .ok (.invokestatic idx, 3)) (ha : ad_rng a) (hb : ad_rng b) (hdd : 1 ≤ d) (hW : (S.map fun v => v.category).sum ≤ 8) (kk : ad_R g μ d Z (pc + 3) L (ad_iv (min a b) :: S) σ) : ad_R g μ d Z pc L (ad_iv b :: ad_iv a :: S) σ := by
  subst hμ
  intro p e R s m args below meth c cells slots Q C hZ H locs ls hP hS hl
  have hroom := C.2.2.2.2.2.2.2.2.2.2.1
  have hcs := C.2.2.2.2.2.2.2.2.2.2.2
  have ok := C.2.2.2.2.1
  refine va_mmin C.1 C.2.1 (C.2.2.1.trans hl.1.symm) C.2.2.2.1 (ok _ hlk) (ok _ ad_mminS) (ok _ ad_mIn) (ok _ ad_mminC) (by omega) (by omega) hcs.1 hcs.2 hd ?_
  have ee : (if Int32.ofInt a > Int32.ofInt b then Int32.ofInt b else Int32.ofInt a) = Int32.ofInt (min a b) := by
    by_cases h : a > b
    · rw [if_pos ((ad_lt_h hb ha).mpr h)]
      congr 1; omega
    · rw [if_neg (fun q => h ((ad_lt_h hb ha).mp q))]
      congr 1; omega
  rw [ee]
  exact kk p e R s m args below meth c cells slots Q C hZ H locs ls hP hS hl
/-- System.arraycopy of ints -/
theorem ad_copy {k0 i0 k1 i1 : Nat} {sp dp n : Int} (hμ : μ.1.cls = own) (hlk : Cond.methodLink own idx ⟨"java/lang/System", "arraycopy", "(Ljava/lang/Object;ILjava/lang/Object;II)V"⟩ ∈ ad_TB) (hd : decode μ.2.1 pc = .ok (.invokestatic idx, 3)) (hdd : 1 ≤ d) (hi0 : i0 < ad_cnt k0) (hi1 : i1 < ad_cnt k1) (hk0 : ¬ k0 < 9 ∧ k0 ≠ 18) (hk1 : ¬ k1 < 9 ∧ k1 ≠ 18) (hW : (S.map fun v => v.category).sum ≤ 8)
    (hs : 0 ≤ sp) (hd0 : 0 ≤ dp) (hn : 0 ≤ n) (h4 : sp + n ≤ (ad_len k0 i0 : Nat)) (h5 : dp + n ≤ (ad_len k1 i1 : Nat))
    (kk : ad_R g μ d Z (pc + 3) L S (ad_sr σ k1 i1 (fun c => if dp.toNat ≤ c ∧ c < dp.toNat + n.toNat then σ k0 i0 (sp.toNat + (c - dp.toNat)) else σ k1 i1 c))) : ad_R g μ d Z pc L (ad_iv n :: ad_iv dp :: ad_rf g k1 i1 :: ad_iv sp :: ad_rf g k0 i0 :: S) σ := by
  subst hμ
  intro p e R s m args below meth c cells slots Q C hZ H locs ls hP hS hl
  obtain ⟨q0, e0, -⟩ := ad_ws_at g σ hi0
  obtain ⟨q1, e1, e2⟩ := ad_ws_at g σ hi1
  rw [ad_ent_i g i0 _ hk0.1 hk0.2] at e0
  rw [ad_ent_i g i1 _ hk1.1 hk1.2] at e1
  have hD := ad_ws_D C.2.2.2.2.2.2.2.1 σ
  have l0 := ad_len_lt k0 i0
  have l1 := ad_len_lt k1 i1
  have cl : ∀ z : Int, 0 ≤ z → z < 1000 → (Int32.ofInt z).toNatClampNeg = z.toNat ∧ ¬ Int32.ofInt z < 0 := by
    intro z z0 z1
    have hr : ad_rng z := ⟨by omega, by omega⟩
    refine ⟨by unfold Int32.toNatClampNeg; rw [ad_toInt hr], fun h => ?_⟩
    have := (ad_lt_h hr ad_rng0).mp h
    omega
  obtain ⟨a1, a2⟩ := cl sp hs (by omega)
  obtain ⟨b1, b2⟩ := cl dp hd0 (by omega)
  obtain ⟨c1, c2⟩ := cl n hn (by omega)
  have hroom := C.2.2.2.2.2.2.2.2.2.2.1
  refine va_copyi C.1 C.2.1 (C.2.2.1.trans hl.1.symm) C.2.2.2.1 (C.2.2.2.2.1 _ hlk) (C.2.2.2.2.1 _ ad_nat) (C.2.2.2.2.1 _ ad_nst) (C.2.2.2.2.1 _ ad_nin) C.2.2.2.2.2.1 hP hD hS q0 q1 0 0 e0 e1 rfl rfl rfl a2 b2 c2 (by rw [a1, c1]; omega) (by rw [b1, c1]; omega) (fun _ _ => rfl) (by omega) (by
    have h0 : nativeFrameWords "java/lang/System" "arraycopy" 5 = 7 := by decide
    omega) hd (fun H1 locs1 hP1 _ hS1 => ?_)
  have ef : va_cpy (fun j => Int32.ofInt (σ k0 i0 j)) (fun j => Int32.ofInt (σ k1 i1 j)) (Int32.ofInt sp).toNatClampNeg (Int32.ofInt dp).toNatClampNeg (Int32.ofInt n).toNatClampNeg = fun j => Int32.ofInt ((fun c => if dp.toNat ≤ c ∧ c < dp.toNat + n.toNat then σ k0 i0 (sp.toNat + (c - dp.toNat)) else σ k1 i1 c) j) := by
    funext j
    rw [a1, b1, c1]
    unfold va_cpy
    by_cases h : dp.toNat ≤ j ∧ j < dp.toNat + n.toNat
    · simp [h]
    · simp only [h, if_false]
  rw [ef, ← ad_ent_i g i1 _ hk1.1 hk1.2, e2] at hP1
  exact kk p e R s m args below meth c cells slots Q C hZ H1 locs1 ls hP1 hS1 hl
end adcalls
