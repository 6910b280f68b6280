/-! ===== a frame while the memory is made: fields, arrays ===== -/
section nbrows2
variable {l : Launch} {D : va_G} {cI cV : ClassId} {μ : ad_MI} {d : Nat} {A : Nat → Prop} {nc ns : Nat} {Z : Nat → List (Option Value) → List Value → va_W → Nat → Nat → Prop} {pc : Nat} {L : List (Option Value)} {S : List Value} {ws : va_W} {k n : Nat}
theorem nb_get {own : String} {idx ci slot a : Nat} {C0 : String} {T : u_T} {N : Nat} {fs : List Value} (q0 : Nat) (hμ : μ.1.cls = own) (hF : ad_FL own idx ci slot C0 T N) (hd : decode μ.2.1 pc = .ok (.getfield idx, 3)) (he : ws[q0]? = some (a, .inr (ci, fs))) {v : Value} (hv : fs[slot]? = some v) (kk : nb_R l D cI cV μ d A nc ns Z (pc + 3) L (v :: S) ws k n) : nb_R l D cI cV μ d A nc ns Z pc L (.ref a :: S) ws k n := by
  subst hμ
  intro p e R s m args below meth c Q C hZ H locs ls hP hD hS hl
  obtain ⟨f1, f2, f3, f4, f5, f6, f7⟩ := hF
  exact va_get C.1 C.2.1 (Ts := ad_TB) C.2.2.2.2.1 f5 C.2.2.2.1 C.2.2.2.2.2.1 hP q0 he f1 slot f4 (C.2.2.2.2.1 _ f7) (fun x h => by rw [f6] at h; exact h) hv hd (kk p e R s m args below meth c Q C hZ H locs ls hP hD hS hl)
theorem nb_put {own : String} {idx ci slot a : Nat} {C0 : String} {T : u_T} {N : Nat} {fs : List Value} {v : Value} (q0 : Nat) (hμ : μ.1.cls = own) (hF : ad_FL own idx ci slot C0 T N) (ty0 : Nat → FieldType) (hty : ∀ k, k < N → parseFieldDescriptor (T k).2.2.1 = some (ty0 k)) (hnm : ∀ a, a < N → ∀ b, b < N → a ≠ b → (T a).2.1 ≠ (T b).2.1) (hfin : (T slot).2.2.2 = false ∨ (own = C0 ∧ μ.1.name = "<init>")) (he : ws[q0]? = some (a, .inr (ci, fs))) (hn : narrow (ty0 slot) v = v) (hfit : fits (ty0 slot) v = true) (hl0 : slot < fs.length) (hd : decode μ.2.1 pc = .ok (.putfield idx, 3)) {ws1 : va_W} (hw : ws.set q0 (a, .inr (ci, fs.set slot v)) = ws1)
    (kk : nb_R l D cI cV μ d A nc ns Z (pc + 3) L S ws1 k n) : nb_R l D cI cV μ d A nc ns Z pc L (v :: .ref a :: S) ws k n := by
  subst hμ
  subst hw
  intro p e R s m args below meth c Q C hZ H locs ls hP hD hS hl
  obtain ⟨f1, f2, f3, f4, f5, f6, f7⟩ := hF
  cases hf : (T slot).2.2.2 with
  | false => exact va_put C.1 C.2.1 (Ts := ad_TB) C.2.2.2.2.1 f5 ty0 hty hnm C.2.2.2.1 C.2.2.2.2.2.1 hP hD hS q0 he f1 slot f4 (C.2.2.2.2.1 _ f7) (fun x h => by rw [f6] at h; exact h) hf (hty slot f4) hn hfit hl0 hd (fun H1 locs1 hP1 hD1 hS1 => kk p e R s m args below meth c Q C hZ H1 locs1 ls hP1 hD1 hS1 hl)
  | true =>
    have hg := hfin.resolve_left (fun z => by rw [hf] at z; cases z)
    exact va_putF C.1 C.2.1 (Ts := ad_TB) C.2.2.2.2.1 f5 ty0 hty hnm C.2.2.2.1 C.2.2.2.2.2.1 hP hD hS q0 he f1 slot f4 (C.2.2.2.2.1 _ f7) (fun x h => by rw [f6] at h; exact h) hf (C.2.2.2.2.2.2.1 hg.2) (f6.trans hg.1.symm) (hty slot f4) hn hfit hl0 hd (fun H1 locs1 hP1 hD1 hS1 => kk p e R s m args below meth c Q C hZ H1 locs1 ls hP1 hD1 hS1 hl)
theorem nb_iast {a N : Nat} {f : Nat → Int32} {i x : Int} (q0 : Nat) (hd : decode μ.2.1 pc = .ok (.iastore, 1)) (he : ws[q0]? = some (a, .inl (cI, N, .inl f))) (h0 : 0 ≤ i) (h1 : i < (N : Int)) (hN : N < 1000) {ws1 : va_W} (hw : ws.set q0 (a, .inl (cI, N, .inl (upd f i.toNat (Int32.ofInt x)))) = ws1) (kk : nb_R l D cI cV μ d A nc ns Z (pc + 1) L S ws1 k n) : nb_R l D cI cV μ d A nc ns Z pc L (ad_iv x :: ad_iv i :: .ref a :: S) ws k n := by
  subst hw
  intro p e R s m args below meth c Q C hZ H locs ls hP hD hS hl
  obtain ⟨g1, g2⟩ := ad_ix h0 h1 hN
  refine va_iast C.1 C.2.1 C.2.2.2.2.2.1 hP hD hS q0 0 he rfl g1 hd (fun H1 locs1 hP1 hD1 hS1 => ?_)
  rw [g2] at hP1 hD1
  exact kk p e R s m args below meth c Q C hZ H1 locs1 ls hP1 hD1 hS1 hl
theorem nb_newq {y : Int} {idx N : Nat} (hd : decode μ.2.1 pc = .ok (.anewarray idx, 3)) (hcl : Cond.classLink μ.1.cls idx RX6 ∈ ad_TB) (hy : y = (N : Int)) (hN : N ≤ 1000) (hk : k + 1 ≤ nc) (hn : n + N ≤ ns) (kk : ∀ q : Nat, nb_R l D cI cV μ d A nc ns Z (pc + 3) L (.ref q :: S) (ws ++ [(q, .inl (cV, N, .inr (.inr (.inr (.inr (fun _ => none))))))]) (k + 1) (n + N)) : nb_R l D cI cV μ d A nc ns Z pc L (ad_iv y :: S) ws k n := by
  intro p e R s m args below meth c Q C hZ H locs ls hP hD hS hl
  subst hy
  have hc := C.2.2.2.2.2.2.2.2.2.2.1
  have hr : ad_rng (N : Int) := ⟨by omega, by omega⟩
  have ht := ad_toInt hr
  refine va_newq (n := Int32.ofInt (N : Int)) (N' := N) C.1 C.2.1 C.2.2.2.1 (C.2.2.2.2.1 _ hcl) C.2.2.2.2.2.2.2.1.2 C.2.2.2.2.2.1 hP hD hS C.2.2.2.2.2.2.2.2.2.2.2 (fun h => by rw [Int32.lt_iff_toInt_lt, ht] at h; have : (0 : Int32).toInt = 0 := rfl; omega) (by unfold Int32.toNatClampNeg; rw [ht]; omega) (by omega) (by omega) (by omega) hd (fun q cA H1 hK1 hP1 hD1 hS1 => ?_)
  obtain ⟨_, _, _, _, _, e1⟩ := (hK1.2 2 (cA, .object RX6) rfl).2
  obtain ⟨_, _, _, _, _, e2⟩ := (C.2.2.2.2.2.1.2 1 (cV, .object RX6) rfl).2
  have hcA : cA = cV := Option.some.inj (e1.symm.trans e2)
  subst hcA
  exact kk q p e R s m args below meth c Q C hZ H1 locs ls hP1 hD1 hS1 hl
theorem nb_astq {a N v ci : Nat} {vs : List Value} {T : u_T} {N6 : Nat} {f : Nat → Option Nat} {i : Int} (q0 qk : Nat) (hd : decode μ.2.1 pc = .ok (.aastore, 1)) (he : ws[q0]? = some (a, .inl (cV, N, .inr (.inr (.inr (.inr f)))))) (hv : ws[qk]? = some (v, .inr (ci, vs))) (hc : vwCl[ci]? = some (RX6, T, N6)) (h0 : 0 ≤ i) (h1 : i < (N : Int)) (hN : N < 1000) {ws1 : va_W} (hw : ws.set q0 (a, .inl (cV, N, .inr (.inr (.inr (.inr (va_up f i.toNat (some v))))))) = ws1) (kk : nb_R l D cI cV μ d A nc ns Z (pc + 1) L S ws1 k n) : nb_R l D cI cV μ d A nc ns Z pc L (.ref v :: ad_iv i :: .ref a :: S) ws k n := by
  subst hw
  intro p e R s m args below meth c Q C hZ H locs ls hP hD hS hl
  obtain ⟨g1, g2⟩ := ad_ix h0 h1 hN
  refine va_astq (r := (RX6, T, N6)) C.1 C.2.1 C.2.2.2.2.2.1 hP hD hS q0 1 qk ci he rfl hv hc g1 hd (fun H1 locs1 hP1 hD1 hS1 => ?_)
  rw [g2] at hP1 hD1
  exact kk p e R s m args below meth c Q C hZ H1 locs1 ls hP1 hD1 hS1 hl
theorem nb_mmax {a b : Int} {own : String} {idx : Nat} (hμ : μ.1.cls = own) (hlk : Cond.methodLink own idx ⟨"java/lang/Math", "max", "(II)I"⟩ ∈ ad_TB) (hd : decode μ.2.1 pc = .ok (.invokestatic idx, 3)) (ha : ad_rng a) (hb : ad_rng b) (hdd : 1 ≤ d) (hk : k ≤ nc) (hn : n ≤ ns) (hW : (S.map fun v => v.category).sum ≤ 8) (kk : nb_R l D cI cV μ d A nc ns Z (pc + 3) L (ad_iv (max a b) :: S) ws k n) : nb_R l D cI cV μ d A nc ns Z pc L (ad_iv b :: ad_iv a :: S) ws k n := by
  subst hμ
  intro p e R s m args below meth c Q C hZ H locs ls hP hD hS hl
  have hroom := C.2.2.2.2.2.2.2.2.2.1
  have hcs := C.2.2.2.2.2.2.2.2.2.2.1
  have ok := C.2.2.2.2.1
  refine va_mmax C.1 C.2.1 (C.2.2.1.trans hl.1.symm) C.2.2.2.1 (ok _ hlk) (ok _ ad_mmaxS) (ok _ ad_mIn) (ok _ ad_mmaxC) (by omega) (by omega) (by omega) (by omega) hd ?_
  have ee : (if Int32.ofInt a < Int32.ofInt b then Int32.ofInt b else Int32.ofInt a) = Int32.ofInt (max a b) := by
    by_cases h : a < b
    · rw [if_pos ((ad_lt_h ha hb).mpr h)]
      congr 1; omega
    · rw [if_neg (fun q => h ((ad_lt_h ha hb).mp q))]
      congr 1; omega
  rw [ee]
  exact kk p e R s m args below meth c Q C hZ H locs ls hP hD hS hl
end nbrows2
/-! ===== the words of the constructors ===== -/
set_option maxRecDepth 100000 in
theorem nw_oi : Cond.instanceMethod Lib.objectInit ∈ ad_TB := ad_in 84 (by decide +kernel) rfl
set_option maxRecDepth 100000 in
theorem nw_oc : Cond.code Lib.objectInit ⟨#[0xb1]⟩ 1 none ∈ ad_TB := ad_inC1 24 rfl
theorem nw_ai : Cond.arrayClass (newarray.typeOf .int) ∈ ad_TB := ad_in 121 (by decide +kernel) rfl
theorem nl_X7_obj : Cond.methodLink RX7 1 Lib.objectInit ∈ ad_TB := ad_in 83 (by decide +kernel) rfl
theorem ni_X7 : (Cond.instanceMethod mX7_init.1 ∈ ad_TB ∧ Cond.code mX7_init.1 mX7_init.2.1 mX7_init.2.2.1 mX7_init.2.2.2 ∈ ad_TB ∧ Cond.initialized mX7_init.1.cls ∈ ad_TB) ∧ Cond.instantiable RX7 10 ∈ ad_TB ∧ Cond.initialized RX7 ∈ ad_TB := ⟨⟨ad_in 81 (by decide +kernel) rfl, ad_inC1 21 rfl, ad_in 62 (by decide +kernel) rfl⟩, ad_in 79 (by decide +kernel) rfl, ad_in 62 (by decide +kernel) rfl⟩
theorem nl_X8_obj : Cond.methodLink RX8 1 Lib.objectInit ∈ ad_TB := ad_in 923 (by decide +kernel) rfl
theorem ni_X8 : (Cond.instanceMethod mX8_init.1 ∈ ad_TB ∧ Cond.code mX8_init.1 mX8_init.2.1 mX8_init.2.2.1 mX8_init.2.2.2 ∈ ad_TB ∧ Cond.initialized mX8_init.1.cls ∈ ad_TB) ∧ Cond.instantiable RX8 21 ∈ ad_TB ∧ Cond.initialized RX8 ∈ ad_TB := ⟨⟨ad_in 921 (by decide +kernel) rfl, ad_inC4 141 rfl, ad_in 71 (by decide +kernel) rfl⟩, ad_in 919 (by decide +kernel) rfl, ad_in 71 (by decide +kernel) rfl⟩
theorem nl_X0_obj : Cond.methodLink RX0 3 Lib.objectInit ∈ ad_TB := ad_in 127 (by decide +kernel) rfl
theorem ni_X0 : (Cond.instanceMethod mX0_init.1 ∈ ad_TB ∧ Cond.code mX0_init.1 mX0_init.2.1 mX0_init.2.2.1 mX0_init.2.2.2 ∈ ad_TB ∧ Cond.initialized mX0_init.1.cls ∈ ad_TB) ∧ Cond.instantiable RX0 4 ∈ ad_TB ∧ Cond.initialized RX0 ∈ ad_TB := ⟨⟨ad_in 125 (by decide +kernel) rfl, ad_inC1 65 rfl, ad_in 67 (by decide +kernel) rfl⟩, ad_in 123 (by decide +kernel) rfl, ad_in 67 (by decide +kernel) rfl⟩
theorem nl_X1_obj : Cond.methodLink RX1 3 Lib.objectInit ∈ ad_TB := ad_in 300 (by decide +kernel) rfl
theorem ni_X1 : (Cond.instanceMethod mX1_init.1 ∈ ad_TB ∧ Cond.code mX1_init.1 mX1_init.2.1 mX1_init.2.2.1 mX1_init.2.2.2 ∈ ad_TB ∧ Cond.initialized mX1_init.1.cls ∈ ad_TB) ∧ Cond.instantiable RX1 1 ∈ ad_TB ∧ Cond.initialized RX1 ∈ ad_TB := ⟨⟨ad_in 298 (by decide +kernel) rfl, ad_inC1 238 rfl, ad_in 70 (by decide +kernel) rfl⟩, ad_in 296 (by decide +kernel) rfl, ad_in 70 (by decide +kernel) rfl⟩
theorem nl_X2_obj : Cond.methodLink RX2 3 Lib.objectInit ∈ ad_TB := ad_in 104 (by decide +kernel) rfl
theorem ni_X2 : (Cond.instanceMethod mX2_init.1 ∈ ad_TB ∧ Cond.code mX2_init.1 mX2_init.2.1 mX2_init.2.2.1 mX2_init.2.2.2 ∈ ad_TB ∧ Cond.initialized mX2_init.1.cls ∈ ad_TB) ∧ Cond.instantiable RX2 2 ∈ ad_TB ∧ Cond.initialized RX2 ∈ ad_TB := ⟨⟨ad_in 102 (by decide +kernel) rfl, ad_inC1 42 rfl, ad_in 65 (by decide +kernel) rfl⟩, ad_in 100 (by decide +kernel) rfl, ad_in 65 (by decide +kernel) rfl⟩
theorem nl_X3_obj : Cond.methodLink RX3 3 Lib.objectInit ∈ ad_TB := ad_in 229 (by decide +kernel) rfl
theorem ni_X3 : (Cond.instanceMethod mX3_init.1 ∈ ad_TB ∧ Cond.code mX3_init.1 mX3_init.2.1 mX3_init.2.2.1 mX3_init.2.2.2 ∈ ad_TB ∧ Cond.initialized mX3_init.1.cls ∈ ad_TB) ∧ Cond.instantiable RX3 13 ∈ ad_TB ∧ Cond.initialized RX3 ∈ ad_TB := ⟨⟨ad_in 227 (by decide +kernel) rfl, ad_inC1 167 rfl, ad_in 68 (by decide +kernel) rfl⟩, ad_in 225 (by decide +kernel) rfl, ad_in 68 (by decide +kernel) rfl⟩
theorem nl_X4_obj : Cond.methodLink RX4 3 Lib.objectInit ∈ ad_TB := ad_in 91 (by decide +kernel) rfl
theorem ni_X4 : (Cond.instanceMethod mX4_init.1 ∈ ad_TB ∧ Cond.code mX4_init.1 mX4_init.2.1 mX4_init.2.2.1 mX4_init.2.2.2 ∈ ad_TB ∧ Cond.initialized mX4_init.1.cls ∈ ad_TB) ∧ Cond.instantiable RX4 8 ∈ ad_TB ∧ Cond.initialized RX4 ∈ ad_TB := ⟨⟨ad_in 89 (by decide +kernel) rfl, ad_inC1 29 rfl, ad_in 63 (by decide +kernel) rfl⟩, ad_in 87 (by decide +kernel) rfl, ad_in 63 (by decide +kernel) rfl⟩
theorem nl_X5_obj : Cond.methodLink RX5 3 Lib.objectInit ∈ ad_TB := ad_in 282 (by decide +kernel) rfl
theorem ni_X5 : (Cond.instanceMethod mX5_init.1 ∈ ad_TB ∧ Cond.code mX5_init.1 mX5_init.2.1 mX5_init.2.2.1 mX5_init.2.2.2 ∈ ad_TB ∧ Cond.initialized mX5_init.1.cls ∈ ad_TB) ∧ Cond.instantiable RX5 2 ∈ ad_TB ∧ Cond.initialized RX5 ∈ ad_TB := ⟨⟨ad_in 280 (by decide +kernel) rfl, ad_inC1 220 rfl, ad_in 69 (by decide +kernel) rfl⟩, ad_in 278 (by decide +kernel) rfl, ad_in 69 (by decide +kernel) rfl⟩
theorem nl_X6_obj : Cond.methodLink RX6 3 Lib.objectInit ∈ ad_TB := ad_in 98 (by decide +kernel) rfl
theorem ni_X6 : (Cond.instanceMethod mX6_init.1 ∈ ad_TB ∧ Cond.code mX6_init.1 mX6_init.2.1 mX6_init.2.2.1 mX6_init.2.2.2 ∈ ad_TB ∧ Cond.initialized mX6_init.1.cls ∈ ad_TB) ∧ Cond.instantiable RX6 7 ∈ ad_TB ∧ Cond.initialized RX6 ∈ ad_TB := ⟨⟨ad_in 96 (by decide +kernel) rfl, ad_inC1 36 rfl, ad_in 64 (by decide +kernel) rfl⟩, ad_in 94 (by decide +kernel) rfl, ad_in 64 (by decide +kernel) rfl⟩
theorem nc_X7_7 : Cond.classLink RX7 7 RX4 ∈ ad_TB := ad_in 86 (by decide +kernel) rfl
theorem nm_X7_9 : Cond.methodLink RX7 9 mX4_init.1 ∈ ad_TB := ad_in 88 (by decide +kernel) rfl
theorem nc_X7_22 : Cond.classLink RX7 22 RX3 ∈ ad_TB := ad_in 224 (by decide +kernel) rfl
theorem nm_X7_24 : Cond.methodLink RX7 24 mX3_init.1 ∈ ad_TB := ad_in 226 (by decide +kernel) rfl
theorem nc_X7_29 : Cond.classLink RX7 29 RX0 ∈ ad_TB := ad_in 275 (by decide +kernel) rfl
theorem nm_X7_31 : Cond.methodLink RX7 31 mX0_init.1 ∈ ad_TB := ad_in 276 (by decide +kernel) rfl
theorem nc_X7_36 : Cond.classLink RX7 36 RX5 ∈ ad_TB := ad_in 277 (by decide +kernel) rfl
theorem nm_X7_38 : Cond.methodLink RX7 38 mX5_init.1 ∈ ad_TB := ad_in 279 (by decide +kernel) rfl
theorem nc_X7_43 : Cond.classLink RX7 43 RX2 ∈ ad_TB := ad_in 293 (by decide +kernel) rfl
theorem nm_X7_45 : Cond.methodLink RX7 45 mX2_init.1 ∈ ad_TB := ad_in 294 (by decide +kernel) rfl
theorem nc_X7_52 : Cond.classLink RX7 52 RX1 ∈ ad_TB := ad_in 295 (by decide +kernel) rfl
theorem nm_X7_54 : Cond.methodLink RX7 54 mX1_init.1 ∈ ad_TB := ad_in 297 (by decide +kernel) rfl
theorem nc_X3_24 : Cond.classLink RX3 24 RX0 ∈ ad_TB := ad_in 230 (by decide +kernel) rfl
theorem nm_X3_26 : Cond.methodLink RX3 26 mX0_init.1 ∈ ad_TB := ad_in 231 (by decide +kernel) rfl
theorem nc_X4_9 : Cond.classLink RX4 9 RX6 ∈ ad_TB := ad_in 92 (by decide +kernel) rfl
theorem nm_X4_17 : Cond.methodLink RX4 17 mX6_init.1 ∈ ad_TB := ad_in 95 (by decide +kernel) rfl
theorem nc_X4_22 : Cond.classLink RX4 22 RX2 ∈ ad_TB := ad_in 183 (by decide +kernel) rfl
theorem nm_X4_24 : Cond.methodLink RX4 24 mX2_init.1 ∈ ad_TB := ad_in 184 (by decide +kernel) rfl
theorem nc_X5_9 : Cond.classLink RX5 9 RX2 ∈ ad_TB := ad_in 283 (by decide +kernel) rfl
theorem nm_X5_11 : Cond.methodLink RX5 11 mX2_init.1 ∈ ad_TB := ad_in 284 (by decide +kernel) rfl
theorem nc_X6_9 : Cond.classLink RX6 9 RX2 ∈ ad_TB := ad_in 99 (by decide +kernel) rfl
theorem nm_X6_11 : Cond.methodLink RX6 11 mX2_init.1 ∈ ad_TB := ad_in 101 (by decide +kernel) rfl
theorem nc_X6_20 : Cond.classLink RX6 20 RX0 ∈ ad_TB := ad_in 122 (by decide +kernel) rfl
theorem nm_X6_22 : Cond.methodLink RX6 22 mX0_init.1 ∈ ad_TB := ad_in 124 (by decide +kernel) rfl
theorem nc_L_7 : Cond.classLink RL 7 RX7 ∈ ad_TB := ad_in 78 (by decide +kernel) rfl
theorem nm_L_9 : Cond.methodLink RL 9 mX7_init.1 ∈ ad_TB := ad_in 80 (by decide +kernel) rfl
theorem nc_L_10 : Cond.classLink RL 10 RX8 ∈ ad_TB := ad_in 918 (by decide +kernel) rfl
theorem nm_L_12 : Cond.methodLink RL 12 mX8_init.1 ∈ ad_TB := ad_in 920 (by decide +kernel) rfl
def df0 : List Value := [.null, .null, .int 0, .int 0]
theorem df0_ok : ∀ j, j < 4 → defaultValue (tyX0 j) = vp_V df0 j := fun j hj => by
  rcases (show j = 0 ∨ j = 1 ∨ j = 2 ∨ j = 3 by omega) with rfl | rfl | rfl | rfl <;> rfl
def df1 : List Value := [.int 0]
theorem df1_ok : ∀ j, j < 1 → defaultValue (tyX1 j) = vp_V df1 j := fun j hj => by
  rcases (show j = 0 by omega) with rfl <;> rfl
def df2 : List Value := [.null, .int 0]
theorem df2_ok : ∀ j, j < 2 → defaultValue (tyX2 j) = vp_V df2 j := fun j hj => by
  rcases (show j = 0 ∨ j = 1 by omega) with rfl | rfl <;> rfl
def df3 : List Value := [.null, .null, .null, .null, .null, .null, .int 0, .int 0, .int 0, .int 0, .int 0, .int 0, .int 0]
theorem df3_ok : ∀ j, j < 13 → defaultValue (tyX3 j) = vp_V df3 j := fun j hj => by
  rcases (show j = 0 ∨ j = 1 ∨ j = 2 ∨ j = 3 ∨ j = 4 ∨ j = 5 ∨ j = 6 ∨ j = 7 ∨ j = 8 ∨ j = 9 ∨ j = 10 ∨ j = 11 ∨ j = 12 by omega) with rfl | rfl | rfl | rfl | rfl | rfl | rfl | rfl | rfl | rfl | rfl | rfl | rfl <;> rfl
def df4 : List Value := [.null, .null, .null, .int 0, .int 0, .int 0, .int 0, .int 0]
theorem df4_ok : ∀ j, j < 8 → defaultValue (tyX4 j) = vp_V df4 j := fun j hj => by
  rcases (show j = 0 ∨ j = 1 ∨ j = 2 ∨ j = 3 ∨ j = 4 ∨ j = 5 ∨ j = 6 ∨ j = 7 by omega) with rfl | rfl | rfl | rfl | rfl | rfl | rfl | rfl <;> rfl
def df5 : List Value := [.null, .null]
theorem df5_ok : ∀ j, j < 2 → defaultValue (tyX5 j) = vp_V df5 j := fun j hj => by
  rcases (show j = 0 ∨ j = 1 by omega) with rfl | rfl <;> rfl
def df6 : List Value := [.null, .null, .int 0, .int 0, .int 0, .int 0, .int 0]
theorem df6_ok : ∀ j, j < 7 → defaultValue (tyX6 j) = vp_V df6 j := fun j hj => by
  rcases (show j = 0 ∨ j = 1 ∨ j = 2 ∨ j = 3 ∨ j = 4 ∨ j = 5 ∨ j = 6 by omega) with rfl | rfl | rfl | rfl | rfl | rfl | rfl <;> rfl
def df7 : List Value := [.null, .null, .null, .null, .null, .null, .null, .null, .null, .int 0]
theorem df7_ok : ∀ j, j < 10 → defaultValue (tyX7 j) = vp_V df7 j := fun j hj => by
  rcases (show j = 0 ∨ j = 1 ∨ j = 2 ∨ j = 3 ∨ j = 4 ∨ j = 5 ∨ j = 6 ∨ j = 7 ∨ j = 8 ∨ j = 9 by omega) with rfl | rfl | rfl | rfl | rfl | rfl | rfl | rfl | rfl | rfl <;> rfl
def df8 : List Value := [.null, .null, .null, .null, .null, .null, .null, .null, .null, .null, .null, .null, .null, .int 0, .int 0, .int 0, .int 0, .int 0, .int 0, .int 0, .int 0]
theorem df8_ok : ∀ j, j < 21 → defaultValue (tyX8 j) = vp_V df8 j := fun j hj => by
  rcases (show j = 0 ∨ j = 1 ∨ j = 2 ∨ j = 3 ∨ j = 4 ∨ j = 5 ∨ j = 6 ∨ j = 7 ∨ j = 8 ∨ j = 9 ∨ j = 10 ∨ j = 11 ∨ j = 12 ∨ j = 13 ∨ j = 14 ∨ j = 15 ∨ j = 16 ∨ j = 17 ∨ j = 18 ∨ j = 19 ∨ j = 20 by omega) with rfl | rfl | rfl | rfl | rfl | rfl | rfl | rfl | rfl | rfl | rfl | rfl | rfl | rfl | rfl | rfl | rfl | rfl | rfl | rfl | rfl <;> rfl
