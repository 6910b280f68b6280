/-! ===== the law's own frame: the same rows, the script beside the memory ===== -/
def ad_RL (g : ad_G) (μ : ad_MI) (d : Nat) (X : State → Prop) (Z : Nat → List Value → ad_Mem → Prop) (pc : Nat) (L : List (Option Value)) (S : List Value) (σ : ad_Mem) : Prop :=
  ∀ (p : Program) (e : Env) (R : Room) (s : State) (m : MethodId) (args : Array Value) (below : List Frame) (meth : Method) (c : Code) (cells slots : Nat) (Q : State → Prop), ad_Ctx g μ d p R s m args meth c cells slots → X s →
    (∀ (pc' : Nat) (S' : List Value) (σ' : ad_Mem) (H' : Heap) (locs' : List Loc) (ls' : Array Slot), Z pc' S' σ' → va_P g.2.2.1 vwCl (ad_ws g σ') H' → va_S (ad_A g) s.heap H' locs' → W p g.1 e R s m args below meth c H' locs' cells slots Q (F0 m pc' ls' S')) →
    ∀ (H : Heap) (locs : List Loc) (ls : Array Slot), va_P g.2.2.1 vwCl (ad_ws g σ) H → va_S (ad_A g) s.heap H locs → ad_ls ls μ.2.2.1 L → W p g.1 e R s m args below meth c H locs cells slots Q (F0 m pc ls S)
def al_X (g : ad_G) (b n : Nat) (xs : Nat → Int32) (s : State) : Prop := va_X b n xs s s.heap ∧ b < s.heap.size ∧ ¬ ad_A g b
section alrows
variable {g : ad_G} {μ : ad_MI} {d : Nat} {X : State → Prop} {Z : Nat → List Value → ad_Mem → Prop} {pc : Nat} {L : List (Option Value)} {S : List Value} {σ : ad_Mem}
theorem al_stop (h : Z pc S σ) : ad_RL g μ d X Z pc L S σ := by
  intro p e R s m args below meth c cells slots Q C hX hZ H locs ls hP hS hl
  exact hZ _ _ _ _ _ _ h hP hS
theorem al_iconst {n : Int} (hd : decode μ.2.1 pc = .ok (.iconst n, 1)) (k : ad_RL g μ d X Z (pc + 1) L (ad_iv n :: S) σ) : ad_RL g μ d X Z pc L S σ := by
  intro p e R s m args below meth c cells slots Q C hX hZ H locs ls hP hS hl
  exact lv_iconst C.1 C.2.1 hd rfl (k p e R s m args below meth c cells slots Q C hX hZ H locs ls hP hS hl)
theorem al_bipush {n : Int} (hd : decode μ.2.1 pc = .ok (.bipush n, 2)) (hn : (Int8.ofInt n).toInt32 = Int32.ofInt n) (k : ad_RL g μ d X Z (pc + 2) L (ad_iv n :: S) σ) : ad_RL g μ d X Z pc L S σ := by
  intro p e R s m args below meth c cells slots Q C hX hZ H locs ls hP hS hl
  exact lv_bipush C.1 C.2.1 hd hn (k p e R s m args below meth c cells slots Q C hX hZ H locs ls hP hS hl)
theorem al_iload_n {n : Fin 4} {x : Int} (hd : decode μ.2.1 pc = .ok (.iload_n n, 1)) (hv : ad_at L n.val = some (ad_iv x)) (k : ad_RL g μ d X Z (pc + 1) L (ad_iv x :: S) σ) : ad_RL g μ d X Z pc L S σ := by
  intro p e R s m args below meth c cells slots Q C hX hZ H locs ls hP hS hl
  exact lv_iload_n C.1 C.2.1 hd rfl (hl.2.2 _ _ hv) (k p e R s m args below meth c cells slots Q C hX hZ H locs ls hP hS hl)
theorem al_aload_n {n : Fin 4} {x : Nat} (hd : decode μ.2.1 pc = .ok (.aload_n n, 1)) (hv : ad_at L n.val = some (.ref x)) (k : ad_RL g μ d X Z (pc + 1) L (.ref x :: S) σ) : ad_RL g μ d X Z pc L S σ := by
  intro p e R s m args below meth c cells slots Q C hX hZ H locs ls hP hS hl
  exact lv_aload_n C.1 C.2.1 hd rfl (hl.2.2 _ _ hv) (k p e R s m args below meth c cells slots Q C hX hZ H locs ls hP hS hl)
theorem al_istore_n {n : Fin 4} {x : Int} (hd : decode μ.2.1 pc = .ok (.istore_n n, 1)) (hn : n.val < μ.2.2.1) (hok : ad_ok1 L n.val = true) {L1 : List (Option Value)} (hL : ad_set L n.val (some (ad_iv x)) = L1) (k : ad_RL g μ d X Z (pc + 1) L1 S σ) : ad_RL g μ d X Z pc L (ad_iv x :: S) σ := by
  intro p e R s m args below meth c cells slots Q C hX hZ H locs ls hP hS hl
  subst hL
  obtain ⟨l, h1, h2⟩ := hl.one
  exact lv_istore_n C.1 C.2.1 hd rfl h1 hn rfl (fun ls1 h3 => k p e R s m args below meth c cells slots Q C hX hZ H locs ls1 hP hS (ad_ls.st1 h2 hok h3))
theorem al_iinc {n : Nat} {x t : Int} (hd : decode μ.2.1 pc = .ok (.iinc n t, 3)) (hv : ad_at L n = some (ad_iv x)) (hn : n < μ.2.2.1) (hok : ad_ok1 L n = true) {L1 : List (Option Value)} (hL : ad_set L n (some (ad_iv (x + t))) = L1) (k : ad_RL g μ d X Z (pc + 3) L1 S σ) : ad_RL g μ d X Z pc L S σ := by
  intro p e R s m args below meth c cells slots Q C hX hZ H locs ls hP hS hl
  subst hL
  obtain ⟨l, h1, h2⟩ := hl.one
  obtain ⟨j, hj⟩ := List.getElem?_of_mem ((h2 n _).mpr ⟨hv, ad_at_lt hv⟩)
  exact lv_iinc C.1 C.2.1 hd h1 hj (ad_iadd_h x t) hn rfl (fun ls1 h3 => k p e R s m args below meth c cells slots Q C hX hZ H locs ls1 hP hS (ad_ls.st1 h2 hok h3))
theorem al_iadd {a b : Int} (hd : decode μ.2.1 pc = .ok (.iadd, 1)) (k : ad_RL g μ d X Z (pc + 1) L (ad_iv (a + b) :: S) σ) : ad_RL g μ d X Z pc L (ad_iv b :: ad_iv a :: S) σ := by
  intro p e R s m args below meth c cells slots Q C hX hZ H locs ls hP hS hl
  refine lv_iadd C.1 C.2.1 hd ?_
  rw [ad_iadd_h]
  exact k p e R s m args below meth c cells slots Q C hX hZ H locs ls hP hS hl
theorem al_isub {a b : Int} (hd : decode μ.2.1 pc = .ok (.isub, 1)) (k : ad_RL g μ d X Z (pc + 1) L (ad_iv (a - b) :: S) σ) : ad_RL g μ d X Z pc L (ad_iv b :: ad_iv a :: S) σ := by
  intro p e R s m args below meth c cells slots Q C hX hZ H locs ls hP hS hl
  refine lv_isub C.1 C.2.1 hd ?_
  rw [ad_isub_h]
  exact k p e R s m args below meth c cells slots Q C hX hZ H locs ls hP hS hl
theorem al_iand {a b : Int} (hd : decode μ.2.1 pc = .ok (.iand, 1)) (k : ad_RL g μ d X Z (pc + 1) L (ad_iv (ad_and a b) :: S) σ) : ad_RL g μ d X Z pc L (ad_iv b :: ad_iv a :: S) σ := by
  intro p e R s m args below meth c cells slots Q C hX hZ H locs ls hP hS hl
  have k2 := k p e R s m args below meth c cells slots Q C hX hZ H locs ls hP hS hl
  unfold ad_and at k2
  rw [ad_iv_to] at k2
  exact lv_iand C.1 C.2.1 hd k2
theorem al_goto {off : Int} (tgt : Nat) (hd : decode μ.2.1 pc = .ok (.goto off, 3)) (ht : (pc : Int) + off = (tgt : Int)) (k : ad_RL g μ d X Z tgt L S σ) : ad_RL g μ d X Z pc L S σ := by
  intro p e R s m args below meth c cells slots Q C hX hZ H locs ls hP hS hl
  exact lv_goto C.1 C.2.1 hd ht (k p e R s m args below meth c cells slots Q C hX hZ H locs ls hP hS hl)
theorem al_icmp_gt {a b off : Int} (tgt : Nat) (hd : decode μ.2.1 pc = .ok (.if_icmp .gt off, 3)) (ht : (pc : Int) + off = (tgt : Int)) (ha : ad_rng a) (hb : ad_rng b) (kt : b < a → ad_RL g μ d X Z tgt L S σ) (kf : ¬ (b < a) → ad_RL g μ d X Z (pc + 3) L S σ) : ad_RL g μ d X Z pc L (ad_iv b :: ad_iv a :: S) σ := by
  intro p e R s m args below meth c cells slots Q C hX hZ H locs ls hP hS hl
  have hh := ad_lt_h hb ha
  exact lv_icmp_gt C.1 C.2.1 hd ht (fun h => kt (hh.mp h) p e R s m args below meth c cells slots Q C hX hZ H locs ls hP hS hl) (fun h => kf (fun q => h (hh.mpr q)) p e R s m args below meth c cells slots Q C hX hZ H locs ls hP hS hl)
theorem al_if_eq {a off : Int} (tgt : Nat) (hd : decode μ.2.1 pc = .ok (.ifCond .eq off, 3)) (ht : (pc : Int) + off = (tgt : Int)) (ha : ad_rng a) (kt : a = 0 → ad_RL g μ d X Z tgt L S σ) (kf : ¬ (a = 0) → ad_RL g μ d X Z (pc + 3) L S σ) : ad_RL g μ d X Z pc L (ad_iv a :: S) σ := by
  intro p e R s m args below meth c cells slots Q C hX hZ H locs ls hP hS hl
  have hh := ad_eq_h ha ad_rng0
  exact lv_if_eq C.1 C.2.1 hd ht (fun h => kt (hh.mp h) p e R s m args below meth c cells slots Q C hX hZ H locs ls hP hS hl) (fun h => kf (fun q => h (hh.mpr q)) p e R s m args below meth c cells slots Q C hX hZ H locs ls hP hS hl)
theorem al_lcmp_same {a : Int} (hd : decode μ.2.1 pc = .ok (.lcmp, 1)) (k : ad_RL g μ d X Z (pc + 1) L (ad_iv 0 :: S) σ) : ad_RL g μ d X Z pc L (ad_lv a :: ad_lv a :: S) σ := by
  intro p e R s m args below meth c cells slots Q C hX hZ H locs ls hP hS hl
  refine W.lcmp C.1 C.2.1 hd ?_
  rw [ad_cmp_same]
  exact k p e R s m args below meth c cells slots Q C hX hZ H locs ls hP hS hl
theorem al_table {dflt lo hi : Int} {offs : Array Int} {len : Nat} {a : Int} (hd : decode μ.2.1 pc = .ok (.tableswitch dflt lo hi offs, len)) (ha : ad_rng a) (tgt : Nat) (ht : (if a < lo ∨ hi < a then some ((pc : Int) + dflt) else (offs[(a - lo).toNat]?).map (fun o => (pc : Int) + o)) = some (tgt : Int)) (k : ad_RL g μ d X Z tgt L S σ) : ad_RL g μ d X Z pc L (ad_iv a :: S) σ := by
  intro p e R s m args below meth c cells slots Q C hX hZ H locs ls hP hS hl
  by_cases hq : a < lo ∨ hi < a
  · rw [if_pos hq] at ht
    exact lv_tableOut C.1 C.2.1 hd (by rw [ad_toInt ha]; exact hq) (Option.some.inj ht) (k p e R s m args below meth c cells slots Q C hX hZ H locs ls hP hS hl)
  · rw [if_neg hq] at ht
    cases ho : offs[(a - lo).toNat]? with
    | none => rw [ho] at ht; cases ht
    | some o =>
      rw [ho] at ht
      exact lv_tableIn C.1 C.2.1 hd (by rw [ad_toInt ha]; exact fun z => hq (Or.inl z)) (by rw [ad_toInt ha]; exact fun z => hq (Or.inr z)) (by rw [ad_toInt ha]; exact ho) (Option.some.inj ht) (k p e R s m args below meth c cells slots Q C hX hZ H locs ls hP hS hl)
theorem al_callV {μ' : ad_MI} {n idx k i d' : Nat} {As St : List Value} {Qm : Option Value → ad_Mem → Prop} (hcw : ad_CV μ.1.cls idx μ' n k) (hd : decode μ.2.1 pc = .ok (.invokevirtual idx, 3)) (hi : i < ad_cnt k) (hM : ad_M g μ' d' (ad_rf g k i :: As) σ Qm) (hdd : d' + 1 ≤ d) (hAs : As.length = n) (hW : (S.map fun v => v.category).sum ≤ 8) (hSt : St = As.reverse ++ ad_rf g k i :: S)
    (kk : ∀ v σ', Qm v σ' → ad_RL g μ d X Z (pc + 3) L (v.toList ++ S) σ') : ad_RL g μ d X Z pc L St σ := by
  intro p e R s m args below meth c cells slots Q C hX hZ H locs ls hP hS hl
  obtain ⟨w1, ⟨w2, w3, ⟨T, N, w4⟩, w5⟩, w6⟩ := hcw
  obtain ⟨q, e1, -⟩ := ad_ws_at g σ hi
  rw [ad_ent_o g i _ w5] at e1
  subst hSt
  have ok := C.2.2.2.2.1
  refine ad_ofRun (μ' := μ') (a := (ad_rf g k i :: As).toArray) (va_runV ⟨C.1, C.2.1, C.2.2.1, C.2.2.2.1, ok⟩ hM ⟨callB_of n ok (ad_goodM w6) rfl rfl rfl (ok _ w6.2.1) (ok _ w1) w6.2.2.1 (ad_room hdd w6.2.2.2 C.2.2.2.2.2.2.2.2.2.2.1), ok _ w2, ok _ w3⟩
    ⟨ad_blind _ σ, va_recv C.2.2.2.2.2.1 hP w4 e1, fun U hU hW => ⟨rfl, by rw [hU]; exact hP, va_K.moved hW.alike C.2.2.2.2.2.1, ?_, C.2.2.2.2.2.2.2.1⟩⟩ rfl hAs hl.1 rfl (lv_room hW) hd ⟨C.2.2.2.2.2.2.2.2.2.2.2.1, C.2.2.2.2.2.2.2.2.2.2.2.2⟩) hS (fun v σ' H1 locs1 hq hP1 hS1 => kk v σ' hq p e R s m args below meth c cells slots Q C hX hZ H1 locs1 ls hP1 hS1 hl)
  rw [hU]
  exact (C.2.2.2.2.2.2.1.kept hS.2.1).warm hW
theorem al_icmp_same {a off : Int} (tgt : Nat) (hd : decode μ.2.1 pc = .ok (.if_icmp .eq off, 3)) (ht : (pc : Int) + off = (tgt : Int)) (kt : ad_RL g μ d X Z tgt L S σ) : ad_RL g μ d X Z pc L (ad_iv a :: ad_iv a :: S) σ := by
  intro p e R s m args below meth c cells slots Q C hX hZ H locs ls hP hS hl
  exact lv_icmp_eq C.1 C.2.1 hd ht (fun _ => kt p e R s m args below meth c cells slots Q C hX hZ H locs ls hP hS hl) (fun h => absurd rfl h)
theorem al_slen {b n : Nat} {xs : Nat → Int32} (hd : decode μ.2.1 pc = .ok (.arraylength, 1)) (kk : ad_RL g μ d (al_X g b n xs) Z (pc + 1) L (ad_iv (n : Int) :: S) σ) : ad_RL g μ d (al_X g b n xs) Z pc L (.ref b :: S) σ := by
  intro p e R s m args below meth c cells slots Q C hX hZ H locs ls hP hS hl
  refine va_slen C.1 C.2.1 hX.1 hX.2.1 hX.2.2 hS hd ?_
  have k := kk p e R s m args below meth c cells slots Q C hX hZ H locs ls hP hS hl
  rw [show (Int32.ofNat n) = Int32.ofInt (n : Int) from Int32.ofInt_eq_ofNat.symm]
  exact k
theorem al_sld {b n : Nat} {xs : Nat → Int32} {a : Int} (hd : decode μ.2.1 pc = .ok (.iaload, 1)) (h0 : 0 ≤ a) (h1 : a < (n : Int)) (hn : n ≤ 2048) (kk : ad_RL g μ d (al_X g b n xs) Z (pc + 1) L (ad_iv (xs a.toNat).toInt :: S) σ) : ad_RL g μ d (al_X g b n xs) Z pc L (ad_iv a :: .ref b :: S) σ := by
  intro p e R s m args below meth c cells slots Q C hX hZ H locs ls hP hS hl
  have hr : ad_rng a := ⟨by omega, by omega⟩
  have ht := ad_toInt hr
  refine va_sld C.1 C.2.1 hX.1 hX.2.1 hX.2.2 hS (vp_in_iff.mpr (by rw [ht]; omega)) hd ?_
  have e1 : (Int32.ofInt a).toNatClampNeg = a.toNat := by unfold Int32.toNatClampNeg; rw [ht]
  rw [e1]
  have k := kk p e R s m args below meth c cells slots Q C hX hZ H locs ls hP hS hl
  rw [ad_iv_to] at k
  exact k
end alrows
section alcalls
variable {g : ad_G} {μ : ad_MI} {d : Nat} {X : State → Prop} {Z : Nat → List Value → ad_Mem → Prop} {pc : Nat} {L : List (Option Value)} {S : List Value} {σ σ1 : ad_Mem} {μ' : ad_MI} {own : String} {idx k i : Nat} {v : Value} {P : Value → ad_Mem → Prop} {P0 : ad_Mem → Prop}
theorem al_cv0q (hμ : μ.1.cls = own) (hcw : ad_CV own idx μ' 0 k) (hd : decode μ.2.1 pc = .ok (.invokevirtual idx, 3)) (hM : ad_Q g μ' (d - 1) [ad_rf g k i] σ P) (hdd : 1 ≤ d) (hi : i < ad_cnt k) (hW : (S.map fun v => v.category).sum ≤ 8) (kk : ∀ x σ', P x σ' → ad_RL g μ d X Z (pc + 3) L (x :: S) σ') : ad_RL g μ d X Z pc L (ad_rf g k i :: S) σ := by
  subst hμ
  refine al_callV (d' := d - 1) (As := []) hcw hd hi hM (by omega) rfl hW rfl ?_
  rintro v σ' ⟨x, rfl, h⟩
  exact kk x σ' h
theorem al_cv1q {a1 : Value} (hμ : μ.1.cls = own) (hcw : ad_CV own idx μ' 1 k) (hd : decode μ.2.1 pc = .ok (.invokevirtual idx, 3)) (hM : ad_Q g μ' (d - 1) [ad_rf g k i, a1] σ P) (hdd : 1 ≤ d) (hi : i < ad_cnt k) (hW : (S.map fun v => v.category).sum ≤ 8) (kk : ∀ x σ', P x σ' → ad_RL g μ d X Z (pc + 3) L (x :: S) σ') : ad_RL g μ d X Z pc L (a1 :: ad_rf g k i :: S) σ := by
  subst hμ
  refine al_callV (d' := d - 1) (As := [a1]) hcw hd hi hM (by omega) rfl hW rfl ?_
  rintro v σ' ⟨x, rfl, h⟩
  exact kk x σ' h
theorem al_cv2q {a1 a2 : Value} (hμ : μ.1.cls = own) (hcw : ad_CV own idx μ' 2 k) (hd : decode μ.2.1 pc = .ok (.invokevirtual idx, 3)) (hM : ad_Q g μ' (d - 1) [ad_rf g k i, a1, a2] σ P) (hdd : 1 ≤ d) (hi : i < ad_cnt k) (hW : (S.map fun v => v.category).sum ≤ 8) (kk : ∀ x σ', P x σ' → ad_RL g μ d X Z (pc + 3) L (x :: S) σ') : ad_RL g μ d X Z pc L (a2 :: a1 :: ad_rf g k i :: S) σ := by
  subst hμ
  refine al_callV (d' := d - 1) (As := [a1, a2]) hcw hd hi hM (by omega) rfl hW rfl ?_
  rintro v σ' ⟨x, rfl, h⟩
  exact kk x σ' h
theorem al_cv3q {a1 a2 a3 : Value} (hμ : μ.1.cls = own) (hcw : ad_CV own idx μ' 3 k) (hd : decode μ.2.1 pc = .ok (.invokevirtual idx, 3)) (hM : ad_Q g μ' (d - 1) [ad_rf g k i, a1, a2, a3] σ P) (hdd : 1 ≤ d) (hi : i < ad_cnt k) (hW : (S.map fun v => v.category).sum ≤ 8) (kk : ∀ x σ', P x σ' → ad_RL g μ d X Z (pc + 3) L (x :: S) σ') : ad_RL g μ d X Z pc L (a3 :: a2 :: a1 :: ad_rf g k i :: S) σ := by
  subst hμ
  refine al_callV (d' := d - 1) (As := [a1, a2, a3]) hcw hd hi hM (by omega) rfl hW rfl ?_
  rintro v σ' ⟨x, rfl, h⟩
  exact kk x σ' h
end alcalls
theorem al_rng (x : Int32) : ad_rng x.toInt := ⟨x.le_toInt, by have := x.toInt_lt; omega⟩
theorem al_and_rng (a b : Int) : ad_rng (ad_and a b) := al_rng _
/-- what the class does leaves the reference's state, and the other way round -/
theorem ad_c8_f7 {σ m : ad_Mem} {C : ad_C7} (h : ad_c8 σ C) (hf : ad_fr ad_f7 σ m) : ad_c8 m C := by
  have e : ∀ k i, (k = 8 ∨ 21 ≤ k) → m k i = σ k i := fun k i hk => hf k i (fun z => by unfold ad_f7 at z; omega)
  have hf8 : ad_f8 [] [] σ m ∨ True := Or.inr trivial
  obtain ⟨a1, a2, a3, a4, a5, a6⟩ := h
  refine ⟨⟨by rw [e 21 0 (by omega)]; exact a1.1, a1.2⟩, by rw [e 8 0 (by omega)]; exact a2, fun q => by rw [e 22 0 (by omega)]; exact a3 q, ?_, ?_, fun i h1 h2 => by rw [e 25 0 (by omega)]; exact a6 i h1 h2⟩
  · rw [e 8 0 (by omega), e 26 0 (by omega)]; exact a4
  · rw [e 8 0 (by omega), e 27 0 (by omega)]; exact a5
theorem ad_c7_f8 {σ m : ad_Mem} {C : ad_C7} (h : ad_c7 σ C) (hf : ad_f8 ad_K8 ad_J8 σ m) : ad_c7 m C := by
  have e : ∀ k i, k < 21 → k ≠ 8 → m k i = σ k i := fun k i hk h8 => hf.1 k i h8 (fun z => by
    have : ∀ k ∈ ad_K8, 21 ≤ k := by decide
    have := this k z; omega)
  obtain ⟨a1, a2, a3, a4, a5, a6, a7, a8, a9⟩ := h
  have et : ∀ s k i, ad_Ts s k i → m k i = σ k i := fun s k i hk => e k i (by unfold ad_Ts at hk; omega) (by unfold ad_Ts at hk; omega)
  have en : ∀ i, ad_nw σ i → ad_nw m i := fun i hi => ad_nw_congr (e 2 i (by omega) (by omega)) (e 12 i (by omega) (by omega)) hi
  have ed : ∀ i, ad_dr σ i → ad_dr m i := fun i hi => ad_dr_congr (e 10 i (by omega) (by omega)) (e 11 i (by omega) (by omega)) hi
  refine ⟨⟨ad_rC_congr a1.2 (et 0) a1.1, a1.2⟩, by rw [e 7 0 (by omega) (by omega)]; exact a2, fun q => ⟨ad_rC_congr (a3 q).2 (et 1) (a3 q).1, (a3 q).2⟩, ⟨ad_rK_congr (et 1) a4.1, ad_rK_congr (et 2) a4.2⟩, ⟨en _ a5.1, en _ a5.2.1, en _ a5.2.2⟩, ⟨ed _ a6.1, ed _ a6.2⟩, ⟨?_, a7.2⟩, ⟨?_, a8.2⟩, fun i hi => by rw [e 20 0 (by omega) (by omega)]; exact a9 i hi⟩
  · rw [ad_nl_congr (e 2 33 (by omega) (by omega)) (e 12 33 (by omega) (by omega))]; exact a7.1
  · rw [ad_nl_congr (e 2 35 (by omega) (by omega)) (e 12 35 (by omega) (by omega))]; exact a8.1
abbrev mL_law : ad_MI := (x, cL_law, 4, ret)
