/-! ===== fields, arrays, calls over the memory ===== -/
theorem ad_fs_at (g : ad_G) {k slot : Nat} (i : Nat) (m : Nat → Int) (h : slot < ad_nf k) : (ad_fs g k i m)[slot]? = some (ad_fv g k i slot (m slot)) := by
  unfold ad_fs
  rw [List.getElem?_map, List.getElem?_range h]
  rfl
theorem ad_fs_len (g : ad_G) (k i : Nat) (m : Nat → Int) : (ad_fs g k i m).length = ad_nf k := by unfold ad_fs; simp
theorem ad_fs_set (g : ad_G) {k slot : Nat} (i : Nat) (m : Nat → Int) (x : Int) : (ad_fs g k i m).set slot (ad_fv g k i slot x) = ad_fs g k i (fun c => if c = slot then x else m c) := by
  apply List.ext_getElem?
  intro n
  unfold ad_fs
  by_cases hn : n = slot
  · subst hn
    by_cases hl : n < ad_nf k
    · rw [List.getElem?_set_self (by simpa using hl), List.getElem?_map, List.getElem?_range hl]
      simp
    · rw [List.getElem?_eq_none (by simpa using hl), List.getElem?_eq_none (by simpa using hl)]
  · rw [List.getElem?_set_ne (fun e => hn e.symm), List.getElem?_map, List.getElem?_map]
    by_cases hl : n < ad_nf k
    · rw [List.getElem?_range hl]
      simp [hn]
    · rw [List.getElem?_eq_none (l := List.range _) (by simpa using hl)]; rfl
theorem ad_ent_o (g : ad_G) {k : Nat} (i : Nat) (m : Nat → Int) (h : k < 9) : ad_ent g k i m = .inr (k, ad_fs g k i m) := by unfold ad_ent; rw [if_pos h]
theorem ad_ent_i (g : ad_G) {k : Nat} (i : Nat) (m : Nat → Int) (h : ¬ k < 9) (h2 : k ≠ 18) : ad_ent g k i m = .inl (g.2.2.2.1.1, ad_len k i, .inl (fun j => Int32.ofInt (m j))) := by unfold ad_ent; rw [if_neg h, if_neg h2]
theorem ad_ent_v (g : ad_G) (i : Nat) (m : Nat → Int) : ad_ent g 18 i m = .inl (g.2.2.2.1.2, 10, .inr (.inr (.inr (.inr (fun v => some (g.2.1 6 (10 * i + v))))))) := by unfold ad_ent; rw [if_neg (by decide), if_pos rfl]
theorem ad_ix {a : Int} {n : Nat} (h0 : 0 ≤ a) (h1 : a < n) (hn : n < 1000) : vp_in (Int32.ofInt a) n ∧ (Int32.ofInt a).toNatClampNeg = a.toNat := by
  have hr : ad_rng a := ⟨by omega, by omega⟩
  have ht := ad_toInt hr
  refine ⟨vp_in_iff.mpr (by rw [ht]; omega), ?_⟩
  unfold Int32.toNatClampNeg
  rw [ht]
theorem ad_len_lt (k i : Nat) : ad_len k i < 1000 := by
  unfold ad_len
  repeat' split
  all_goals omega
theorem ad_upd (m : Nat → Int) (k : Nat) (x : Int) : upd (fun j => Int32.ofInt (m j)) k (Int32.ofInt x) = fun j => Int32.ofInt ((fun c => if c = k then x else m c) j) := by
  funext j
  unfold upd
  by_cases h : j = k
  · simp [h]
  · simp [h]
/-- own class, place in its pool: the field of the class C (kind k, slot) -/
def ad_FL (own : String) (idx k slot : Nat) (C : String) (T : u_T) (N : Nat) : Prop := vwCl[k]? = some (C, T, N) ∧ k < 9 ∧ N = ad_nf k ∧ slot < N ∧ (∀ w ∈ u_ws C T N, w ∈ ad_TB) ∧ (T slot).1 = C ∧ Cond.fieldLink own idx C (T slot).2.1 (T slot).2.2.1 ∈ ad_TB
section adworld
variable {g : ad_G} {μ : ad_MI} {d : Nat} {Z : Nat → List Value → ad_Mem → Prop} {pc : Nat} {L : List (Option Value)} {S : List Value} {σ : ad_Mem}
theorem ad_get {idx k slot : Nat} {C0 : String} {T : u_T} {N : Nat} (hF : ad_FL μ.1.cls idx k slot C0 T N) {i : Nat} (hd : decode μ.2.1 pc = .ok (.getfield idx, 3)) (hi : i < ad_cnt k) {v : Value} (hv : ad_fv g k i slot (σ k i slot) = v) (kk : ad_R g μ d Z (pc + 3) L (v :: S) σ) : ad_R g μ d Z pc L (ad_rf g k i :: S) σ := by
  intro p e R s m args below meth c cells slots Q C hZ H locs ls hP hS hl
  obtain ⟨f1, f2, f3, f4, f5, f6, f7⟩ := hF
  obtain ⟨q, h1, -⟩ := ad_ws_at g σ hi
  rw [ad_ent_o g i _ f2] at h1
  exact va_get C.1 C.2.1 (Ts := ad_TB) C.2.2.2.2.1 f5 C.2.2.2.1 C.2.2.2.2.2.1 hP q h1 f1 slot f4 (C.2.2.2.2.1 _ f7) (fun x h => by rw [f6] at h; exact h) ((ad_fs_at g i _ (by rw [← f3]; exact f4)).trans (congrArg some hv)) hd (kk p e R s m args below meth c cells slots Q C hZ H locs ls hP hS hl)
theorem ad_put {idx k slot : Nat} {C0 : String} {T : u_T} {N : Nat} (hF : ad_FL μ.1.cls idx k slot C0 T N) (ty0 : Nat → FieldType) (hty : ∀ k, k < N → parseFieldDescriptor (T k).2.2.1 = some (ty0 k)) (hnm : ∀ a, a < N → ∀ b, b < N → a ≠ b → (T a).2.1 ≠ (T b).2.1) (hfin : (T slot).2.2.2 = false) {i : Nat} {x : Int} {v : Value} (hx : ad_fv g k i slot x = v) (hn : narrow (ty0 slot) v = v) (hfit : fits (ty0 slot) v = true) (hd : decode μ.2.1 pc = .ok (.putfield idx, 3)) (hi : i < ad_cnt k) (kk : ad_R g μ d Z (pc + 3) L S (ad_st σ k i slot x)) : ad_R g μ d Z pc L (v :: ad_rf g k i :: S) σ := by
  intro p e R s m args below meth c cells slots Q C hZ H locs ls hP hS hl
  obtain ⟨f1, f2, f3, f4, f5, f6, f7⟩ := hF
  obtain ⟨q, h1, h2⟩ := ad_ws_at g σ hi
  rw [ad_ent_o g i _ f2] at h1
  have hD := ad_ws_D C.2.2.2.2.2.2.2.1 σ
  refine va_put C.1 C.2.1 (Ts := ad_TB) C.2.2.2.2.1 f5 ty0 hty hnm C.2.2.2.1 C.2.2.2.2.2.1 hP hD hS q h1 f1 slot f4 (C.2.2.2.2.1 _ f7) (fun x h => by rw [f6] at h; exact h) hfin (hty slot f4) hn hfit (by rw [ad_fs_len, ← f3]; exact f4) hd (fun H1 locs1 hP1 _ hS1 => ?_)
  rw [← hx, ad_fs_set, ← ad_ent_o g i _ f2, h2, ← ad_st_row] at hP1
  exact kk p e R s m args below meth c cells slots Q C hZ H1 locs1 ls hP1 hS1 hl
theorem ad_getm {own : String} {idx k slot : Nat} {C0 : String} {T : u_T} {N : Nat} (hμ : μ.1.cls = own) (hF : ad_FL own idx k slot C0 T N) {i : Nat} (hd : decode μ.2.1 pc = .ok (.getfield idx, 3)) (hi : i < ad_cnt k) {v : Value} (hv : ad_fv g k i slot (σ k i slot) = v) (kk : ad_R g μ d Z (pc + 3) L (v :: S) σ) : ad_R g μ d Z pc L (ad_rf g k i :: S) σ := by
  subst hμ; exact ad_get hF hd hi hv kk
theorem ad_putm {own : String} {idx k slot : Nat} {C0 : String} {T : u_T} {N : Nat} (hμ : μ.1.cls = own) (hF : ad_FL own idx k slot C0 T N) (ty0 : Nat → FieldType) (hty : ∀ k, k < N → parseFieldDescriptor (T k).2.2.1 = some (ty0 k)) (hnm : ∀ a, a < N → ∀ b, b < N → a ≠ b → (T a).2.1 ≠ (T b).2.1) (hfin : (T slot).2.2.2 = false) {i : Nat} {x : Int} {v : Value} (hx : ad_fv g k i slot x = v) (hn : narrow (ty0 slot) v = v) (hfit : fits (ty0 slot) v = true) (hd : decode μ.2.1 pc = .ok (.putfield idx, 3)) (hi : i < ad_cnt k) (kk : ad_R g μ d Z (pc + 3) L S (ad_st σ k i slot x)) : ad_R g μ d Z pc L (v :: ad_rf g k i :: S) σ := by
  subst hμ; exact ad_put hF ty0 hty hnm hfin hx hn hfit hd hi kk
/-- an int array: the classes' places in tys are 0 (ints) and 1 (versions) -/
theorem ad_iald {k i : Nat} {a : Int} (hd : decode μ.2.1 pc = .ok (.iaload, 1)) (hi : i < ad_cnt k) (hk : ¬ k < 9 ∧ k ≠ 18) (h0 : 0 ≤ a) (h1 : a < (ad_len k i : Nat)) (kk : ad_R g μ d Z (pc + 1) L (ad_iv (σ k i a.toNat) :: S) σ) : ad_R g μ d Z pc L (ad_iv a :: ad_rf g k i :: S) σ := by
  intro p e R s m args below meth c cells slots Q C hZ H locs ls hP hS hl
  obtain ⟨q, e1, -⟩ := ad_ws_at g σ hi
  rw [ad_ent_i g i _ hk.1 hk.2] at e1
  obtain ⟨g1, g2⟩ := ad_ix h0 h1 (ad_len_lt k i)
  refine va_iald C.1 C.2.1 C.2.2.2.2.2.1 hP q 0 e1 rfl g1 hd ?_
  rw [g2]
  exact kk p e R s m args below meth c cells slots Q C hZ H locs ls hP hS hl
theorem ad_iast {k i : Nat} {a x : Int} (hd : decode μ.2.1 pc = .ok (.iastore, 1)) (hi : i < ad_cnt k) (hk : ¬ k < 9 ∧ k ≠ 18) (h0 : 0 ≤ a) (h1 : a < (ad_len k i : Nat)) (kk : ad_R g μ d Z (pc + 1) L S (ad_st σ k i a.toNat x)) : ad_R g μ d Z pc L (ad_iv x :: ad_iv a :: ad_rf g k i :: S) σ := by
  intro p e R s m args below meth c cells slots Q C hZ H locs ls hP hS hl
  obtain ⟨q, e1, e2⟩ := ad_ws_at g σ hi
  rw [ad_ent_i g i _ hk.1 hk.2] at e1
  have hD := ad_ws_D C.2.2.2.2.2.2.2.1 σ
  obtain ⟨g1, g2⟩ := ad_ix h0 h1 (ad_len_lt k i)
  refine va_iast C.1 C.2.1 C.2.2.2.2.2.1 hP hD hS q 0 e1 rfl g1 hd (fun H1 locs1 hP1 _ hS1 => ?_)
  rw [g2, ad_upd, ← ad_ent_i g i _ hk.1 hk.2, e2, ← ad_st_row] at hP1
  exact kk p e R s m args below meth c cells slots Q C hZ H1 locs1 ls hP1 hS1 hl
theorem ad_alen {k i : Nat} (hd : decode μ.2.1 pc = .ok (.arraylength, 1)) (hi : i < ad_cnt k) (hk : ¬ k < 9 ∧ k ≠ 18) {n : Int} (hn : (ad_len k i : Int) = n) (kk : ad_R g μ d Z (pc + 1) L (ad_iv n :: S) σ) : ad_R g μ d Z pc L (ad_rf g k i :: S) σ := by
  intro p e R s m args below meth c cells slots Q C hZ H locs ls hP hS hl
  obtain ⟨q, e1, -⟩ := ad_ws_at g σ hi
  rw [ad_ent_i g i _ hk.1 hk.2] at e1
  refine va_alen (v := Int32.ofInt n) C.1 C.2.1 C.2.2.2.2.2.1 hP q 0 e1 rfl (by rw [← hn]; exact (Int32.ofInt_eq_ofNat).symm) hd ?_
  exact kk p e R s m args below meth c cells slots Q C hZ H locs ls hP hS hl
/-- a version out of a store's row -/
theorem ad_aald {i : Nat} {a : Int} (hd : decode μ.2.1 pc = .ok (.aaload, 1)) (hi : i < 3) (h0 : 0 ≤ a) (h1 : a < 10) (kk : ad_R g μ d Z (pc + 1) L (ad_rf g 6 (10 * i + a.toNat) :: S) σ) : ad_R g μ d Z pc L (ad_iv a :: ad_rf g 18 i :: S) σ := by
  intro p e R s m args below meth c cells slots Q C hZ H locs ls hP hS hl
  obtain ⟨q, e1, -⟩ := ad_ws_at g σ (k := 18) (i := i) hi
  rw [ad_ent_v g i] at e1
  obtain ⟨g1, g2⟩ := ad_ix (n := 10) h0 h1 (by omega)
  refine va_aldq C.1 C.2.1 C.2.2.2.2.2.1 hP q 1 e1 rfl g1 hd ?_
  rw [g2]
  exact kk p e R s m args below meth c cells slots Q C hZ H locs ls hP hS hl
/-- what the machine says of a call that met its contract -/
theorem ad_ofRun {μ' : ad_MI} {Qm : Option Value → ad_Mem → Prop} {p : Program} {e : Env} {R : Room} {s : State} {m : MethodId} {args : Array Value} {below : List Frame} {meth : Method} {c : Code} {cells slots : Nat} {Q : State → Prop} {H : Heap} {locs : List Loc} {ls : Array Slot} {st0 rest : List Value} {a : Array Value}
    (hr : va_Run p g.1 e R s m args below meth c H locs cells slots 0 0 (F0 m pc ls st0) rest ((fun (_ : Array Value) (st : State) (oc : Outcome) (t : State) => (∃ (v : Option Value) (σ' : ad_Mem), oc = .returned v ∧ Qm v σ' ∧ va_P g.2.2.1 vwCl (ad_ws g σ') t.heap) ∧ va_F (ad_A g) st t) a) (ad_A g))
    (hS : va_S (ad_A g) s.heap H locs) (kk : ∀ (v : Option Value) (σ' : ad_Mem) (H1 : Heap) (locs1 : List Loc), Qm v σ' → va_P g.2.2.1 vwCl (ad_ws g σ') H1 → va_S (ad_A g) s.heap H1 locs1 → W p g.1 e R s m args below meth c H1 locs1 cells slots Q (F0 m (pc + 3) ls (v.toList ++ rest))) : W p g.1 e R s m args below meth c H locs cells slots Q (F0 m pc ls st0) := by
  intro T hT X
  obtain ⟨v, st₀, t, T', L, h0, X', hL, e1, e2, ⟨⟨v', σ', hv, hq, hp⟩, hz, hk⟩, st⟩ := hr T hT X
  cases hv
  rw [h0] at hz hk
  obtain ⟨t2, a1, b1⟩ := kk v σ' T'.heap (locs ++ L) hq (by rw [e1]; exact hp)
    ⟨Nat.le_trans hS.1 (by rw [e1]; exact hz), fun q h1 h2 => by rw [e1, hk q (Nat.lt_of_lt_of_le h1 hS.1) h2]; exact hS.2.1 q h1 h2, fun q hq => by
      rcases List.mem_append.mp hq with h | h
      · exact hS.2.2 q h
      · exact hL q h⟩ T' rfl X'
  exact ⟨t2, st t2 a1, b1⟩
def ad_Cw (μ' : ad_MI) (n : Nat) : Prop := Cond.code μ'.1 μ'.2.1 μ'.2.2.1 μ'.2.2.2 ∈ ad_TB ∧ Cond.initialized μ'.1.cls ∈ ad_TB ∧ (μ'.1.cls ≠ "java/lang/invoke/MethodHandle" ∧ μ'.1.cls ≠ "java/lang/invoke/VarHandle" ∧ (parseMethodDescriptor μ'.1.desc).map (fun d => d.parameters.length) = some n) ∧ μ'.2.2.1 ≤ 30
/-- a method that can be called on a kind: its words -/
def ad_CV (own : String) (idx : Nat) (μ' : ad_MI) (n k : Nat) : Prop := Cond.methodLink own idx μ'.1 ∈ ad_TB ∧ (Cond.instanceMethod μ'.1 ∈ ad_TB ∧ Cond.selects μ'.1.cls μ'.1 μ'.1 ∈ ad_TB ∧ (∃ T N, vwCl[k]? = some (μ'.1.cls, T, N)) ∧ k < 9) ∧ ad_Cw μ' n
def ad_CS (own : String) (idx : Nat) (μ' : ad_MI) (n : Nat) : Prop := Cond.methodLink own idx μ'.1 ∈ ad_TB ∧ Cond.static μ'.1 ∈ ad_TB ∧ ad_Cw μ' n
theorem ad_goodM {μ' : ad_MI} {n : Nat} (h : ad_Cw μ' n) : GoodIn ad_TB (ad_wsM μ') := fun w hw => (List.mem_cons.mp hw).elim (fun e => by rw [e]; exact ad_goodTB _ h.1) (fun hw => ad_goodTB w hw)
theorem ad_blind (av : List Value) (σ : ad_Mem) : FrameBlind (va_Pc av (fun U => va_P g.2.2.1 vwCl (ad_ws g σ) U.heap ∧ va_K g.2.2.1 vwCl (ad_tys g) U ∧ ad_X g U U.heap ∧ ad_Inj g)) :=
  fun a U g2 mk q => ⟨q.1, q.2.1, va_K.moved (u := U) (U := U.calling g2 mk a) (Vm.Alike.refl U.vm) q.2.2.1, (ad_X.same (s := U) (U := U.calling g2 mk a) rfl q.2.2.2.1 : ad_X g (U.calling g2 mk a) U.heap), q.2.2.2.2⟩
theorem ad_room {d' : Nat} {μ' : ad_MI} {R : Room} (h : d' + 1 ≤ d) (h30 : μ'.2.2.1 ≤ 30) (h1 : d ≤ R.frames ∧ 60 * d ≤ R.locals) : (ad_rm d').frames + 1 ≤ R.frames ∧ 8 + (μ'.2.2.1 + 11) + (ad_rm d').locals ≤ R.locals := by
  show d' + 1 ≤ R.frames ∧ 8 + (μ'.2.2.1 + 11) + 60 * d' ≤ R.locals
  omega
theorem ad_callV {μ' : ad_MI} {n idx k i d' : Nat} {As St : List Value} {Qm : Option Value → ad_Mem → Prop} (hcw : ad_CV μ.1.cls idx μ' n k) (hd : decode μ.2.1 pc = .ok (.invokevirtual idx, 3)) (hi : i < ad_cnt k) (hM : ad_M g μ' d' (ad_rf g k i :: As) σ Qm) (hdd : d' + 1 ≤ d) (hAs : As.length = n) (hW : (S.map fun v => v.category).sum ≤ 8) (hSt : St = As.reverse ++ ad_rf g k i :: S)
    (kk : ∀ v σ', Qm v σ' → ad_R g μ d Z (pc + 3) L (v.toList ++ S) σ') : ad_R g μ d Z pc L St σ := by
  intro p e R s m args below meth c cells slots Q C hZ H locs ls hP hS hl
  obtain ⟨w1, ⟨w2, w3, ⟨T, N, w4⟩, w5⟩, w6⟩ := hcw
  obtain ⟨q, e1, -⟩ := ad_ws_at g σ hi
  rw [ad_ent_o g i _ w5] at e1
  subst hSt
  have ok := C.2.2.2.2.1
  refine ad_ofRun (μ' := μ') (a := (ad_rf g k i :: As).toArray) (va_runV ⟨C.1, C.2.1, C.2.2.1, C.2.2.2.1, ok⟩ hM ⟨callB_of n ok (ad_goodM w6) rfl rfl rfl (ok _ w6.2.1) (ok _ w1) w6.2.2.1 (ad_room hdd w6.2.2.2 C.2.2.2.2.2.2.2.2.2.2.1), ok _ w2, ok _ w3⟩
    ⟨ad_blind _ σ, va_recv C.2.2.2.2.2.1 hP w4 e1, fun U hU hW => ⟨rfl, by rw [hU]; exact hP, va_K.moved hW.alike C.2.2.2.2.2.1, ?_, C.2.2.2.2.2.2.2.1⟩⟩ rfl hAs hl.1 rfl (lv_room hW) hd ⟨C.2.2.2.2.2.2.2.2.2.2.2.1, C.2.2.2.2.2.2.2.2.2.2.2.2⟩) hS (fun v σ' H1 locs1 hq hP1 hS1 => kk v σ' hq p e R s m args below meth c cells slots Q C hZ H1 locs1 ls hP1 hS1 hl)
  rw [hU]
  exact (C.2.2.2.2.2.2.1.kept hS.2.1).warm hW
theorem ad_callS {μ' : ad_MI} {n idx d' : Nat} {As St : List Value} {Qm : Option Value → ad_Mem → Prop} (hcw : ad_CS μ.1.cls idx μ' n) (hd : decode μ.2.1 pc = .ok (.invokestatic idx, 3)) (hM : ad_M g μ' d' As σ Qm) (hdd : d' + 1 ≤ d) (hAs : As.length = n) (hW : (S.map fun v => v.category).sum ≤ 8) (hSt : St = As.reverse ++ S)
    (kk : ∀ v σ', Qm v σ' → ad_R g μ d Z (pc + 3) L (v.toList ++ S) σ') : ad_R g μ d Z pc L St σ := by
  intro p e R s m args below meth c cells slots Q C hZ H locs ls hP hS hl
  obtain ⟨w1, w2, w6⟩ := hcw
  subst hSt
  have ok := C.2.2.2.2.1
  refine ad_ofRun (μ' := μ') (a := As.toArray) (va_runS ⟨C.1, C.2.1, C.2.2.1, C.2.2.2.1, ok⟩ hM ⟨callB_of n ok (ad_goodM w6) rfl rfl rfl (ok _ w6.2.1) (ok _ w1) w6.2.2.1 (ad_room hdd w6.2.2.2 C.2.2.2.2.2.2.2.2.2.2.1), ok _ w2⟩
    ⟨ad_blind _ σ, fun U hU hW => ⟨rfl, by rw [hU]; exact hP, va_K.moved hW.alike C.2.2.2.2.2.1, ?_, C.2.2.2.2.2.2.2.1⟩⟩ rfl hAs hl.1 rfl (lv_room hW) hd ⟨C.2.2.2.2.2.2.2.2.2.2.2.1, C.2.2.2.2.2.2.2.2.2.2.2.2⟩) hS (fun v σ' H1 locs1 hq hP1 hS1 => kk v σ' hq p e R s m args below meth c cells slots Q C hZ H1 locs1 ls hP1 hS1 hl)
  rw [hU]
  exact (C.2.2.2.2.2.2.1.kept hS.2.1).warm hW
/-- the one call of a nest mate's private method: isHead out of Told -/
theorem ad_callNest {d' : Nat} {μ' : ad_MI} {a : Value} {Qm : Option Value → ad_Mem → Prop} (hμ : μ'.1 = yX7_isHead) (h5 : μ.1.cls = RX5) (hst : Cond.static μ'.1 ∈ ad_TB) (w6 : ad_Cw μ' 1) (hd : decode μ.2.1 pc = .ok (.invokestatic 147, 3)) (hM : ad_M g μ' d' [a] σ Qm) (hdd : d' + 1 ≤ d) (hW : (S.map fun v => v.category).sum ≤ 8)
    (kk : ∀ v σ', Qm v σ' → ad_R g μ d Z (pc + 3) L (v.toList ++ S) σ') : ad_R g μ d Z pc L (a :: S) σ := by
  intro p e R s m args below meth c cells slots Q C hZ H locs ls hP hS hl
  have ok := C.2.2.2.2.1
  have hn : va_Nw (.methodLinkNest μ.1.cls 147 μ'.1 "ArchiveOfDeltas") s := by rw [h5, hμ]; exact C.2.2.2.2.2.2.1.1
  refine ad_ofRun (μ' := μ') (a := [a].toArray) (va_runSN (n := 1) ⟨C.1, C.2.1, C.2.2.1, C.2.2.2.1, ok⟩ hM ⟨va_cnB 1 ok (ad_goodM w6) rfl rfl rfl hn (ok _ w6.2.1) w6.2.2.1 (ad_room hdd w6.2.2.2 C.2.2.2.2.2.2.2.2.2.2.1), ok _ hst, trivial⟩
    ⟨ad_blind _ σ, fun U hU hW => ⟨rfl, by rw [hU]; exact hP, va_K.moved hW.alike C.2.2.2.2.2.1, ?_, C.2.2.2.2.2.2.2.1⟩⟩ rfl rfl hl.1 rfl (lv_room hW) hd ⟨C.2.2.2.2.2.2.2.2.2.2.2.1, C.2.2.2.2.2.2.2.2.2.2.2.2⟩) hS (fun v σ' H1 locs1 hq hP1 hS1 => kk v σ' hq p e R s m args below meth c cells slots Q C hZ H1 locs1 ls hP1 hS1 hl)
  rw [hU]
  exact (C.2.2.2.2.2.2.1.kept hS.2.1).warm hW
end adworld
