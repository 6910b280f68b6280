/-! ===== a frame while the memory is made: over a list of cells, k cells and n slots made so far ===== -/
abbrev nb_T (cI cV : ClassId) : List (ClassId × FieldType) := [(cI, .int), (cV, .object RX6)]
def nb_C (D : va_G) (cI cV : ClassId) (μ : ad_MI) (d : Nat) (A : Nat → Prop) (nc ns : Nat) (p : Program) (R : Room) (s : State) (m : MethodId) (args : Array Value) (meth : Method) (c : Code) : Prop :=
  p.tables.exec = Jvm.exec ∧ c.code = μ.2.1 ∧ c.maxLocals = μ.2.2.1 ∧ s.vm.findClass μ.1.cls = some m.cls ∧ (∀ w ∈ ad_TB, w.before args s = true) ∧ va_K D vwCl (nb_T cI cV) s ∧ (μ.1.name = "<init>" → meth.name = "<init>") ∧ (meth.locks = false ∧ va_AO RX6 s) ∧ meth.sig.returnType = μ.2.2.2 ∧ (d ≤ R.frames ∧ 60 * d ≤ R.locals) ∧ (nc ≤ R.cells ∧ ns ≤ R.slots) ∧ ∀ q, s.heap.size ≤ q → A q
def nb_R (l : Launch) (D : va_G) (cI cV : ClassId) (μ : ad_MI) (d : Nat) (A : Nat → Prop) (nc ns : Nat) (Z : Nat → List (Option Value) → List Value → va_W → Nat → Nat → Prop) (pc : Nat) (L : List (Option Value)) (S : List Value) (ws : va_W) (k n : Nat) : Prop :=
  ∀ (p : Program) (e : Env) (R : Room) (s : State) (m : MethodId) (args : Array Value) (below : List Frame) (meth : Method) (c : Code) (Q : State → Prop), nb_C D cI cV μ d A nc ns p R s m args meth c →
    (∀ (pc' : Nat) (L' : List (Option Value)) (S' : List Value) (ws' : va_W) (k' n' : Nat) (H' : Heap) (locs' : List Loc) (ls' : Array Slot), Z pc' L' S' ws' k' n' → va_P D vwCl ws' H' → va_D A ws' → va_S A s.heap H' locs' → ad_ls ls' μ.2.2.1 L' → W p l e R s m args below meth c H' locs' k' n' Q (F0 m pc' ls' S')) →
    ∀ (H : Heap) (locs : List Loc) (ls : Array Slot), va_P D vwCl ws H → va_D A ws → va_S A s.heap H locs → ad_ls ls μ.2.2.1 L → W p l e R s m args below meth c H locs k n Q (F0 m pc ls S)
/-- a constructor: called on a new object of class number ci it leaves a block of cells -/
def nb_M (l : Launch) (D : va_G) (cI cV : ClassId) (μ : ad_MI) (d : Nat) (ci : Nat) (fs : List Value) (av : List Value) (mc ms : Nat) (post : Nat → va_W → Prop) : Prop :=
  ∀ (h0 sz : Nat), Met l μ.1 (ad_wsM μ) { frames := d, cells := mc, slots := ms, locals := 60 * d } (va_Pc (.ref h0 :: av) (fun U => U.heap.size = sz ∧ va_P D vwCl [(h0, .inr (ci, fs))] U.heap ∧ va_K D vwCl (nb_T cI cV) U ∧ va_AO RX6 U))
    (fun _ st oc t => (∃ blk : va_W, oc = .returned none ∧ post h0 blk ∧ va_P D vwCl blk t.heap ∧ va_D (va_A [(h0, .inr (ci, fs))] sz) blk) ∧ va_F (va_A [(h0, .inr (ci, fs))] sz) st t) mc ms (va_A [(h0, .inr (ci, fs))] sz)
def nb_Z (μ : ad_MI) (mc ms h0 : Nat) (post : Nat → va_W → Prop) (pc : Nat) (_L : List (Option Value)) (S : List Value) (ws : va_W) (k n : Nat) : Prop := decode μ.2.1 pc = .ok (.return_, 1) ∧ S = [] ∧ k ≤ mc ∧ n ≤ ms ∧ post h0 ws
theorem nb_M_of {l : Launch} {D : va_G} {cI cV : ClassId} {μ : ad_MI} {d ci : Nat} {fs av : List Value} {mc ms : Nat} {post : Nat → va_W → Prop} (j : Nat) (hc : ∀ v ∈ av, v.category = 1) (hy : plainName μ.1.cls = true) (hin : μ.1.name = "<init>") (hr : μ.2.2.2 = none) (hn : av.length + 1 ≤ μ.2.2.1)
    (kk : ∀ h0 sz : Nat, nb_R l D cI cV μ d (va_A [(h0, .inr (ci, fs))] sz) mc ms (nb_Z μ mc ms h0 post) 0 (((.ref h0 :: av) : List Value).map some ++ List.replicate j none) [] [(h0, .inr (ci, fs))] 0 0) : nb_M l D cI cV μ d ci fs av mc ms post := by
  intro h0 sz
  refine Met.ofW (cc := μ.2.1) (maxL := μ.2.2.1) (ret := μ.2.2.2) (ws' := ad_TB) hy rfl ?_
  intro p e s m args below meth c s₁ B hml hv
  obtain ⟨rfl, hsz, hP, hK, hAO⟩ := hv
  have hts := atoms_spec (ws := ad_wsM μ) B.pre
  have hcat : ∀ v ∈ ((.ref h0 :: av) : List Value), v.category = 1 := fun v hv => by
    rcases List.mem_cons.mp hv with h | h
    · rw [h]; rfl
    · exact hc v h
  have hl := lv_entry (.ref h0 :: av) (n := μ.2.2.1) (by rw [ad_entN _ hcat]; exact hn)
  rw [lg_entry_eq]
  generalize (lg_sl (.ref h0 :: av) ++ List.replicate (μ.2.2.1 - (lg_sl (.ref h0 :: av)).length) Slot.unset).toArray = ls at hl ⊢
  subst hsz
  have hD0 : va_D (va_A [(h0, .inr (ci, fs))] s.heap.size) [(h0, .inr (ci, fs))] := ⟨fun i j p q hi hj _ => by
    have h1 := (List.getElem?_eq_some_iff.mp hi).1
    have h2 := (List.getElem?_eq_some_iff.mp hj).1
    simp at h1 h2; omega, fun k q hk => va_A.in hk⟩
  refine kk h0 s.heap.size p e _ s m _ below meth c _ ⟨B.exec, B.bytes, hml, findClass_of_methodNamed B.named, fun w hw => hts w (List.mem_cons_of_mem _ hw), hK, fun _ => ((name_of_methodNamed B.named B.method).1).trans hin, ⟨B.notSynchronized, hAO⟩, B.returns, ⟨Nat.le_refl _, Nat.le_refl _⟩, ⟨Nat.le_refl _, Nat.le_refl _⟩, fun q h => Or.inr h⟩ ?_ s.heap [] ls hP hD0 va_S.rf ⟨hl.1, hl.2.1, fun i v h => hl.2.2 (i, v) (by have := ad_entL (.ref h0 :: av) hcat j 0 i v h; rwa [Nat.zero_add] at this)⟩
  intro pc' L' S' ws' k' n' H' locs' ls' hZ hP' hD' hS' _
  obtain ⟨hd, rfl, hk, hn', hpost⟩ := hZ
  have hlocks := B.notSynchronized
  refine W.widen hk hn' ?_
  exact W.vret B.exec B.bytes (B.returns.trans hr) (fun t ht _ => ⟨⟨ws', rfl, hpost, by rw [ht]; exact hP', hD'⟩, hS'.F ht⟩) hS'.2.2 hd
section nbrows
variable {l : Launch} {D : va_G} {cI cV : ClassId} {μ : ad_MI} {d : Nat} {A : Nat → Prop} {nc ns : Nat} {Z : Nat → List (Option Value) → List Value → va_W → Nat → Nat → Prop} {pc : Nat} {L : List (Option Value)} {S : List Value} {ws : va_W} {k n : Nat}
theorem nb_stop (h : Z pc L S ws k n) : nb_R l D cI cV μ d A nc ns Z pc L S ws k n := by
  intro p e R s m args below meth c Q C hZ H locs ls hP hD hS hl
  exact hZ _ _ _ _ _ _ _ _ _ h hP hD hS hl
theorem nb_iconst {y : Int} (hd : decode μ.2.1 pc = .ok (.iconst y, 1)) (kk : nb_R l D cI cV μ d A nc ns Z (pc + 1) L (ad_iv y :: S) ws k n) : nb_R l D cI cV μ d A nc ns Z pc L S ws k n := by
  intro p e R s m args below meth c Q C hZ H locs ls hP hD hS hl
  exact lv_iconst C.1 C.2.1 hd rfl (kk p e R s m args below meth c Q C hZ H locs ls hP hD hS hl)
theorem nb_bipush {y : Int} (hd : decode μ.2.1 pc = .ok (.bipush y, 2)) (hn : (Int8.ofInt y).toInt32 = Int32.ofInt y) (kk : nb_R l D cI cV μ d A nc ns Z (pc + 2) L (ad_iv y :: S) ws k n) : nb_R l D cI cV μ d A nc ns Z pc L S ws k n := by
  intro p e R s m args below meth c Q C hZ H locs ls hP hD hS hl
  exact lv_bipush C.1 C.2.1 hd hn (kk p e R s m args below meth c Q C hZ H locs ls hP hD hS hl)
theorem nb_sipush {y : Int} (hd : decode μ.2.1 pc = .ok (.sipush y, 3)) (hn : (Int16.ofInt y).toInt32 = Int32.ofInt y) (kk : nb_R l D cI cV μ d A nc ns Z (pc + 3) L (ad_iv y :: S) ws k n) : nb_R l D cI cV μ d A nc ns Z pc L S ws k n := by
  intro p e R s m args below meth c Q C hZ H locs ls hP hD hS hl
  exact lv_sipush C.1 C.2.1 hd hn (kk p e R s m args below meth c Q C hZ H locs ls hP hD hS hl)
theorem nb_iload_n {f : Fin 4} {x : Int} (hd : decode μ.2.1 pc = .ok (.iload_n f, 1)) (hv : ad_at L f.val = some (ad_iv x)) (kk : nb_R l D cI cV μ d A nc ns Z (pc + 1) L (ad_iv x :: S) ws k n) : nb_R l D cI cV μ d A nc ns Z pc L S ws k n := by
  intro p e R s m args below meth c Q C hZ H locs ls hP hD hS hl
  exact lv_iload_n C.1 C.2.1 hd rfl (hl.2.2 _ _ hv) (kk p e R s m args below meth c Q C hZ H locs ls hP hD hS hl)
theorem nb_aload_n {f : Fin 4} {x : Nat} (hd : decode μ.2.1 pc = .ok (.aload_n f, 1)) (hv : ad_at L f.val = some (.ref x)) (kk : nb_R l D cI cV μ d A nc ns Z (pc + 1) L (.ref x :: S) ws k n) : nb_R l D cI cV μ d A nc ns Z pc L S ws k n := by
  intro p e R s m args below meth c Q C hZ H locs ls hP hD hS hl
  exact lv_aload_n C.1 C.2.1 hd rfl (hl.2.2 _ _ hv) (kk p e R s m args below meth c Q C hZ H locs ls hP hD hS hl)
theorem nb_istore_n {f : Fin 4} {x : Int} (hd : decode μ.2.1 pc = .ok (.istore_n f, 1)) (hn : f.val < μ.2.2.1) (hok : ad_ok1 L f.val = true) {L1 : List (Option Value)} (hL : ad_set L f.val (some (ad_iv x)) = L1) (kk : nb_R l D cI cV μ d A nc ns Z (pc + 1) L1 S ws k n) : nb_R l D cI cV μ d A nc ns Z pc L (ad_iv x :: S) ws k n := by
  intro p e R s m args below meth c Q C hZ H locs ls hP hD hS hl
  subst hL
  obtain ⟨l, h1, h2⟩ := hl.one
  exact lv_istore_n C.1 C.2.1 hd rfl h1 hn rfl (fun ls1 h3 => kk p e R s m args below meth c Q C hZ H locs ls1 hP hD hS (ad_ls.st1 h2 hok h3))
theorem nb_astore_n {f : Fin 4} {x : Nat} (hd : decode μ.2.1 pc = .ok (.astore_n f, 1)) (hn : f.val < μ.2.2.1) (hok : ad_ok1 L f.val = true) {L1 : List (Option Value)} (hL : ad_set L f.val (some (.ref x)) = L1) (kk : nb_R l D cI cV μ d A nc ns Z (pc + 1) L1 S ws k n) : nb_R l D cI cV μ d A nc ns Z pc L (.ref x :: S) ws k n := by
  intro p e R s m args below meth c Q C hZ H locs ls hP hD hS hl
  subst hL
  obtain ⟨l, h1, h2⟩ := hl.one
  exact lv_astore_n C.1 C.2.1 hd rfl h1 hn rfl (fun ls1 h3 => kk p e R s m args below meth c Q C hZ H locs ls1 hP hD hS (ad_ls.st1 h2 hok h3))
theorem nb_iinc {f : Nat} {x t : Int} (hd : decode μ.2.1 pc = .ok (.iinc f t, 3)) (hv : ad_at L f = some (ad_iv x)) (hn : f < μ.2.2.1) (hok : ad_ok1 L f = true) {L1 : List (Option Value)} (hL : ad_set L f (some (ad_iv (x + t))) = L1) (kk : nb_R l D cI cV μ d A nc ns Z (pc + 3) L1 S ws k n) : nb_R l D cI cV μ d A nc ns Z pc L S ws k n := by
  intro p e R s m args below meth c Q C hZ H locs ls hP hD hS hl
  subst hL
  obtain ⟨l, h1, h2⟩ := hl.one
  obtain ⟨j, hj⟩ := List.getElem?_of_mem ((h2 f _).mpr ⟨hv, ad_at_lt hv⟩)
  exact lv_iinc C.1 C.2.1 hd h1 hj (ad_iadd_h x t) hn rfl (fun ls1 h3 => kk p e R s m args below meth c Q C hZ H locs ls1 hP hD hS (ad_ls.st1 h2 hok h3))
theorem nb_iadd {a b : Int} (hd : decode μ.2.1 pc = .ok (.iadd, 1)) (kk : nb_R l D cI cV μ d A nc ns Z (pc + 1) L (ad_iv (a + b) :: S) ws k n) : nb_R l D cI cV μ d A nc ns Z pc L (ad_iv b :: ad_iv a :: S) ws k n := by
  intro p e R s m args below meth c Q C hZ H locs ls hP hD hS hl
  refine lv_iadd C.1 C.2.1 hd ?_
  rw [ad_iadd_h]
  exact kk p e R s m args below meth c Q C hZ H locs ls hP hD hS hl
theorem nb_goto {off : Int} (tgt : Nat) (hd : decode μ.2.1 pc = .ok (.goto off, 3)) (ht : (pc : Int) + off = (tgt : Int)) (kk : nb_R l D cI cV μ d A nc ns Z tgt L S ws k n) : nb_R l D cI cV μ d A nc ns Z pc L S ws k n := by
  intro p e R s m args below meth c Q C hZ H locs ls hP hD hS hl
  exact lv_goto C.1 C.2.1 hd ht (kk p e R s m args below meth c Q C hZ H locs ls hP hD hS hl)
theorem nb_icmp_ge {a b off : Int} (tgt : Nat) (hd : decode μ.2.1 pc = .ok (.if_icmp .ge off, 3)) (ht : (pc : Int) + off = (tgt : Int)) (ha : ad_rng a) (hb : ad_rng b) (kt : b ≤ a → nb_R l D cI cV μ d A nc ns Z tgt L S ws k n) (kf : ¬ (b ≤ a) → nb_R l D cI cV μ d A nc ns Z (pc + 3) L S ws k n) : nb_R l D cI cV μ d A nc ns Z pc L (ad_iv b :: ad_iv a :: S) ws k n := by
  intro p e R s m args below meth c Q C hZ H locs ls hP hD hS hl
  have hh := ad_le_h hb ha
  exact lv_icmp_ge C.1 C.2.1 hd ht (fun h => kt (hh.mp h) p e R s m args below meth c Q C hZ H locs ls hP hD hS hl) (fun h => kf (fun q => h (hh.mpr q)) p e R s m args below meth c Q C hZ H locs ls hP hD hS hl)
theorem nb_null (hd : decode μ.2.1 pc = .ok (.aconst_null, 1)) (kk : nb_R l D cI cV μ d A nc ns Z (pc + 1) L (.null :: S) ws k n) : nb_R l D cI cV μ d A nc ns Z pc L S ws k n := by
  intro p e R s m args below meth c Q C hZ H locs ls hP hD hS hl
  exact lv_null C.1 C.2.1 hd (kk p e R s m args below meth c Q C hZ H locs ls hP hD hS hl)
theorem nb_dup {v : Value} (hd : decode μ.2.1 pc = .ok (.dup, 1)) (hv : v.category = 1) (kk : nb_R l D cI cV μ d A nc ns Z (pc + 1) L (v :: v :: S) ws k n) : nb_R l D cI cV μ d A nc ns Z pc L (v :: S) ws k n := by
  intro p e R s m args below meth c Q C hZ H locs ls hP hD hS hl
  exact lv_dup C.1 C.2.1 hd hv (kk p e R s m args below meth c Q C hZ H locs ls hP hD hS hl)
theorem nb_objInit {idx a : Nat} (hlk : Cond.methodLink μ.1.cls idx Lib.objectInit ∈ ad_TB) (hi : Cond.instanceMethod Lib.objectInit ∈ ad_TB) (hcd : Cond.code Lib.objectInit ⟨#[0xb1]⟩ 1 none ∈ ad_TB) (hd : decode μ.2.1 pc = .ok (.invokespecial idx, 3)) (hdd : 1 ≤ d) (hW : (S.map fun v => v.category).sum ≤ 8) (kk : nb_R l D cI cV μ d A nc ns Z (pc + 3) L S ws k n) : nb_R l D cI cV μ d A nc ns Z pc L (.ref a :: S) ws k n := by
  intro p e R s m args below meth c Q C hZ H locs ls hP hD hS hl
  have hr := C.2.2.2.2.2.2.2.2.2.1
  refine W.objInit C.1 C.2.1 C.2.2.2.1 (C.2.2.2.2.1 _ hlk) (C.2.2.2.2.1 _ hi) (C.2.2.2.2.1 _ hcd) rfl (hl.1.trans C.2.2.1.symm) rfl hd (by omega) (by show 2 * 0 + _ + 12 ≤ _; omega) ?_
  exact kk p e R s m args below meth c Q C hZ H locs ls hP hD hS hl
theorem nb_newa {y : Int} {N : Nat} (hd : decode μ.2.1 pc = .ok (.newarray .int, 2)) (har : Cond.arrayClass (newarray.typeOf .int) ∈ ad_TB) (hy : y = (N : Int)) (hN : N ≤ 1000) (hk : k + 1 ≤ nc) (hn : n + N ≤ ns) (kk : ∀ q : Nat, nb_R l D cI cV μ d A nc ns Z (pc + 2) L (.ref q :: S) (ws ++ [(q, .inl (cI, N, .inl (fun _ => 0)))]) (k + 1) (n + N)) : nb_R l D cI cV μ d A nc ns Z pc L (ad_iv y :: S) ws k n := by
  intro p e R s m args below meth c Q C hZ H locs ls hP hD hS hl
  subst hy
  have hc := C.2.2.2.2.2.2.2.2.2.2.1
  have hr : ad_rng (N : Int) := ⟨by omega, by omega⟩
  have ht := ad_toInt hr
  refine va_newa (n := Int32.ofInt (N : Int)) (N' := N) (a0 := (N, .inl (fun _ => 0))) C.1 C.2.1 (C.2.2.2.2.1 _ har) (ty := .int) rfl C.2.2.2.2.2.1 hP hD hS C.2.2.2.2.2.2.2.2.2.2.2 (fun _ => rfl) (fun h => by rw [Int32.lt_iff_toInt_lt, ht] at h; have : (0 : Int32).toInt = 0 := rfl; omega) (by unfold Int32.toNatClampNeg; rw [ht]; omega) (by show N * 4 ≤ _; omega) (by omega) (by omega) hd (fun q cA H1 hK1 hP1 hD1 hS1 => ?_)
  have e1 : s.vm.findClass _ = some cA := (hK1.2 2 (cA, .int) rfl).2
  have e2 : s.vm.findClass _ = some cI := (C.2.2.2.2.2.1.2 0 (cI, .int) rfl).2
  have hcA : cA = cI := Option.some.inj (e1.symm.trans e2)
  subst hcA
  exact kk q p e R s m args below meth c Q C hZ H1 locs ls hP1 hD1 hS1 hl
theorem nb_new {idx ci N : Nat} {C0 : String} {T : u_T} {fs : List Value} (ty : Nat → FieldType) (hd : decode μ.2.1 pc = .ok (.new idx, 3)) (hty : ∀ k, k < N → parseFieldDescriptor (T k).2.2.1 = some (ty k)) (hcl : Cond.classLink μ.1.cls idx C0 ∈ ad_TB) (hin : Cond.instantiable C0 N ∈ ad_TB) (hini : Cond.initialized C0 ∈ ad_TB) (hin2 : ∀ w ∈ u_ws C0 T N, w ∈ ad_TB) (hc : vwCl[ci]? = some (C0, T, N)) (hfs : ∀ j, j < N → defaultValue (ty j) = vp_V fs j) (hk : k + 1 ≤ nc) (hn : n + N ≤ ns)
    (kk : ∀ q : Nat, nb_R l D cI cV μ d A nc ns Z (pc + 3) L (.ref q :: S) (ws ++ [(q, .inr (ci, fs))]) (k + 1) (n + N)) : nb_R l D cI cV μ d A nc ns Z pc L S ws k n := by
  intro p e R s m args below meth c Q C hZ H locs ls hP hD hS hl
  have ok := C.2.2.2.2.1
  have hcs := C.2.2.2.2.2.2.2.2.2.2.1
  exact va_new (ci := ci) (fs := fs) C.1 C.2.1 ok hin2 ty hty C.2.2.2.1 (ok _ hcl) (ok _ hin) (ok _ hini) C.2.2.2.2.2.1 hP hD hS C.2.2.2.2.2.2.2.2.2.2.2 hc hfs (by omega) (by omega) hd (fun q H1 hP1 hD1 hS1 => kk q p e R s m args below meth c Q C hZ H1 locs ls hP1 hD1 hS1 hl)
theorem nb_nd : ∀ l : List Nat, l.Nodup → va_nd l = true
  | [], _ => rfl
  | a :: l, h => by
    have h2 := List.nodup_cons.mp h
    simp only [va_nd, Bool.and_eq_true, decide_eq_true_eq]
    exact ⟨h2.1, nb_nd l h2.2⟩
theorem nb_isR (w0 : va_W) (x : Nat × va_E) : (List.range w0.length).map (fun i => (w0 ++ [x])[i]?) = w0.map some := by
  refine List.ext_getElem (by simp) (fun i h1 h2 => ?_)
  simp at h1
  simp [List.getElem?_append_left h1, List.getElem?_eq_getElem h1]
theorem nb_isC (w0 : va_W) (x : Nat × va_E) : [w0.length].map (fun i => (w0 ++ [x])[i]?) = [x].map some := by simp
theorem nb_init {μ' : ad_MI} {d' j idx ci mc ms q : Nat} {fs As St : List Value} {w0 : va_W} {post : Nat → va_W → Prop} (hM : nb_M l D cI cV μ' d' ci fs As mc ms post) (hdd : d' + 1 ≤ d) (hlk : Cond.methodLink μ.1.cls idx μ'.1 ∈ ad_TB) (hi : Cond.instanceMethod μ'.1 ∈ ad_TB) (hcd : Cond.code μ'.1 μ'.2.1 μ'.2.2.1 μ'.2.2.2 ∈ ad_TB) (hr0 : μ'.2.2.2 = none) (hini : Cond.initialized μ'.1.cls ∈ ad_TB) (hde : μ'.1.cls ≠ "java/lang/invoke/MethodHandle" ∧ μ'.1.cls ≠ "java/lang/invoke/VarHandle" ∧ (parseMethodDescriptor μ'.1.desc).map (fun d => d.parameters.length) = some j) (h30 : μ'.2.2.1 ≤ 30) (hnm : μ'.1.name = "<init>") (hAs : As.length = j) (hSt : St = As.reverse ++ .ref q :: S)
    (hd : decode μ.2.1 pc = .ok (.invokespecial idx, 3)) (hW : (S.map fun v => v.category).sum ≤ 8) (hk : k + mc ≤ nc) (hn : n + ms ≤ ns)
    (kk : ∀ blk : va_W, post q blk → nb_R l D cI cV μ d A nc ns Z (pc + 3) L S (w0 ++ blk) (k + mc) (n + ms)) : nb_R l D cI cV μ d A nc ns Z pc L St (w0 ++ [(q, .inr (ci, fs))]) k n := by
  intro p e R s m args below meth c Q C hZ H locs ls hP hD hS hl
  subst hSt
  have ok := C.2.2.2.2.1
  have hrm := C.2.2.2.2.2.2.2.2.2.1
  have hcs := C.2.2.2.2.2.2.2.2.2.2.1
  have hA := C.2.2.2.2.2.2.2.2.2.2.2
  have hK := C.2.2.2.2.2.1
  have hPc : va_P D vwCl [(q, .inr (ci, fs))] H := hP.sub [w0.length] (by simp)
  have hFc := va_free (wc := [(q, .inr (ci, fs))]) hD hS hA [w0.length] (nb_isC w0 _)
  obtain ⟨y', b', ml', r'⟩ := μ'
  have hr0 : r' = none := hr0
  subst hr0
  have hgood : GoodIn ad_TB (ad_wsM (y', b', ml', none)) := fun w hw => (List.mem_cons.mp hw).elim (fun e => by rw [e]; exact ad_goodTB _ hcd) (fun hw => ad_goodTB w hw)
  have hr := va_runI (As := As) (rest := S) (b := q) (g := F0 m pc ls (As.reverse ++ .ref q :: S)) (H := H) (locs := locs) (cells := k) (slots := n) (p := p) (l := l) (e := e) (R := R) (s := s) (m := m) (args := args) (below := below) (meth := meth) (c := c) ⟨C.1, C.2.1, C.2.2.1, C.2.2.2.1, ok⟩ (hM q H.size) (cwI j ok hgood rfl rfl rfl (ok _ hini) (ok _ hlk) (ok _ hi) hnm hde ⟨by show d' + 1 ≤ R.frames; omega, by show 8 + (ml' + 11) + 60 * d' ≤ R.locals; have h30 : ml' ≤ 30 := h30; omega⟩) ⟨fun a U g2 mk z => by
      obtain ⟨z0, z1, z2, z3, z4⟩ := z
      exact ⟨z0, z1, z2, va_K.moved (u := U) (U := U.calling g2 mk a) (Vm.Alike.refl U.vm) z3, va_AO.moved (u := U) (U := U.calling g2 mk a) (Vm.Alike.refl U.vm) z4⟩, fun U hU hW2 => ⟨rfl, by rw [hU], by rw [hU]; exact hPc, va_K.moved hW2.alike hK, va_AO.moved hW2.alike C.2.2.2.2.2.2.2.1.2⟩⟩ rfl hAs hl.1 rfl (lv_room hW) hd ⟨by omega, by omega⟩
  intro T0 hT0 X0
  obtain ⟨v, st₀, t, T', Lc, g0, X', hL, e1, e2, ⟨⟨blk, hv, hpost, hP1, hD1⟩, hz, hkp⟩, st⟩ := hr T0 hT0 X0
  have hv : v = none := by cases hv; rfl
  subst hv
  rw [g0] at hz hkp
  rw [← e1] at hP1 hz hkp
  obtain ⟨hP2, hD2⟩ := va_join (wr := w0) (w1 := blk) hP hD [w0.length] (List.range w0.length) (nb_isC w0 _) (nb_isR w0 _) (nb_nd _ List.nodup_range) (fun i hi2 hi3 => by
    have h1 := List.mem_range.mp hi2
    have h2 := List.mem_singleton.mp hi3
    omega) hkp hFc hP1 hD1
  obtain ⟨t2, a1, b1⟩ := kk blk hpost p e R s m args below meth c Q C hZ T'.heap (locs ++ Lc) ls hP2 hD2 ⟨Nat.le_trans hS.1 hz, fun x h1 h2 => by rw [hkp x (Nat.lt_of_lt_of_le h1 hS.1) (fun z => h2 (hFc x z))]; exact hS.2.1 x h1 h2, fun x hx => by
      rcases List.mem_append.mp hx with h | h
      · exact hS.2.2 x h
      · exact hFc _ (hL x h)⟩ hl T' rfl X'
  exact ⟨t2, st t2 a1, b1⟩
end nbrows
