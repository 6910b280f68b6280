/-! ===== one row an instruction, over ad_R ===== -/
section adrows
variable {g : ad_G} {μ : ad_MI} {d : Nat} {Z : Nat → List Value → ad_Mem → Prop} {pc : Nat} {L : List (Option Value)} {S : List Value} {σ : ad_Mem}
theorem ad_iadd_h (a b : Int) : Int32.ofInt a + Int32.ofInt b = Int32.ofInt (a + b) := (Int32.ofInt_add a b).symm
theorem ad_isub_h (a b : Int) : Int32.ofInt a - Int32.ofInt b = Int32.ofInt (a - b) := (Int32.ofInt_sub a b).symm
theorem ad_imul_h (a b : Int) : Int32.ofInt a * Int32.ofInt b = Int32.ofInt (a * b) := (Int32.ofInt_mul a b).symm
theorem ad_ineg_h (a : Int) : - Int32.ofInt a = Int32.ofInt (-a) := (Int32.ofInt_neg a).symm
theorem ad_toInt {a : Int} (h : ad_rng a) : (Int32.ofInt a).toInt = a := Int32.toInt_ofInt_of_le h.1 (by have := h.2; omega)
theorem ad_lt_h {a b : Int} (ha : ad_rng a) (hb : ad_rng b) : (Int32.ofInt a < Int32.ofInt b) ↔ a < b := by rw [Int32.lt_iff_toInt_lt, ad_toInt ha, ad_toInt hb]
theorem ad_le_h {a b : Int} (ha : ad_rng a) (hb : ad_rng b) : (Int32.ofInt a ≤ Int32.ofInt b) ↔ a ≤ b := by rw [Int32.le_iff_toInt_le, ad_toInt ha, ad_toInt hb]
theorem ad_eq_h {a b : Int} (ha : ad_rng a) (hb : ad_rng b) : (Int32.ofInt a = Int32.ofInt b) ↔ a = b := by rw [← Int32.toInt_inj, ad_toInt ha, ad_toInt hb]
theorem ad_zero_h : (0 : Int32) = Int32.ofInt 0 := rfl
theorem ad_rng0 : ad_rng 0 := ⟨by decide, by decide⟩
theorem ad_stop (h : Z pc S σ) : ad_R g μ d Z pc L S σ := by
  intro p e R s m args below meth c cells slots Q C hZ H locs ls hP hS hl
  exact hZ _ _ _ _ _ _ h hP hS
theorem ad_iconst {n : Int} (hd : decode μ.2.1 pc = .ok (.iconst n, 1)) (k : ad_R g μ d Z (pc + 1) L (ad_iv n :: S) σ) : ad_R g μ d Z pc L S σ := by
  intro p e R s m args below meth c cells slots Q C hZ H locs ls hP hS hl
  exact lv_iconst C.1 C.2.1 hd rfl (k p e R s m args below meth c cells slots Q C hZ H locs ls hP hS hl)
theorem ad_bipush {n : Int} (hd : decode μ.2.1 pc = .ok (.bipush n, 2)) (hn : (Int8.ofInt n).toInt32 = Int32.ofInt n) (k : ad_R g μ d Z (pc + 2) L (ad_iv n :: S) σ) : ad_R g μ d Z pc L S σ := by
  intro p e R s m args below meth c cells slots Q C hZ H locs ls hP hS hl
  exact lv_bipush C.1 C.2.1 hd hn (k p e R s m args below meth c cells slots Q C hZ H locs ls hP hS hl)
theorem ad_sipush {n : Int} (hd : decode μ.2.1 pc = .ok (.sipush n, 3)) (hn : (Int16.ofInt n).toInt32 = Int32.ofInt n) (k : ad_R g μ d Z (pc + 3) L (ad_iv n :: S) σ) : ad_R g μ d Z pc L S σ := by
  intro p e R s m args below meth c cells slots Q C hZ H locs ls hP hS hl
  exact lv_sipush C.1 C.2.1 hd hn (k p e R s m args below meth c cells slots Q C hZ H locs ls hP hS hl)
theorem ad_lconst {n : Fin 2} (hd : decode μ.2.1 pc = .ok (.lconst n, 1)) (k : ad_R g μ d Z (pc + 1) L (ad_lv (n.val : Int) :: S) σ) : ad_R g μ d Z pc L S σ := by
  intro p e R s m args below meth c cells slots Q C hZ H locs ls hP hS hl
  exact lv_lconst C.1 C.2.1 hd rfl (k p e R s m args below meth c cells slots Q C hZ H locs ls hP hS hl)
theorem ad_null (hd : decode μ.2.1 pc = .ok (.aconst_null, 1)) (k : ad_R g μ d Z (pc + 1) L (.null :: S) σ) : ad_R g μ d Z pc L S σ := by
  intro p e R s m args below meth c cells slots Q C hZ H locs ls hP hS hl
  exact lv_null C.1 C.2.1 hd (k p e R s m args below meth c cells slots Q C hZ H locs ls hP hS hl)
theorem ad_ldc {index : Nat} {n : Int} (hd : decode μ.2.1 pc = .ok (.ldc index, 2)) (hc : Cond.constant μ.1.cls index (Int32.ofInt n) ∈ ad_TB) (k : ad_R g μ d Z (pc + 2) L (ad_iv n :: S) σ) : ad_R g μ d Z pc L S σ := by
  intro p e R s m args below meth c cells slots Q C hZ H locs ls hP hS hl
  exact lv_ldc C.1 C.2.1 C.2.2.2.1 (C.2.2.2.2.1 _ hc) hd (k p e R s m args below meth c cells slots Q C hZ H locs ls hP hS hl)
theorem ad_ldc2 {index : Nat} {n : Int} (hd : decode μ.2.1 pc = .ok (.ldc2_w index, 3)) (hc : Cond.constantLong μ.1.cls index (Int64.ofInt n) ∈ ad_TB) (k : ad_R g μ d Z (pc + 3) L (ad_lv n :: S) σ) : ad_R g μ d Z pc L S σ := by
  intro p e R s m args below meth c cells slots Q C hZ H locs ls hP hS hl
  exact lv_ldc2 C.1 C.2.1 C.2.2.2.1 (C.2.2.2.2.1 _ hc) hd (k p e R s m args below meth c cells slots Q C hZ H locs ls hP hS hl)
theorem ad_iload_n {n : Fin 4} {x : Int} (hd : decode μ.2.1 pc = .ok (.iload_n n, 1)) (hv : ad_at L n.val = some (ad_iv x)) (k : ad_R g μ d Z (pc + 1) L (ad_iv x :: S) σ) : ad_R g μ d Z pc L S σ := by
  intro p e R s m args below meth c cells slots Q C hZ H locs ls hP hS hl
  exact lv_iload_n C.1 C.2.1 hd rfl (hl.2.2 _ _ hv) (k p e R s m args below meth c cells slots Q C hZ H locs ls hP hS hl)
theorem ad_iload {n : Nat} {x : Int} (hd : decode μ.2.1 pc = .ok (.iload n, 2)) (hv : ad_at L n = some (ad_iv x)) (k : ad_R g μ d Z (pc + 2) L (ad_iv x :: S) σ) : ad_R g μ d Z pc L S σ := by
  intro p e R s m args below meth c cells slots Q C hZ H locs ls hP hS hl
  exact lv_iload C.1 C.2.1 hd (hl.2.2 _ _ hv) (k p e R s m args below meth c cells slots Q C hZ H locs ls hP hS hl)
theorem ad_lload_n {n : Fin 4} {x : Int} (hd : decode μ.2.1 pc = .ok (.lload_n n, 1)) (hv : ad_at L n.val = some (ad_lv x)) (k : ad_R g μ d Z (pc + 1) L (ad_lv x :: S) σ) : ad_R g μ d Z pc L S σ := by
  intro p e R s m args below meth c cells slots Q C hZ H locs ls hP hS hl
  exact lv_lload_n C.1 C.2.1 hd rfl (hl.2.2 _ _ hv) (k p e R s m args below meth c cells slots Q C hZ H locs ls hP hS hl)
theorem ad_lload {n : Nat} {x : Int} (hd : decode μ.2.1 pc = .ok (.lload n, 2)) (hv : ad_at L n = some (ad_lv x)) (k : ad_R g μ d Z (pc + 2) L (ad_lv x :: S) σ) : ad_R g μ d Z pc L S σ := by
  intro p e R s m args below meth c cells slots Q C hZ H locs ls hP hS hl
  exact lv_lload C.1 C.2.1 hd (hl.2.2 _ _ hv) (k p e R s m args below meth c cells slots Q C hZ H locs ls hP hS hl)
theorem ad_aload_n {n : Fin 4} {x : Nat} (hd : decode μ.2.1 pc = .ok (.aload_n n, 1)) (hv : ad_at L n.val = some (.ref x)) (k : ad_R g μ d Z (pc + 1) L (.ref x :: S) σ) : ad_R g μ d Z pc L S σ := by
  intro p e R s m args below meth c cells slots Q C hZ H locs ls hP hS hl
  exact lv_aload_n C.1 C.2.1 hd rfl (hl.2.2 _ _ hv) (k p e R s m args below meth c cells slots Q C hZ H locs ls hP hS hl)
theorem ad_aload {n : Nat} {x : Nat} (hd : decode μ.2.1 pc = .ok (.aload n, 2)) (hv : ad_at L n = some (.ref x)) (k : ad_R g μ d Z (pc + 2) L (.ref x :: S) σ) : ad_R g μ d Z pc L S σ := by
  intro p e R s m args below meth c cells slots Q C hZ H locs ls hP hS hl
  exact lv_aload C.1 C.2.1 hd (hl.2.2 _ _ hv) (k p e R s m args below meth c cells slots Q C hZ H locs ls hP hS hl)
theorem ad_istore_n {n : Fin 4} {x : Int} (hd : decode μ.2.1 pc = .ok (.istore_n n, 1)) (hn : n.val < μ.2.2.1) (hok : ad_ok1 L n.val = true) {L1 : List (Option Value)} (hL : ad_set L n.val (some (ad_iv x)) = L1) (k : ad_R g μ d Z (pc + 1) L1 S σ) : ad_R g μ d Z pc L (ad_iv x :: S) σ := by
  intro p e R s m args below meth c cells slots Q C hZ H locs ls hP hS hl
  subst hL
  obtain ⟨l, h1, h2⟩ := hl.one
  exact lv_istore_n C.1 C.2.1 hd rfl h1 hn rfl (fun ls1 h3 => k p e R s m args below meth c cells slots Q C hZ H locs ls1 hP hS (ad_ls.st1 h2 hok h3))
theorem ad_istore {n : Nat} {x : Int} (hd : decode μ.2.1 pc = .ok (.istore n, 2)) (hn : n < μ.2.2.1) (hok : ad_ok1 L n = true) {L1 : List (Option Value)} (hL : ad_set L n (some (ad_iv x)) = L1) (k : ad_R g μ d Z (pc + 2) L1 S σ) : ad_R g μ d Z pc L (ad_iv x :: S) σ := by
  intro p e R s m args below meth c cells slots Q C hZ H locs ls hP hS hl
  subst hL
  obtain ⟨l, h1, h2⟩ := hl.one
  exact lv_istore C.1 C.2.1 hd h1 hn rfl (fun ls1 h3 => k p e R s m args below meth c cells slots Q C hZ H locs ls1 hP hS (ad_ls.st1 h2 hok h3))
theorem ad_astore_n {n : Fin 4} {x : Nat} (hd : decode μ.2.1 pc = .ok (.astore_n n, 1)) (hn : n.val < μ.2.2.1) (hok : ad_ok1 L n.val = true) {L1 : List (Option Value)} (hL : ad_set L n.val (some (.ref x)) = L1) (k : ad_R g μ d Z (pc + 1) L1 S σ) : ad_R g μ d Z pc L (.ref x :: S) σ := by
  intro p e R s m args below meth c cells slots Q C hZ H locs ls hP hS hl
  subst hL
  obtain ⟨l, h1, h2⟩ := hl.one
  exact lv_astore_n C.1 C.2.1 hd rfl h1 hn rfl (fun ls1 h3 => k p e R s m args below meth c cells slots Q C hZ H locs ls1 hP hS (ad_ls.st1 h2 hok h3))
theorem ad_astore {n : Nat} {x : Nat} (hd : decode μ.2.1 pc = .ok (.astore n, 2)) (hn : n < μ.2.2.1) (hok : ad_ok1 L n = true) {L1 : List (Option Value)} (hL : ad_set L n (some (.ref x)) = L1) (k : ad_R g μ d Z (pc + 2) L1 S σ) : ad_R g μ d Z pc L (.ref x :: S) σ := by
  intro p e R s m args below meth c cells slots Q C hZ H locs ls hP hS hl
  subst hL
  obtain ⟨l, h1, h2⟩ := hl.one
  exact lv_astore C.1 C.2.1 hd h1 hn rfl (fun ls1 h3 => k p e R s m args below meth c cells slots Q C hZ H locs ls1 hP hS (ad_ls.st1 h2 hok h3))
theorem ad_lstore_n {n : Fin 4} {x : Int} (hd : decode μ.2.1 pc = .ok (.lstore_n n, 1)) (hn : n.val + 1 < μ.2.2.1) (hn2 : n.val + 1 < L.length) (hok : ad_ok1 L n.val = true) {L1 : List (Option Value)} (hL : ad_set (ad_set L (n.val + 1) none) n.val (some (ad_lv x)) = L1) (k : ad_R g μ d Z (pc + 1) L1 S σ) : ad_R g μ d Z pc L (ad_lv x :: S) σ := by
  intro p e R s m args below meth c cells slots Q C hZ H locs ls hP hS hl
  subst hL
  obtain ⟨l, h1, h2⟩ := hl.one
  exact lv_lstore_n C.1 C.2.1 hd rfl h1 hn rfl (fun ls1 h3 => k p e R s m args below meth c cells slots Q C hZ H locs ls1 hP hS (ad_ls.st2 h2 hok hn2 h3))
theorem ad_lstore {n : Nat} {x : Int} (hd : decode μ.2.1 pc = .ok (.lstore n, 2)) (hn : n + 1 < μ.2.2.1) (hn2 : n + 1 < L.length) (hok : ad_ok1 L n = true) {L1 : List (Option Value)} (hL : ad_set (ad_set L (n + 1) none) n (some (ad_lv x)) = L1) (k : ad_R g μ d Z (pc + 2) L1 S σ) : ad_R g μ d Z pc L (ad_lv x :: S) σ := by
  intro p e R s m args below meth c cells slots Q C hZ H locs ls hP hS hl
  subst hL
  obtain ⟨l, h1, h2⟩ := hl.one
  exact lv_lstore C.1 C.2.1 hd h1 hn rfl (fun ls1 h3 => k p e R s m args below meth c cells slots Q C hZ H locs ls1 hP hS (ad_ls.st2 h2 hok hn2 h3))
theorem ad_iinc {n : Nat} {x t : Int} (hd : decode μ.2.1 pc = .ok (.iinc n t, 3)) (hv : ad_at L n = some (ad_iv x)) (hn : n < μ.2.2.1) (hok : ad_ok1 L n = true) {L1 : List (Option Value)} (hL : ad_set L n (some (ad_iv (x + t))) = L1) (k : ad_R g μ d Z (pc + 3) L1 S σ) : ad_R g μ d Z pc L S σ := by
  intro p e R s m args below meth c cells slots Q C hZ H locs ls hP hS hl
  subst hL
  obtain ⟨l, h1, h2⟩ := hl.one
  obtain ⟨j, hj⟩ := List.getElem?_of_mem ((h2 n _).mpr ⟨hv, ad_at_lt hv⟩)
  exact lv_iinc C.1 C.2.1 hd h1 hj (ad_iadd_h x t) hn rfl (fun ls1 h3 => k p e R s m args below meth c cells slots Q C hZ H locs ls1 hP hS (ad_ls.st1 h2 hok h3))
theorem ad_iadd {a b : Int} (hd : decode μ.2.1 pc = .ok (.iadd, 1)) (k : ad_R g μ d Z (pc + 1) L (ad_iv (a + b) :: S) σ) : ad_R g μ d Z pc L (ad_iv b :: ad_iv a :: S) σ := by
  intro p e R s m args below meth c cells slots Q C hZ H locs ls hP hS hl
  refine lv_iadd C.1 C.2.1 hd ?_
  rw [ad_iadd_h]
  exact k p e R s m args below meth c cells slots Q C hZ H locs ls hP hS hl
theorem ad_isub {a b : Int} (hd : decode μ.2.1 pc = .ok (.isub, 1)) (k : ad_R g μ d Z (pc + 1) L (ad_iv (a - b) :: S) σ) : ad_R g μ d Z pc L (ad_iv b :: ad_iv a :: S) σ := by
  intro p e R s m args below meth c cells slots Q C hZ H locs ls hP hS hl
  refine lv_isub C.1 C.2.1 hd ?_
  rw [ad_isub_h]
  exact k p e R s m args below meth c cells slots Q C hZ H locs ls hP hS hl
theorem ad_imul {a b : Int} (hd : decode μ.2.1 pc = .ok (.imul, 1)) (k : ad_R g μ d Z (pc + 1) L (ad_iv (a * b) :: S) σ) : ad_R g μ d Z pc L (ad_iv b :: ad_iv a :: S) σ := by
  intro p e R s m args below meth c cells slots Q C hZ H locs ls hP hS hl
  refine lv_imul C.1 C.2.1 hd ?_
  rw [ad_imul_h]
  exact k p e R s m args below meth c cells slots Q C hZ H locs ls hP hS hl
theorem ad_ineg {a : Int} (hd : decode μ.2.1 pc = .ok (.ineg, 1)) (k : ad_R g μ d Z (pc + 1) L (ad_iv (-a) :: S) σ) : ad_R g μ d Z pc L (ad_iv a :: S) σ := by
  intro p e R s m args below meth c cells slots Q C hZ H locs ls hP hS hl
  refine lv_ineg C.1 C.2.1 hd ?_
  rw [ad_ineg_h]
  exact k p e R s m args below meth c cells slots Q C hZ H locs ls hP hS hl
/-- the machine's own operations on bits and quotients, as numbers -/
def ad_and (a b : Int) : Int := (Int32.ofInt a &&& Int32.ofInt b).toInt
def ad_or (a b : Int) : Int := (Int32.ofInt a ||| Int32.ofInt b).toInt
def ad_xor (a b : Int) : Int := (Int32.ofInt a ^^^ Int32.ofInt b).toInt
def ad_shl (a b : Int) : Int := (Int32.ofInt a <<< (Int32.ofInt b &&& 31)).toInt
def ad_shr (a b : Int) : Int := (Int32.ofInt a >>> (Int32.ofInt b &&& 31)).toInt
def ad_div (a b : Int) : Int := (Int32.ofInt a / Int32.ofInt b).toInt
def ad_rem (a b : Int) : Int := (Int32.ofInt a - Int32.ofInt a / Int32.ofInt b * Int32.ofInt b).toInt
theorem ad_ofto (x : Int32) : Int32.ofInt x.toInt = x := Int32.ofInt_toInt x
theorem ad_ofto64 (x : Int64) : Int64.ofInt x.toInt = x := Int64.ofInt_toInt x
theorem ad_iv_to (x : Int32) : ad_iv x.toInt = .int x := by rw [ad_iv, ad_ofto]
theorem ad_lv_to (x : Int64) : ad_lv x.toInt = .long x := by rw [ad_lv, ad_ofto64]
theorem ad_iand {a b : Int} (hd : decode μ.2.1 pc = .ok (.iand, 1)) (k : ad_R g μ d Z (pc + 1) L (ad_iv (ad_and a b) :: S) σ) : ad_R g μ d Z pc L (ad_iv b :: ad_iv a :: S) σ := by
  intro p e R s m args below meth c cells slots Q C hZ H locs ls hP hS hl
  have k2 := k p e R s m args below meth c cells slots Q C hZ H locs ls hP hS hl
  unfold ad_and at k2
  rw [ad_iv_to] at k2
  exact lv_iand C.1 C.2.1 hd k2
theorem ad_ior {a b : Int} (hd : decode μ.2.1 pc = .ok (.ior, 1)) (k : ad_R g μ d Z (pc + 1) L (ad_iv (ad_or a b) :: S) σ) : ad_R g μ d Z pc L (ad_iv b :: ad_iv a :: S) σ := by
  intro p e R s m args below meth c cells slots Q C hZ H locs ls hP hS hl
  have k2 := k p e R s m args below meth c cells slots Q C hZ H locs ls hP hS hl
  unfold ad_or at k2
  rw [ad_iv_to] at k2
  exact lv_ior C.1 C.2.1 hd k2
theorem ad_ixor {a b : Int} (hd : decode μ.2.1 pc = .ok (.ixor, 1)) (k : ad_R g μ d Z (pc + 1) L (ad_iv (ad_xor a b) :: S) σ) : ad_R g μ d Z pc L (ad_iv b :: ad_iv a :: S) σ := by
  intro p e R s m args below meth c cells slots Q C hZ H locs ls hP hS hl
  have k2 := k p e R s m args below meth c cells slots Q C hZ H locs ls hP hS hl
  unfold ad_xor at k2
  rw [ad_iv_to] at k2
  exact lv_ixor C.1 C.2.1 hd k2
theorem ad_ishl {a b : Int} (hd : decode μ.2.1 pc = .ok (.ishl, 1)) (k : ad_R g μ d Z (pc + 1) L (ad_iv (ad_shl a b) :: S) σ) : ad_R g μ d Z pc L (ad_iv b :: ad_iv a :: S) σ := by
  intro p e R s m args below meth c cells slots Q C hZ H locs ls hP hS hl
  have k2 := k p e R s m args below meth c cells slots Q C hZ H locs ls hP hS hl
  unfold ad_shl at k2
  rw [ad_iv_to] at k2
  exact lv_ishl C.1 C.2.1 hd k2
theorem ad_ishr {a b : Int} (hd : decode μ.2.1 pc = .ok (.ishr, 1)) (k : ad_R g μ d Z (pc + 1) L (ad_iv (ad_shr a b) :: S) σ) : ad_R g μ d Z pc L (ad_iv b :: ad_iv a :: S) σ := by
  intro p e R s m args below meth c cells slots Q C hZ H locs ls hP hS hl
  have k2 := k p e R s m args below meth c cells slots Q C hZ H locs ls hP hS hl
  unfold ad_shr at k2
  rw [ad_iv_to] at k2
  exact lv_ishr C.1 C.2.1 hd k2
theorem ad_idiv {a b : Int} (hd : decode μ.2.1 pc = .ok (.idiv, 1)) (hb : ad_rng b) (h0 : b ≠ 0) (k : ad_R g μ d Z (pc + 1) L (ad_iv (ad_div a b) :: S) σ) : ad_R g μ d Z pc L (ad_iv b :: ad_iv a :: S) σ := by
  intro p e R s m args below meth c cells slots Q C hZ H locs ls hP hS hl
  have k2 := k p e R s m args below meth c cells slots Q C hZ H locs ls hP hS hl
  unfold ad_div at k2
  rw [ad_iv_to] at k2
  exact lv_idiv C.1 C.2.1 hd (fun h => h0 ((ad_eq_h hb ad_rng0).mp h)) k2
theorem ad_irem {a b : Int} (hd : decode μ.2.1 pc = .ok (.irem, 1)) (hb : ad_rng b) (h0 : b ≠ 0) (k : ad_R g μ d Z (pc + 1) L (ad_iv (ad_rem a b) :: S) σ) : ad_R g μ d Z pc L (ad_iv b :: ad_iv a :: S) σ := by
  intro p e R s m args below meth c cells slots Q C hZ H locs ls hP hS hl
  have k2 := k p e R s m args below meth c cells slots Q C hZ H locs ls hP hS hl
  unfold ad_rem at k2
  rw [ad_iv_to] at k2
  exact lv_irem C.1 C.2.1 hd (fun h => h0 ((ad_eq_h hb ad_rng0).mp h)) k2
theorem ad_lsub_h (a b : Int) : Int64.ofInt a - Int64.ofInt b = Int64.ofInt (a - b) := (Int64.ofInt_sub a b).symm
theorem ad_lmul_h (a b : Int) : Int64.ofInt a * Int64.ofInt b = Int64.ofInt (a * b) := (Int64.ofInt_mul a b).symm
def ad_lrem_f (a b : Int) : Int := (Int64.ofInt a - Int64.ofInt a / Int64.ofInt b * Int64.ofInt b).toInt
def ad_ldiv_f (a b : Int) : Int := (Int64.ofInt a / Int64.ofInt b).toInt
theorem ad_i2l_h {a : Int} (h : ad_rng a) : (Int32.ofInt a).toInt64 = Int64.ofInt a := by
  rw [← Int64.toInt_inj, Int32.toInt_toInt64, ad_toInt h, Int64.toInt_ofInt_of_le (by have := h.1; omega) (by have := h.2; omega)]
theorem ad_lsub {a b : Int} (hd : decode μ.2.1 pc = .ok (.lsub, 1)) (k : ad_R g μ d Z (pc + 1) L (ad_lv (a - b) :: S) σ) : ad_R g μ d Z pc L (ad_lv b :: ad_lv a :: S) σ := by
  intro p e R s m args below meth c cells slots Q C hZ H locs ls hP hS hl
  refine lv_lsub C.1 C.2.1 hd ?_
  rw [ad_lsub_h]
  exact k p e R s m args below meth c cells slots Q C hZ H locs ls hP hS hl
theorem ad_lmul {a b : Int} (hd : decode μ.2.1 pc = .ok (.lmul, 1)) (k : ad_R g μ d Z (pc + 1) L (ad_lv (a * b) :: S) σ) : ad_R g μ d Z pc L (ad_lv b :: ad_lv a :: S) σ := by
  intro p e R s m args below meth c cells slots Q C hZ H locs ls hP hS hl
  refine lv_lmul C.1 C.2.1 hd ?_
  rw [ad_lmul_h]
  exact k p e R s m args below meth c cells slots Q C hZ H locs ls hP hS hl
theorem ad_ldiv {a b : Int} (hd : decode μ.2.1 pc = .ok (.ldiv, 1)) (h0 : Int64.ofInt b ≠ 0) (k : ad_R g μ d Z (pc + 1) L (ad_lv (ad_ldiv_f a b) :: S) σ) : ad_R g μ d Z pc L (ad_lv b :: ad_lv a :: S) σ := by
  intro p e R s m args below meth c cells slots Q C hZ H locs ls hP hS hl
  have k2 := k p e R s m args below meth c cells slots Q C hZ H locs ls hP hS hl
  unfold ad_ldiv_f at k2
  rw [ad_lv_to] at k2
  exact lv_ldiv C.1 C.2.1 hd h0 k2
theorem ad_lrem {a b : Int} (hd : decode μ.2.1 pc = .ok (.lrem, 1)) (h0 : Int64.ofInt b ≠ 0) (k : ad_R g μ d Z (pc + 1) L (ad_lv (ad_lrem_f a b) :: S) σ) : ad_R g μ d Z pc L (ad_lv b :: ad_lv a :: S) σ := by
  intro p e R s m args below meth c cells slots Q C hZ H locs ls hP hS hl
  have k2 := k p e R s m args below meth c cells slots Q C hZ H locs ls hP hS hl
  unfold ad_lrem_f at k2
  rw [ad_lv_to] at k2
  exact lv_lrem C.1 C.2.1 hd h0 k2
theorem ad_i2l {a : Int} (hd : decode μ.2.1 pc = .ok (.i2l, 1)) (ha : ad_rng a) (k : ad_R g μ d Z (pc + 1) L (ad_lv a :: S) σ) : ad_R g μ d Z pc L (ad_iv a :: S) σ := by
  intro p e R s m args below meth c cells slots Q C hZ H locs ls hP hS hl
  exact lv_i2l C.1 C.2.1 hd (ad_i2l_h ha) (k p e R s m args below meth c cells slots Q C hZ H locs ls hP hS hl)
def ad_cmp (a b : Int) : Int := if b < a then 1 else if a = b then 0 else -1
abbrev ad_rng64 (x : Int) : Prop := -9223372036854775808 ≤ x ∧ x ≤ 9223372036854775807
theorem ad_toInt64 {a : Int} (h : ad_rng64 a) : (Int64.ofInt a).toInt = a := Int64.toInt_ofInt_of_le h.1 (by have := h.2; omega)
theorem ad_cmp_h {a b : Int} (ha : ad_rng64 a) (hb : ad_rng64 b) : lg_cmp (Int64.ofInt a) (Int64.ofInt b) = Int32.ofInt (ad_cmp a b) := by
  unfold lg_cmp ad_cmp
  have h1 : (Int64.ofInt a > Int64.ofInt b) ↔ b < a := by rw [gt_iff_lt, Int64.lt_iff_toInt_lt, ad_toInt64 ha, ad_toInt64 hb]
  have h2 : (Int64.ofInt a = Int64.ofInt b) ↔ a = b := by rw [← Int64.toInt_inj, ad_toInt64 ha, ad_toInt64 hb]
  by_cases q1 : b < a
  · rw [if_pos (h1.mpr q1), if_pos q1]; rfl
  · rw [if_neg (fun h => q1 (h1.mp h)), if_neg q1]
    by_cases q2 : a = b
    · rw [if_pos (h2.mpr q2), if_pos q2]; rfl
    · rw [if_neg (fun h => q2 (h2.mp h)), if_neg q2]; rfl
theorem ad_cmp_same (x : Int64) : lg_cmp x x = Int32.ofInt 0 := by
  unfold lg_cmp
  rw [if_neg (by rw [gt_iff_lt, Int64.lt_iff_toInt_lt]; omega), if_pos rfl]; rfl
theorem ad_lcmp {a b : Int} (hd : decode μ.2.1 pc = .ok (.lcmp, 1)) (ha : ad_rng64 a) (hb : ad_rng64 b) (k : ad_R g μ d Z (pc + 1) L (ad_iv (ad_cmp a b) :: S) σ) : ad_R g μ d Z pc L (ad_lv b :: ad_lv a :: S) σ := by
  intro p e R s m args below meth c cells slots Q C hZ H locs ls hP hS hl
  refine W.lcmp C.1 C.2.1 hd ?_
  rw [ad_cmp_h ha hb]
  exact k p e R s m args below meth c cells slots Q C hZ H locs ls hP hS hl
theorem ad_lcmp_same {a : Int} (hd : decode μ.2.1 pc = .ok (.lcmp, 1)) (k : ad_R g μ d Z (pc + 1) L (ad_iv 0 :: S) σ) : ad_R g μ d Z pc L (ad_lv a :: ad_lv a :: S) σ := by
  intro p e R s m args below meth c cells slots Q C hZ H locs ls hP hS hl
  refine W.lcmp C.1 C.2.1 hd ?_
  rw [ad_cmp_same]
  exact k p e R s m args below meth c cells slots Q C hZ H locs ls hP hS hl
theorem ad_dup {v : Value} (hd : decode μ.2.1 pc = .ok (.dup, 1)) (hv : v.category = 1) (k : ad_R g μ d Z (pc + 1) L (v :: v :: S) σ) : ad_R g μ d Z pc L (v :: S) σ := by
  intro p e R s m args below meth c cells slots Q C hZ H locs ls hP hS hl
  exact lv_dup C.1 C.2.1 hd hv (k p e R s m args below meth c cells slots Q C hZ H locs ls hP hS hl)
theorem ad_pop {v : Value} (hd : decode μ.2.1 pc = .ok (.pop, 1)) (hv : v.category = 1) (k : ad_R g μ d Z (pc + 1) L S σ) : ad_R g μ d Z pc L (v :: S) σ := by
  intro p e R s m args below meth c cells slots Q C hZ H locs ls hP hS hl
  exact lv_pop C.1 C.2.1 hd hv (k p e R s m args below meth c cells slots Q C hZ H locs ls hP hS hl)
theorem ad_dup2 {v w : Value} (hd : decode μ.2.1 pc = .ok (.dup2, 1)) (hv : v.category = 1) (hw : w.category = 1) (k : ad_R g μ d Z (pc + 1) L (v :: w :: v :: w :: S) σ) : ad_R g μ d Z pc L (v :: w :: S) σ := by
  intro p e R s m args below meth c cells slots Q C hZ H locs ls hP hS hl
  exact lv_dup2_11 C.1 C.2.1 hd hv hw (k p e R s m args below meth c cells slots Q C hZ H locs ls hP hS hl)
theorem ad_goto {off : Int} (tgt : Nat) (hd : decode μ.2.1 pc = .ok (.goto off, 3)) (ht : (pc : Int) + off = (tgt : Int)) (k : ad_R g μ d Z tgt L S σ) : ad_R g μ d Z pc L S σ := by
  intro p e R s m args below meth c cells slots Q C hZ H locs ls hP hS hl
  exact lv_goto C.1 C.2.1 hd ht (k p e R s m args below meth c cells slots Q C hZ H locs ls hP hS hl)
theorem ad_if_eq {a off : Int} (tgt : Nat) (hd : decode μ.2.1 pc = .ok (.ifCond .eq off, 3)) (ht : (pc : Int) + off = (tgt : Int)) (ha : ad_rng a) (kt : a = 0 → ad_R g μ d Z tgt L S σ) (kf : ¬ (a = 0) → ad_R g μ d Z (pc + 3) L S σ) : ad_R g μ d Z pc L (ad_iv a :: S) σ := by
  intro p e R s m args below meth c cells slots Q C hZ H locs ls hP hS hl
  have hh := ad_eq_h ha ad_rng0
  exact lv_if_eq C.1 C.2.1 hd ht (fun h => kt (hh.mp h) p e R s m args below meth c cells slots Q C hZ H locs ls hP hS hl) (fun h => kf (fun q => h (hh.mpr q)) p e R s m args below meth c cells slots Q C hZ H locs ls hP hS hl)
theorem ad_if_ne {a off : Int} (tgt : Nat) (hd : decode μ.2.1 pc = .ok (.ifCond .ne off, 3)) (ht : (pc : Int) + off = (tgt : Int)) (ha : ad_rng a) (kt : a ≠ 0 → ad_R g μ d Z tgt L S σ) (kf : ¬ (a ≠ 0) → ad_R g μ d Z (pc + 3) L S σ) : ad_R g μ d Z pc L (ad_iv a :: S) σ := by
  intro p e R s m args below meth c cells slots Q C hZ H locs ls hP hS hl
  have hh := not_congr (ad_eq_h ha ad_rng0)
  exact lv_if_ne C.1 C.2.1 hd ht (fun h => kt (hh.mp h) p e R s m args below meth c cells slots Q C hZ H locs ls hP hS hl) (fun h => kf (fun q => hh.mpr q h) p e R s m args below meth c cells slots Q C hZ H locs ls hP hS hl)
theorem ad_if_lt {a off : Int} (tgt : Nat) (hd : decode μ.2.1 pc = .ok (.ifCond .lt off, 3)) (ht : (pc : Int) + off = (tgt : Int)) (ha : ad_rng a) (kt : a < 0 → ad_R g μ d Z tgt L S σ) (kf : ¬ (a < 0) → ad_R g μ d Z (pc + 3) L S σ) : ad_R g μ d Z pc L (ad_iv a :: S) σ := by
  intro p e R s m args below meth c cells slots Q C hZ H locs ls hP hS hl
  have hh := ad_lt_h ha ad_rng0
  exact lv_if_lt C.1 C.2.1 hd ht (fun h => kt (hh.mp h) p e R s m args below meth c cells slots Q C hZ H locs ls hP hS hl) (fun h => kf (fun q => h (hh.mpr q)) p e R s m args below meth c cells slots Q C hZ H locs ls hP hS hl)
theorem ad_if_ge {a off : Int} (tgt : Nat) (hd : decode μ.2.1 pc = .ok (.ifCond .ge off, 3)) (ht : (pc : Int) + off = (tgt : Int)) (ha : ad_rng a) (kt : 0 ≤ a → ad_R g μ d Z tgt L S σ) (kf : ¬ (0 ≤ a) → ad_R g μ d Z (pc + 3) L S σ) : ad_R g μ d Z pc L (ad_iv a :: S) σ := by
  intro p e R s m args below meth c cells slots Q C hZ H locs ls hP hS hl
  have hh := ad_le_h ad_rng0 ha
  exact lv_if_ge C.1 C.2.1 hd ht (fun h => kt (hh.mp h) p e R s m args below meth c cells slots Q C hZ H locs ls hP hS hl) (fun h => kf (fun q => h (hh.mpr q)) p e R s m args below meth c cells slots Q C hZ H locs ls hP hS hl)
theorem ad_if_gt {a off : Int} (tgt : Nat) (hd : decode μ.2.1 pc = .ok (.ifCond .gt off, 3)) (ht : (pc : Int) + off = (tgt : Int)) (ha : ad_rng a) (kt : 0 < a → ad_R g μ d Z tgt L S σ) (kf : ¬ (0 < a) → ad_R g μ d Z (pc + 3) L S σ) : ad_R g μ d Z pc L (ad_iv a :: S) σ := by
  intro p e R s m args below meth c cells slots Q C hZ H locs ls hP hS hl
  have hh := ad_lt_h ad_rng0 ha
  exact lv_if_gt C.1 C.2.1 hd ht (fun h => kt (hh.mp h) p e R s m args below meth c cells slots Q C hZ H locs ls hP hS hl) (fun h => kf (fun q => h (hh.mpr q)) p e R s m args below meth c cells slots Q C hZ H locs ls hP hS hl)
theorem ad_if_le {a off : Int} (tgt : Nat) (hd : decode μ.2.1 pc = .ok (.ifCond .le off, 3)) (ht : (pc : Int) + off = (tgt : Int)) (ha : ad_rng a) (kt : a ≤ 0 → ad_R g μ d Z tgt L S σ) (kf : ¬ (a ≤ 0) → ad_R g μ d Z (pc + 3) L S σ) : ad_R g μ d Z pc L (ad_iv a :: S) σ := by
  intro p e R s m args below meth c cells slots Q C hZ H locs ls hP hS hl
  have hh := ad_le_h ha ad_rng0
  exact lv_if_le C.1 C.2.1 hd ht (fun h => kt (hh.mp h) p e R s m args below meth c cells slots Q C hZ H locs ls hP hS hl) (fun h => kf (fun q => h (hh.mpr q)) p e R s m args below meth c cells slots Q C hZ H locs ls hP hS hl)
theorem ad_icmp_eq {a b off : Int} (tgt : Nat) (hd : decode μ.2.1 pc = .ok (.if_icmp .eq off, 3)) (ht : (pc : Int) + off = (tgt : Int)) (ha : ad_rng a) (hb : ad_rng b) (kt : a = b → ad_R g μ d Z tgt L S σ) (kf : ¬ (a = b) → ad_R g μ d Z (pc + 3) L S σ) : ad_R g μ d Z pc L (ad_iv b :: ad_iv a :: S) σ := by
  intro p e R s m args below meth c cells slots Q C hZ H locs ls hP hS hl
  have hh := ad_eq_h ha hb
  exact lv_icmp_eq C.1 C.2.1 hd ht (fun h => kt (hh.mp h) p e R s m args below meth c cells slots Q C hZ H locs ls hP hS hl) (fun h => kf (fun q => h (hh.mpr q)) p e R s m args below meth c cells slots Q C hZ H locs ls hP hS hl)
theorem ad_icmp_ne {a b off : Int} (tgt : Nat) (hd : decode μ.2.1 pc = .ok (.if_icmp .ne off, 3)) (ht : (pc : Int) + off = (tgt : Int)) (ha : ad_rng a) (hb : ad_rng b) (kt : a ≠ b → ad_R g μ d Z tgt L S σ) (kf : ¬ (a ≠ b) → ad_R g μ d Z (pc + 3) L S σ) : ad_R g μ d Z pc L (ad_iv b :: ad_iv a :: S) σ := by
  intro p e R s m args below meth c cells slots Q C hZ H locs ls hP hS hl
  have hh := not_congr (ad_eq_h ha hb)
  exact lv_icmp_ne C.1 C.2.1 hd ht (fun h => kt (hh.mp h) p e R s m args below meth c cells slots Q C hZ H locs ls hP hS hl) (fun h => kf (fun q => hh.mpr q h) p e R s m args below meth c cells slots Q C hZ H locs ls hP hS hl)
theorem ad_icmp_lt {a b off : Int} (tgt : Nat) (hd : decode μ.2.1 pc = .ok (.if_icmp .lt off, 3)) (ht : (pc : Int) + off = (tgt : Int)) (ha : ad_rng a) (hb : ad_rng b) (kt : a < b → ad_R g μ d Z tgt L S σ) (kf : ¬ (a < b) → ad_R g μ d Z (pc + 3) L S σ) : ad_R g μ d Z pc L (ad_iv b :: ad_iv a :: S) σ := by
  intro p e R s m args below meth c cells slots Q C hZ H locs ls hP hS hl
  have hh := ad_lt_h ha hb
  exact lv_icmp_lt C.1 C.2.1 hd ht (fun h => kt (hh.mp h) p e R s m args below meth c cells slots Q C hZ H locs ls hP hS hl) (fun h => kf (fun q => h (hh.mpr q)) p e R s m args below meth c cells slots Q C hZ H locs ls hP hS hl)
theorem ad_icmp_ge {a b off : Int} (tgt : Nat) (hd : decode μ.2.1 pc = .ok (.if_icmp .ge off, 3)) (ht : (pc : Int) + off = (tgt : Int)) (ha : ad_rng a) (hb : ad_rng b) (kt : b ≤ a → ad_R g μ d Z tgt L S σ) (kf : ¬ (b ≤ a) → ad_R g μ d Z (pc + 3) L S σ) : ad_R g μ d Z pc L (ad_iv b :: ad_iv a :: S) σ := by
  intro p e R s m args below meth c cells slots Q C hZ H locs ls hP hS hl
  have hh := ad_le_h hb ha
  exact lv_icmp_ge C.1 C.2.1 hd ht (fun h => kt (hh.mp h) p e R s m args below meth c cells slots Q C hZ H locs ls hP hS hl) (fun h => kf (fun q => h (hh.mpr q)) p e R s m args below meth c cells slots Q C hZ H locs ls hP hS hl)
theorem ad_icmp_gt {a b off : Int} (tgt : Nat) (hd : decode μ.2.1 pc = .ok (.if_icmp .gt off, 3)) (ht : (pc : Int) + off = (tgt : Int)) (ha : ad_rng a) (hb : ad_rng b) (kt : b < a → ad_R g μ d Z tgt L S σ) (kf : ¬ (b < a) → ad_R g μ d Z (pc + 3) L S σ) : ad_R g μ d Z pc L (ad_iv b :: ad_iv a :: S) σ := by
  intro p e R s m args below meth c cells slots Q C hZ H locs ls hP hS hl
  have hh := ad_lt_h hb ha
  exact lv_icmp_gt C.1 C.2.1 hd ht (fun h => kt (hh.mp h) p e R s m args below meth c cells slots Q C hZ H locs ls hP hS hl) (fun h => kf (fun q => h (hh.mpr q)) p e R s m args below meth c cells slots Q C hZ H locs ls hP hS hl)
theorem ad_icmp_le {a b off : Int} (tgt : Nat) (hd : decode μ.2.1 pc = .ok (.if_icmp .le off, 3)) (ht : (pc : Int) + off = (tgt : Int)) (ha : ad_rng a) (hb : ad_rng b) (kt : a ≤ b → ad_R g μ d Z tgt L S σ) (kf : ¬ (a ≤ b) → ad_R g μ d Z (pc + 3) L S σ) : ad_R g μ d Z pc L (ad_iv b :: ad_iv a :: S) σ := by
  intro p e R s m args below meth c cells slots Q C hZ H locs ls hP hS hl
  have hh := ad_le_h ha hb
  exact lv_icmp_le C.1 C.2.1 hd ht (fun h => kt (hh.mp h) p e R s m args below meth c cells slots Q C hZ H locs ls hP hS hl) (fun h => kf (fun q => h (hh.mpr q)) p e R s m args below meth c cells slots Q C hZ H locs ls hP hS hl)
theorem ad_pv_eq (q : Prop) [Decidable q] : (Int32.ofInt (if q then 1 else 0) = 0) ↔ ¬ q := by
  by_cases h : q
  · rw [if_pos h]; exact ⟨fun e => absurd e (by decide), fun e => absurd h e⟩
  · rw [if_neg h]; exact ⟨fun _ => h, fun _ => rfl⟩
theorem ad_ifp_eq {q : Prop} [Decidable q] {off : Int} (tgt : Nat) (hd : decode μ.2.1 pc = .ok (.ifCond .eq off, 3)) (ht : (pc : Int) + off = (tgt : Int)) (kt : ¬ q → ad_R g μ d Z tgt L S σ) (kf : q → ad_R g μ d Z (pc + 3) L S σ) : ad_R g μ d Z pc L (ad_pv q :: S) σ := by
  intro p e R s m args below meth c cells slots Q C hZ H locs ls hP hS hl
  exact lv_if_eq C.1 C.2.1 hd ht (fun h => kt ((ad_pv_eq q).mp h) p e R s m args below meth c cells slots Q C hZ H locs ls hP hS hl) (fun h => kf (Decidable.not_not.mp (fun z => h ((ad_pv_eq q).mpr z))) p e R s m args below meth c cells slots Q C hZ H locs ls hP hS hl)
theorem ad_ifp_ne {q : Prop} [Decidable q] {off : Int} (tgt : Nat) (hd : decode μ.2.1 pc = .ok (.ifCond .ne off, 3)) (ht : (pc : Int) + off = (tgt : Int)) (kt : q → ad_R g μ d Z tgt L S σ) (kf : ¬ q → ad_R g μ d Z (pc + 3) L S σ) : ad_R g μ d Z pc L (ad_pv q :: S) σ := by
  intro p e R s m args below meth c cells slots Q C hZ H locs ls hP hS hl
  exact lv_if_ne C.1 C.2.1 hd ht (fun h => kt (Decidable.not_not.mp (fun z => h ((ad_pv_eq q).mpr z))) p e R s m args below meth c cells slots Q C hZ H locs ls hP hS hl) (fun h => kf ((ad_pv_eq q).mp h) p e R s m args below meth c cells slots Q C hZ H locs ls hP hS hl)
theorem ad_icmp_eq_same {a off : Int} (tgt : Nat) (hd : decode μ.2.1 pc = .ok (.if_icmp .eq off, 3)) (ht : (pc : Int) + off = (tgt : Int)) (kt : ad_R g μ d Z tgt L S σ) : ad_R g μ d Z pc L (ad_iv a :: ad_iv a :: S) σ := by
  intro p e R s m args below meth c cells slots Q C hZ H locs ls hP hS hl
  exact lv_icmp_eq C.1 C.2.1 hd ht (fun _ => kt p e R s m args below meth c cells slots Q C hZ H locs ls hP hS hl) (fun h => absurd rfl h)
theorem ad_ifnull {off : Int} {x : Nat} (hd : decode μ.2.1 pc = .ok (.ifnull off, 3)) (k : ad_R g μ d Z (pc + 3) L S σ) : ad_R g μ d Z pc L (.ref x :: S) σ := by
  intro p e R s m args below meth c cells slots Q C hZ H locs ls hP hS hl
  exact lv_ifnull C.1 C.2.1 hd (k p e R s m args below meth c cells slots Q C hZ H locs ls hP hS hl)
theorem ad_table {dflt lo hi : Int} {offs : Array Int} {len : Nat} {a : Int} (hd : decode μ.2.1 pc = .ok (.tableswitch dflt lo hi offs, len)) (ha : ad_rng a) (tgt : Nat) (ht : (if a < lo ∨ hi < a then some ((pc : Int) + dflt) else (offs[(a - lo).toNat]?).map (fun o => (pc : Int) + o)) = some (tgt : Int)) (k : ad_R g μ d Z tgt L S σ) : ad_R g μ d Z pc L (ad_iv a :: S) σ := by
  intro p e R s m args below meth c cells slots Q C hZ H locs ls hP hS hl
  by_cases hq : a < lo ∨ hi < a
  · rw [if_pos hq] at ht
    exact lv_tableOut C.1 C.2.1 hd (by rw [ad_toInt ha]; exact hq) (Option.some.inj ht) (k p e R s m args below meth c cells slots Q C hZ H locs ls hP hS hl)
  · rw [if_neg hq] at ht
    cases ho : offs[(a - lo).toNat]? with
    | none => rw [ho] at ht; cases ht
    | some o =>
      rw [ho] at ht
      exact lv_tableIn C.1 C.2.1 hd (by rw [ad_toInt ha]; exact fun z => hq (Or.inl z)) (by rw [ad_toInt ha]; exact fun z => hq (Or.inr z)) (by rw [ad_toInt ha]; exact ho) (Option.some.inj ht) (k p e R s m args below meth c cells slots Q C hZ H locs ls hP hS hl)
theorem ad_lookup {dflt : Int} {ps : Array (Int × Int)} {len : Nat} {a off : Int} (hd : decode μ.2.1 pc = .ok (.lookupswitch dflt ps, len)) (ha : ad_rng a) (hp : (ps.toList.zip (ps.toList.drop 1)).all (fun (a, next) => a.1 < next.1) = true) (tgt : Nat) (ho : Op.lookupswitch.offset ps.toList dflt a = off) (ht : (pc : Int) + off = (tgt : Int)) (k : ad_R g μ d Z tgt L S σ) : ad_R g μ d Z pc L (ad_iv a :: S) σ := by
  intro p e R s m args below meth c cells slots Q C hZ H locs ls hP hS hl
  exact lv_lookup C.1 C.2.1 hd hp (by rw [ad_toInt ha]; exact ho) ht (k p e R s m args below meth c cells slots Q C hZ H locs ls hP hS hl)
end adrows
