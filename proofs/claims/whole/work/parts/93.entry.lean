/-! THE CLAIM OUT OF ONE WALK OF THE LAW'S BODY. Your part is whole_start (and what it stands on); all else here is the same for every law, but numbers. -/
def R_law : String := "ArchiveOfDeltasLaw"
def lw_P (b : Addr) (xs : List Int32) (args : Array Value) (s : State) : Prop := args = #[.ref b] ∧ s.IntsAt b xs ∧ xs.length ≤ 2048 ∧ (Jvm.Cond.and given_1 narrow_1).before args s = true
def lw_Q (_ : Array Value) (s : State) (o : Outcome) (t : State) : Prop := o = .returned (some (.int 1)) ∧ Framed s o t [] 600000 7302250
def lw_Z (below : List Frame) (a : Array Value) (s : State) : State → Prop := fun t => ∃ o, t.status = .running ∧ Ended t below o ∧ lw_Q a s o t
/-- the law's own end, with 1 on the stack, nothing written that was there before, its room as the claim has it -/
theorem lw_ret {p : Program} {l : Launch} {e : Env} {s : State} {m : MethodId} {below : List Frame} {meth : Method} {c : Code} {b : Nat} (hx : p.tables.exec = Jvm.exec) (hb : c.code = code) (hr : meth.sig.returnType = ret) (hlocks : meth.locks = false) {pc : Nat} {H : Heap} {ls : Array Slot} (hdg : decode code pc = .ok (.ireturn, 1)) : W p l e room_1 s m #[Value.ref b] below meth c H [] 600000 7302250 (lw_Z below #[Value.ref b] s) (F0 m pc ls [.int 1]) := by
  intro T hT X
  obtain ⟨fs, hret, hrun, hended, hW, hframe⟩ := X.leave (v := some (.int 1)) (hlocks := hlocks) (fun h => by rw [hr] at h; cases h)
  have hmeth' : T.vm.method? m = some meth := X.method'
  refine ⟨T.setFrames fs, ?_, .returned (some (.int 1)), hrun, hended, rfl, ⟨_, rfl⟩, hW, hframe⟩
  jvm_step X.here [X.here.top, hx, hb, hdg, hmeth', hr, ret, narrow_b1]
  (try refine ⟨rfl, ?_⟩); (try refine ⟨rfl, ?_⟩)
  first | (intro acts; rw [hret _ acts rfl rfl rfl]) | rw [hret _ _ rfl rfl rfl]
  exact Steps.refl _
/-- what holds at the law's entry: the machine, the code, the tables' words (any of lw_tbl by 'hts w (by decide +kernel)'), the script of L ints xs at the cell b, what the Statement gives of the start (any of its parts by flat_of_before) -/
def lw_At (p : Program) (s : State) (m : MethodId) (meth : Method) (c : Code) (b L : Nat) (xs : Nat → Int32) : Prop :=
  p.tables.exec = Jvm.exec ∧ c.code = code ∧ meth.sig.returnType = ret ∧ c.maxLocals = 4 ∧ s.vm.findClass R_law = some m.cls ∧ (∀ w ∈ lw_tbl, w.before #[Value.ref b] s = true) ∧ va_X b L xs s s.heap ∧ b < s.heap.size ∧ meth.locks = false ∧ (Jvm.Cond.and given_1 narrow_1).before #[Value.ref b] s = true
/-! ===== the machine at the law's entry: classes, literals, statics ===== -/
def wk_L : List Cond := flatC (Jvm.Cond.and given_1 narrow_1)
abbrev wk_t (i : Nat) : Term := .string "ArchiveOfDeltas$Told" (ad_sidx.getD i 0)
abbrev wk_v (i : Nat) : Term := .field (wk_t i) "java/lang/String" "value" "[B"
theorem wk_ex : ∀ i : Nat, i < 7 → Cond.exactly (wk_t i) "java/lang/String" ∈ wk_L := by decide +kernel
theorem wk_co : ∀ i : Nat, i < 7 → Cond.eq (.field (wk_t i) "java/lang/String" "coder" "B") (.int 0) ∈ wk_L := by decide +kernel
theorem wk_ar : ∀ i : Nat, i < 7 → Cond.arrayOf (wk_v i) .byte ∈ wk_L := by decide +kernel
theorem wk_le : ∀ i : Nat, i < 7 → Cond.eq (.length (wk_v i)) (.int (Int32.ofNat (ad_slen.getD i 0))) ∈ wk_L := by decide +kernel
theorem wk_el : ∀ i : Nat, i < 7 → ∀ j : Nat, j < ad_slen.getD i 0 → Cond.eq (.elem (wk_v i) (.int (Int32.ofNat j))) (.int ((ad_sbyt.getD i []).getD j 0)) ∈ wk_L := by decide +kernel
theorem wk_ne : ∀ i : Nat, i < 7 → ∀ j : Nat, j < 7 → i ≠ j → (Cond.not (Cond.eq (wk_t i) (wk_t j)) ∈ wk_L ∨ Cond.not (Cond.eq (wk_t j) (wk_t i)) ∈ wk_L) := by decide +kernel
theorem wk_sr : ∀ i : Nat, i < 7 → lw_tbl[372 + i]? = some (Cond.stringRef "ArchiveOfDeltas$Told" (ad_sidx.getD i 0) (ad_stx.getD i "")) := by decide +kernel
theorem wk_ln : ∀ i : Nat, i < 7 → ad_slen.getD i 0 < 2 ^ 31 := by decide +kernel
theorem wk_S {b : Nat} {s : State} {A : Nat → Prop} (hgv : (Jvm.Cond.and given_1 narrow_1).before #[Value.ref b] s = true) (hts : ∀ w ∈ lw_tbl, w.before #[Value.ref b] s = true) (hA : ∀ a : Nat, a < s.heap.size → ¬ A a) :
    ∃ fS fB : Nat → Nat, vk_S 7 ad_slen ad_sbyt fS fB A s s.heap ∧ ∀ i : Nat, i < 7 → vk_R RX5 (ad_sidx.getD i 0) (ad_stx.getD i "") (fS i) s := by
  have hs : ∀ w ∈ wk_L, w.before #[Value.ref b] s = true := flat_of_before _ hgv
  obtain ⟨fS, fB, h1, h2⟩ := vk_Sof (args := #[Value.ref b]) (s := s) (N := 7) (tm := wk_t) (len := ad_slen) (byt := ad_sbyt) (A := A) wk_ln (fun i hi => hs _ (wk_ex i hi)) (fun i hi => hs _ (wk_co i hi)) (fun i hi => hs _ (wk_ar i hi)) (fun i hi => hs _ (wk_le i hi)) (fun i hi j hj => hs _ (wk_el i hi j hj)) (fun i j hi hj hij => (wk_ne i hi j hj hij).elim (fun h => Or.inl (hs _ h)) (fun h => Or.inr (hs _ h))) hA
  exact ⟨fS, fB, h1, fun i hi => vk_R.of (hts _ (List.mem_of_getElem? (wk_sr i hi))) (h2 i hi)⟩
theorem wk_z1 : Cond.eq (.static "java/lang/String" "COMPACT_STRINGS" "Z") (.int 1) ∈ wk_L := by decide +kernel
theorem wk_z2 : Cond.isRef (.static "jdk/internal/util/Preconditions" "SIOOBE_FORMATTER" "Ljava/util/function/BiFunction;") ∈ wk_L := by decide +kernel
theorem wk_w1 : lw_tbl[72]? = some (Cond.initialized "java/lang/String") := by decide +kernel
theorem wk_w2 : lw_tbl[74]? = some (Cond.initialized "jdk/internal/util/Preconditions") := by decide +kernel
theorem wk_w3 : lw_tbl[388]? = some (Cond.laysStatic "java/lang/String" "COMPACT_STRINGS" "Z") := by decide +kernel
theorem wk_w4 : lw_tbl[404]? = some (Cond.laysStatic "jdk/internal/util/Preconditions" "SIOOBE_FORMATTER" "Ljava/util/function/BiFunction;") := by decide +kernel
theorem wk_w5 : lw_tbl[515]? = some (Cond.methodLinkNest RX5 147 yX7_isHead "ArchiveOfDeltas") := by decide +kernel
theorem wk_w6 : lw_tbl[93]? = some (Cond.arrayOver (.object RX6)) := by decide +kernel
theorem wk_w7 : lw_tbl[121]? = some (Cond.arrayClass .int) := by decide +kernel
/-- what stands outside the memory, at the entry -/
theorem wk_X {b : Nat} {s : State} {A : Nat → Prop} (hgv : (Jvm.Cond.and given_1 narrow_1).before #[Value.ref b] s = true) (hts : ∀ w ∈ lw_tbl, w.before #[Value.ref b] s = true) (hA : ∀ a : Nat, a < s.heap.size → ¬ A a) :
    va_Nw (.methodLinkNest RX5 147 yX7_isHead "ArchiveOfDeltas") s ∧ va_Z "java/lang/String" "COMPACT_STRINGS" "Z" (.int 1) A s s.heap ∧ va_Zq "jdk/internal/util/Preconditions" "SIOOBE_FORMATTER" "Ljava/util/function/BiFunction;" A s s.heap := by
  have hs : ∀ w ∈ wk_L, w.before #[Value.ref b] s = true := flat_of_before _ hgv
  have ht : ∀ (i : Nat) (w : Cond), lw_tbl[i]? = some w → w.before #[Value.ref b] s = true := fun i w h => hts _ (List.mem_of_getElem? h)
  exact ⟨va_Nw.of rfl (ht _ _ wk_w5), va_Zof (ht _ _ wk_w3) (ht _ _ wk_w1) (va_eqi (hs _ wk_z1)) hA, va_Zqof (ht _ _ wk_w4) (ht _ _ wk_w2) (hs _ wk_z2) hA⟩
/-- the classes' numbers and slots -/
theorem wk_K {b : Nat} {s : State} (hts : ∀ w ∈ lw_tbl, w.before #[Value.ref b] s = true) : ∃ (D : va_G) (cI cV : ClassId), va_K D vwCl (nb_T cI cV) s := by
  have hin : ∀ w ∈ ad_TB, w.before #[Value.ref b] s = true := fun w h => hts w (List.mem_filter.mp h).1
  have ht : ∀ (i : Nat) (w : Cond), lw_tbl[i]? = some w → w.before #[Value.ref b] s = true := fun i w h => hts _ (List.mem_of_getElem? h)
  obtain ⟨c0, i0, k0⟩ := u_known (C := RX0) (T := TX0) (N := 4) (n := 4) hin ad_inX0 (hin _ ni_X0.2.1)
  obtain ⟨c1, i1, k1⟩ := u_known (C := RX1) (T := TX1) (N := 1) (n := 1) hin ad_inX1 (hin _ ni_X1.2.1)
  obtain ⟨c2, i2, k2⟩ := u_known (C := RX2) (T := TX2) (N := 2) (n := 2) hin ad_inX2 (hin _ ni_X2.2.1)
  obtain ⟨c3, i3, k3⟩ := u_known (C := RX3) (T := TX3) (N := 13) (n := 13) hin ad_inX3 (hin _ ni_X3.2.1)
  obtain ⟨c4, i4, k4⟩ := u_known (C := RX4) (T := TX4) (N := 8) (n := 8) hin ad_inX4 (hin _ ni_X4.2.1)
  obtain ⟨c5, i5, k5⟩ := u_known (C := RX5) (T := TX5) (N := 2) (n := 2) hin ad_inX5 (hin _ ni_X5.2.1)
  obtain ⟨c6, i6, k6⟩ := u_known (C := RX6) (T := TX6) (N := 7) (n := 7) hin ad_inX6 (hin _ ni_X6.2.1)
  obtain ⟨c7, i7, k7⟩ := u_known (C := RX7) (T := TX7) (N := 10) (n := 10) hin ad_inX7 (hin _ ni_X7.2.1)
  obtain ⟨c8, i8, k8⟩ := u_known (C := RX8) (T := TX8) (N := 21) (n := 21) hin ad_inX8 (hin _ ni_X8.2.1)
  obtain ⟨cI, kI, cmp, e1, e2, e3⟩ := Cond.arrayClass_spec (ht _ _ wk_w7)
  obtain ⟨comp, cV, kV, f1, f2, f3, f4, f5⟩ := Cond.arrayOver_spec (ht _ _ wk_w6)
  refine ⟨(fun k => ([c0, c1, c2, c3, c4, c5, c6, c7, c8] : List ClassId).getD k c0, fun k => ([i0, i1, i2, i3, i4, i5, i6, i7, i8] : List (Nat → Nat)).getD k i0), cI, cV, fun k q hq => ?_, fun k q hq => ?_⟩
  · match k, hq with
    | 0, hq => have e := Option.some.inj hq; subst e; exact k0
    | 1, hq => have e := Option.some.inj hq; subst e; exact k1
    | 2, hq => have e := Option.some.inj hq; subst e; exact k2
    | 3, hq => have e := Option.some.inj hq; subst e; exact k3
    | 4, hq => have e := Option.some.inj hq; subst e; exact k4
    | 5, hq => have e := Option.some.inj hq; subst e; exact k5
    | 6, hq => have e := Option.some.inj hq; subst e; exact k6
    | 7, hq => have e := Option.some.inj hq; subst e; exact k7
    | 8, hq => have e := Option.some.inj hq; subst e; exact k8
    | k + 9, hq => exact absurd (List.getElem?_eq_some_iff.mp hq).1 (by show ¬ (k + 9 < 9); omega)
  · match k, hq with
    | 0, hq => have e := Option.some.inj hq; subst e; exact ⟨fun n z => ⟨fun k h => (by cases h), kI, e2, cmp, e3⟩, e1⟩
    | 1, hq => have e := Option.some.inj hq; subst e; exact ⟨fun n z => ⟨fun k h => (by cases h), kV, f3, comp, f4⟩, kV, comp, f3, f4, f1, f5⟩
    | k + 2, hq => exact absurd (List.getElem?_eq_some_iff.mp hq).1 (by show ¬ (k + 2 < 2); omega)
