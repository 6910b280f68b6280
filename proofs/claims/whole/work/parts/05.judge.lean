/-! ===== the judgement: a method's frame comes from a place to one of the places Z, over the memory ===== -/
/-- a method: its name, its bytes, its locals, what it returns -/
abbrev ad_MI : Type := MethodName × ByteArray × Nat × Option FieldType
def ad_TB : List Cond := lw_tbl.filter goodWord
theorem ad_goodTB : GoodIn ad_TB ad_TB := fun w h => ⟨h, good_of_word (List.mem_filter.mp h).2⟩
theorem ad_in (i : Nat) {w : Cond} (h : lw_tbl[i]? = some w) (hg : goodWord w = true) : w ∈ ad_TB := List.mem_filter.mpr ⟨List.mem_of_getElem? h, hg⟩
def ad_rm (d : Nat) : Room := { frames := d, cells := 0, slots := 0, locals := 60 * d }
def ad_wsM (μ : ad_MI) : List Cond := .code μ.1 μ.2.1 μ.2.2.1 μ.2.2.2 :: ad_TB
abbrev ad_tys (g : ad_G) : List (ClassId × FieldType) := [(g.2.2.2.1.1, .int), (g.2.2.2.1.2, .object RX6)]
def ad_slen : List Nat := [4, 3, 3, 2, 1, 5, 0]
def ad_sbyt : List (List Int32) := [[112, 112, 115, 59], [100, 112, 59], [100, 100, 59], [100, 59], [59], [100, 100, 100, 108, 59], []]
def ad_sidx : List Nat := [59, 61, 63, 65, 67, 69, 71]
def ad_stx : List String := ["pps;", "dp;", "dd;", "d;", ";", "dddl;", ""]
/-- what stands outside the memory and never changes: the nest word, the literals, two statics of the JDK -/
def ad_X (g : ad_G) (U : State) (H : Heap) : Prop := va_Nw (.methodLinkNest RX5 147 yX7_isHead "ArchiveOfDeltas") U ∧ vk_S 7 ad_slen ad_sbyt g.2.2.2.2.1 g.2.2.2.2.2 (ad_A g) U H ∧ (∀ i, i < 7 → vk_R RX5 (ad_sidx.getD i 0) (ad_stx.getD i "") (g.2.2.2.2.1 i) U) ∧ va_Z "java/lang/String" "COMPACT_STRINGS" "Z" (.int 1) (ad_A g) U H ∧ va_Zq "jdk/internal/util/Preconditions" "SIOOBE_FORMATTER" "Ljava/util/function/BiFunction;" (ad_A g) U H
theorem ad_X.warm {g : ad_G} {s U : State} {H : Heap} (hW : s.WarmedH U.vm) (h : ad_X g s H) : ad_X g U H :=
  ⟨va_Nw.warmM hW h.1, h.2.1.moved hW.alike, fun i hi => (h.2.2.1 i hi).warm hW, h.2.2.2.1.moved hW.alike, h.2.2.2.2.moved hW.alike⟩
theorem ad_X.same {g : ad_G} {s U : State} {H : Heap} (hv : U.vm = s.vm) (h : ad_X g s H) : ad_X g U H :=
  ⟨va_Nw.same rfl hv.symm h.1, h.2.1.moved (by rw [hv]; exact Vm.Alike.refl _), fun i hi => (h.2.2.1 i hi).same hv, h.2.2.2.1.moved (by rw [hv]; exact Vm.Alike.refl _), h.2.2.2.2.moved (by rw [hv]; exact Vm.Alike.refl _)⟩
theorem ad_X.kept {g : ad_G} {U : State} {H H1 : Heap} (h : ad_X g U H) (hq : ∀ a : Nat, a < H.size → ¬ ad_A g a → H1[a]? = H[a]?) : ad_X g U H1 :=
  ⟨h.1, h.2.1.kept hq, h.2.2.1, h.2.2.2.1.kept hq, h.2.2.2.2.kept hq⟩
/-- the locals: none, where nothing is known -/
def ad_at : List (Option Value) → Nat → Option Value
  | [], _ => none
  | v :: _, 0 => v
  | _ :: l, n + 1 => ad_at l n
def ad_set : List (Option Value) → Nat → Option Value → List (Option Value)
  | [], _, _ => []
  | _ :: l, 0, v => v :: l
  | w :: l, n + 1, v => w :: ad_set l n v
def ad_n2 (v : Option Value) : Bool := match v with
  | some (.long _) => false
  | some (.double _) => false
  | _ => true
/-- a store at i breaks no long that is known -/
def ad_ok1 (L : List (Option Value)) : Nat → Bool
  | 0 => true
  | i + 1 => ad_n2 (ad_at L i)
def ad_ls (ls : Array Slot) (n : Nat) (L : List (Option Value)) : Prop := ls.size = n ∧ lv_wf ls ∧ ∀ i v, ad_at L i = some v → ls[i]? = some (.val v)
theorem ad_at_nil (i : Nat) : ad_at [] i = none := rfl
theorem ad_at_set (L : List (Option Value)) (i : Nat) (v : Option Value) (j : Nat) : ad_at (ad_set L i v) j = if j = i ∧ i < L.length then v else ad_at L j := by
  induction L generalizing i j with
  | nil => simp [ad_set, ad_at]
  | cons w l ih =>
    cases i with
    | zero => cases j with
      | zero => simp [ad_set, ad_at]
      | succ j => simp [ad_set, ad_at]
    | succ i => cases j with
      | zero => simp [ad_set, ad_at]
      | succ j =>
        simp only [ad_set, ad_at, ih, List.length_cons]
        by_cases h : j = i ∧ i < l.length
        · rw [if_pos h, if_pos ⟨by omega, by omega⟩]
        · rw [if_neg h, if_neg (fun q => h ⟨by omega, by omega⟩)]
theorem ad_len_set (L : List (Option Value)) (i : Nat) (v : Option Value) : (ad_set L i v).length = L.length := by
  induction L generalizing i with
  | nil => rfl
  | cons w l ih => cases i with
    | zero => rfl
    | succ i => simp [ad_set, ih]
/-- the known locals as the kit's list, one read -/
theorem ad_ls.one {ls : Array Slot} {n : Nat} {L : List (Option Value)} (h : ad_ls ls n L) : ∃ l : List (Nat × Value), lv_has ls n l ∧ ∀ i v, (i, v) ∈ l ↔ (ad_at L i = some v ∧ i < L.length) := by
  refine ⟨(List.range L.length).filterMap (fun i => (ad_at L i).map (fun v => (i, v))), ⟨h.1, h.2.1, ?_⟩, ?_⟩
  · intro q hq
    obtain ⟨i, -, hi⟩ := List.mem_filterMap.mp hq
    cases hv : ad_at L i with
    | none => rw [hv] at hi; cases hi
    | some v =>
      rw [hv] at hi
      rw [← Option.some.inj hi]
      exact h.2.2 i v hv
  · intro i v
    rw [List.mem_filterMap]
    constructor
    · rintro ⟨j, hj, hm⟩
      cases hv : ad_at L j with
      | none => rw [hv] at hm; cases hm
      | some w =>
        rw [hv] at hm
        have := Option.some.inj hm
        simp only [Prod.mk.injEq] at this
        obtain ⟨rfl, rfl⟩ := this
        exact ⟨hv, List.mem_range.mp hj⟩
    · rintro ⟨h1, h2⟩
      exact ⟨i, List.mem_range.mpr h2, by rw [h1]; rfl⟩
theorem ad_at_lt {L : List (Option Value)} {i : Nat} {v : Value} (h : ad_at L i = some v) : i < L.length := by
  induction L generalizing i with
  | nil => cases h
  | cons w l ih => cases i with
    | zero => simp
    | succ i => have := ih (i := i) h; simp; omega
theorem ad_ls.st1 {ls' : Array Slot} {n i : Nat} {L : List (Option Value)} {v : Value} {l : List (Nat × Value)} (hm : ∀ i v, (i, v) ∈ l ↔ (ad_at L i = some v ∧ i < L.length)) (hok : ad_ok1 L i = true)
    (h' : lv_has ls' n ((i, v) :: l.filter (fun q => !(q.1 == i) && !(q.1 + 1 == i && q.2.category == 2)))) : ad_ls ls' n (ad_set L i (some v)) := by
  refine ⟨h'.1, h'.2.1, fun j w hw => ?_⟩
  rw [ad_at_set] at hw
  by_cases hji : j = i ∧ i < L.length
  · rw [if_pos hji] at hw
    rw [hji.1, ← Option.some.inj hw]
    exact h'.2.2 (i, v) List.mem_cons_self
  · rw [if_neg hji] at hw
    have hlt := ad_at_lt hw
    have hne : j ≠ i := fun q => hji ⟨q, by omega⟩
    refine h'.2.2 (j, w) (List.mem_cons_of_mem _ (List.mem_filter.mpr ⟨(hm j w).mpr ⟨hw, hlt⟩, ?_⟩))
    have h1 : (j == i) = false := by simpa using hne
    have h2 : (j + 1 == i && w.category == 2) = false := by
      by_cases hj : j + 1 = i
      · subst hj
        have hok : ad_n2 (ad_at L j) = true := hok
        rw [hw] at hok
        cases w <;> simp_all [ad_n2, Value.category]
      · simp [hj]
    simp only [h1, h2]
    rfl
theorem ad_ls.st2 {ls' : Array Slot} {n i : Nat} {L : List (Option Value)} {v : Value} {l : List (Nat × Value)} (hm : ∀ i v, (i, v) ∈ l ↔ (ad_at L i = some v ∧ i < L.length)) (hok : ad_ok1 L i = true) (hi1 : i + 1 < L.length)
    (h' : lv_has ls' n ((i, v) :: l.filter (fun q => !(q.1 == i) && (!(q.1 == i + 1) && !(q.1 + 1 == i && q.2.category == 2))))) : ad_ls ls' n (ad_set (ad_set L (i + 1) none) i (some v)) := by
  refine ⟨h'.1, h'.2.1, fun j w hw => ?_⟩
  rw [ad_at_set, ad_len_set] at hw
  by_cases hji : j = i ∧ i < L.length
  · rw [if_pos hji] at hw
    rw [hji.1, ← Option.some.inj hw]
    exact h'.2.2 (i, v) List.mem_cons_self
  · rw [if_neg hji, ad_at_set] at hw
    by_cases hj1 : j = i + 1 ∧ i + 1 < L.length
    · rw [if_pos hj1] at hw; cases hw
    rw [if_neg hj1] at hw
    have hlt := ad_at_lt hw
    have hne : j ≠ i := fun q => hji ⟨q, by omega⟩
    have hne1 : j ≠ i + 1 := fun q => hj1 ⟨q, by omega⟩
    refine h'.2.2 (j, w) (List.mem_cons_of_mem _ (List.mem_filter.mpr ⟨(hm j w).mpr ⟨hw, hlt⟩, ?_⟩))
    have h1 : (j == i) = false := by simpa using hne
    have h3 : (j == i + 1) = false := by simpa using hne1
    have h2 : (j + 1 == i && w.category == 2) = false := by
      by_cases hj : j + 1 = i
      · subst hj
        have hok : ad_n2 (ad_at L j) = true := hok
        rw [hw] at hok
        cases w <;> simp_all [ad_n2, Value.category]
      · simp [hj]
    simp only [h1, h2, h3]
    rfl
/-- a frame of the method μ, with calls d deep left -/
def ad_Ctx (g : ad_G) (μ : ad_MI) (d : Nat) (p : Program) (R : Room) (s : State) (m : MethodId) (args : Array Value) (meth : Method) (c : Code) (cells slots : Nat) : Prop :=
  p.tables.exec = Jvm.exec ∧ c.code = μ.2.1 ∧ c.maxLocals = μ.2.2.1 ∧ s.vm.findClass μ.1.cls = some m.cls ∧ (∀ w ∈ ad_TB, w.before args s = true) ∧ va_K g.2.2.1 vwCl (ad_tys g) s ∧ ad_X g s s.heap ∧ ad_Inj g ∧ meth.locks = false ∧ meth.sig.returnType = μ.2.2.2 ∧ (d ≤ R.frames ∧ 60 * d ≤ R.locals) ∧ (cells ≤ R.cells ∧ slots ≤ R.slots)
def ad_R (g : ad_G) (μ : ad_MI) (d : Nat) (Z : Nat → List Value → ad_Mem → Prop) (pc : Nat) (L : List (Option Value)) (S : List Value) (σ : ad_Mem) : Prop :=
  ∀ (p : Program) (e : Env) (R : Room) (s : State) (m : MethodId) (args : Array Value) (below : List Frame) (meth : Method) (c : Code) (cells slots : Nat) (Q : State → Prop), ad_Ctx g μ d p R s m args meth c cells slots →
    (∀ (pc' : Nat) (S' : List Value) (σ' : ad_Mem) (H' : Heap) (locs' : List Loc) (ls' : Array Slot), Z pc' S' σ' → va_P g.2.2.1 vwCl (ad_ws g σ') H' → va_S (ad_A g) s.heap H' locs' → W p g.1 e R s m args below meth c H' locs' cells slots Q (F0 m pc' ls' S')) →
    ∀ (H : Heap) (locs : List Loc) (ls : Array Slot), va_P g.2.2.1 vwCl (ad_ws g σ) H → va_S (ad_A g) s.heap H locs → ad_ls ls μ.2.2.1 L → W p g.1 e R s m args below meth c H locs cells slots Q (F0 m pc ls S)
/-- a method's contract: called with these over this memory it returns something of Q -/
def ad_M (g : ad_G) (μ : ad_MI) (d : Nat) (av : List Value) (σ : ad_Mem) (Q : Option Value → ad_Mem → Prop) : Prop :=
  Met g.1 μ.1 (ad_wsM μ) (ad_rm d) (va_Pc av (fun U => va_P g.2.2.1 vwCl (ad_ws g σ) U.heap ∧ va_K g.2.2.1 vwCl (ad_tys g) U ∧ ad_X g U U.heap ∧ ad_Inj g)) (fun _ st oc t => (∃ (v : Option Value) (σ' : ad_Mem), oc = .returned v ∧ Q v σ' ∧ va_P g.2.2.1 vwCl (ad_ws g σ') t.heap) ∧ va_F (ad_A g) st t) 0 0 (ad_A g)
/-- the places where a method returns -/
def ad_Zr (μ : ad_MI) (Q : Option Value → ad_Mem → Prop) (pc : Nat) (S : List Value) (σ : ad_Mem) : Prop :=
  (decode μ.2.1 pc = .ok (.return_, 1) ∧ μ.2.2.2 = none ∧ S = [] ∧ Q none σ) ∨
  (decode μ.2.1 pc = .ok (.ireturn, 1) ∧ ∃ x : Int32, S = [.int x] ∧ Q (some (.int x)) σ ∧ ∃ ty, μ.2.2.2 = some ty ∧ narrow ty (.int x) = .int x) ∨
  (decode μ.2.1 pc = .ok (.lreturn, 1) ∧ ∃ x : Int64, S = [.long x] ∧ Q (some (.long x)) σ ∧ μ.2.2.2 = some .long) ∨
  (decode μ.2.1 pc = .ok (.areturn, 1) ∧ ∃ a : Nat, S = [.ref a] ∧ Q (some (.ref a)) σ ∧ ∃ n, μ.2.2.2 = some (.object n))
theorem ad_M_of {g : ad_G} {μ : ad_MI} {d : Nat} {av : List Value} {σ : ad_Mem} {Q : Option Value → ad_Mem → Prop} {L : List (Option Value)} (hy : plainName μ.1.cls = true)
    (hn : (lg_sl av).length ≤ μ.2.2.1) (hL : ∀ i v, ad_at L i = some v → (i, v) ∈ lv_args 0 av) (k : ad_R g μ d (ad_Zr μ Q) 0 L [] σ) : ad_M g μ d av σ Q := by
  refine Met.ofW (cc := μ.2.1) (maxL := μ.2.2.1) (ret := μ.2.2.2) (ws' := ad_TB) hy rfl ?_
  intro p e s m args below meth c s₁ B hml hv
  obtain ⟨rfl, hP, hK, hX, hI⟩ := hv
  have hts := atoms_spec (ws := ad_wsM μ) B.pre
  have hl := lv_entry av hn
  rw [lg_entry_eq]
  generalize (lg_sl av ++ List.replicate (μ.2.2.1 - (lg_sl av).length) Slot.unset).toArray = ls at hl ⊢
  refine k p e _ s m _ below meth c 0 0 _ ⟨B.exec, B.bytes, hml, findClass_of_methodNamed B.named, fun w hw => hts w (List.mem_cons_of_mem _ hw), hK, hX, hI, B.notSynchronized, B.returns, ⟨Nat.le_refl _, Nat.le_refl _⟩, ⟨Nat.le_refl _, Nat.le_refl _⟩⟩ ?_ s.heap [] ls hP va_S.rf ⟨hl.1, hl.2.1, fun i v h => hl.2.2 (i, v) (hL i v h)⟩
  intro pc' S' σ' H' locs' ls' hZ hP' hS'
  have hlocks := B.notSynchronized
  rcases hZ with ⟨hd, hr, rfl, hQ⟩ | ⟨hd, x, rfl, hQ, ty, hr, hnar⟩ | ⟨hd, x, rfl, hQ, hr⟩ | ⟨hd, a, rfl, hQ, n, hr⟩
  · exact W.vret B.exec B.bytes (B.returns.trans hr) (fun t ht _ => ⟨⟨none, σ', rfl, hQ, by rw [ht]; exact hP'⟩, hS'.F ht⟩) hS'.2.2 hd
  · exact W.zret B.exec B.bytes (B.returns.trans hr) hnar (fun t ht _ => ⟨⟨some (.int x), σ', rfl, hQ, by rw [ht]; exact hP'⟩, hS'.F ht⟩) hS'.2.2 hd
  · exact W.lret B.exec B.bytes (B.returns.trans hr) (fun t ht _ => ⟨⟨some (.long x), σ', rfl, hQ, by rw [ht]; exact hP'⟩, hS'.F ht⟩) hS'.2.2 hd
  · exact W.aret B.exec B.bytes (B.returns.trans hr) (Or.inl ⟨n, rfl⟩) (Or.inr ⟨a, rfl⟩) (fun t ht _ => ⟨⟨some (.ref a), σ', rfl, hQ, by rw [ht]; exact hP'⟩, hS'.F ht⟩) hS'.2.2 hd
theorem ad_M.mono {g : ad_G} {μ : ad_MI} {d : Nat} {av : List Value} {σ : ad_Mem} {Q Q' : Option Value → ad_Mem → Prop} (h : ad_M g μ d av σ Q) (hQ : ∀ v σ', Q v σ' → Q' v σ') : ad_M g μ d av σ Q' := by
  unfold ad_M Met at h ⊢
  refine MetFree.mono h (fun _ _ q => q) (fun _ _ _ _ _ q => q) ?_
  intro a s o s' _ hh
  obtain ⟨⟨⟨v, σ', h1, h2, h3⟩, h4⟩, h5⟩ := hh
  exact ⟨⟨⟨v, σ', h1, hQ v σ' h2, h3⟩, h4⟩, h5⟩
