/-! ===== sets as bits, chains ===== -/
theorem ad_or_bN {p : Nat → Bool} {n : Nat} (hn : n < 10) (h : p n = true) : ad_or (ad_bN p n : Nat) (ad_shl 1 (n : Int)) = (ad_bN p (n + 1) : Nat) := by
  have h1 := ad_bN_lt p n
  have h2 : 2 ^ n ≤ 2 ^ 10 := Nat.pow_le_pow_right (by omega) (by omega)
  rw [ad_shl_n (by omega), ad_or_n (by omega) (by omega)]
  congr 1
  rw [ad_bN, if_pos h, Nat.add_comm, Nat.or_comm]
  have e := Nat.two_pow_add_eq_or_of_lt h1 1
  rw [Nat.mul_one] at e
  exact e.symm
theorem ad_bN_n {p : Nat → Bool} {n : Nat} (h : ¬ p n = true) : ad_bN p (n + 1) = ad_bN p n := by rw [ad_bN, if_neg h, Nat.add_zero]
theorem ad_or_bits (p q : Nat → Bool) : ad_or (ad_bits p : Nat) (ad_bits q : Nat) = (ad_bits (fun w => p w || q w) : Nat) := by
  have h1 := ad_bits_lt p
  have h2 := ad_bits_lt q
  rw [ad_or_n (by omega) (by omega)]
  congr 1
  apply ad_bits_ext
  intro i
  rw [Nat.testBit_or, ad_bits_tb, ad_bits_tb]
  cases decide (i < 10) <;> simp
theorem ad_and_bits (p q : Nat → Bool) : ad_and (ad_bits p : Nat) (ad_bits q : Nat) = (ad_bits (fun w => p w && q w) : Nat) := by
  have h1 := ad_bits_lt p
  rw [ad_and_n (by omega)]
  congr 1
  apply ad_bits_ext
  intro i
  rw [Nat.testBit_and, ad_bits_tb, ad_bits_tb]
  cases decide (i < 10) <;> simp
theorem ad_not_bits (p q : Nat → Bool) : ad_and (ad_bits p : Nat) (ad_xor (ad_bits q : Nat) (-1)) = (ad_bits (fun w => p w && !q w) : Nat) := by
  have h1 := ad_bits_lt p
  have h2 := ad_bits_lt q
  rw [ad_not_n (by omega) (by omega)]
  congr 1
  apply ad_bits_ext
  intro i
  rw [Nat.testBit_xor, Nat.testBit_and, ad_bits_tb, ad_bits_tb]
  cases decide (i < 10) <;> cases p i <;> cases q i <;> rfl
theorem ad_one_bits {k : Nat} (hk : k < 10) : ad_shl 1 (k : Int) = (ad_bits (fun w => w == k) : Nat) := by
  rw [ad_shl_n (by omega)]
  have h : ∀ k : Nat, k < 10 → 2 ^ k = ad_bits (fun w => w == k) := by decide +kernel
  rw [h k hk]
theorem ad_bits_0 : ad_bits (fun _ => false) = 0 := by decide +kernel
theorem ad_pp_or {p : Nat → Bool} {a : Nat} (ha : p a = false) : ∀ n, ad_pp (fun w => p w || w == a) n = ad_pp p n + if a < n then 1 else 0
  | 0 => rfl
  | n + 1 => by
    rw [ad_pp, ad_pp, ad_pp_or ha n]
    by_cases hn : n = a
    · subst hn
      rw [ha]; simp
    · have : (n == a) = false := by simpa using hn
      rw [this, Bool.or_false]
      by_cases h1 : a < n
      · rw [if_pos h1, if_pos (show a < n + 1 by omega)]; omega
      · rw [if_neg h1, if_neg (show ¬ a < n + 1 by omega)]; rfl
theorem ad_pp_list : ∀ (l : List Nat), l.Nodup → (∀ a ∈ l, a < 10) → ad_pp (fun w => l.contains w) 10 = l.length
  | [], _, _ => by decide +kernel
  | a :: l, hn, hl => by
    have h1 := List.nodup_cons.mp hn
    have ih := ad_pp_list l h1.2 (fun b hb => hl b (List.mem_cons_of_mem _ hb))
    have h2 : (fun w => (a :: l).contains w) = (fun w => l.contains w || w == a) := by
      funext w
      rw [List.contains_cons, Bool.or_comm]
    rw [h2, ad_pp_or (by simpa using h1.1) 10, ih, if_pos (hl a List.mem_cons_self)]
    rfl
def ad_need (A : ad_Ar) (v : Int) (w : Nat) : Bool := (ad_ch (ad_aH A) (ad_aB A) 10 v).contains w
def ad_dep (A : ad_Ar) (v : Nat) : Nat := (ad_ch (ad_aH A) (ad_aB A) 10 (v : Int)).length - 1
theorem ad_ch_facts {A : ad_Ar} (hw : ad_wS A) {dep : Nat → Nat} (hd : ∀ v, ad_aH A v = true → dep v ≤ 8 ∧ (ad_aB A v = -1 → dep v = 0) ∧ (ad_aB A v ≠ -1 → dep v = dep (ad_aB A v).toNat + 1)) : ∀ (n : Nat) (v : Nat), ad_aH A v = true → dep v < n →
    (ad_ch (ad_aH A) (ad_aB A) n (v : Int)).length = dep v + 1 ∧ (ad_ch (ad_aH A) (ad_aB A) n (v : Int)).Nodup ∧ ∀ w ∈ ad_ch (ad_aH A) (ad_aB A) n (v : Int), ad_aH A w = true ∧ dep w ≤ dep v := by
  intro n
  induction n with
  | zero => intro v h1 h2; omega
  | succ n ih =>
    intro v h1 h2
    have hv := hd v h1
    rw [ad_ch, if_pos ⟨by omega, by rw [Int.toNat_natCast]; exact h1⟩, Int.toNat_natCast]
    by_cases hb : ad_aB A v = -1
    · have : ad_ch (ad_aH A) (ad_aB A) n (ad_aB A v) = [] := by
        cases n with
        | zero => rfl
        | succ n => rw [ad_ch, if_neg (by omega)]
      rw [this]
      refine ⟨by rw [hv.2.1 hb]; rfl, by simp, fun w hw' => ?_⟩
      rw [List.mem_singleton.mp hw']
      exact ⟨h1, Nat.le_refl _⟩
    · have hB := (hw.2.2.1 v h1)
      have hB2 := hB.2 hb
      have e : ad_aB A v = (((ad_aB A v).toNat : Nat) : Int) := by omega
      have hs := hv.2.2 hb
      obtain ⟨i1, i2, i3⟩ := ih (ad_aB A v).toNat hB2.2 (by omega)
      rw [e]
      refine ⟨by rw [List.length_cons, i1]; omega, List.nodup_cons.mpr ⟨fun hm => ?_, i2⟩, fun w hw' => ?_⟩
      · have := (i3 v hm).2; omega
      · rcases List.mem_cons.mp hw' with rfl | h
        · exact ⟨h1, Nat.le_refl _⟩
        · have := i3 w h; exact ⟨this.1, by omega⟩
theorem ad_dep_factsS {A : ad_Ar} (hw : ad_wS A) {v : Nat} (h : ad_aH A v = true) : ad_dep A v ≤ 8 ∧ ad_pp (ad_need A v) 10 = ad_dep A v + 1 ∧ (ad_aB A v = -1 → ad_dep A v = 0) ∧ (ad_aB A v ≠ -1 → ad_dep A v = ad_dep A (ad_aB A v).toNat + 1) := by
  obtain ⟨dep, hd⟩ := hw.2.2.2
  have key : ∀ u, ad_aH A u = true → ad_dep A u = dep u := fun u hu => by
    have := (ad_ch_facts hw hd 10 u hu (by have := (hd u hu).1; omega)).1
    unfold ad_dep; omega
  obtain ⟨c1, c2, c3⟩ := ad_ch_facts hw hd 10 v h (by have := (hd v h).1; omega)
  have hv := hd v h
  refine ⟨by rw [key v h]; exact hv.1, ?_, fun hb => by rw [key v h]; exact hv.2.1 hb, fun hb => by rw [key v h, key _ ((hw.2.2.1 v h).2 hb).2]; exact hv.2.2 hb⟩
  unfold ad_need
  rw [ad_pp_list _ c2 (fun a ha => by have := hw.2.1 a (c3 a ha).1; have := hw.1; omega), c1, key v h]
theorem ad_dep_facts {A : ad_Ar} (hw : ad_wA A) {v : Nat} (h : ad_aH A v = true) : ad_dep A v ≤ 8 ∧ ad_pp (ad_need A v) 10 = ad_dep A v + 1 ∧ (ad_aB A v = -1 → ad_dep A v = 0) ∧ (ad_aB A v ≠ -1 → ad_dep A v = ad_dep A (ad_aB A v).toNat + 1) := ad_dep_factsS hw.S h
/-! ===== sums and greatest ones ===== -/
def ad_sm (f : Nat → Int) : Nat → Int
  | 0 => 0
  | n + 1 => ad_sm f n + f n
theorem ad_sm_end {f : Nat → Int} {c : Nat} (h : ∀ i, c ≤ i → f i = 0) : ∀ k, ad_sm f (c + k) = ad_sm f c
  | 0 => rfl
  | k + 1 => by show ad_sm f (c + k) + f (c + k) = _; rw [ad_sm_end h k, h _ (by omega)]; omega
def ad_mx (f : Nat → Int) : Nat → Int
  | 0 => 0
  | n + 1 => max (ad_mx f n) (f n)
theorem ad_mx_0 (f : Nat → Int) : ∀ n, 0 ≤ ad_mx f n
  | 0 => by simp [ad_mx]
  | n + 1 => by have := ad_mx_0 f n; rw [ad_mx]; omega
theorem ad_mx_end {f : Nat → Int} {c : Nat} (h : ∀ i, c ≤ i → f i = 0) : ∀ k, ad_mx f (c + k) = ad_mx f c
  | 0 => rfl
  | k + 1 => by
    show max (ad_mx f (c + k)) (f (c + k)) = _
    have := ad_mx_0 f c
    rw [ad_mx_end h k, h _ (by omega)]; omega
theorem ad_bN_end {p : Nat → Bool} {c : Nat} (h : ∀ i, c ≤ i → p i = false) : ∀ k, ad_bN p (c + k) = ad_bN p c
  | 0 => rfl
  | k + 1 => by
    have hk := h (c + k) (by omega)
    show ad_bN p (c + k) + (if p (c + k) = true then _ else _) = _
    rw [ad_bN_end h k, hk]; simp
theorem c_X4_neededByS {g : ad_G} {d : Nat} {σ : ad_Mem} {s : Nat} {A : ad_Ar} (hs : s < 3) (hr : ad_rS σ s A) (hw : ad_wS A) {v : Int} (h1d : 1 ≤ d) (hv : -1 ≤ v ∧ v ≤ 2147483647) : ad_Q g mX4_neededBy d [ad_rf g 4 s, ad_iv v] σ (fun x m => x = ad_iv ((ad_bits (ad_need A v) : Nat) : Int) ∧ m = σ) := by
  have hr0 := hr
  have hw0 := hw
  obtain ⟨r1, r2, r6⟩ := hr
  obtain ⟨w1, w2, w5, w6⟩ := hw
  have r2b := ad_bits_lt (ad_aH A)
  refine ad_M1 (k := 3) rfl (by simp [Value.category]) rfl (Nat.le_of_ble_eq_true rfl) ?_
  simp only [List.map_cons, List.map_nil, List.replicate, List.cons_append, List.nil_append]
  have lp : ∀ (n : Nat) (i : Int) (link : Int) (p : Nat → Bool) (bt : Int), (0 ≤ i) → (i ≤ 10) → (-1 ≤ link ∧ link < 2147483648) → (bt = (ad_bits p : Nat)) → (∀ w, ad_need A v w = (p w || (ad_ch (ad_aH A) (ad_aB A) (10 - i.toNat) link).contains w)) → (10 - i).toNat ≤ n → ad_R g mX4_neededBy d (ad_ZQ mX4_neededBy (fun x m => x = ad_iv ((ad_bits (ad_need A v) : Nat) : Int) ∧ m = σ)) 7 [some (ad_rf g 4 s), some (ad_iv v), some (ad_iv bt), some (ad_iv link), some (ad_iv i)] [] σ := by
    intro n
    induction n with
    | zero =>
      intro i link p bt hi0 hi1 hl hI hc hn
      refine ad_iload dX4_neededBy_7 rfl ?_
      refine ad_bipush dX4_neededBy_9 rfl ?_
      refine ad_icmp_ge 44 dX4_neededBy_11 (by decide) (by omega) (by omega) (fun h11 => ?_) (fun h11 => ?_)
      · skip
        refine ad_iload_n dX4_neededBy_44 rfl ?_
        exact ad_reti dX4_neededBy_45 rfl (by
          have hz : ad_ch (ad_aH A) (ad_aB A) (10 - i.toNat) link = [] := by
            first
            | (rw [show 10 - i.toNat = 0 by omega]; rfl)
            | (obtain ⟨k, hk⟩ : ∃ k, 10 - i.toNat = k + 1 := ⟨9 - i.toNat, by omega⟩
               rw [hk, ad_ch, if_neg h19])
          refine ⟨?_, rfl⟩
          rw [hI]
          congr 2
          apply ad_bits_congr
          intro w _
          rw [hc, hz, List.contains_nil, Bool.or_false])
      · show ad_R _ _ _ _ 14 _ _ _
        exfalso; omega
    | succ n ih =>
      intro i link p bt hi0 hi1 hl hI hc hn
      refine ad_iload dX4_neededBy_7 rfl ?_
      refine ad_bipush dX4_neededBy_9 rfl ?_
      refine ad_icmp_ge 44 dX4_neededBy_11 (by decide) (by omega) (by omega) (fun h11 => ?_) (fun h11 => ?_)
      · skip
        refine ad_iload_n dX4_neededBy_44 rfl ?_
        exact ad_reti dX4_neededBy_45 rfl (by
          have hz : ad_ch (ad_aH A) (ad_aB A) (10 - i.toNat) link = [] := by
            first
            | (rw [show 10 - i.toNat = 0 by omega]; rfl)
            | (obtain ⟨k, hk⟩ : ∃ k, 10 - i.toNat = k + 1 := ⟨9 - i.toNat, by omega⟩
               rw [hk, ad_ch, if_neg h19])
          refine ⟨?_, rfl⟩
          rw [hI]
          congr 2
          apply ad_bits_congr
          intro w _
          rw [hc, hz, List.contains_nil, Bool.or_false])
      · show ad_R _ _ _ _ 14 _ _ _
        refine ad_aload_n dX4_neededBy_14 rfl ?_
        refine ad_iload_n dX4_neededBy_15 rfl ?_
        refine ad_cv1f rfl cl_X4_57 dX4_neededBy_16 (c_X4_holdsS hs hr0 hw0 (by omega)) (by omega) (by show _ < 3; omega) (Nat.le_of_ble_eq_true rfl) ?_
        refine ad_ifp_eq 44 dX4_neededBy_19 (by decide) (fun h19 => ?_) (fun h19 => ?_)
        · skip
          refine ad_iload_n dX4_neededBy_44 rfl ?_
          exact ad_reti dX4_neededBy_45 rfl (by
            have hz : ad_ch (ad_aH A) (ad_aB A) (10 - i.toNat) link = [] := by
              first
              | (rw [show 10 - i.toNat = 0 by omega]; rfl)
              | (obtain ⟨k, hk⟩ : ∃ k, 10 - i.toNat = k + 1 := ⟨9 - i.toNat, by omega⟩
                 rw [hk, ad_ch, if_neg h19])
            refine ⟨?_, rfl⟩
            rw [hI]
            congr 2
            apply ad_bits_congr
            intro w _
            rw [hc, hz, List.contains_nil, Bool.or_false])
        · show ad_R _ _ _ _ 22 _ _ _
          have hlv := w2 _ h19.2
          have hb6 := w5 _ h19.2
          have hb5 : ad_aB A link.toNat < 10 := by
            by_cases hz : ad_aB A link.toNat = -1
            · omega
            · exact (hb6.2 hz).1
          have hb4 := r6 _ h19.2
          have hb7 := h19.1
          refine ad_iload_n dX4_neededBy_22 rfl ?_
          refine ad_iconst dX4_neededBy_23 ?_
          refine ad_iload_n dX4_neededBy_24 rfl ?_
          refine ad_ishl dX4_neededBy_25 ?_
          refine ad_ior dX4_neededBy_26 ?_
          refine ad_istore_n dX4_neededBy_27 (by decide) rfl (by dsimp only [ad_set]) ?_
          refine ad_aload_n dX4_neededBy_28 rfl ?_
          refine gf_X4_11 rfl (by omega) dX4_neededBy_29 ?_
          refine ad_iload_n dX4_neededBy_32 rfl ?_
          refine ad_aald dX4_neededBy_33 (by omega) (by omega) (by omega) ?_
          refine gf_X4_90 rfl (by omega) dX4_neededBy_34 ?_
          refine ad_istore_n dX4_neededBy_37 (by decide) rfl (by dsimp only [ad_set]) ?_
          refine ad_iinc dX4_neededBy_38 rfl (by decide) rfl (by dsimp only [ad_set]) ?_
          refine ad_goto 7 dX4_neededBy_41 (by decide) ?_
          have hlk : link = ((link.toNat : Nat) : Int) := by omega
          have hlv := w2 _ h19.2
          refine ih (i + 1) _ (fun w => p w || w == link.toNat) _ (by omega) (by omega) (by omega) ?_ ?_ (by omega)
          · rw [hI, hlk, ad_one_bits (by omega), ad_or_bits, Int.toNat_natCast]
          · intro w
            obtain ⟨k, hk⟩ : ∃ k, 10 - i.toNat = k + 1 := ⟨9 - i.toNat, by omega⟩
            rw [hc, hk, ad_ch, if_pos h19, List.contains_cons, show 10 - (i + 1).toNat = k by omega, r6 _ h19.2, Bool.or_assoc]
  refine ad_iconst dX4_neededBy_0 ?_
  refine ad_istore_n dX4_neededBy_1 (by decide) rfl (by dsimp only [ad_set]) ?_
  refine ad_iload_n dX4_neededBy_2 rfl ?_
  refine ad_istore_n dX4_neededBy_3 (by decide) rfl (by dsimp only [ad_set]) ?_
  refine ad_iconst dX4_neededBy_4 ?_
  refine ad_istore dX4_neededBy_5 (by decide) rfl (by dsimp only [ad_set]) ?_
  exact lp 10 0 v (fun _ => false) 0 (by omega) (by omega) (by omega) (by rw [ad_bits_0]; rfl) (fun w => rfl) (by omega)
theorem c_X4_depthOfS {g : ad_G} {d : Nat} {σ : ad_Mem} {s : Nat} {A : ad_Ar} (hs : s < 3) (hr : ad_rS σ s A) (hw : ad_wS A) {v : Nat} (h2d : 2 ≤ d) (hv : ad_aH A v = true) : ad_Q g mX4_depthOf d [ad_rf g 4 s, ad_iv (v : Int)] σ (fun x m => x = ad_iv (ad_dep A v : Int) ∧ m = σ) := by
  have hr0 := hr
  have hw0 := hw
  obtain ⟨r1, r2, r6⟩ := hr
  obtain ⟨w1, w2, w5, w6⟩ := hw
  have r2b := ad_bits_lt (ad_aH A)
  have hvv := w2 v hv
  refine ad_M1 (k := 0) rfl (by simp [Value.category]) rfl (Nat.le_of_ble_eq_true rfl) ?_
  simp only [List.map_cons, List.map_nil, List.replicate, List.cons_append, List.nil_append]
  refine ad_aload_n dX4_depthOf_0 rfl ?_
  refine ad_iload_n dX4_depthOf_1 rfl ?_
  refine ad_cv1f rfl cl_X4_148 dX4_depthOf_2 (c_X4_neededByS hs hr0 hw0 (by omega) (by omega)) (by omega) (by show _ < 3; omega) (Nat.le_of_ble_eq_true rfl) ?_
  refine ad_cs1f rfl cl_X4_140 dX4_depthOf_5 (c_bitCount (ad_bits_lt _)) (by omega) (Nat.le_of_ble_eq_true rfl) ?_
  rw [ad_ones_bits, (ad_dep_factsS hw0 hv).2.1]
  refine ad_iconst dX4_depthOf_8 ?_
  refine ad_isub dX4_depthOf_9 ?_
  exact ad_reti dX4_depthOf_10 rfl (⟨by congr 1; omega, rfl⟩)
theorem c_X4_neededBy {g : ad_G} {d : Nat} {σ : ad_Mem} {s : Nat} {A : ad_Ar} (hs : s < 3) (hr : ad_rC σ s A) (hw : ad_wA A) {v : Int} (h1d : 1 ≤ d) (hv : -1 ≤ v ∧ v ≤ 2147483647) : ad_Q g mX4_neededBy d [ad_rf g 4 s, ad_iv v] σ (fun x m => x = ad_iv ((ad_bits (ad_need A v) : Nat) : Int) ∧ m = σ) := c_X4_neededByS hs hr.S hw.S h1d hv
theorem c_X4_depthOf {g : ad_G} {d : Nat} {σ : ad_Mem} {s : Nat} {A : ad_Ar} (hs : s < 3) (hr : ad_rC σ s A) (hw : ad_wA A) {v : Nat} (h2d : 2 ≤ d) (hv : ad_aH A v = true) : ad_Q g mX4_depthOf d [ad_rf g 4 s, ad_iv (v : Int)] σ (fun x m => x = ad_iv (ad_dep A v : Int) ∧ m = σ) := c_X4_depthOfS hs hr.S hw.S h2d hv
