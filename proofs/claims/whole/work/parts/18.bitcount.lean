/-! ===== how many bits are set ===== -/
/-- how many of the first n are of p -/
def ad_pp (p : Nat → Bool) : Nat → Nat
  | 0 => 0
  | n + 1 => ad_pp p n + if p n = true then 1 else 0
def ad_ones (x : Nat) : Nat := ad_pp x.testBit 10
def ad_bc (a : Int) : Int :=
  let x0 := a - ad_and (ad_ushr a 1) 1431655765
  let x1 := ad_and x0 858993459 + ad_and (ad_ushr x0 2) 858993459
  let x2 := ad_and (x1 + ad_ushr x1 4) 252645135
  let x3 := x2 + ad_ushr x2 8
  let x4 := x3 + ad_ushr x3 16
  ad_and x4 63
set_option maxRecDepth 100000 in
theorem ad_bc_pop : ∀ n, n < 1024 → ad_bc (n : Nat) = (ad_ones n : Int) := by decide +kernel
theorem ad_pp_le (p : Nat → Bool) : ∀ n, ad_pp p n ≤ n
  | 0 => Nat.le_refl 0
  | n + 1 => by have := ad_pp_le p n; rw [ad_pp]; split <;> omega
theorem ad_pp_congr {p q : Nat → Bool} : ∀ n, (∀ i, i < n → p i = q i) → ad_pp p n = ad_pp q n
  | 0, _ => rfl
  | n + 1, h => by rw [ad_pp, ad_pp, ad_pp_congr n (fun i hi => h i (by omega)), h n (by omega)]
theorem ad_ones_bits (p : Nat → Bool) : ad_ones (ad_bits p) = ad_pp p 10 := ad_pp_congr 10 (fun i hi => by rw [ad_bits_tb]; simp [hi])
theorem c_bitCount {g : ad_G} {d : Nat} {σ : ad_Mem} {n : Nat} (hn : n < 1024) : ad_Q g mJ6_bitCount_0f7a4 d [ad_iv (n : Int)] σ (fun x s => x = ad_iv (ad_ones n : Int) ∧ s = σ) := by
  refine ad_M1 (k := 0) rfl (by simp [Value.category]) rfl (Nat.le_of_ble_eq_true rfl) ?_
  simp only [List.map_cons, List.map_nil, List.replicate, List.cons_append, List.nil_append]
  refine ad_iload_n dJ6_bitCount_0f7a4_0 rfl ?_
  refine ad_iload_n dJ6_bitCount_0f7a4_1 rfl ?_
  refine ad_iconst dJ6_bitCount_0f7a4_2 ?_
  refine ad_iushr dJ6_bitCount_0f7a4_3 ?_
  refine ad_ldcw (n := 1431655765) dJ6_bitCount_0f7a4_4 kc_J6_265 ?_
  refine ad_iand dJ6_bitCount_0f7a4_7 ?_
  refine ad_isub dJ6_bitCount_0f7a4_8 ?_
  refine ad_istore_n dJ6_bitCount_0f7a4_9 (by decide) rfl (by dsimp only [ad_set]) ?_
  refine ad_iload_n dJ6_bitCount_0f7a4_10 rfl ?_
  refine ad_ldcw (n := 858993459) dJ6_bitCount_0f7a4_11 kc_J6_266 ?_
  refine ad_iand dJ6_bitCount_0f7a4_14 ?_
  refine ad_iload_n dJ6_bitCount_0f7a4_15 rfl ?_
  refine ad_iconst dJ6_bitCount_0f7a4_16 ?_
  refine ad_iushr dJ6_bitCount_0f7a4_17 ?_
  refine ad_ldcw (n := 858993459) dJ6_bitCount_0f7a4_18 kc_J6_266 ?_
  refine ad_iand dJ6_bitCount_0f7a4_21 ?_
  refine ad_iadd dJ6_bitCount_0f7a4_22 ?_
  refine ad_istore_n dJ6_bitCount_0f7a4_23 (by decide) rfl (by dsimp only [ad_set]) ?_
  refine ad_iload_n dJ6_bitCount_0f7a4_24 rfl ?_
  refine ad_iload_n dJ6_bitCount_0f7a4_25 rfl ?_
  refine ad_iconst dJ6_bitCount_0f7a4_26 ?_
  refine ad_iushr dJ6_bitCount_0f7a4_27 ?_
  refine ad_iadd dJ6_bitCount_0f7a4_28 ?_
  refine ad_ldcw (n := 252645135) dJ6_bitCount_0f7a4_29 kc_J6_267 ?_
  refine ad_iand dJ6_bitCount_0f7a4_32 ?_
  refine ad_istore_n dJ6_bitCount_0f7a4_33 (by decide) rfl (by dsimp only [ad_set]) ?_
  refine ad_iload_n dJ6_bitCount_0f7a4_34 rfl ?_
  refine ad_iload_n dJ6_bitCount_0f7a4_35 rfl ?_
  refine ad_bipush dJ6_bitCount_0f7a4_36 rfl ?_
  refine ad_iushr dJ6_bitCount_0f7a4_38 ?_
  refine ad_iadd dJ6_bitCount_0f7a4_39 ?_
  refine ad_istore_n dJ6_bitCount_0f7a4_40 (by decide) rfl (by dsimp only [ad_set]) ?_
  refine ad_iload_n dJ6_bitCount_0f7a4_41 rfl ?_
  refine ad_iload_n dJ6_bitCount_0f7a4_42 rfl ?_
  refine ad_bipush dJ6_bitCount_0f7a4_43 rfl ?_
  refine ad_iushr dJ6_bitCount_0f7a4_45 ?_
  refine ad_iadd dJ6_bitCount_0f7a4_46 ?_
  refine ad_istore_n dJ6_bitCount_0f7a4_47 (by decide) rfl (by dsimp only [ad_set]) ?_
  refine ad_iload_n dJ6_bitCount_0f7a4_48 rfl ?_
  refine ad_bipush dJ6_bitCount_0f7a4_49 rfl ?_
  refine ad_iand dJ6_bitCount_0f7a4_51 ?_
  exact ad_reti dJ6_bitCount_0f7a4_52 rfl ⟨congrArg ad_iv (ad_bc_pop n hn), rfl⟩
