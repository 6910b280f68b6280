/-! ===== the empty archive: what both systems hold at first ===== -/
def ad_A0 : ad_Ar := ad_mk 0 (fun _ => false) (fun _ => []) (fun _ => -1) (fun _ => -1) (fun _ => 0) (fun _ => -1) (fun _ => []) (fun _ => -1) 0 0 4
def ad_C0 : ad_C7 := ad_cmk ad_A0 false ad_A0 [] [] (fun _ => 0)
theorem ad_A0_H {v : Nat} {P : Prop} (h : ad_aH ad_A0 v = true) : P := Bool.noConfusion (show false = true from h)
theorem ad_A0_w : ad_wA ad_A0 := by
  refine ⟨Nat.zero_le _, fun v h => ad_A0_H h, fun v h => ad_A0_H h, fun v => ?_, fun v h => ad_A0_H h, ⟨fun _ => 0, fun v h => ad_A0_H h⟩, fun h _ => ⟨?_, fun q => absurd rfl q⟩, ?_, ⟨fun _ _ => ⟨rfl, rfl, rfl⟩, fun _ _ => ⟨rfl, rfl⟩, fun _ _ => rfl, fun _ _ => rfl⟩⟩
  · show (-1 : Int) ≤ -1 ∧ (-1 : Int) < (v : Int) ∧ (-1 : Int) ≤ -1 ∧ (-1 : Int) < (v : Int)
    omega
  · show (-1 : Int) ≤ -1
    omega
  · show ((0 : Int) ≤ 0 ∧ (0 : Int) ≤ 5) ∧ ((0 : Int) ≤ 0 ∧ (0 : Int) ≤ 9) ∧ ((0 : Int) ≤ 4 ∧ (4 : Int) ≤ 8)
    omega
theorem sg_nw (j : Nat) : ad_nw sg0 j := by
  show (0 : Int) ≤ 0 ∧ (0 : Int) ≤ (ad_len 12 j : Int) ∧ ∀ _ : Nat, (0 : Int) ≤ 0 ∧ (0 : Int) ≤ 255
  exact ⟨by omega, by omega, fun _ => by omega⟩
theorem sg_nl (j : Nat) : ad_nl sg0 j = [] := rfl
theorem sg_ds (j : Nat) : ad_ds sg0 j = [] := rfl
theorem sg_dr (j : Nat) : ad_dr sg0 j := by
  show ∀ _ : Nat, ((0 : Int) ≤ 0 ∧ (0 : Int) ≤ 12) ∧ ((0 : Int) ≤ 0 ∧ (0 : Int) ≤ 255)
  exact fun _ => by omega
theorem sg_dw (j : Nat) : ad_dw sg0 j := by
  refine ⟨?_, ?_, ?_, sg_dr j⟩
  · show (0 : Int) ≤ 0
    omega
  · show (0 : Int) ≤ 12
    omega
  · rw [sg_ds]; rfl
theorem sg_rK (s : Nat) : ad_rK sg0 s := ⟨fun _ _ => ⟨sg_nw _, sg_dw _⟩, sg_nw _⟩
theorem sg_rC : ad_rC sg0 0 ad_A0 := by
  refine ⟨rfl, ?_, ⟨rfl, rfl, rfl⟩, fun h hh => ?_, fun v _ => ⟨sg_nw _, sg_dw _⟩, fun v h => ad_A0_H h, fun v h => absurd h (Nat.not_lt_zero v), sg_nw _⟩
  · show (0 : Int) = ((ad_bits (fun _ => false) : Nat) : Int)
    rw [ad_bits_0]; rfl
  · show (if h < 4 then (-1 : Int) else 0) = -1
    rw [if_pos hh]
theorem ad_c7_0 : ad_c7 sg0 ad_C0 :=
  ⟨⟨sg_rC, ad_A0_w⟩, rfl, fun h => Bool.noConfusion (show false = true from h), ⟨sg_rK 1, sg_rK 2⟩, ⟨sg_nw _, sg_nw _, sg_nw _⟩, ⟨sg_dr _, sg_dr _⟩,
    ⟨sg_nl _, fun x h => absurd (show x ∈ ([] : List Int) from h) List.not_mem_nil⟩, ⟨sg_nl _, fun x h => absurd (show x ∈ ([] : List Int) from h) List.not_mem_nil⟩, fun _ _ => rfl⟩
def sg_now (c : Nat) : Int := if 501 ≤ c ∧ c < 505 then -9 else if c = 507 then 4 else 0
theorem sg_21 (c : Nat) : sg0 21 0 c = sg_now c := rfl
theorem sg_ra : ad_ra (sg0 21 0) ad_A0 := by
  refine ⟨⟨Nat.zero_le _, fun v h => ad_A0_H h⟩, ⟨?_, fun h hh => ?_, ?_, ?_, ?_⟩, fun v hv => ?_, fun v h => absurd h (Nat.not_lt_zero v), fun v h => ad_A0_H h, fun i _ => ?_⟩
  · rw [sg_21]; decide
  · rw [sg_21]
    show sg_now (501 + h) = ad_lk (-1)
    unfold sg_now
    rw [if_pos (by omega)]; decide
  · rw [sg_21]; decide
  · rw [sg_21]; decide
  · rw [sg_21]; decide
  · rw [sg_21]
    show sg_now (50 * v) = 0
    unfold sg_now
    rw [if_neg (by omega), if_neg (by omega)]
  · rw [sg_21]
    unfold sg_now
    constructor <;> split <;> first | omega | (split <;> omega)
theorem ad_c8_0 : ad_c8 sg0 ad_C0 :=
  ⟨⟨sg_ra, ad_A0_w⟩, rfl, fun h => Bool.noConfusion (show false = true from h),
    ⟨rfl, Nat.zero_le _, fun i h => absurd h (Nat.not_lt_zero i), fun x h => absurd (show x ∈ ([] : List Int) from h) List.not_mem_nil⟩,
    ⟨rfl, Nat.zero_le _, fun i h => absurd h (Nat.not_lt_zero i), fun x h => absurd (show x ∈ ([] : List Int) from h) List.not_mem_nil⟩, fun _ _ _ => rfl⟩
