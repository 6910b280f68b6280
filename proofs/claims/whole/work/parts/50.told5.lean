/-! ===== the seven literals of Told: their length, letters ===== -/
abbrev ad_sK (g : ad_G) (i : Nat) : Value := .ref (g.2.2.2.2.1 i)
abbrev ad_sV (g : ad_G) (i : Nat) : Value := .ref (g.2.2.2.2.2 i)
/-- the sign at k of the literal i -/
def ad_sch (i k : Nat) : Int := ((ad_sbyt.getD i []).getD k 0).toInt
theorem ad_sln_ok : ∀ i, i < 7 → ad_shr (ad_slen.getD i 0 : Nat) 0 = (ad_slen.getD i 0 : Nat) ∧ ad_slen.getD i 0 ≤ 5 := by decide +kernel
theorem ad_sch_ok : ∀ i, i < 7 → ∀ k, k < 5 → 0 ≤ ad_sch i k ∧ ad_sch i k ≤ 255 ∧ ad_and (ad_sch i k) 255 = ad_sch i k ∧ ((Int32.ofInt (ad_sch i k)).toUInt32 % 65536).toInt32 = Int32.ofInt (ad_sch i k) := by decide +kernel
theorem ad_sch_nar {i k : Nat} (hi : i < 7) (hk : k < 5) : narrow .char (ad_iv (ad_sch i k)) = ad_iv (ad_sch i k) := by
  have h := (ad_sch_ok i hi k hk).2.2.1
  have e : Int32.ofInt (ad_sch i k) = Int32.ofInt (ad_sch i k) &&& 255 := by
    have h2 : ad_iv (ad_and (ad_sch i k) 255) = ad_iv (ad_sch i k) := by rw [h]
    unfold ad_and at h2
    rw [ad_iv_to] at h2
    exact (Value.int.inj h2).symm
  show narrow .char (.int (Int32.ofInt (ad_sch i k))) = .int (Int32.ofInt (ad_sch i k))
  rw [e]
  exact sc_nar _
section adstr
variable {g : ad_G} {μ : ad_MI} {d : Nat} {Z : Nat → List Value → ad_Mem → Prop} {pc : Nat} {L : List (Option Value)} {S : List Value} {σ : ad_Mem} {i : Nat}
theorem ad_ldcS (hi : i < 7) (hμ : μ.1.cls = RX5) {idx : Nat} (hidx : ad_sidx.getD i 0 = idx) (hd : decode μ.2.1 pc = .ok (.ldc idx, 2)) (k : ad_R g μ d Z (pc + 2) L (ad_sK g i :: S) σ) : ad_R g μ d Z pc L S σ := by
  intro p e R s m args below meth c cells slots Q C hZ H locs ls hP hS hl
  subst hidx
  exact va_ldcS C.1 C.2.1 (hμ ▸ C.2.2.2.1) (C.2.2.2.2.2.2.1.2.2.1 i hi) hd (k p e R s m args below meth c cells slots Q C hZ H locs ls hP hS hl)
theorem ad_getSv (hμ : μ.1.cls = RJ0) (hi : i < 7) (hd : decode μ.2.1 pc = .ok (.getfield 9, 3)) (k : ad_R g μ d Z (pc + 3) L (ad_sV g i :: S) σ) : ad_R g μ d Z pc L (ad_sK g i :: S) σ := by
  intro p e R s m args below meth c cells slots Q C hZ H locs ls hP hS hl
  exact vk_getf C.1 C.2.1 ((C.2.2.2.2.2.2.1.2.1.1 i hi).2.2.1) hS (own := "java/lang/String") (show s.vm.findClass RJ0 = some m.cls from hμ ▸ C.2.2.2.1) (C.2.2.2.2.1 (Cond.fieldLink "java/lang/String" 9 "java/lang/String" "value" "[B") (ad_in 1304 (by decide +kernel) rfl)) (fun x h => h) hd (k p e R s m args below meth c cells slots Q C hZ H locs ls hP hS hl)
theorem ad_getSc (hμ : μ.1.cls = RJ0) (hi : i < 7) (hd : decode μ.2.1 pc = .ok (.getfield 15, 3)) (k : ad_R g μ d Z (pc + 3) L (ad_iv 0 :: S) σ) : ad_R g μ d Z pc L (ad_sK g i :: S) σ := by
  intro p e R s m args below meth c cells slots Q C hZ H locs ls hP hS hl
  exact vk_getf C.1 C.2.1 ((C.2.2.2.2.2.2.1.2.1.1 i hi).2.1) hS (own := "java/lang/String") (show s.vm.findClass RJ0 = some m.cls from hμ ▸ C.2.2.2.1) (C.2.2.2.2.1 (Cond.fieldLink "java/lang/String" 15 "java/lang/String" "coder" "B") (ad_in 1305 (by decide +kernel) rfl)) (fun x h => h) hd (k p e R s m args below meth c cells slots Q C hZ H locs ls hP hS hl)
theorem ad_lenS (hi : i < 7) (hd : decode μ.2.1 pc = .ok (.arraylength, 1)) (k : ad_R g μ d Z (pc + 1) L (ad_iv (((ad_slen.getD i 0 : Nat) : Int)) :: S) σ) : ad_R g μ d Z pc L (ad_sV g i :: S) σ := by
  intro p e R s m args below meth c cells slots Q C hZ H locs ls hP hS hl
  exact va_tlen C.1 C.2.1 ((C.2.2.2.2.2.2.1.2.1.1 i hi).2.2.2) hS (v := Int32.ofInt (((ad_slen.getD i 0 : Nat) : Int))) (Int32.ofInt_eq_ofNat).symm hd (k p e R s m args below meth c cells slots Q C hZ H locs ls hP hS hl)
theorem ad_baldS (hi : i < 7) {a : Nat} (ha : a < ad_slen.getD i 0) (h5 : a < 5) (hd : decode μ.2.1 pc = .ok (.baload, 1)) (k : ad_R g μ d Z (pc + 1) L (ad_iv (ad_sch i a) :: S) σ) : ad_R g μ d Z pc L (ad_iv (a : Int) :: ad_sV g i :: S) σ := by
  intro p e R s m args below meth c cells slots Q C hZ H locs ls hP hS hl
  obtain ⟨g1, g2⟩ := ad_ix (a := (a : Int)) (n := ad_slen.getD i 0) (by omega) (by omega) (by have := (ad_sln_ok i hi).2; omega)
  refine va_tb C.1 C.2.1 ((C.2.2.2.2.2.2.1.2.1.1 i hi).2.2.2) hS g1 (v := ad_iv (ad_sch i a)) ?_ hd (k p e R s m args below meth c cells slots Q C hZ H locs ls hP hS hl)
  rw [g2, Int.toNat_natCast]
  exact (ad_iv_to _).symm
theorem ad_i2c {a : Int} (hv : ((Int32.ofInt a).toUInt32 % 65536).toInt32 = Int32.ofInt a) (hd : decode μ.2.1 pc = .ok (.i2c, 1)) (k : ad_R g μ d Z (pc + 1) L (ad_iv a :: S) σ) : ad_R g μ d Z pc L (ad_iv a :: S) σ := by
  intro p e R s m args below meth c cells slots Q C hZ H locs ls hP hS hl
  exact lv_i2c C.1 C.2.1 hd hv (k p e R s m args below meth c cells slots Q C hZ H locs ls hP hS hl)
theorem ad_getsC (hμ : μ.1.cls = RJ0) (hd : decode μ.2.1 pc = .ok (.getstatic 38, 3)) (k : ad_R g μ d Z (pc + 3) L (ad_iv 1 :: S) σ) : ad_R g μ d Z pc L S σ := by
  intro p e R s m args below meth c cells slots Q C hZ H locs ls hP hS hl
  exact va_gets C.1 C.2.1 (C.2.2.2.2.2.2.1.2.2.2.1) hS (own := "java/lang/String") (show s.vm.findClass RJ0 = some m.cls from hμ ▸ C.2.2.2.1) (C.2.2.2.2.1 (Cond.fieldLink "java/lang/String" 38 "java/lang/String" "COMPACT_STRINGS" "Z") (ad_in 387 (by decide +kernel) rfl)) (fun x h => h) hd (k p e R s m args below meth c cells slots Q C hZ H locs ls hP hS hl)
theorem ad_getsF (hμ : μ.1.cls = RJ0) (hd : decode μ.2.1 pc = .ok (.getstatic 1053, 3)) (k : ∀ v : Value, v.category = 1 → ad_R g μ d Z (pc + 3) L (v :: S) σ) : ad_R g μ d Z pc L S σ := by
  intro p e R s m args below meth c cells slots Q C hZ H locs ls hP hS hl
  have hlk := C.2.2.2.2.1 (Cond.fieldLink "java/lang/String" 1053 "jdk/internal/util/Preconditions" "SIOOBE_FORMATTER" "Ljava/util/function/BiFunction;") (ad_in 403 (by decide +kernel) rfl)
  rcases C.2.2.2.2.2.2.1.2.2.2.2 with h | ⟨t, h⟩
  · exact va_gets C.1 C.2.1 h hS (own := "java/lang/String") (show s.vm.findClass RJ0 = some m.cls from hμ ▸ C.2.2.2.1) hlk (fun x h => h) hd (k _ rfl p e R s m args below meth c cells slots Q C hZ H locs ls hP hS hl)
  · exact va_gets C.1 C.2.1 h hS (own := "java/lang/String") (show s.vm.findClass RJ0 = some m.cls from hμ ▸ C.2.2.2.1) hlk (fun x h => h) hd (k _ rfl p e R s m args below meth c cells slots Q C hZ H locs ls hP hS hl)
/-- a call on a literal -/
theorem ad_callT {μ' : ad_MI} {n idx d' : Nat} {own : String} {As St : List Value} {Qm : Option Value → ad_Mem → Prop} (hμ : μ.1.cls = own) (h0 : μ'.1.cls = RJ0) (w1 : Cond.methodLink own idx μ'.1 ∈ ad_TB) (w2 : Cond.instanceMethod μ'.1 ∈ ad_TB) (w3 : Cond.selects μ'.1.cls μ'.1 μ'.1 ∈ ad_TB) (w6 : ad_Cw μ' n) (hd : decode μ.2.1 pc = .ok (.invokevirtual idx, 3)) (hi : i < 7) (hM : ad_M g μ' d' (ad_sK g i :: As) σ Qm) (hdd : d' + 1 ≤ d) (hAs : As.length = n) (hW : (S.map fun v => v.category).sum ≤ 8) (hSt : St = As.reverse ++ ad_sK g i :: S)
    (kk : ∀ v σ', Qm v σ' → ad_R g μ d Z (pc + 3) L (v.toList ++ S) σ') : ad_R g μ d Z pc L St σ := by
  intro p e R s m args below meth c cells slots Q C hZ H locs ls hP hS hl
  subst hSt
  subst hμ
  have ok := C.2.2.2.2.1
  have hrc := vk_recv C.2.2.2.2.2.2.1.2.1 hi hS
  refine ad_ofRun (μ' := μ') (a := (ad_sK g i :: As).toArray) (va_runV ⟨C.1, C.2.1, C.2.2.1, C.2.2.2.1, ok⟩ hM ⟨callB_of n ok (ad_goodM w6) rfl rfl rfl (ok _ w6.2.1) (ok _ w1) w6.2.2.1 (ad_room hdd w6.2.2.2 C.2.2.2.2.2.2.2.2.2.2.1), ok _ w2, ok _ w3⟩
    ⟨ad_blind _ σ, by rw [h0]; exact hrc, fun U hU hW => ⟨rfl, by rw [hU]; exact hP, va_K.moved hW.alike C.2.2.2.2.2.1, ?_, C.2.2.2.2.2.2.2.1⟩⟩ rfl hAs hl.1 rfl (lv_room hW) hd ⟨C.2.2.2.2.2.2.2.2.2.2.2.1, C.2.2.2.2.2.2.2.2.2.2.2.2⟩) hS (fun v σ' H1 locs1 hq hP1 hS1 => kk v σ' hq p e R s m args below meth c cells slots Q C hZ H1 locs1 ls hP1 hS1 hl)
  rw [hU]
  exact (C.2.2.2.2.2.2.1.kept hS.2.1).warm hW
theorem ad_callT0 {μ' : ad_MI} {idx : Nat} {own : String} {v : Value} {σ1 : ad_Mem} (hμ : μ.1.cls = own) (h0 : μ'.1.cls = RJ0) (w1 : Cond.methodLink own idx μ'.1 ∈ ad_TB) (w2 : Cond.instanceMethod μ'.1 ∈ ad_TB) (w3 : Cond.selects μ'.1.cls μ'.1 μ'.1 ∈ ad_TB) (w6 : ad_Cw μ' 0) (hd : decode μ.2.1 pc = .ok (.invokevirtual idx, 3)) (hi : i < 7) (hM : ad_Q g μ' (d - 1) [ad_sK g i] σ (fun x s => x = v ∧ s = σ1)) (hdd : 1 ≤ d) (hW : (S.map fun v => v.category).sum ≤ 8)
    (kk : ad_R g μ d Z (pc + 3) L (v :: S) σ1) : ad_R g μ d Z pc L (ad_sK g i :: S) σ := by
  refine ad_callT (d' := d - 1) (As := []) hμ h0 w1 w2 w3 w6 hd hi hM (by omega) rfl hW rfl ?_
  rintro v σ' ⟨x, rfl, rfl, rfl⟩
  exact kk
theorem ad_callT1 {μ' : ad_MI} {idx : Nat} {own : String} {a1 v : Value} {σ1 : ad_Mem} (hμ : μ.1.cls = own) (h0 : μ'.1.cls = RJ0) (w1 : Cond.methodLink own idx μ'.1 ∈ ad_TB) (w2 : Cond.instanceMethod μ'.1 ∈ ad_TB) (w3 : Cond.selects μ'.1.cls μ'.1 μ'.1 ∈ ad_TB) (w6 : ad_Cw μ' 1) (hd : decode μ.2.1 pc = .ok (.invokevirtual idx, 3)) (hi : i < 7) (hM : ad_Q g μ' (d - 1) [ad_sK g i, a1] σ (fun x s => x = v ∧ s = σ1)) (hdd : 1 ≤ d) (hW : (S.map fun v => v.category).sum ≤ 8)
    (kk : ad_R g μ d Z (pc + 3) L (v :: S) σ1) : ad_R g μ d Z pc L (a1 :: ad_sK g i :: S) σ := by
  refine ad_callT (d' := d - 1) (As := [a1]) hμ h0 w1 w2 w3 w6 hd hi hM (by omega) rfl hW rfl ?_
  rintro v σ' ⟨x, rfl, rfl, rfl⟩
  exact kk
theorem ad_cs2x {μ' : ad_MI} {idx : Nat} {own : String} {a1 a2 v : Value} {σ1 : ad_Mem} (hμ : μ.1.cls = own) (w1 : Cond.methodLink own idx μ'.1 ∈ ad_TB) (w2 : Cond.static μ'.1 ∈ ad_TB) (w3 : ad_Cw μ' 2) (hd : decode μ.2.1 pc = .ok (.invokestatic idx, 3)) (hM : ad_Q g μ' (d - 1) [a1, a2] σ (fun x s => x = v ∧ s = σ1)) (hdd : 1 ≤ d) (hW : (S.map fun v => v.category).sum ≤ 8) (kk : ad_R g μ d Z (pc + 3) L (v :: S) σ1) : ad_R g μ d Z pc L (a2 :: a1 :: S) σ := by
  subst hμ
  refine ad_callS (d' := d - 1) (As := [a1, a2]) ⟨w1, w2, w3⟩ hd hM (by omega) rfl hW rfl ?_
  rintro v σ' ⟨x, rfl, rfl, rfl⟩
  exact kk
theorem ad_cs2y {μ' : ad_MI} {idx : Nat} {own : String} {a1 a2 : Value} {σ1 : ad_Mem} (hμ : μ.1.cls = own) (w1 : Cond.methodLink own idx μ'.1 ∈ ad_TB) (w2 : Cond.static μ'.1 ∈ ad_TB) (w3 : ad_Cw μ' 2) (hd : decode μ.2.1 pc = .ok (.invokestatic idx, 3)) (hM : ad_V g μ' (d - 1) [a1, a2] σ (fun s => s = σ1)) (hdd : 1 ≤ d) (hW : (S.map fun v => v.category).sum ≤ 8) (kk : ad_R g μ d Z (pc + 3) L S σ1) : ad_R g μ d Z pc L (a2 :: a1 :: S) σ := by
  subst hμ
  refine ad_callS (d' := d - 1) (As := [a1, a2]) ⟨w1, w2, w3⟩ hd hM (by omega) rfl hW rfl ?_
  rintro v σ' ⟨rfl, rfl⟩
  exact kk
theorem ad_cs3x {μ' : ad_MI} {idx : Nat} {own : String} {a1 a2 a3 v : Value} {σ1 : ad_Mem} (hμ : μ.1.cls = own) (w1 : Cond.methodLink own idx μ'.1 ∈ ad_TB) (w2 : Cond.static μ'.1 ∈ ad_TB) (w3 : ad_Cw μ' 3) (hd : decode μ.2.1 pc = .ok (.invokestatic idx, 3)) (hM : ad_Q g μ' (d - 1) [a1, a2, a3] σ (fun x s => x = v ∧ s = σ1)) (hdd : 1 ≤ d) (hW : (S.map fun v => v.category).sum ≤ 8) (kk : ad_R g μ d Z (pc + 3) L (v :: S) σ1) : ad_R g μ d Z pc L (a3 :: a2 :: a1 :: S) σ := by
  subst hμ
  refine ad_callS (d' := d - 1) (As := [a1, a2, a3]) ⟨w1, w2, w3⟩ hd hM (by omega) rfl hW rfl ?_
  rintro v σ' ⟨x, rfl, rfl, rfl⟩
  exact kk
theorem ad_retn {P : Value → ad_Mem → Prop} {x : Int} {ty : FieldType} (hd : decode μ.2.1 pc = .ok (.ireturn, 1)) (hr : μ.2.2.2 = some ty) (hn : narrow ty (ad_iv x) = ad_iv x) (h : P (ad_iv x) σ) : ad_R g μ d (ad_ZQ μ P) pc L [ad_iv x] σ :=
  ad_stop (Or.inr (Or.inl ⟨hd, _, rfl, ⟨_, rfl, h⟩, _, hr, hn⟩))
end adstr
theorem c_J0_coder {g : ad_G} {d : Nat} {σ : ad_Mem} {i : Nat} (hi : i < 7) : ad_Q g mJ0_coder_7d493 d [ad_sK g i] σ (fun x m => x = ad_iv 0 ∧ m = σ) := by
  refine ad_M1 (k := 0) rfl (by simp [Value.category]) rfl (Nat.le_of_ble_eq_true rfl) ?_
  simp only [List.map_cons, List.map_nil, List.replicate, List.cons_append, List.nil_append]
  refine ad_getsC rfl dJ0_coder_7d493_0 ?_
  refine ad_if_eq 13 dJ0_coder_7d493_3 (by decide) (by decide) (fun h => absurd h (by decide)) (fun _ => ?_)
  refine ad_aload_n dJ0_coder_7d493_6 rfl ?_
  refine ad_getSc rfl hi dJ0_coder_7d493_7 ?_
  refine ad_goto 14 dJ0_coder_7d493_10 (by decide) ?_
  exact ad_retn dJ0_coder_7d493_14 rfl rfl ⟨rfl, rfl⟩
theorem c_J0_isLatin1 {g : ad_G} {d : Nat} {σ : ad_Mem} {i : Nat} (hi : i < 7) : ad_Q g mJ0_isLatin1_aae02 d [ad_sK g i] σ (fun x m => x = ad_iv 1 ∧ m = σ) := by
  refine ad_M1 (k := 0) rfl (by simp [Value.category]) rfl (Nat.le_of_ble_eq_true rfl) ?_
  simp only [List.map_cons, List.map_nil, List.replicate, List.cons_append, List.nil_append]
  refine ad_getsC rfl dJ0_isLatin1_aae02_0 ?_
  refine ad_if_eq 17 dJ0_isLatin1_aae02_3 (by decide) (by decide) (fun h => absurd h (by decide)) (fun _ => ?_)
  refine ad_aload_n dJ0_isLatin1_aae02_6 rfl ?_
  refine ad_getSc rfl hi dJ0_isLatin1_aae02_7 ?_
  refine ad_if_ne 17 dJ0_isLatin1_aae02_10 (by decide) (by decide) (fun h => absurd rfl h) (fun _ => ?_)
  refine ad_iconst dJ0_isLatin1_aae02_13 ?_
  refine ad_goto 18 dJ0_isLatin1_aae02_14 (by decide) ?_
  exact ad_retn dJ0_isLatin1_aae02_18 rfl rfl ⟨rfl, rfl⟩
theorem c_J3_checkIndex {g : ad_G} {d : Nat} {σ : ad_Mem} {a n : Int} {v : Value} (hv : v.category = 1) (ha : 0 ≤ a ∧ a < n) (hn : n ≤ 100) : ad_Q g mJ3_checkIndex_8e157 d [ad_iv a, ad_iv n, v] σ (fun x m => x = ad_iv a ∧ m = σ) := by
  refine ad_M1 (k := 0) rfl (by intro w hw; simp only [List.mem_cons, List.not_mem_nil, or_false] at hw; rcases hw with rfl | rfl | rfl <;> first | rfl | exact hv) rfl (Nat.le_of_ble_eq_true rfl) ?_
  simp only [List.map_cons, List.map_nil, List.replicate, List.cons_append, List.nil_append]
  refine ad_iload_n dJ3_checkIndex_8e157_0 rfl ?_
  refine ad_if_lt 9 dJ3_checkIndex_8e157_1 (by decide) (by omega) (fun h => absurd h (by omega)) (fun _ => ?_)
  refine ad_iload_n dJ3_checkIndex_8e157_4 rfl ?_
  refine ad_iload_n dJ3_checkIndex_8e157_5 rfl ?_
  refine ad_icmp_lt 16 dJ3_checkIndex_8e157_6 (by decide) (by omega) (by omega) (fun _ => ?_) (fun h => absurd ha.2 h)
  refine ad_iload_n dJ3_checkIndex_8e157_16 rfl ?_
  exact ad_retn dJ3_checkIndex_8e157_17 rfl rfl ⟨rfl, rfl⟩
theorem c_J0_checkIndex {g : ad_G} {d : Nat} {σ : ad_Mem} {a n : Int} (h1d : 1 ≤ d) (ha : 0 ≤ a ∧ a < n) (hn : n ≤ 100) : ad_V g mJ0_checkIndex_df160 d [ad_iv a, ad_iv n] σ (fun m => m = σ) := by
  refine ad_M1 (k := 0) rfl (by simp [Value.category]) rfl (Nat.le_of_ble_eq_true rfl) ?_
  simp only [List.map_cons, List.map_nil, List.replicate, List.cons_append, List.nil_append]
  refine ad_iload_n dJ0_checkIndex_df160_0 rfl ?_
  refine ad_iload_n dJ0_checkIndex_df160_1 rfl ?_
  refine ad_getsF rfl dJ0_checkIndex_df160_2 (fun v hv => ?_)
  refine ad_cs3x (own := "java/lang/String") rfl (ad_in 405 (by decide +kernel) rfl) cs_J3_checkIndex_8e157 cw_J3_checkIndex_8e157 dJ0_checkIndex_df160_5 (c_J3_checkIndex hv ha hn) (by omega) (Nat.le_of_ble_eq_true rfl) ?_
  refine ad_pop dJ0_checkIndex_df160_8 rfl ?_
  exact ad_retv dJ0_checkIndex_df160_9 rfl rfl
theorem c_J1_charAt {g : ad_G} {d : Nat} {σ : ad_Mem} {i a : Nat} (h2d : 2 ≤ d) (hi : i < 7) (ha : a < ad_slen.getD i 0) : ad_Q g mJ1_charAt_3b067 d [ad_sV g i, ad_iv (a : Int)] σ (fun x m => x = ad_iv (ad_sch i a) ∧ m = σ) := by
  refine ad_M1 (k := 0) rfl (by simp [Value.category]) rfl (Nat.le_of_ble_eq_true rfl) ?_
  simp only [List.map_cons, List.map_nil, List.replicate, List.cons_append, List.nil_append]
  have h5 := (ad_sln_ok i hi).2
  have hk := ad_sch_ok i hi a (by omega)
  refine ad_iload_n dJ1_charAt_3b067_0 rfl ?_
  refine ad_aload_n dJ1_charAt_3b067_1 rfl ?_
  refine ad_lenS hi dJ1_charAt_3b067_2 ?_
  refine ad_cs2y (own := "java/lang/StringLatin1") rfl (ad_in 400 (by decide +kernel) rfl) cs_J0_checkIndex_df160 cw_J0_checkIndex_df160 dJ1_charAt_3b067_3 (c_J0_checkIndex (by omega) (by omega) (by omega)) (by omega) (Nat.le_of_ble_eq_true rfl) ?_
  refine ad_aload_n dJ1_charAt_3b067_6 rfl ?_
  refine ad_iload_n dJ1_charAt_3b067_7 rfl ?_
  refine ad_baldS hi ha (by omega) dJ1_charAt_3b067_8 ?_
  refine ad_sipush dJ1_charAt_3b067_9 rfl ?_
  refine ad_iand dJ1_charAt_3b067_12 ?_
  rw [hk.2.2.1]
  refine ad_i2c hk.2.2.2 dJ1_charAt_3b067_13 ?_
  exact ad_retn dJ1_charAt_3b067_14 rfl (ad_sch_nar hi (by omega)) ⟨rfl, rfl⟩
theorem c_J0_charAt {g : ad_G} {d : Nat} {σ : ad_Mem} {i a : Nat} (h3d : 3 ≤ d) (hi : i < 7) (ha : a < ad_slen.getD i 0) : ad_Q g mJ0_charAt_5068e d [ad_sK g i, ad_iv (a : Int)] σ (fun x m => x = ad_iv (ad_sch i a) ∧ m = σ) := by
  refine ad_M1 (k := 0) rfl (by simp [Value.category]) rfl (Nat.le_of_ble_eq_true rfl) ?_
  simp only [List.map_cons, List.map_nil, List.replicate, List.cons_append, List.nil_append]
  have h5 := (ad_sln_ok i hi).2
  refine ad_aload_n dJ0_charAt_5068e_0 rfl ?_
  refine ad_callT0 (own := "java/lang/String") rfl rfl (ad_in 393 (by decide +kernel) rfl) (ad_in 394 (by decide +kernel) rfl) (ad_in 395 (by decide +kernel) rfl) cw_J0_isLatin1_aae02 dJ0_charAt_5068e_1 hi (c_J0_isLatin1 hi) (by omega) (Nat.le_of_ble_eq_true rfl) ?_
  refine ad_if_eq 16 dJ0_charAt_5068e_4 (by decide) (by decide) (fun h => absurd h (by decide)) (fun _ => ?_)
  refine ad_aload_n dJ0_charAt_5068e_7 rfl ?_
  refine ad_getSv rfl hi dJ0_charAt_5068e_8 ?_
  refine ad_iload_n dJ0_charAt_5068e_11 rfl ?_
  refine ad_cs2x (own := "java/lang/String") rfl (ad_in 397 (by decide +kernel) rfl) cs_J1_charAt_3b067 cw_J1_charAt_3b067 dJ0_charAt_5068e_12 (c_J1_charAt (by omega) hi ha) (by omega) (Nat.le_of_ble_eq_true rfl) ?_
  exact ad_retn dJ0_charAt_5068e_15 rfl (ad_sch_nar hi (by omega)) ⟨rfl, rfl⟩
theorem c_J0_length {g : ad_G} {d : Nat} {σ : ad_Mem} {i : Nat} (h1d : 1 ≤ d) (hi : i < 7) : ad_Q g mJ0_length_8abf5 d [ad_sK g i] σ (fun x m => x = ad_iv (((ad_slen.getD i 0 : Nat) : Int)) ∧ m = σ) := by
  refine ad_M1 (k := 0) rfl (by simp [Value.category]) rfl (Nat.le_of_ble_eq_true rfl) ?_
  simp only [List.map_cons, List.map_nil, List.replicate, List.cons_append, List.nil_append]
  refine ad_aload_n dJ0_length_8abf5_0 rfl ?_
  refine ad_getSv rfl hi dJ0_length_8abf5_1 ?_
  refine ad_lenS hi dJ0_length_8abf5_4 ?_
  refine ad_aload_n dJ0_length_8abf5_5 rfl ?_
  refine ad_callT0 (own := "java/lang/String") rfl rfl (ad_in 383 (by decide +kernel) rfl) (ad_in 384 (by decide +kernel) rfl) (ad_in 385 (by decide +kernel) rfl) cw_J0_coder_7d493 dJ0_length_8abf5_6 hi (c_J0_coder hi) (by omega) (Nat.le_of_ble_eq_true rfl) ?_
  refine ad_ishr dJ0_length_8abf5_9 ?_
  rw [(ad_sln_ok i hi).1]
  exact ad_reti dJ0_length_8abf5_10 rfl ⟨rfl, rfl⟩
theorem c_J0_isEmpty {g : ad_G} {d : Nat} {σ : ad_Mem} {i : Nat} (hi : i < 7) : ad_Q g mJ0_isEmpty_aae02 d [ad_sK g i] σ (fun x m => x = ad_pv (ad_slen.getD i 0 = 0) ∧ m = σ) := by
  refine ad_M1 (k := 0) rfl (by simp [Value.category]) rfl (Nat.le_of_ble_eq_true rfl) ?_
  simp only [List.map_cons, List.map_nil, List.replicate, List.cons_append, List.nil_append]
  have h5 := (ad_sln_ok i hi).2
  refine ad_aload_n dJ0_isEmpty_aae02_0 rfl ?_
  refine ad_getSv rfl hi dJ0_isEmpty_aae02_1 ?_
  refine ad_lenS hi dJ0_isEmpty_aae02_4 ?_
  refine ad_if_ne 12 dJ0_isEmpty_aae02_5 (by decide) (by omega) (fun h => ?_) (fun h => ?_)
  · refine ad_iconst dJ0_isEmpty_aae02_12 ?_
    exact ad_ret0 dJ0_isEmpty_aae02_13 rfl ⟨ad_pv_f (by omega), rfl⟩
  · show ad_R _ _ _ _ 8 _ _ _
    refine ad_iconst dJ0_isEmpty_aae02_8 ?_
    refine ad_goto 13 dJ0_isEmpty_aae02_9 (by decide) ?_
    exact ad_ret1 dJ0_isEmpty_aae02_13 rfl ⟨ad_pv_t (by omega), rfl⟩
/-- which literal is the form of a sign -/
def ad_fx (c : Int) : Nat := if c = 118 then 0 else if c = 104 then 1 else if c = 107 then 2 else if c = 100 then 3 else if c = 114 then 4 else if c = 99 then 4 else if c = 120 then 5 else 6
theorem ad_fx_lt (c : Int) : ad_fx c < 7 := by
  unfold ad_fx
  repeat' split
  all_goals omega
theorem c_X5_formOf {g : ad_G} {d : Nat} {σ : ad_Mem} {c : Int} (hc : ad_rng c) : ad_Q g mX5_formOf d [ad_iv c] σ (fun x m => x = ad_sK g (ad_fx c) ∧ m = σ) := by
  refine ad_M1 (k := 0) rfl (by simp [Value.category]) rfl (Nat.le_of_ble_eq_true rfl) ?_
  simp only [List.map_cons, List.map_nil, List.replicate, List.cons_append, List.nil_append]
  refine ad_iload_n dX5_formOf_0 rfl ?_
  by_cases hs1_99 : c = 99
  · refine ad_table dX5_formOf_1 (by omega) 119 (by rw [hs1_99]; rfl) ?_
    refine ad_ldcS (i := 4) (by decide) rfl rfl dX5_formOf_119 ?_
    exact ad_reta dX5_formOf_121 rfl (by
      have e : ad_fx c = 4 := by
        unfold ad_fx
        (repeat' split) <;> first | with_reducible rfl | contradiction | (exfalso; omega) | rfl | (exfalso; simp_all; omega) | (simp_all; done)
      rw [e]
      exact ⟨rfl, rfl⟩)
  by_cases hs1_100 : c = 100
  · refine ad_table dX5_formOf_1 (by omega) 113 (by rw [hs1_100]; rfl) ?_
    refine ad_ldcS (i := 3) (by decide) rfl rfl dX5_formOf_113 ?_
    exact ad_reta dX5_formOf_115 rfl (by
      have e : ad_fx c = 3 := by
        unfold ad_fx
        (repeat' split) <;> first | with_reducible rfl | contradiction | (exfalso; omega) | rfl | (exfalso; simp_all; omega) | (simp_all; done)
      rw [e]
      exact ⟨rfl, rfl⟩)
  by_cases hs1_101 : c = 101
  · refine ad_table dX5_formOf_1 (by omega) 125 (by rw [hs1_101]; rfl) ?_
    refine ad_ldcS (i := 6) (by decide) rfl rfl dX5_formOf_125 ?_
    exact ad_reta dX5_formOf_127 rfl (by
      have e : ad_fx c = 6 := by
        unfold ad_fx
        (repeat' split) <;> first | with_reducible rfl | contradiction | (exfalso; omega) | rfl | (exfalso; simp_all; omega) | (simp_all; done)
      rw [e]
      exact ⟨rfl, rfl⟩)
  by_cases hs1_102 : c = 102
  · refine ad_table dX5_formOf_1 (by omega) 125 (by rw [hs1_102]; rfl) ?_
    refine ad_ldcS (i := 6) (by decide) rfl rfl dX5_formOf_125 ?_
    exact ad_reta dX5_formOf_127 rfl (by
      have e : ad_fx c = 6 := by
        unfold ad_fx
        (repeat' split) <;> first | with_reducible rfl | contradiction | (exfalso; omega) | rfl | (exfalso; simp_all; omega) | (simp_all; done)
      rw [e]
      exact ⟨rfl, rfl⟩)
  by_cases hs1_103 : c = 103
  · refine ad_table dX5_formOf_1 (by omega) 125 (by rw [hs1_103]; rfl) ?_
    refine ad_ldcS (i := 6) (by decide) rfl rfl dX5_formOf_125 ?_
    exact ad_reta dX5_formOf_127 rfl (by
      have e : ad_fx c = 6 := by
        unfold ad_fx
        (repeat' split) <;> first | with_reducible rfl | contradiction | (exfalso; omega) | rfl | (exfalso; simp_all; omega) | (simp_all; done)
      rw [e]
      exact ⟨rfl, rfl⟩)
  by_cases hs1_104 : c = 104
  · refine ad_table dX5_formOf_1 (by omega) 107 (by rw [hs1_104]; rfl) ?_
    refine ad_ldcS (i := 1) (by decide) rfl rfl dX5_formOf_107 ?_
    exact ad_reta dX5_formOf_109 rfl (by
      have e : ad_fx c = 1 := by
        unfold ad_fx
        (repeat' split) <;> first | with_reducible rfl | contradiction | (exfalso; omega) | rfl | (exfalso; simp_all; omega) | (simp_all; done)
      rw [e]
      exact ⟨rfl, rfl⟩)
  by_cases hs1_105 : c = 105
  · refine ad_table dX5_formOf_1 (by omega) 125 (by rw [hs1_105]; rfl) ?_
    refine ad_ldcS (i := 6) (by decide) rfl rfl dX5_formOf_125 ?_
    exact ad_reta dX5_formOf_127 rfl (by
      have e : ad_fx c = 6 := by
        unfold ad_fx
        (repeat' split) <;> first | with_reducible rfl | contradiction | (exfalso; omega) | rfl | (exfalso; simp_all; omega) | (simp_all; done)
      rw [e]
      exact ⟨rfl, rfl⟩)
  by_cases hs1_106 : c = 106
  · refine ad_table dX5_formOf_1 (by omega) 125 (by rw [hs1_106]; rfl) ?_
    refine ad_ldcS (i := 6) (by decide) rfl rfl dX5_formOf_125 ?_
    exact ad_reta dX5_formOf_127 rfl (by
      have e : ad_fx c = 6 := by
        unfold ad_fx
        (repeat' split) <;> first | with_reducible rfl | contradiction | (exfalso; omega) | rfl | (exfalso; simp_all; omega) | (simp_all; done)
      rw [e]
      exact ⟨rfl, rfl⟩)
  by_cases hs1_107 : c = 107
  · refine ad_table dX5_formOf_1 (by omega) 110 (by rw [hs1_107]; rfl) ?_
    refine ad_ldcS (i := 2) (by decide) rfl rfl dX5_formOf_110 ?_
    exact ad_reta dX5_formOf_112 rfl (by
      have e : ad_fx c = 2 := by
        unfold ad_fx
        (repeat' split) <;> first | with_reducible rfl | contradiction | (exfalso; omega) | rfl | (exfalso; simp_all; omega) | (simp_all; done)
      rw [e]
      exact ⟨rfl, rfl⟩)
  by_cases hs1_108 : c = 108
  · refine ad_table dX5_formOf_1 (by omega) 125 (by rw [hs1_108]; rfl) ?_
    refine ad_ldcS (i := 6) (by decide) rfl rfl dX5_formOf_125 ?_
    exact ad_reta dX5_formOf_127 rfl (by
      have e : ad_fx c = 6 := by
        unfold ad_fx
        (repeat' split) <;> first | with_reducible rfl | contradiction | (exfalso; omega) | rfl | (exfalso; simp_all; omega) | (simp_all; done)
      rw [e]
      exact ⟨rfl, rfl⟩)
  by_cases hs1_109 : c = 109
  · refine ad_table dX5_formOf_1 (by omega) 125 (by rw [hs1_109]; rfl) ?_
    refine ad_ldcS (i := 6) (by decide) rfl rfl dX5_formOf_125 ?_
    exact ad_reta dX5_formOf_127 rfl (by
      have e : ad_fx c = 6 := by
        unfold ad_fx
        (repeat' split) <;> first | with_reducible rfl | contradiction | (exfalso; omega) | rfl | (exfalso; simp_all; omega) | (simp_all; done)
      rw [e]
      exact ⟨rfl, rfl⟩)
  by_cases hs1_110 : c = 110
  · refine ad_table dX5_formOf_1 (by omega) 125 (by rw [hs1_110]; rfl) ?_
    refine ad_ldcS (i := 6) (by decide) rfl rfl dX5_formOf_125 ?_
    exact ad_reta dX5_formOf_127 rfl (by
      have e : ad_fx c = 6 := by
        unfold ad_fx
        (repeat' split) <;> first | with_reducible rfl | contradiction | (exfalso; omega) | rfl | (exfalso; simp_all; omega) | (simp_all; done)
      rw [e]
      exact ⟨rfl, rfl⟩)
  by_cases hs1_111 : c = 111
  · refine ad_table dX5_formOf_1 (by omega) 125 (by rw [hs1_111]; rfl) ?_
    refine ad_ldcS (i := 6) (by decide) rfl rfl dX5_formOf_125 ?_
    exact ad_reta dX5_formOf_127 rfl (by
      have e : ad_fx c = 6 := by
        unfold ad_fx
        (repeat' split) <;> first | with_reducible rfl | contradiction | (exfalso; omega) | rfl | (exfalso; simp_all; omega) | (simp_all; done)
      rw [e]
      exact ⟨rfl, rfl⟩)
  by_cases hs1_112 : c = 112
  · refine ad_table dX5_formOf_1 (by omega) 125 (by rw [hs1_112]; rfl) ?_
    refine ad_ldcS (i := 6) (by decide) rfl rfl dX5_formOf_125 ?_
    exact ad_reta dX5_formOf_127 rfl (by
      have e : ad_fx c = 6 := by
        unfold ad_fx
        (repeat' split) <;> first | with_reducible rfl | contradiction | (exfalso; omega) | rfl | (exfalso; simp_all; omega) | (simp_all; done)
      rw [e]
      exact ⟨rfl, rfl⟩)
  by_cases hs1_113 : c = 113
  · refine ad_table dX5_formOf_1 (by omega) 125 (by rw [hs1_113]; rfl) ?_
    refine ad_ldcS (i := 6) (by decide) rfl rfl dX5_formOf_125 ?_
    exact ad_reta dX5_formOf_127 rfl (by
      have e : ad_fx c = 6 := by
        unfold ad_fx
        (repeat' split) <;> first | with_reducible rfl | contradiction | (exfalso; omega) | rfl | (exfalso; simp_all; omega) | (simp_all; done)
      rw [e]
      exact ⟨rfl, rfl⟩)
  by_cases hs1_114 : c = 114
  · refine ad_table dX5_formOf_1 (by omega) 116 (by rw [hs1_114]; rfl) ?_
    refine ad_ldcS (i := 4) (by decide) rfl rfl dX5_formOf_116 ?_
    exact ad_reta dX5_formOf_118 rfl (by
      have e : ad_fx c = 4 := by
        unfold ad_fx
        (repeat' split) <;> first | with_reducible rfl | contradiction | (exfalso; omega) | rfl | (exfalso; simp_all; omega) | (simp_all; done)
      rw [e]
      exact ⟨rfl, rfl⟩)
  by_cases hs1_115 : c = 115
  · refine ad_table dX5_formOf_1 (by omega) 125 (by rw [hs1_115]; rfl) ?_
    refine ad_ldcS (i := 6) (by decide) rfl rfl dX5_formOf_125 ?_
    exact ad_reta dX5_formOf_127 rfl (by
      have e : ad_fx c = 6 := by
        unfold ad_fx
        (repeat' split) <;> first | with_reducible rfl | contradiction | (exfalso; omega) | rfl | (exfalso; simp_all; omega) | (simp_all; done)
      rw [e]
      exact ⟨rfl, rfl⟩)
  by_cases hs1_116 : c = 116
  · refine ad_table dX5_formOf_1 (by omega) 125 (by rw [hs1_116]; rfl) ?_
    refine ad_ldcS (i := 6) (by decide) rfl rfl dX5_formOf_125 ?_
    exact ad_reta dX5_formOf_127 rfl (by
      have e : ad_fx c = 6 := by
        unfold ad_fx
        (repeat' split) <;> first | with_reducible rfl | contradiction | (exfalso; omega) | rfl | (exfalso; simp_all; omega) | (simp_all; done)
      rw [e]
      exact ⟨rfl, rfl⟩)
  by_cases hs1_117 : c = 117
  · refine ad_table dX5_formOf_1 (by omega) 125 (by rw [hs1_117]; rfl) ?_
    refine ad_ldcS (i := 6) (by decide) rfl rfl dX5_formOf_125 ?_
    exact ad_reta dX5_formOf_127 rfl (by
      have e : ad_fx c = 6 := by
        unfold ad_fx
        (repeat' split) <;> first | with_reducible rfl | contradiction | (exfalso; omega) | rfl | (exfalso; simp_all; omega) | (simp_all; done)
      rw [e]
      exact ⟨rfl, rfl⟩)
  by_cases hs1_118 : c = 118
  · refine ad_table dX5_formOf_1 (by omega) 104 (by rw [hs1_118]; rfl) ?_
    refine ad_ldcS (i := 0) (by decide) rfl rfl dX5_formOf_104 ?_
    exact ad_reta dX5_formOf_106 rfl (by
      have e : ad_fx c = 0 := by
        unfold ad_fx
        (repeat' split) <;> first | with_reducible rfl | contradiction | (exfalso; omega) | rfl | (exfalso; simp_all; omega) | (simp_all; done)
      rw [e]
      exact ⟨rfl, rfl⟩)
  by_cases hs1_119 : c = 119
  · refine ad_table dX5_formOf_1 (by omega) 125 (by rw [hs1_119]; rfl) ?_
    refine ad_ldcS (i := 6) (by decide) rfl rfl dX5_formOf_125 ?_
    exact ad_reta dX5_formOf_127 rfl (by
      have e : ad_fx c = 6 := by
        unfold ad_fx
        (repeat' split) <;> first | with_reducible rfl | contradiction | (exfalso; omega) | rfl | (exfalso; simp_all; omega) | (simp_all; done)
      rw [e]
      exact ⟨rfl, rfl⟩)
  by_cases hs1_120 : c = 120
  · refine ad_table dX5_formOf_1 (by omega) 122 (by rw [hs1_120]; rfl) ?_
    refine ad_ldcS (i := 5) (by decide) rfl rfl dX5_formOf_122 ?_
    exact ad_reta dX5_formOf_124 rfl (by
      have e : ad_fx c = 5 := by
        unfold ad_fx
        (repeat' split) <;> first | with_reducible rfl | contradiction | (exfalso; omega) | rfl | (exfalso; simp_all; omega) | (simp_all; done)
      rw [e]
      exact ⟨rfl, rfl⟩)
  refine ad_table dX5_formOf_1 (by omega) 125 (by rw [if_pos (by omega)]; rfl) ?_
  refine ad_ldcS (i := 6) (by decide) rfl rfl dX5_formOf_125 ?_
  exact ad_reta dX5_formOf_127 rfl (by
    have e : ad_fx c = 6 := by
      unfold ad_fx
      (repeat' split) <;> first | with_reducible rfl | contradiction | (exfalso; omega) | rfl | (exfalso; simp_all; omega) | (simp_all; done)
    rw [e]
    exact ⟨rfl, rfl⟩)
