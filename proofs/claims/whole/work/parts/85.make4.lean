/-! ===== the store's constructor ===== -/
def vkeys (j : Nat) : List (Nat × Nat) := [(6, j), (2, j), (12, j), (0, j), (10, j), (11, j)]
def nb_F (l : Launch) (D : va_G) (cI cV : ClassId) (s : Nat) (adv : Nat → Nat → Nat → Nat) (i : Nat) : va_W := (List.range i).flatMap (fun v => (vkeys (10 * s + v)).map (nb_e l D cI cV (adv v)))
def nb_f (s : Nat) (adv : Nat → Nat → Nat → Nat) (i : Nat) : Nat → Option Nat := fun j => if j < i then some (adv j 6 (10 * s + j)) else none
def nb_a1 (adv : Nat → Nat → Nat → Nat) (i : Nat) (ad : Nat → Nat → Nat) : Nat → Nat → Nat → Nat := fun v => if v = i then ad else adv v
theorem nb_F_s {l : Launch} {D : va_G} {cI cV : ClassId} {s : Nat} {adv : Nat → Nat → Nat → Nat} {i : Nat} {ad : Nat → Nat → Nat} : nb_F l D cI cV s (nb_a1 adv i ad) (i + 1) = nb_F l D cI cV s adv i ++ (vkeys (10 * s + i)).map (nb_e l D cI cV ad) := by
  unfold nb_F
  rw [List.range_succ, List.flatMap_append, List.flatMap_singleton]
  congr 1
  · rw [List.flatMap_def, List.flatMap_def]
    congr 1
    refine List.map_congr_left (fun v hv => ?_)
    have := List.mem_range.mp hv
    unfold nb_a1; rw [if_neg (by omega)]
  · unfold nb_a1; rw [if_pos rfl]
theorem nb_f_s {s : Nat} {adv : Nat → Nat → Nat → Nat} {i : Nat} {ad : Nat → Nat → Nat} : va_up (nb_f s adv i) i (some (ad 6 (10 * s + i))) = nb_f s (nb_a1 adv i ad) (i + 1) := by
  funext j
  unfold va_up nb_f nb_a1
  by_cases h : j = i
  · subst h; rw [if_pos rfl, if_pos (by omega), if_pos rfl]
  · rw [if_neg h, if_neg h]
    by_cases h2 : j < i
    · rw [if_pos h2, if_pos (by omega)]
    · rw [if_neg h2, if_neg (by omega)]
theorem nb_at {a b : Nat × va_E} {F blk : va_W} : ((a :: b :: F) ++ blk)[F.length + 2]? = blk[0]? := by
  rw [List.getElem?_append_right (by simp)]
  congr 1; simp
theorem nb_at1 {a b : Nat × va_E} {F blk : va_W} : (a :: b :: (F ++ blk))[F.length + 2]? = blk[0]? := nb_at
theorem nb_set1 {a b x y : Nat × va_E} {F : va_W} : (a :: b :: (F ++ [x])).set (F.length + 2) y = a :: b :: (F ++ [y]) := by
  show a :: b :: ((F ++ [x]).set F.length y) = _
  rw [List.set_append_right _ _ (Nat.le_refl _), Nat.sub_self]; rfl
theorem nb_cv {l : Launch} {D : va_G} {cI cV : ClassId} {μ : ad_MI} {d : Nat} {A : Nat → Prop} {nc ns : Nat} {Z : Nat → List (Option Value) → List Value → va_W → Nat → Nat → Prop} {pc : Nat} {L : List (Option Value)} {S : List Value} {a : Nat × va_E} {q N : Nat} {f g : Nat → Option Nat} {W0 : va_W} {k n : Nat} (h : ∀ j, j < N → f j = g j)
    (kk : nb_R l D cI cV μ d A nc ns Z pc L S (a :: (q, .inl (cV, N, .inr (.inr (.inr (.inr g))))) :: W0) k n) : nb_R l D cI cV μ d A nc ns Z pc L S (a :: (q, .inl (cV, N, .inr (.inr (.inr (.inr f))))) :: W0) k n := by
  intro p e R s m args below meth c Q C hZ H locs ls hP hD hS hl
  have e1 : arrV cV N (fun j => va_rf (f j)) = arrV cV N (fun j => va_rf (g j)) := by
    have : (fun j : Fin N => va_rf (f j.val)) = (fun j : Fin N => va_rf (g j.val)) := funext fun j => by rw [h j.val j.isLt]
    unfold arrV; rw [this]
  have h1 : H[q]? = some (vp_cell cV (N, .inr (.inr (.inr (.inr f))))) := hP 1 (q, .inl (cV, N, .inr (.inr (.inr (.inr f))))) rfl
  rw [vp_cell_q, e1, ← vp_cell_q] at h1
  exact kk p e R s m args below meth c Q C hZ H locs ls (hP.set hD (p := 1) (e := .inl (cV, N, .inr (.inr (.inr (.inr g))))) rfl h1 (fun _ _ => rfl)) (hD.set (p := 1) (e := .inl (cV, N, .inr (.inr (.inr (.inr g))))) rfl) hS hl
def skeys (s : Nat) : List (Nat × Nat) := (4, s) :: (18, s) :: (((List.range 10).flatMap (fun v => vkeys (10 * s + v)) ++ [(19, s)]) ++ [(2, 30 + s), (12, 30 + s)])
theorem nb_Fk {l : Launch} {D : va_G} {cI cV : ClassId} {s : Nat} {adv : Nat → Nat → Nat → Nat} {ad : Nat → Nat → Nat} (h : ∀ v, v < 10 → ∀ k, (k = 6 ∨ k = 2 ∨ k = 12 ∨ k = 0 ∨ k = 10 ∨ k = 11) → ad k (10 * s + v) = adv v k (10 * s + v)) : nb_F l D cI cV s adv 10 = ((List.range 10).flatMap (fun v => vkeys (10 * s + v))).map (nb_e l D cI cV ad) := by
  unfold nb_F
  rw [List.map_flatMap, List.flatMap_def, List.flatMap_def]
  congr 1
  refine List.map_congr_left (fun v hv => ?_)
  have hh := h v (List.mem_range.mp hv)
  have e6 := hh 6 (by omega)
  have e2 := hh 2 (by omega)
  have e12 := hh 12 (by omega)
  have e0 := hh 0 (by omega)
  have e10 := hh 10 (by omega)
  have e11 := hh 11 (by omega)
  generalize 10 * s + v = j at e6 e2 e12 e0 e10 e11 ⊢
  show [(adv v 6 j, _), (adv v 2 j, _), (adv v 12 j, _), (adv v 0 j, _), (adv v 10 j, _), (adv v 11 j, _)] = [(ad 6 j, _), (ad 2 j, _), (ad 12 j, _), (ad 0 j, _), (ad 10 j, _), (ad 11 j, _)]
  have g6 : ad_ent (nb_g l D cI cV ad) 6 j (sg0 6 j) = ad_ent (nb_g l D cI cV (adv v)) 6 j (sg0 6 j) := by
    show (Sum.inr (6, [.ref (ad 2 j), .ref (ad 0 j), ad_iv (-1), ad_iv (-1), ad_iv 0, ad_iv 0, ad_iv (-1)]) : va_E) = Sum.inr (6, [.ref (adv v 2 j), .ref (adv v 0 j), ad_iv (-1), ad_iv (-1), ad_iv 0, ad_iv 0, ad_iv (-1)])
    rw [e2, e0]
  have g2 : ad_ent (nb_g l D cI cV ad) 2 j (sg0 2 j) = ad_ent (nb_g l D cI cV (adv v)) 2 j (sg0 2 j) := by
    show (Sum.inr (2, [.ref (ad 12 j), ad_iv 0]) : va_E) = Sum.inr (2, [.ref (adv v 12 j), ad_iv 0])
    rw [e12]
  have g0 : ad_ent (nb_g l D cI cV ad) 0 j (sg0 0 j) = ad_ent (nb_g l D cI cV (adv v)) 0 j (sg0 0 j) := by
    show (Sum.inr (0, [.ref (ad 10 j), .ref (ad 11 j), ad_iv 0, ad_iv 0]) : va_E) = Sum.inr (0, [.ref (adv v 10 j), .ref (adv v 11 j), ad_iv 0, ad_iv 0])
    rw [e10, e11]
  rw [e6, e2, e12, e0, e10, e11, g6, g2, g0]
  rfl
theorem mk_X4 {l : Launch} {D : va_G} {cI cV : ClassId} {d s : Nat} (hs : s < 3) (hd0 : 5 ≤ d) : nb_M l D cI cV mX4_init d 4 df4 [] 64 518 (nb_B l D cI cV (skeys s) 4 s) := by
  have hN30 : ad_len 12 (30 + s) = 12 := by show (if 30 + s = 33 then 96 else 12) = 12; rw [if_neg (by omega)]
  refine nb_M_of 1 (by simp [Value.category]) rfl rfl rfl (Nat.le_of_ble_eq_true rfl) (fun h0 sz => ?_)
  simp only [List.map_cons, List.map_nil, List.replicate, List.cons_append, List.nil_append]
  have htail : ∀ (q1 q2 : Nat) (adv : Nat → Nat → Nat → Nat), nb_R l D cI cV mX4_init d (va_A [(h0, .inr (4, df4))] sz) 64 518 (nb_Z mX4_init 64 518 h0 (nb_B l D cI cV (skeys s) 4 s)) 67 [some (.ref h0), some (ad_iv 4)] [] ((h0, .inr (4, [.ref q1, .ref q2, .null, .int 0, .int 0, .int 0, .int 0, .int 0])) :: (q1, .inl (cV, 10, .inr (.inr (.inr (.inr (nb_f s adv 10)))))) :: (nb_F l D cI cV s adv 10 ++ [(q2, .inl (cI, 4, .inl (fun c => if c < 4 then Int32.ofInt (-1) else 0)))])) (1 + 6 * 10 + 1) (10 + 49 * 10 + 4) := by
    intro q1 q2 adv
    refine nb_aload_n dX4_init_67 rfl ?_
    refine nb_new (ci := 2) (fs := df2) tyX2 dX4_init_68 tyX2_ok nc_X4_22 ni_X2.2.1 ni_X2.2.2 ad_inX2 rfl df2_ok (by omega) (by omega) (fun q3 => ?_)
    refine nb_dup dX4_init_71 rfl ?_
    refine nb_bipush dX4_init_72 rfl ?_
    have hm3 := (mk_X2 (l := l) (D := D) (cI := cI) (cV := cV) (j := 30 + s) (N := 12) hN30 (by decide) (d := d - 1) (by omega))
    refine nb_init (j := 1) (S := [.ref q3, .ref h0]) hm3 (by omega) nm_X4_24 ni_X2.1.1 ni_X2.1.2.1 rfl ni_X2.1.2.2 ⟨by decide, by decide, by decide +kernel⟩ (by decide) rfl (As := [ad_iv ((12 : Nat) : Int)]) rfl rfl dX4_init_74 (Nat.le_of_ble_eq_true rfl) (by omega) (by omega) (fun b3 hb3 => ?_)
    obtain ⟨a3, rfl, rfl⟩ := hb3
    refine nb_put (ws1 := ((h0, .inr (4, [.ref q1, .ref q2, .ref (a3 2 (30 + s)), .int 0, .int 0, .int 0, .int 0, .int 0])) :: ((q1, .inl (cV, 10, .inr (.inr (.inr (.inr (nb_f s adv 10)))))) :: (nb_F l D cI cV s adv 10 ++ [(q2, .inl (cI, 4, .inl (fun c => if c < 4 then Int32.ofInt (-1) else 0)))]) ++ [(2, 30 + s), (12, 30 + s)].map (nb_e l D cI cV a3)))) 0 rfl fl_X4_27 tyX4 tyX4_ok nmX4 (by first | exact Or.inl rfl | exact Or.inr ⟨rfl, rfl⟩) rfl rfl rfl (Nat.le_of_ble_eq_true rfl) dX4_init_77 rfl ?_
    refine nb_aload_n dX4_init_80 rfl ?_
    refine nb_iconst dX4_init_81 ?_
    refine nb_put (ws1 := ((h0, .inr (4, [.ref q1, .ref q2, .ref (a3 2 (30 + s)), ad_iv 0, .int 0, .int 0, .int 0, .int 0])) :: ((q1, .inl (cV, 10, .inr (.inr (.inr (.inr (nb_f s adv 10)))))) :: (nb_F l D cI cV s adv 10 ++ [(q2, .inl (cI, 4, .inl (fun c => if c < 4 then Int32.ofInt (-1) else 0)))]) ++ [(2, 30 + s), (12, 30 + s)].map (nb_e l D cI cV a3)))) 0 rfl fl_X4_31 tyX4 tyX4_ok nmX4 (by first | exact Or.inl rfl | exact Or.inr ⟨rfl, rfl⟩) rfl rfl rfl (Nat.le_of_ble_eq_true rfl) dX4_init_82 rfl ?_
    refine nb_aload_n dX4_init_85 rfl ?_
    refine nb_iconst dX4_init_86 ?_
    refine nb_put (ws1 := ((h0, .inr (4, [.ref q1, .ref q2, .ref (a3 2 (30 + s)), ad_iv 0, ad_iv 0, .int 0, .int 0, .int 0])) :: ((q1, .inl (cV, 10, .inr (.inr (.inr (.inr (nb_f s adv 10)))))) :: (nb_F l D cI cV s adv 10 ++ [(q2, .inl (cI, 4, .inl (fun c => if c < 4 then Int32.ofInt (-1) else 0)))]) ++ [(2, 30 + s), (12, 30 + s)].map (nb_e l D cI cV a3)))) 0 rfl fl_X4_35 tyX4 tyX4_ok nmX4 (by first | exact Or.inl rfl | exact Or.inr ⟨rfl, rfl⟩) rfl rfl rfl (Nat.le_of_ble_eq_true rfl) dX4_init_87 rfl ?_
    refine nb_aload_n dX4_init_90 rfl ?_
    refine nb_iconst dX4_init_91 ?_
    refine nb_put (ws1 := ((h0, .inr (4, [.ref q1, .ref q2, .ref (a3 2 (30 + s)), ad_iv 0, ad_iv 0, ad_iv 0, .int 0, .int 0])) :: ((q1, .inl (cV, 10, .inr (.inr (.inr (.inr (nb_f s adv 10)))))) :: (nb_F l D cI cV s adv 10 ++ [(q2, .inl (cI, 4, .inl (fun c => if c < 4 then Int32.ofInt (-1) else 0)))]) ++ [(2, 30 + s), (12, 30 + s)].map (nb_e l D cI cV a3)))) 0 rfl fl_X4_38 tyX4 tyX4_ok nmX4 (by first | exact Or.inl rfl | exact Or.inr ⟨rfl, rfl⟩) rfl rfl rfl (Nat.le_of_ble_eq_true rfl) dX4_init_92 rfl ?_
    refine nb_aload_n dX4_init_95 rfl ?_
    refine nb_iconst dX4_init_96 ?_
    refine nb_put (ws1 := ((h0, .inr (4, [.ref q1, .ref q2, .ref (a3 2 (30 + s)), ad_iv 0, ad_iv 0, ad_iv 0, ad_iv 0, .int 0])) :: ((q1, .inl (cV, 10, .inr (.inr (.inr (.inr (nb_f s adv 10)))))) :: (nb_F l D cI cV s adv 10 ++ [(q2, .inl (cI, 4, .inl (fun c => if c < 4 then Int32.ofInt (-1) else 0)))]) ++ [(2, 30 + s), (12, 30 + s)].map (nb_e l D cI cV a3)))) 0 rfl fl_X4_41 tyX4 tyX4_ok nmX4 (by first | exact Or.inl rfl | exact Or.inr ⟨rfl, rfl⟩) rfl rfl rfl (Nat.le_of_ble_eq_true rfl) dX4_init_97 rfl ?_
    refine nb_aload_n dX4_init_100 rfl ?_
    refine nb_iconst dX4_init_101 ?_
    refine nb_put (ws1 := ((h0, .inr (4, [.ref q1, .ref q2, .ref (a3 2 (30 + s)), ad_iv 0, ad_iv 0, ad_iv 0, ad_iv 0, ad_iv 4])) :: ((q1, .inl (cV, 10, .inr (.inr (.inr (.inr (nb_f s adv 10)))))) :: (nb_F l D cI cV s adv 10 ++ [(q2, .inl (cI, 4, .inl (fun c => if c < 4 then Int32.ofInt (-1) else 0)))]) ++ [(2, 30 + s), (12, 30 + s)].map (nb_e l D cI cV a3)))) 0 rfl fl_X4_44 tyX4 tyX4_ok nmX4 (by first | exact Or.inl rfl | exact Or.inr ⟨rfl, rfl⟩) rfl rfl rfl (Nat.le_of_ble_eq_true rfl) dX4_init_102 rfl ?_
    obtain ⟨ad, h4, h18, h19, h30, hv⟩ : ∃ ad : Nat → Nat → Nat, (∀ i, ad 4 i = h0) ∧ (∀ i, ad 18 i = q1) ∧ (∀ i, ad 19 i = q2) ∧ (∀ k i, (k = 2 ∨ k = 12) → 30 ≤ i → ad k i = a3 k i) ∧ (∀ v, v < 10 → ∀ k, (k = 6 ∨ k = 2 ∨ k = 12 ∨ k = 0 ∨ k = 10 ∨ k = 11) → ad k (10 * s + v) = adv v k (10 * s + v)) := by
      refine ⟨fun k i => if k = 4 then h0 else if k = 18 then q1 else if k = 19 then q2 else if 30 ≤ i then a3 k i else adv (i - 10 * s) k i, fun _ => rfl, fun _ => rfl, fun _ => rfl, fun k i hk hi => ?_, fun v hv k hk => ?_⟩
      · show (if k = 4 then h0 else if k = 18 then q1 else if k = 19 then q2 else if 30 ≤ i then a3 k i else adv (i - 10 * s) k i) = _
        rw [if_neg (by omega), if_neg (by omega), if_neg (by omega), if_pos hi]
      · show (if k = 4 then h0 else if k = 18 then q1 else if k = 19 then q2 else if 30 ≤ 10 * s + v then a3 k (10 * s + v) else adv (10 * s + v - 10 * s) k (10 * s + v)) = _
        rw [if_neg (by omega), if_neg (by omega), if_neg (by omega), if_neg (by omega), show 10 * s + v - 10 * s = v by omega]
    refine nb_cv (g := fun v => some (ad 6 (10 * s + v))) (fun j hj => by unfold nb_f; rw [if_pos hj, hv j hj 6 (by omega)]) ?_
    refine nb_stop ⟨dX4_init_105, rfl, by omega, by omega, ad, h4 s, ?_⟩
    have e4 : nb_e l D cI cV ad (4, s) = (h0, .inr (4, [.ref q1, .ref q2, .ref (a3 2 (30 + s)), ad_iv 0, ad_iv 0, ad_iv 0, ad_iv 0, ad_iv 4])) := by
      show ((ad 4 s, .inr (4, [.ref (ad 18 s), .ref (ad 19 s), .ref (ad 2 (30 + s)), ad_iv 0, ad_iv 0, ad_iv 0, ad_iv 0, ad_iv 4])) : Nat × va_E) = _
      rw [h4, h18, h19, h30 2 (30 + s) (by omega) (by omega)]
    have e18 : nb_e l D cI cV ad (18, s) = (q1, .inl (cV, 10, .inr (.inr (.inr (.inr (fun v => some (ad 6 (10 * s + v)))))))) := by
      show ((ad 18 s, .inl (cV, 10, .inr (.inr (.inr (.inr (fun v => some (ad 6 (10 * s + v)))))))) : Nat × va_E) = _
      rw [h18]
    have e19 : nb_e l D cI cV ad (19, s) = (q2, .inl (cI, 4, .inl (fun c => if c < 4 then Int32.ofInt (-1) else 0))) := by
      have ef : (fun j : Nat => Int32.ofInt (sg0 19 s j)) = (fun c => if c < 4 then Int32.ofInt (-1) else 0) := by
        funext c
        show Int32.ofInt (if c < 4 then -1 else 0) = _
        split <;> rfl
      show ((ad 19 s, .inl (cI, 4, .inl (fun j : Nat => Int32.ofInt (sg0 19 s j)))) : Nat × va_E) = _
      rw [h19, ef]
    have e2 : nb_e l D cI cV ad (2, 30 + s) = nb_e l D cI cV a3 (2, 30 + s) := by
      show ((ad 2 (30 + s), .inr (2, [.ref (ad 12 (30 + s)), ad_iv 0])) : Nat × va_E) = (a3 2 (30 + s), .inr (2, [.ref (a3 12 (30 + s)), ad_iv 0]))
      rw [h30 2 (30 + s) (by omega) (by omega), h30 12 (30 + s) (by omega) (by omega)]
    have e12 : nb_e l D cI cV ad (12, 30 + s) = nb_e l D cI cV a3 (12, 30 + s) := by
      show ((ad 12 (30 + s), _) : Nat × va_E) = (a3 12 (30 + s), _)
      rw [h30 12 (30 + s) (by omega) (by omega)]
      rfl
    unfold skeys
    simp only [List.map_cons, List.map_append, List.map_nil]
    rw [e4, e18, e19, e2, e12, ← nb_Fk hv]
    rfl
  have htops : ∀ (q1 q2 : Nat) (adv : Nat → Nat → Nat → Nat) (n i : Nat), i ≤ 4 → 4 - i ≤ n → nb_R l D cI cV mX4_init d (va_A [(h0, .inr (4, df4))] sz) 64 518 (nb_Z mX4_init 64 518 h0 (nb_B l D cI cV (skeys s) 4 s)) 49 [some (.ref h0), some (ad_iv (i : Int))] [] ((h0, .inr (4, [.ref q1, .ref q2, .null, .int 0, .int 0, .int 0, .int 0, .int 0])) :: (q1, .inl (cV, 10, .inr (.inr (.inr (.inr (nb_f s adv 10)))))) :: (nb_F l D cI cV s adv 10 ++ [(q2, .inl (cI, 4, .inl (fun c => if c < i then Int32.ofInt (-1) else 0)))])) (1 + 6 * 10 + 1) (10 + 49 * 10 + 4) := by
    intro q1 q2 adv n
    induction n with
    | zero =>
      intro i hi hn
      refine nb_iload_n dX4_init_49 rfl ?_
      refine nb_iconst dX4_init_50 ?_
      refine nb_icmp_ge 67 dX4_init_51 (by decide) (by constructor <;> omega) (by decide) (fun h => ?_) (fun h => ?_)
      · obtain rfl : i = 4 := by omega
        exact htail q1 q2 adv
      · exfalso; omega
    | succ n ih =>
      intro i hi hn
      refine nb_iload_n dX4_init_49 rfl ?_
      refine nb_iconst dX4_init_50 ?_
      refine nb_icmp_ge 67 dX4_init_51 (by decide) (by constructor <;> omega) (by decide) (fun h => ?_) (fun h => ?_)
      · obtain rfl : i = 4 := by omega
        exact htail q1 q2 adv
      · refine nb_aload_n dX4_init_54 rfl ?_
        refine nb_get 0 rfl fl_X4_18 dX4_init_55 rfl rfl ?_
        refine nb_iload_n dX4_init_58 rfl ?_
        refine nb_iconst dX4_init_59 ?_
        refine nb_iast ((nb_F l D cI cV s adv 10).length + 2) dX4_init_60 nb_at1 (by omega) (by omega) (by omega) nb_set1 ?_
        refine nb_iinc dX4_init_61 rfl (by decide) rfl (by dsimp only [ad_set]) ?_
        refine nb_goto 49 dX4_init_64 (by decide) ?_
        have e : upd (fun c => if c < i then Int32.ofInt (-1) else 0) ((i : Int)).toNat (Int32.ofInt (-1)) = (fun c => if c < i + 1 then Int32.ofInt (-1) else 0) := by
          funext c
          rw [Int.toNat_natCast]
          unfold upd
          by_cases hc : c = i
          · rw [if_pos hc, if_pos (by omega)]
          · rw [if_neg hc]
            show (if c < i then Int32.ofInt (-1) else 0) = _
            by_cases h2 : c < i
            · rw [if_pos h2, if_pos (by omega)]
            · rw [if_neg h2, if_neg (by omega)]
        rw [e]
        exact ih (i + 1) (by omega) (by omega)
  have hvers : ∀ (q1 n i : Nat) (adv : Nat → Nat → Nat → Nat), i ≤ 10 → 10 - i ≤ n → nb_R l D cI cV mX4_init d (va_A [(h0, .inr (4, df4))] sz) 64 518 (nb_Z mX4_init 64 518 h0 (nb_B l D cI cV (skeys s) 4 s)) 15 [some (.ref h0), some (ad_iv (i : Int))] [] ((h0, .inr (4, [.ref q1, .null, .null, .int 0, .int 0, .int 0, .int 0, .int 0])) :: (q1, .inl (cV, 10, .inr (.inr (.inr (.inr (nb_f s adv i)))))) :: nb_F l D cI cV s adv i) (1 + 6 * i) (10 + 49 * i) := by
    intro q1 n
    have hend : ∀ adv : Nat → Nat → Nat → Nat, nb_R l D cI cV mX4_init d (va_A [(h0, .inr (4, df4))] sz) 64 518 (nb_Z mX4_init 64 518 h0 (nb_B l D cI cV (skeys s) 4 s)) 40 [some (.ref h0), some (ad_iv ((10 : Nat) : Int))] [] ((h0, .inr (4, [.ref q1, .null, .null, .int 0, .int 0, .int 0, .int 0, .int 0])) :: (q1, .inl (cV, 10, .inr (.inr (.inr (.inr (nb_f s adv 10)))))) :: nb_F l D cI cV s adv 10) (1 + 6 * 10) (10 + 49 * 10) := by
      intro adv
      refine nb_aload_n dX4_init_40 rfl ?_
      refine nb_iconst dX4_init_41 ?_
      refine nb_newa (N := 4) dX4_init_42 nw_ai (by omega) (by omega) (by omega) (by omega) (fun q2 => ?_)
      refine nb_put (ws1 := ((h0, .inr (4, [.ref q1, .ref q2, .null, .int 0, .int 0, .int 0, .int 0, .int 0])) :: (q1, .inl (cV, 10, .inr (.inr (.inr (.inr (nb_f s adv 10)))))) :: (nb_F l D cI cV s adv 10 ++ [(q2, .inl (cI, 4, .inl (fun c => if c < 0 then Int32.ofInt (-1) else 0)))]))) 0 rfl fl_X4_18 tyX4 tyX4_ok nmX4 (by first | exact Or.inl rfl | exact Or.inr ⟨rfl, rfl⟩) rfl rfl rfl (Nat.le_of_ble_eq_true rfl) dX4_init_44 rfl ?_
      refine nb_iconst dX4_init_47 ?_
      refine nb_istore_n dX4_init_48 (by decide) rfl (by dsimp only [ad_set]) ?_
      exact htops q1 q2 adv 4 0 (by omega) (by omega)
    induction n with
    | zero =>
      intro i adv hi hn
      refine nb_iload_n dX4_init_15 rfl ?_
      refine nb_bipush dX4_init_16 rfl ?_
      refine nb_icmp_ge 40 dX4_init_18 (by decide) (by constructor <;> omega) (by decide) (fun h => ?_) (fun h => ?_)
      · obtain rfl : i = 10 := by omega
        exact hend adv
      · exfalso; omega
    | succ n ih =>
      intro i adv hi hn
      refine nb_iload_n dX4_init_15 rfl ?_
      refine nb_bipush dX4_init_16 rfl ?_
      refine nb_icmp_ge 40 dX4_init_18 (by decide) (by constructor <;> omega) (by decide) (fun h => ?_) (fun h => ?_)
      · obtain rfl : i = 10 := by omega
        exact hend adv
      · refine nb_aload_n dX4_init_21 rfl ?_
        refine nb_get 0 rfl fl_X4_11 dX4_init_22 rfl rfl ?_
        refine nb_iload_n dX4_init_25 rfl ?_
        refine nb_new (ci := 6) (fs := df6) tyX6 dX4_init_26 tyX6_ok nc_X4_9 ni_X6.2.1 ni_X6.2.2 ad_inX6 rfl df6_ok (by omega) (by omega) (fun q2 => ?_)
        refine nb_dup dX4_init_29 rfl ?_
        have hm := mk_X6 (l := l) (D := D) (cI := cI) (cV := cV) (j := 10 * s + i) (d := d - 1) (by omega) (by omega)
        refine nb_init (j := 0) (S := [.ref q2, ad_iv (i : Int), .ref q1]) hm (by omega) nm_X4_17 ni_X6.1.1 ni_X6.1.2.1 rfl ni_X6.1.2.2 ⟨by decide, by decide, by decide +kernel⟩ (by decide) rfl (As := []) rfl rfl dX4_init_30 (Nat.le_of_ble_eq_true rfl) (by omega) (by omega) (fun b2 hb2 => ?_)
        obtain ⟨a2, rfl, rfl⟩ := hb2
        refine nb_astq (f := nb_f s adv i) (ci := 6) (T := TX6) (N6 := 7) 1 ((nb_F l D cI cV s adv i).length + 2) dX4_init_33 rfl nb_at rfl (by omega) (by omega) (by omega) (ws1 := ((h0, .inr (4, [.ref q1, .null, .null, .int 0, .int 0, .int 0, .int 0, .int 0])) :: (q1, .inl (cV, 10, .inr (.inr (.inr (.inr (va_up (nb_f s adv i) (i : Int).toNat (some (a2 6 (10 * s + i))))))))) :: (nb_F l D cI cV s adv i ++ (vkeys (10 * s + i)).map (nb_e l D cI cV a2)))) rfl ?_
        refine nb_iinc dX4_init_34 rfl (by decide) rfl (by dsimp only [ad_set]) ?_
        refine nb_goto 15 dX4_init_37 (by decide) ?_
        rw [Int.toNat_natCast, nb_f_s, ← nb_F_s]
        have := ih (i + 1) (nb_a1 adv i a2) (by omega) (by omega)
        rw [show 1 + 6 * (i + 1) = 1 + 6 * i + 1 + 5 by omega, show 10 + 49 * (i + 1) = 10 + 49 * i + 7 + 42 by omega] at this
        exact this
  refine nb_aload_n dX4_init_0 rfl ?_
  refine nb_objInit nl_X4_obj nw_oi nw_oc dX4_init_1 (by omega) (Nat.le_of_ble_eq_true rfl) ?_
  refine nb_aload_n dX4_init_4 rfl ?_
  refine nb_bipush dX4_init_5 rfl ?_
  refine nb_newq (N := 10) dX4_init_7 nc_X4_9 rfl (by omega) (by omega) (by omega) (fun q1 => ?_)
  refine nb_put (ws1 := ((h0, .inr (4, [.ref q1, .null, .null, .int 0, .int 0, .int 0, .int 0, .int 0])) :: (q1, .inl (cV, 10, .inr (.inr (.inr (.inr (nb_f s (fun _ _ _ => 0) 0)))))) :: nb_F l D cI cV s (fun _ _ _ => 0) 0)) 0 rfl fl_X4_11 tyX4 tyX4_ok nmX4 (by first | exact Or.inl rfl | exact Or.inr ⟨rfl, rfl⟩) rfl rfl rfl (Nat.le_of_ble_eq_true rfl) dX4_init_10 rfl ?_
  refine nb_iconst dX4_init_13 ?_
  refine nb_istore_n dX4_init_14 (by decide) rfl (by dsimp only [ad_set]) ?_
  exact hvers q1 10 0 (fun _ _ _ => 0) (by omega) (by omega)
