/-! ===== the reference: sets of versions ===== -/
/-- the set with the parents of its members -/
def ad_wd (A : ad_Ar) (p : Nat → Bool) (w : Nat) : Bool := p w || ad_an (ad_prF A p) 10 w
def ad_wn (A : ad_Ar) (p : Nat → Bool) : Nat → Nat → Bool
  | 0 => p
  | k + 1 => ad_wn A (ad_wd A p) k
theorem ad_an_iff {f : Nat → Nat → Bool} {n w : Nat} : ad_an f n w = true ↔ ∃ j, j < n ∧ f j w = true := ⟨ad_an_rng, fun ⟨_, h1, h2⟩ => ad_an_of h1 h2⟩
theorem ad_wd_mono {A : ad_Ar} {p : Nat → Bool} {w : Nat} (h : p w = true) : ad_wd A p w = true := by unfold ad_wd; rw [h]; rfl
theorem ad_wn_mono {A : ad_Ar} : ∀ (k : Nat) (p : Nat → Bool) (w : Nat), p w = true → ad_wn A p k w = true
  | 0, _, _, h => h
  | k + 1, p, w, h => ad_wn_mono k (ad_wd A p) w (ad_wd_mono h)
theorem ad_reach_tr {P Q : Nat → Int} (hp : ad_pw P Q) : ∀ (n v u w : Nat), v ≤ n → ad_reach P Q v u = true → ad_reach P Q u w = true → ad_reach P Q v w = true := by
  intro n
  induction n with
  | zero =>
    intro v u w hv h1 h2
    rw [ad_reach_eq hp] at h1
    have hv0 := hp v
    rw [show decide (0 ≤ P v) = false by simp; omega, show decide (0 ≤ Q v) = false by simp; omega] at h1
    simp only [Bool.false_and, Bool.or_false, decide_eq_true_eq] at h1
    rw [← h1]; exact h2
  | succ n ih =>
    intro v u w hv h1 h2
    have hvv := hp v
    rw [ad_reach_eq hp] at h1 ⊢
    simp only [Bool.or_eq_true, Bool.and_eq_true, decide_eq_true_eq] at h1 ⊢
    rcases h1 with (h1 | ⟨h1, h3⟩) | ⟨h1, h3⟩
    · rw [h1, ad_reach_eq hp] at h2
      simpa only [Bool.or_eq_true, Bool.and_eq_true, decide_eq_true_eq] using h2
    · exact Or.inl (Or.inr ⟨h1, ih _ u w (by omega) h3 h2⟩)
    · exact Or.inr ⟨h1, ih _ u w (by omega) h3 h2⟩
theorem ad_reach_le {P Q : Nat → Int} (hp : ad_pw P Q) : ∀ (n v w : Nat), v ≤ n → ad_reach P Q v w = true → w ≤ v := by
  intro n
  induction n with
  | zero =>
    intro v w hv h1
    have hvv := hp v
    rw [ad_reach_eq hp] at h1
    simp only [Bool.or_eq_true, Bool.and_eq_true, decide_eq_true_eq] at h1
    rcases h1 with (h1 | ⟨h1, h3⟩) | ⟨h1, h3⟩ <;> omega
  | succ n ih =>
    intro v w hv h1
    have hvv := hp v
    rw [ad_reach_eq hp] at h1
    simp only [Bool.or_eq_true, Bool.and_eq_true, decide_eq_true_eq] at h1
    rcases h1 with (h1 | ⟨h1, h3⟩) | ⟨h1, h3⟩
    · omega
    · have := ih _ w (by omega) h3; omega
    · have := ih _ w (by omega) h3; omega
theorem ad_reach_par {P Q : Nat → Int} (hp : ad_pw P Q) {u w : Nat} (h : (w : Int) = P u ∨ (w : Int) = Q u) : ad_reach P Q u w = true := by
  rw [ad_reach_eq hp]
  simp only [Bool.or_eq_true, Bool.and_eq_true, decide_eq_true_eq]
  rcases h with h | h
  · refine Or.inl (Or.inr ⟨by omega, ?_⟩)
    rw [← h, Int.toNat_natCast]; exact ad_reach_self hp w
  · refine Or.inr ⟨by omega, ?_⟩
    rw [← h, Int.toNat_natCast]; exact ad_reach_self hp w
theorem ad_wd_iff {A : ad_Ar} {p : Nat → Bool} {w : Nat} : ad_wd A p w = true ↔ p w = true ∨ ∃ u, u < 10 ∧ p u = true ∧ ((w : Int) = ad_aP A u ∨ (w : Int) = ad_aQ A u) := by
  unfold ad_wd
  rw [Bool.or_eq_true, ad_an_iff]
  unfold ad_prF
  simp only [Bool.and_eq_true, Bool.or_eq_true, decide_eq_true_eq]
theorem ad_wn_sound {A : ad_Ar} (hp : ad_pw (ad_aP A) (ad_aQ A)) {R : Nat → Prop} (hR : ∀ (u w : Nat), R u → ((w : Int) = ad_aP A u ∨ (w : Int) = ad_aQ A u) → R w) : ∀ (k : Nat) (p : Nat → Bool), (∀ u, p u = true → R u) → ∀ w, ad_wn A p k w = true → R w
  | 0, p, h, w, hw => h w hw
  | k + 1, p, h, w, hw => ad_wn_sound hp hR k (ad_wd A p) (fun u hu => by
      rcases ad_wd_iff.mp hu with h1 | ⟨v, h1, h2, h3⟩
      · exact h u h1
      · exact hR v u (h v h2) h3) w hw
theorem ad_wn_full {A : ad_Ar} (hp : ad_pw (ad_aP A) (ad_aQ A)) : ∀ (k : Nat) (p : Nat → Bool) (v w : Nat), p v = true → v < 10 → v ≤ w + k → ad_reach (ad_aP A) (ad_aQ A) v w = true → ad_wn A p k w = true
  | 0, p, v, w, h, hv, hk, hr => by
    have := ad_reach_le hp v v w (Nat.le_refl _) hr
    rw [show w = v by omega]; exact h
  | k + 1, p, v, w, h, hv, hk, hr => by
    have hvv := hp v
    rw [ad_reach_eq hp] at hr
    simp only [Bool.or_eq_true, Bool.and_eq_true, decide_eq_true_eq] at hr
    show ad_wn A (ad_wd A p) k w = true
    rcases hr with (h1 | ⟨h1, h3⟩) | ⟨h1, h3⟩
    · rw [h1]; exact ad_wn_mono k _ v (ad_wd_mono h)
    · exact ad_wn_full hp k _ (ad_aP A v).toNat w (ad_wd_iff.mpr (Or.inr ⟨v, hv, h, Or.inl (by omega)⟩)) (by omega) (by omega) h3
    · exact ad_wn_full hp k _ (ad_aQ A v).toNat w (ad_wd_iff.mpr (Or.inr ⟨v, hv, h, Or.inr (by omega)⟩)) (by omega) (by omega) h3
theorem ad_wn_reach {A : ad_Ar} (hp : ad_pw (ad_aP A) (ad_aQ A)) {v : Nat} (hv : v < 10) (w : Nat) : ad_wn A (fun u => u == v) 10 w = ad_reach (ad_aP A) (ad_aQ A) v w := by
  rw [Bool.eq_iff_iff]
  constructor
  · exact ad_wn_sound hp (R := fun u => ad_reach (ad_aP A) (ad_aQ A) v u = true) (fun u w hu h => ad_reach_tr hp v v u w (Nat.le_refl _) hu (ad_reach_par hp h)) 10 _ (fun u hu => by rw [show u = v by simpa using hu]; exact ad_reach_self hp v) w
  · exact ad_wn_full hp 10 _ v w (by simp) hv (by omega)
theorem c_X8_widened {g : ad_G} {d : Nat} {σ : ad_Mem} {A : ad_Ar} (hr : ad_ra (σ 21 0) A) (hw : ad_wA A) (p : Nat → Bool) : ad_Q g mX8_widened d [ad_rf g 8 0, ad_iv ((ad_bits p : Nat) : Int)] σ (fun x m => x = ad_iv ((ad_bits (ad_wd A p) : Nat) : Int) ∧ m = σ) := by
  have hc10 := hr.1.1
  have hlp : ∀ (n v : Nat) (z : Int) (x4 : Option Value), v ≤ ad_aC A → z = ((ad_bits (fun w => p w || ad_an (ad_prF A p) v w) : Nat) : Int) → ad_aC A - v ≤ n → ad_R g mX8_widened d (ad_ZQ mX8_widened (fun x m => x = ad_iv ((ad_bits (ad_wd A p) : Nat) : Int) ∧ m = σ)) 4 [some (ad_rf g 8 0), some (ad_iv ((ad_bits p : Nat) : Int)), some (ad_iv z), some (ad_iv (v : Int)), x4] [] σ := by
    intro n
    induction n with
    | zero =>
      intro v z x4 hv hs hn
      refine ad_iload_n dX8_widened_4 rfl ?_
      refine ad_aload_n dX8_widened_5 rfl ?_
      refine gf_X8_9 rfl dX8_widened_6 ?_
      refine ad_sipush dX8_widened_9 rfl ?_
      refine ad_ialj (500) dX8_widened_12 (by decide) ⟨by decide, by decide⟩ (by omega) (by show _ < 520; omega) (hr.2.1.1) ?_
      refine ad_icmp_ge 82 dX8_widened_13 (by decide) (by omega) (by omega) (fun h13 => ?_) (fun h13 => ?_)
      · skip
        refine ad_iload_n dX8_widened_82 rfl ?_
        exact ad_reti dX8_widened_83 rfl (by
        rw [hs, show v = ad_aC A by omega]
        refine ⟨?_, rfl⟩
        congr 2
        refine ad_bits_congr (fun w _ => ?_)
        unfold ad_wd
        have hend := ad_an_end (f := ad_prF A p) (c := ad_aC A) (fun u hu w => by
          unfold ad_prF
          have hpq := hw.2.2.2.2.2.2.2.2.2.1 u hu
          rw [hpq.1, hpq.2, show decide ((w : Int) = -1) = false by simp]
          simp) (10 - ad_aC A)
        rw [show ad_aC A + (10 - ad_aC A) = 10 by omega] at hend
        rw [hend])
      · show ad_R _ _ _ _ 16 _ _ _
        exfalso; omega
    | succ n ihn =>
      intro v z x4 hv hs hn
      have hnext : ∀ (z : Int) (x4 : Option Value), v < ad_aC A → z = ((ad_bits (fun w => p w || ad_an (ad_prF A p) (v + 1) w) : Nat) : Int) → ad_R g mX8_widened d (ad_ZQ mX8_widened (fun x m => x = ad_iv ((ad_bits (ad_wd A p) : Nat) : Int) ∧ m = σ)) 76 [some (ad_rf g 8 0), some (ad_iv ((ad_bits p : Nat) : Int)), some (ad_iv z), some (ad_iv (v : Int)), x4] [] σ := by
        intro z x4 hv hs
        refine ad_iinc dX8_widened_76 rfl (by decide) rfl (by dsimp only [ad_set]) ?_
        refine ad_goto 4 dX8_widened_79 (by decide) ?_
        exact ihn (v + 1) z _ (by omega) hs (by omega)
      have hin : ∀ (n : Nat) (j : Nat) (z : Int), (j ≤ 2) → (v < ad_aC A) → (z = ((ad_bits (fun w => (p w || ad_an (ad_prF A p) v w) || (p v && ad_an (fun j w => decide ((w : Int) = (if j = 0 then ad_aP A v else ad_aQ A v))) j w)) : Nat) : Int)) → (((2 - j : Nat) : Int)).toNat ≤ n → ad_R g mX8_widened d (ad_ZQ mX8_widened (fun x m => x = ad_iv ((ad_bits (ad_wd A p) : Nat) : Int) ∧ m = σ)) 19 [some (ad_rf g 8 0), some (ad_iv ((ad_bits p : Nat) : Int)), some (ad_iv z), some (ad_iv (v : Int)), some (ad_iv (j : Int))] [] σ := by
        intro n
        induction n with
        | zero =>
          intro j z hj hv2 hs hn
          have hbl := ad_bits_lt p
          have hpw := hw.2.2.2.1 v
          have h8 := hr.2.2.2.1 v (by omega)
          have htb : ad_tb ((ad_bits p : Nat) : Int) (v : Int) ↔ p v = true := (ad_bits_tbI p (by omega)).trans ⟨fun z => by have := z.2; rw [Int.toNat_natCast] at this; exact this, fun z => ⟨by omega, by rw [Int.toNat_natCast]; exact z⟩⟩
          have hRr : -1 ≤ (if j = 0 then ad_aP A v else ad_aQ A v) ∧ (if j = 0 then ad_aP A v else ad_aQ A v) < v := by split <;> omega
          have hrj : j < 2 → σ 21 0 (50 * v + 2 + j) = ad_lk (if j = 0 then ad_aP A v else ad_aQ A v) := fun hj2 => by
            by_cases hj0 : j = 0
            · rw [if_pos hj0, hj0]; exact h8.1
            · rw [if_neg hj0, show j = 1 by omega]; exact h8.2
          have hlr := ad_lk_rng (v := (if j = 0 then ad_aP A v else ad_aQ A v)) (by omega)
          refine ad_iload dX8_widened_19 rfl ?_
          refine ad_iconst dX8_widened_21 ?_
          refine ad_icmp_ge 76 dX8_widened_22 (by decide) (by omega) (by omega) (fun h22 => ?_) (fun h22 => ?_)
          · skip
            exact hnext _ _ (by omega) (by
              rw [hs]
              congr 1
              refine ad_bits_congr (fun w hw10 => ?_)
              rw [ad_an]
              show _ = (p w || (ad_an (ad_prF A p) v w || (p v && (decide ((w : Int) = ad_aP A v) || decide ((w : Int) = ad_aQ A v)))))
              rw [show j = 2 by omega]; simp only [ad_an, if_pos, Bool.false_or, if_neg (show ¬ (1 : Nat) = 0 by decide), Bool.or_assoc, if_true])
          · show ad_R _ _ _ _ 25 _ _ _
            exfalso; omega
        | succ n ih =>
          intro j z hj hv2 hs hn
          have hbl := ad_bits_lt p
          have hpw := hw.2.2.2.1 v
          have h8 := hr.2.2.2.1 v (by omega)
          have htb : ad_tb ((ad_bits p : Nat) : Int) (v : Int) ↔ p v = true := (ad_bits_tbI p (by omega)).trans ⟨fun z => by have := z.2; rw [Int.toNat_natCast] at this; exact this, fun z => ⟨by omega, by rw [Int.toNat_natCast]; exact z⟩⟩
          have hRr : -1 ≤ (if j = 0 then ad_aP A v else ad_aQ A v) ∧ (if j = 0 then ad_aP A v else ad_aQ A v) < v := by split <;> omega
          have hrj : j < 2 → σ 21 0 (50 * v + 2 + j) = ad_lk (if j = 0 then ad_aP A v else ad_aQ A v) := fun hj2 => by
            by_cases hj0 : j = 0
            · rw [if_pos hj0, hj0]; exact h8.1
            · rw [if_neg hj0, show j = 1 by omega]; exact h8.2
          have hlr := ad_lk_rng (v := (if j = 0 then ad_aP A v else ad_aQ A v)) (by omega)
          refine ad_iload dX8_widened_19 rfl ?_
          refine ad_iconst dX8_widened_21 ?_
          refine ad_icmp_ge 76 dX8_widened_22 (by decide) (by omega) (by omega) (fun h22 => ?_) (fun h22 => ?_)
          · skip
            exact hnext _ _ (by omega) (by
              rw [hs]
              congr 1
              refine ad_bits_congr (fun w hw10 => ?_)
              rw [ad_an]
              show _ = (p w || (ad_an (ad_prF A p) v w || (p v && (decide ((w : Int) = ad_aP A v) || decide ((w : Int) = ad_aQ A v)))))
              rw [show j = 2 by omega]; simp only [ad_an, if_pos, Bool.false_or, if_neg (show ¬ (1 : Nat) = 0 by decide), Bool.or_assoc, if_true])
          · show ad_R _ _ _ _ 25 _ _ _
            refine ad_iload_n dX8_widened_25 rfl ?_
            refine ad_iload_n dX8_widened_26 rfl ?_
            refine ad_ishr dX8_widened_27 ?_
            refine ad_iconst dX8_widened_28 ?_
            refine ad_iand dX8_widened_29 ?_
            rw [ad_bitI (by omega) (by omega)]
            refine ad_iconst dX8_widened_30 ?_
            refine ad_icmp_ne_p1 76 dX8_widened_31 (by decide) (fun h31 => ?_) (fun h31 => ?_)
            · skip
              exact hnext _ _ (by omega) (by
                rw [hs]
                congr 1
                refine ad_bits_congr (fun w hw10 => ?_)
                rw [ad_an]
                show _ = (p w || (ad_an (ad_prF A p) v w || (p v && (decide ((w : Int) = ad_aP A v) || decide ((w : Int) = ad_aQ A v)))))
                rw [Bool.eq_false_iff.mpr (fun z => h31 (htb.mpr z))]; simp only [Bool.false_and, Bool.or_false])
            · show ad_R _ _ _ _ 34 _ _ _
              refine ad_aload_n dX8_widened_34 rfl ?_
              refine gf_X8_9 rfl dX8_widened_35 ?_
              refine ad_bipush dX8_widened_38 rfl ?_
              refine ad_iload_n dX8_widened_40 rfl ?_
              refine ad_imul dX8_widened_41 ?_
              refine ad_iconst dX8_widened_42 ?_
              refine ad_iadd dX8_widened_43 ?_
              refine ad_iload dX8_widened_44 rfl ?_
              refine ad_iadd dX8_widened_46 ?_
              refine ad_ialj (50 * v + 2 + j) dX8_widened_47 (by decide) ⟨by decide, by decide⟩ (by omega) (by show _ < 520; omega) (hrj (by omega)) ?_
              refine ad_if_lt 70 dX8_widened_48 (by decide) (by omega) (fun h48 => ?_) (fun h48 => ?_)
              · skip
                refine ad_iinc dX8_widened_70 rfl (by decide) rfl (by dsimp only [ad_set]) ?_
                refine ad_goto 19 dX8_widened_73 (by decide) ?_
                exact ih (j + 1) _ (by omega) hv2 (by rw [hs]; congr 1; refine ad_bits_congr (fun w hw10 => ?_); rw [ad_an, show decide ((w : Int) = (if j = 0 then ad_aP A v else ad_aQ A v)) = false by simp; intro z; rw [← z] at h48; unfold ad_lk at h48; split at h48 <;> omega, Bool.or_false]) (by omega)
              · show ad_R _ _ _ _ 51 _ _ _
                refine ad_iload_n dX8_widened_51 rfl ?_
                refine ad_iconst dX8_widened_52 ?_
                refine ad_aload_n dX8_widened_53 rfl ?_
                refine gf_X8_9 rfl dX8_widened_54 ?_
                refine ad_bipush dX8_widened_57 rfl ?_
                refine ad_iload_n dX8_widened_59 rfl ?_
                refine ad_imul dX8_widened_60 ?_
                refine ad_iconst dX8_widened_61 ?_
                refine ad_iadd dX8_widened_62 ?_
                refine ad_iload dX8_widened_63 rfl ?_
                refine ad_iadd dX8_widened_65 ?_
                refine ad_ialj (50 * v + 2 + j) dX8_widened_66 (by decide) ⟨by decide, by decide⟩ (by omega) (by show _ < 520; omega) (hrj (by omega)) ?_
                refine ad_ishl dX8_widened_67 ?_
                refine ad_ior dX8_widened_68 ?_
                refine ad_istore_n dX8_widened_69 (by decide) rfl (by dsimp only [ad_set]) ?_
                refine ad_iinc dX8_widened_70 rfl (by decide) rfl (by dsimp only [ad_set]) ?_
                refine ad_goto 19 dX8_widened_73 (by decide) ?_
                obtain ⟨rr, hrr2⟩ : ∃ rr : Nat, (if j = 0 then ad_aP A v else ad_aQ A v) = (rr : Int) := ⟨((if j = 0 then ad_aP A v else ad_aQ A v)).toNat, by unfold ad_lk at h48; split at h48 <;> omega⟩
                exact ih (j + 1) _ (by omega) hv2 (by
                  rw [hs, hrr2, ad_lk_ge (by omega), ad_one_bits (by omega), ad_or_bits]
                  congr 1
                  refine ad_bits_congr (fun w hw10 => ?_)
                  rw [ad_an, hrr2, htb.mp h31, show decide ((w : Int) = (rr : Int)) = (w == rr) by rw [Bool.eq_iff_iff]; simp; omega]
                  simp only [Bool.true_and, Bool.or_assoc]) (by omega)
      refine ad_iload_n dX8_widened_4 rfl ?_
      refine ad_aload_n dX8_widened_5 rfl ?_
      refine gf_X8_9 rfl dX8_widened_6 ?_
      refine ad_sipush dX8_widened_9 rfl ?_
      refine ad_ialj (500) dX8_widened_12 (by decide) ⟨by decide, by decide⟩ (by omega) (by show _ < 520; omega) (hr.2.1.1) ?_
      refine ad_icmp_ge 82 dX8_widened_13 (by decide) (by omega) (by omega) (fun h13 => ?_) (fun h13 => ?_)
      · skip
        refine ad_iload_n dX8_widened_82 rfl ?_
        exact ad_reti dX8_widened_83 rfl (by
        rw [hs, show v = ad_aC A by omega]
        refine ⟨?_, rfl⟩
        congr 2
        refine ad_bits_congr (fun w _ => ?_)
        unfold ad_wd
        have hend := ad_an_end (f := ad_prF A p) (c := ad_aC A) (fun u hu w => by
          unfold ad_prF
          have hpq := hw.2.2.2.2.2.2.2.2.2.1 u hu
          rw [hpq.1, hpq.2, show decide ((w : Int) = -1) = false by simp]
          simp) (10 - ad_aC A)
        rw [show ad_aC A + (10 - ad_aC A) = 10 by omega] at hend
        rw [hend])
      · show ad_R _ _ _ _ 16 _ _ _
        refine ad_iconst dX8_widened_16 ?_
        refine ad_istore dX8_widened_17 (by decide) rfl (by dsimp only [ad_set]) ?_
        exact hin _ 0 _ (by omega) (by omega) (by rw [hs]; congr 1; exact ad_bits_congr (fun w _ => by simp [ad_an])) (Nat.le_refl _)
  refine ad_M1 (k := 3) rfl (by simp [Value.category]) rfl (Nat.le_of_ble_eq_true rfl) ?_
  simp only [List.map_cons, List.map_nil, List.replicate, List.cons_append, List.nil_append]
  refine ad_iload_n dX8_widened_0 rfl ?_
  refine ad_istore_n dX8_widened_1 (by decide) rfl (by dsimp only [ad_set]) ?_
  refine ad_iconst dX8_widened_2 ?_
  refine ad_istore_n dX8_widened_3 (by decide) rfl (by dsimp only [ad_set]) ?_
  exact hlp _ 0 _ _ (by omega) (by congr 1; exact ad_bits_congr (fun w _ => by simp [ad_an])) (Nat.le_refl _)
theorem c_X8_reachedFrom {g : ad_G} {d : Nat} {σ : ad_Mem} {A : ad_Ar} (hr : ad_ra (σ 21 0) A) (hw : ad_wA A) {v : Nat} (hv : v < 10) (h1d : 1 ≤ d) : ad_Q g mX8_reachedFrom d [ad_rf g 8 0, ad_iv (v : Int)] σ (fun x m => x = ad_iv ((ad_bits (ad_reach (ad_aP A) (ad_aQ A) v) : Nat) : Int) ∧ m = σ) := by
  have hlp : ∀ (n i : Nat) (q : Nat → Bool), i ≤ 10 → ad_wn A q (10 - i) = ad_wn A (fun u => u == v) 10 → 10 - i ≤ n → ad_R g mX8_reachedFrom d (ad_ZQ mX8_reachedFrom (fun x m => x = ad_iv ((ad_bits (ad_reach (ad_aP A) (ad_aQ A) v) : Nat) : Int) ∧ m = σ)) 6 [some (ad_rf g 8 0), some (ad_iv (v : Int)), some (ad_iv ((ad_bits q : Nat) : Int)), some (ad_iv (i : Int))] [] σ := by
    intro n
    induction n with
    | zero =>
      intro i q hi hq hn
      refine ad_iload_n dX8_reachedFrom_6 rfl ?_
      refine ad_bipush dX8_reachedFrom_7 rfl ?_
      refine ad_icmp_ge 24 dX8_reachedFrom_9 (by decide) (by omega) (by omega) (fun h9 => ?_) (fun h9 => ?_)
      · skip
        refine ad_iload_n dX8_reachedFrom_24 rfl ?_
        exact ad_reti dX8_reachedFrom_25 rfl (by
        rw [show 10 - i = 0 by omega] at hq
        refine ⟨?_, rfl⟩
        congr 2
        refine ad_bits_congr (fun w _ => ?_)
        rw [← ad_wn_reach hw.2.2.2.1 hv w, ← hq]
        rfl)
      · show ad_R _ _ _ _ 12 _ _ _
        exfalso; omega
    | succ n ihn =>
      intro i q hi hq hn
      refine ad_iload_n dX8_reachedFrom_6 rfl ?_
      refine ad_bipush dX8_reachedFrom_7 rfl ?_
      refine ad_icmp_ge 24 dX8_reachedFrom_9 (by decide) (by omega) (by omega) (fun h9 => ?_) (fun h9 => ?_)
      · skip
        refine ad_iload_n dX8_reachedFrom_24 rfl ?_
        exact ad_reti dX8_reachedFrom_25 rfl (by
        rw [show 10 - i = 0 by omega] at hq
        refine ⟨?_, rfl⟩
        congr 2
        refine ad_bits_congr (fun w _ => ?_)
        rw [← ad_wn_reach hw.2.2.2.1 hv w, ← hq]
        rfl)
      · show ad_R _ _ _ _ 12 _ _ _
        refine ad_aload_n dX8_reachedFrom_12 rfl ?_
        refine ad_iload_n dX8_reachedFrom_13 rfl ?_
        refine ad_cv1f rfl cl_X8_136 dX8_reachedFrom_14 (c_X8_widened hr hw q) (by omega) (by show _ < 1; omega) (Nat.le_of_ble_eq_true rfl) ?_
        refine ad_istore_n dX8_reachedFrom_17 (by decide) rfl (by dsimp only [ad_set]) ?_
        refine ad_iinc dX8_reachedFrom_18 rfl (by decide) rfl (by dsimp only [ad_set]) ?_
        refine ad_goto 6 dX8_reachedFrom_21 (by decide) ?_
        exact ihn (i + 1) _ (by omega) (by rw [← hq, show 10 - i = 10 - (i + 1) + 1 by omega]; rfl) (by omega)
  refine ad_M1 (k := 2) rfl (by simp [Value.category]) rfl (Nat.le_of_ble_eq_true rfl) ?_
  simp only [List.map_cons, List.map_nil, List.replicate, List.cons_append, List.nil_append]
  refine ad_iconst dX8_reachedFrom_0 ?_
  refine ad_iload_n dX8_reachedFrom_1 rfl ?_
  refine ad_ishl dX8_reachedFrom_2 ?_
  rw [ad_one_bits hv]
  refine ad_istore_n dX8_reachedFrom_3 (by decide) rfl (by dsimp only [ad_set]) ?_
  refine ad_iconst dX8_reachedFrom_4 ?_
  refine ad_istore_n dX8_reachedFrom_5 (by decide) rfl (by dsimp only [ad_set]) ?_
  exact hlp _ 0 _ (by omega) rfl (Nat.le_refl _)
theorem c_X8_reachedByHeads {g : ad_G} {d : Nat} {σ : ad_Mem} {A : ad_Ar} (hr : ad_ra (σ 21 0) A) (hw : ad_wA A) (h3d : 3 ≤ d) : ad_Q g mX8_reachedByHeads d [ad_rf g 8 0] σ (fun x m => x = ad_iv ((ad_bits (ad_live A) : Nat) : Int) ∧ m = σ) := by
  have hl : ∀ (n : Nat) (hh0 : Nat) (z : Int), (hh0 ≤ 4) → (z = ((ad_bits (ad_an (ad_hdF A) hh0) : Nat) : Int)) → (((4 - hh0 : Nat) : Int)).toNat ≤ n → ad_R g mX8_reachedByHeads d (ad_ZQ mX8_reachedByHeads (fun x m => x = ad_iv ((ad_bits (ad_live A) : Nat) : Int) ∧ m = σ)) 4 [some (ad_rf g 8 0), some (ad_iv z), some (ad_iv (hh0 : Int))] [] σ := by
    intro n
    induction n with
    | zero =>
      intro hh0 z hh1 hs hn
      have hc10 := hr.1.1
      refine ad_iload_n dX8_reachedByHeads_4 rfl ?_
      refine ad_iconst dX8_reachedByHeads_5 ?_
      refine ad_icmp_ge 51 dX8_reachedByHeads_6 (by decide) (by omega) (by omega) (fun h6 => ?_) (fun h6 => ?_)
      · skip
        refine ad_iload_n dX8_reachedByHeads_51 rfl ?_
        refine ad_aload_n dX8_reachedByHeads_52 rfl ?_
        refine ad_cv0f rfl cl_X8_142 dX8_reachedByHeads_53 (c_X8_there hr (by omega)) (by omega) (by show _ < 1; omega) (Nat.le_of_ble_eq_true rfl) ?_
        refine ad_iand dX8_reachedByHeads_56 ?_
        exact ad_reti dX8_reachedByHeads_57 rfl (by
              rw [hs, show hh0 = 4 by omega, ad_and_bits]
              exact ⟨rfl, rfl⟩)
      · show ad_R _ _ _ _ 9 _ _ _
        have hE := hw.2.2.2.2.2.2.1 hh0 (by omega)
        have hEl := hr.2.1.2.1 hh0 (by omega)
        have hEr : -1 ≤ ad_aE A hh0 ∧ ad_aE A hh0 ≤ 9 := by
          by_cases hz : ad_aE A hh0 = -1
          · omega
          · have := (hE.2 hz).1; omega
        have hElr := ad_lk_rng (v := ad_aE A hh0) (by omega)
        have hEn := ad_lk_no hEr.1
        exfalso; omega
    | succ n ih =>
      intro hh0 z hh1 hs hn
      have hc10 := hr.1.1
      refine ad_iload_n dX8_reachedByHeads_4 rfl ?_
      refine ad_iconst dX8_reachedByHeads_5 ?_
      refine ad_icmp_ge 51 dX8_reachedByHeads_6 (by decide) (by omega) (by omega) (fun h6 => ?_) (fun h6 => ?_)
      · skip
        refine ad_iload_n dX8_reachedByHeads_51 rfl ?_
        refine ad_aload_n dX8_reachedByHeads_52 rfl ?_
        refine ad_cv0f rfl cl_X8_142 dX8_reachedByHeads_53 (c_X8_there hr (by omega)) (by omega) (by show _ < 1; omega) (Nat.le_of_ble_eq_true rfl) ?_
        refine ad_iand dX8_reachedByHeads_56 ?_
        exact ad_reti dX8_reachedByHeads_57 rfl (by
              rw [hs, show hh0 = 4 by omega, ad_and_bits]
              exact ⟨rfl, rfl⟩)
      · show ad_R _ _ _ _ 9 _ _ _
        have hE := hw.2.2.2.2.2.2.1 hh0 (by omega)
        have hEl := hr.2.1.2.1 hh0 (by omega)
        have hEr : -1 ≤ ad_aE A hh0 ∧ ad_aE A hh0 ≤ 9 := by
          by_cases hz : ad_aE A hh0 = -1
          · omega
          · have := (hE.2 hz).1; omega
        have hElr := ad_lk_rng (v := ad_aE A hh0) (by omega)
        have hEn := ad_lk_no hEr.1
        refine ad_iload_n dX8_reachedByHeads_9 rfl ?_
        refine ad_aload_n dX8_reachedByHeads_10 rfl ?_
        refine gf_X8_9 rfl dX8_reachedByHeads_11 ?_
        refine ad_sipush dX8_reachedByHeads_14 rfl ?_
        refine ad_iload_n dX8_reachedByHeads_17 rfl ?_
        refine ad_iadd dX8_reachedByHeads_18 ?_
        refine ad_ialj (501 + hh0) dX8_reachedByHeads_19 (by decide) ⟨by decide, by decide⟩ (by omega) (by show _ < 520; omega) (hEl) ?_
        refine ad_bipush dX8_reachedByHeads_20 rfl ?_
        refine ad_icmp_ne 29 dX8_reachedByHeads_22 (by decide) (by omega) (by decide) (fun h22 => ?_) (fun h22 => ?_)
        · skip
          have hEz : ad_aE A hh0 ≠ -1 := fun z => h22 (hEn.mpr z)
          obtain ⟨EE, hEv⟩ : ∃ EE : Nat, ad_aE A hh0 = (EE : Int) := ⟨(ad_aE A hh0).toNat, by omega⟩
          have hEH := (hE.2 hEz).2
          rw [hEv, Int.toNat_natCast] at hEH
          have hEC := (hr.1.2 EE hEH).1
          refine ad_aload_n dX8_reachedByHeads_29 rfl ?_
          refine ad_aload_n dX8_reachedByHeads_30 rfl ?_
          refine gf_X8_9 rfl dX8_reachedByHeads_31 ?_
          refine ad_sipush dX8_reachedByHeads_34 rfl ?_
          refine ad_iload_n dX8_reachedByHeads_37 rfl ?_
          refine ad_iadd dX8_reachedByHeads_38 ?_
          refine ad_ialj (501 + hh0) dX8_reachedByHeads_39 (by decide) ⟨by decide, by decide⟩ (by omega) (by show _ < 520; omega) (hEl.trans ((ad_lk_ge hEz).trans hEv)) ?_
          refine ad_cv1f rfl cl_X8_139 dX8_reachedByHeads_40 (c_X8_reachedFrom hr hw (v := EE) (by omega) (by omega)) (by omega) (by show _ < 1; omega) (Nat.le_of_ble_eq_true rfl) ?_
          refine ad_ior dX8_reachedByHeads_43 ?_
          refine ad_istore_n dX8_reachedByHeads_44 (by decide) rfl (by dsimp only [ad_set]) ?_
          refine ad_iinc dX8_reachedByHeads_45 rfl (by decide) rfl (by dsimp only [ad_set]) ?_
          refine ad_goto 4 dX8_reachedByHeads_48 (by decide) ?_
          exact ih (hh0 + 1) _ (by omega) (by
            rw [hs, ad_or_bits]
            congr 1
            refine ad_bits_congr (fun w hw10 => ?_)
            rw [ad_an]
            congr 1
            show _ = (decide (0 ≤ ad_aE A hh0 ∧ ad_aE A hh0 < ad_aC A) && ad_reach (ad_aP A) (ad_aQ A) (ad_aE A hh0).toNat w)
            rw [hEv, Int.toNat_natCast, decide_eq_true (by omega), Bool.true_and]) (by omega)
        · show ad_R _ _ _ _ 25 _ _ _
          refine ad_iconst dX8_reachedByHeads_25 ?_
          refine ad_goto 43 dX8_reachedByHeads_26 (by decide) ?_
          refine ad_ior dX8_reachedByHeads_43 ?_
          refine ad_istore_n dX8_reachedByHeads_44 (by decide) rfl (by dsimp only [ad_set]) ?_
          refine ad_iinc dX8_reachedByHeads_45 rfl (by decide) rfl (by dsimp only [ad_set]) ?_
          refine ad_goto 4 dX8_reachedByHeads_48 (by decide) ?_
          exact ih (hh0 + 1) _ (by omega) (by
            rw [hs, ad_or_0 (by have := ad_bits_lt (ad_an (ad_hdF A) hh0); omega)]
            congr 1
            refine ad_bits_congr (fun w hw10 => ?_)
            rw [ad_an]
            show _ = (ad_an (ad_hdF A) hh0 w || (decide (0 ≤ ad_aE A hh0 ∧ ad_aE A hh0 < ad_aC A) && ad_reach (ad_aP A) (ad_aQ A) (ad_aE A hh0).toNat w))
            rw [hEn.mp (Decidable.not_not.mp h22), decide_eq_false (by omega), Bool.false_and, Bool.or_false]) (by omega)
  refine ad_M1 (k := 2) rfl (by simp [Value.category]) rfl (Nat.le_of_ble_eq_true rfl) ?_
  simp only [List.map_cons, List.map_nil, List.replicate, List.cons_append, List.nil_append]
  refine ad_iconst dX8_reachedByHeads_0 ?_
  refine ad_istore_n dX8_reachedByHeads_1 (by decide) rfl (by dsimp only [ad_set]) ?_
  refine ad_iconst dX8_reachedByHeads_2 ?_
  refine ad_istore_n dX8_reachedByHeads_3 (by decide) rfl (by dsimp only [ad_set]) ?_
  exact hl _ 0 0 (by omega) (by rw [show ad_an (ad_hdF A) 0 = fun _ => false from rfl, ad_bits_0]; rfl) (Nat.le_refl _)
