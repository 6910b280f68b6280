/-! ===== Told: statements on a store ===== -/
/-- what a statement may touch -/
def ad_Tq (s : Nat) (k i : Nat) : Prop := ad_Ts s k i ∨ ((k = 2 ∨ k = 12) ∧ i = 34) ∨ ad_TP k i
/-- a statement's outcome: what the archive is behind it, or that it is not as it must be -/
def ad_po (σ : ad_Mem) (s : Nat) (A : ad_Ar) (x : Value) (m : ad_Mem) (r : Option ad_Ar) : Prop := x = ad_pv (r.isSome = true) ∧ ad_rC m s (r.getD A) ∧ ad_wA (r.getD A) ∧ ad_fr (ad_Tq s) σ m ∧ ad_nw m 34 ∧ ad_dr m 30
def ad_t_points (A : ad_Ar) (h v : Int) : Option ad_Ar := if (0 ≤ h ∧ h < 4) ∧ (v = -1 ∨ (0 ≤ v ∧ ad_aH A v.toNat = true)) then some (ad_hd A (ad_eh (ad_aE A) h v) (ad_aK A) (ad_aF A) (ad_aN A)) else none
def ad_t_becomes (A : ad_Ar) (k f : Int) : Option ad_Ar := if 0 ≤ k ∧ k < 6 then some (ad_hd A (ad_aE A) k f (ad_aN A)) else none
def ad_t_binds (A : ad_Ar) (n : Int) : Option ad_Ar := if 0 ≤ n ∧ n ≤ 8 then some (ad_hd A (ad_aE A) (ad_aK A) (ad_aF A) n) else none
def ad_t_breaks (A : ad_Ar) (v p y : Int) : Option ad_Ar := if (0 ≤ v ∧ ad_aH A v.toNat = true) ∧ ad_aB A v.toNat = -1 ∧ 0 ≤ p ∧ p < (ad_aL A v.toNat).length then some (ad_dmg A v.toNat p.toNat y) else none
theorem ad_po_no {σ : ad_Mem} {s : Nat} {A : ad_Ar} (hr : ad_rC σ s A) (hw : ad_wA A) (hn : ad_nw σ 34) (hd : ad_dr σ 30) : ad_po σ s A (ad_iv 0) σ none := ⟨rfl, hr, hw, ad_fr.refl, hn, hd⟩
theorem ad_po_yes {σ m : ad_Mem} {s : Nat} {A B : ad_Ar} (hs : s < 3) (hr : ad_rC m s B) (hw : ad_wA B) (hf : ad_fr (ad_Ts s) σ m) (hn : ad_nw σ 34) (hd : ad_dr σ 30) : ad_po σ s A (ad_iv 1) m (some B) := by
  have e : ∀ k i, ¬ ad_Ts s k i → m k i = σ k i := hf
  exact ⟨rfl, hr, hw, hf.mono (fun k i z => Or.inl z), ad_nw_congr (e _ _ (fun z => by unfold ad_Ts at z; omega)) (e _ _ (fun z => by unfold ad_Ts at z; omega)) hn, ad_dr_congr (e _ _ (fun z => by unfold ad_Ts at z; omega)) (e _ _ (fun z => by unfold ad_Ts at z; omega)) hd⟩
theorem c_X5_becomes {g : ad_G} {d : Nat} {σ : ad_Mem} {s : Nat} {A : ad_Ar} (hs : s < 3) (hr : ad_rC σ s A) (hw : ad_wA A) (hn34 : ad_nw σ 34) (hd30 : ad_dr σ 30) {k f : Int} (hk : ad_rng k) (hf : 0 ≤ f ∧ f ≤ 9) : ad_Q g mX5_becomes d [ad_rf g 5 0, ad_rf g 4 s, ad_iv k, ad_iv f] σ (fun x m => ad_po σ s A x m (ad_t_becomes A k f)) := by
  have hr0 := hr
  have hw0 := hw
  obtain ⟨r1, r2, r3, r4, r5, r6, r7, r8⟩ := hr
  obtain ⟨w1, w2, w3, w4, w5, w6, w7, w8, w9⟩ := hw
  refine ad_M1 (k := 0) rfl (by simp [Value.category]) rfl (Nat.le_of_ble_eq_true rfl) ?_
  simp only [List.map_cons, List.map_nil, List.replicate, List.cons_append, List.nil_append]
  refine ad_iload_n dX5_becomes_0 rfl ?_
  refine ad_if_lt 10 dX5_becomes_1 (by decide) (by omega) (fun h1 => ?_) (fun h1 => ?_)
  · skip
    refine ad_iconst dX5_becomes_10 ?_
    exact ad_ret0 dX5_becomes_11 rfl (by
      have e : ad_t_becomes A k f = none := by
        unfold ad_t_becomes
        (repeat' split) <;> first | with_reducible rfl | contradiction | (exfalso; omega) | rfl | (exfalso; simp_all; omega) | (simp_all; done)
      rw [e]
      exact ad_po_no hr0 hw0 hn34 hd30)
  · show ad_R _ _ _ _ 4 _ _ _
    refine ad_iload_n dX5_becomes_4 rfl ?_
    refine ad_bipush dX5_becomes_5 rfl ?_
    refine ad_icmp_lt 12 dX5_becomes_7 (by decide) (by omega) (by omega) (fun h7 => ?_) (fun h7 => ?_)
    · skip
      refine ad_aload_n dX5_becomes_12 rfl ?_
      refine ad_iload_n dX5_becomes_13 rfl ?_
      refine pf_X5_107 rfl (by omega) dX5_becomes_14 ?_
      refine ad_aload_n dX5_becomes_17 rfl ?_
      refine ad_iload_n dX5_becomes_18 rfl ?_
      refine pf_X5_112 rfl (by omega) dX5_becomes_19 ?_
      refine ad_iconst dX5_becomes_22 ?_
      exact ad_ret1 dX5_becomes_23 rfl (by
        have e : ad_t_becomes A k f = some (ad_hd A (ad_aE A) k f (ad_aN A)) := by
          unfold ad_t_becomes
          (repeat' split) <;> first | with_reducible rfl | contradiction | (exfalso; omega) | rfl | (exfalso; simp_all; omega) | (simp_all; done)
        rw [e]
        exact ad_po_yes hs (ad_rC_hd hr0 (fun k i h1 h2 => by funext z; simp [ad_st, h1]) (by simp [ad_st]) (by simp [ad_st]) ⟨by simp [ad_st], by simp [ad_st], by simp [ad_st]; exact r3.2.2⟩ (fun h hh => by simp [ad_st]; exact r4 h hh)) (ad_wA_hd hw0 w7 w9.2.2.2 ⟨⟨by omega, by omega⟩, hf, w8.2.2⟩) ((ad_fr.st (Or.inl ⟨rfl, rfl⟩)).trans (ad_fr.st (Or.inl ⟨rfl, rfl⟩))) hn34 hd30)
    · show ad_R _ _ _ _ 10 _ _ _
      refine ad_iconst dX5_becomes_10 ?_
      exact ad_ret0 dX5_becomes_11 rfl (by
        have e : ad_t_becomes A k f = none := by
          unfold ad_t_becomes
          (repeat' split) <;> first | with_reducible rfl | contradiction | (exfalso; omega) | rfl | (exfalso; simp_all; omega) | (simp_all; done)
        rw [e]
        exact ad_po_no hr0 hw0 hn34 hd30)
theorem c_X5_binds {g : ad_G} {d : Nat} {σ : ad_Mem} {s : Nat} {A : ad_Ar} (hs : s < 3) (hr : ad_rC σ s A) (hw : ad_wA A) (hn34 : ad_nw σ 34) (hd30 : ad_dr σ 30) {n : Int} (hn : ad_rng n) : ad_Q g mX5_binds d [ad_rf g 5 0, ad_rf g 4 s, ad_iv n] σ (fun x m => ad_po σ s A x m (ad_t_binds A n)) := by
  have hr0 := hr
  have hw0 := hw
  obtain ⟨r1, r2, r3, r4, r5, r6, r7, r8⟩ := hr
  obtain ⟨w1, w2, w3, w4, w5, w6, w7, w8, w9⟩ := hw
  refine ad_M1 (k := 0) rfl (by simp [Value.category]) rfl (Nat.le_of_ble_eq_true rfl) ?_
  simp only [List.map_cons, List.map_nil, List.replicate, List.cons_append, List.nil_append]
  refine ad_iload_n dX5_binds_0 rfl ?_
  refine ad_if_lt 10 dX5_binds_1 (by decide) (by omega) (fun h1 => ?_) (fun h1 => ?_)
  · skip
    refine ad_iconst dX5_binds_10 ?_
    exact ad_ret0 dX5_binds_11 rfl (by
      have e : ad_t_binds A n = none := by
        unfold ad_t_binds
        (repeat' split) <;> first | with_reducible rfl | contradiction | (exfalso; omega) | rfl | (exfalso; simp_all; omega) | (simp_all; done)
      rw [e]
      exact ad_po_no hr0 hw0 hn34 hd30)
  · show ad_R _ _ _ _ 4 _ _ _
    refine ad_iload_n dX5_binds_4 rfl ?_
    refine ad_bipush dX5_binds_5 rfl ?_
    refine ad_icmp_le 12 dX5_binds_7 (by decide) (by omega) (by omega) (fun h7 => ?_) (fun h7 => ?_)
    · skip
      refine ad_aload_n dX5_binds_12 rfl ?_
      refine ad_iload_n dX5_binds_13 rfl ?_
      refine pf_X5_115 rfl (by omega) dX5_binds_14 ?_
      refine ad_iconst dX5_binds_17 ?_
      exact ad_ret1 dX5_binds_18 rfl (by
        have e : ad_t_binds A n = some (ad_hd A (ad_aE A) (ad_aK A) (ad_aF A) n) := by
          unfold ad_t_binds
          (repeat' split) <;> first | with_reducible rfl | contradiction | (exfalso; omega) | rfl | (exfalso; simp_all; omega) | (simp_all; done)
        rw [e]
        exact ad_po_yes hs (ad_rC_hd hr0 (fun k i h1 h2 => by funext z; simp [ad_st, h1]) (by simp [ad_st]) (by simp [ad_st]) ⟨by simp [ad_st]; exact r3.1, by simp [ad_st]; exact r3.2.1, by simp [ad_st]⟩ (fun h hh => by simp [ad_st]; exact r4 h hh)) (ad_wA_hd hw0 w7 w9.2.2.2 ⟨w8.1, w8.2.1, by omega, by omega⟩) (ad_fr.st (Or.inl ⟨rfl, rfl⟩)) hn34 hd30)
    · show ad_R _ _ _ _ 10 _ _ _
      refine ad_iconst dX5_binds_10 ?_
      exact ad_ret0 dX5_binds_11 rfl (by
        have e : ad_t_binds A n = none := by
          unfold ad_t_binds
          (repeat' split) <;> first | with_reducible rfl | contradiction | (exfalso; omega) | rfl | (exfalso; simp_all; omega) | (simp_all; done)
        rw [e]
        exact ad_po_no hr0 hw0 hn34 hd30)
theorem c_X5_points {g : ad_G} {d : Nat} {σ : ad_Mem} {s : Nat} {A : ad_Ar} (hs : s < 3) (hr : ad_rC σ s A) (hw : ad_wA A) (hn34 : ad_nw σ 34) (hd30 : ad_dr σ 30) {h v : Int} (hh : ad_rng h) (hv : ad_rng v) (h1d : 1 ≤ d) : ad_Q g mX5_points d [ad_rf g 5 0, ad_rf g 4 s, ad_iv h, ad_iv v] σ (fun x m => ad_po σ s A x m (ad_t_points A h v)) := by
  have hr0 := hr
  have hw0 := hw
  obtain ⟨r1, r2, r3, r4, r5, r6, r7, r8⟩ := hr
  obtain ⟨w1, w2, w3, w4, w5, w6, w7, w8, w9⟩ := hw
  refine ad_M1 (k := 0) rfl (by simp [Value.category]) rfl (Nat.le_of_ble_eq_true rfl) ?_
  simp only [List.map_cons, List.map_nil, List.replicate, List.cons_append, List.nil_append]
  refine ad_iload_n dX5_points_0 rfl ?_
  refine ad_callNest (μ' := mX7_isHead) rfl rfl cs_X7_isHead cw_X7_isHead dX5_points_1 (c_X7_isHead (d := d - 1) hh) (by omega) (Nat.le_of_ble_eq_true rfl) ?_
  rintro v1 σ2 ⟨x1, rfl, rfl, rfl⟩
  dsimp only [Option.toList, List.cons_append, List.nil_append]
  refine ad_ifp_eq 20 dX5_points_4 (by decide) (fun h4 => ?_) (fun h4 => ?_)
  · skip
    refine ad_iconst dX5_points_20 ?_
    exact ad_ret0 dX5_points_21 rfl (by
      have e : ad_t_points A h v = none := by
        unfold ad_t_points
        (repeat' split) <;> first | with_reducible rfl | contradiction | (exfalso; omega) | rfl | (exfalso; simp_all; omega) | (simp_all; done)
      rw [e]
      exact ad_po_no hr0 hw0 hn34 hd30)
  · show ad_R _ _ _ _ 7 _ _ _
    refine ad_iload_n dX5_points_7 rfl ?_
    refine ad_iconst dX5_points_8 ?_
    refine ad_icmp_eq 22 dX5_points_9 (by decide) hv (by decide) (fun h9 => ?_) (fun h9 => ?_)
    · skip
      refine ad_aload_n dX5_points_22 rfl ?_
      refine gf_X5_150 rfl (by omega) dX5_points_23 ?_
      refine ad_iload_n dX5_points_26 rfl ?_
      refine ad_iload_n dX5_points_27 rfl ?_
      refine ad_iast dX5_points_28 (by show _ < 3; omega) ⟨by decide, by decide⟩ (by omega) (by show _ < ((4 : Nat) : Int); omega) ?_
      refine ad_iconst dX5_points_29 ?_
      exact ad_ret1 dX5_points_30 rfl (by
        have e : ad_t_points A h v = some (ad_hd A (ad_eh (ad_aE A) h v) (ad_aK A) (ad_aF A) (ad_aN A)) := by
          unfold ad_t_points
          (repeat' split) <;> first | with_reducible rfl | contradiction | (exfalso; omega) | rfl | (exfalso; simp_all; omega) | (simp_all; done)
        rw [e]
        exact ad_po_yes hs (ad_rC_hd hr0 (fun k i h1 h2 => by funext z; simp [ad_st, h2]) (by simp [ad_st]) (by simp [ad_st]) ⟨by simp [ad_st]; exact r3.1, by simp [ad_st]; exact r3.2.1, by simp [ad_st]; exact r3.2.2⟩ (fun i hi => by
          simp only [ad_st_at, ad_eh]
          by_cases hz : i = h.toNat
          · rw [if_pos ⟨trivial, trivial, hz⟩, if_pos hz]
          · rw [if_neg (fun q => hz q.2.2), if_neg hz, r4 i hi])) (ad_wA_hd hw0 (fun i hi => by
          unfold ad_eh
          by_cases hz : i = h.toNat
          · rw [if_pos hz]
            exact ⟨by omega, fun q => absurd (by omega) q⟩
          · rw [if_neg hz]; exact w7 i hi) (fun i hi => by
          unfold ad_eh
          rw [if_neg (by omega)]; exact w9.2.2.2 i hi) w8) (ad_fr.st (Or.inr (Or.inl ⟨rfl, rfl⟩))) hn34 hd30)
    · show ad_R _ _ _ _ 12 _ _ _
      refine ad_aload_n dX5_points_12 rfl ?_
      refine ad_iload_n dX5_points_13 rfl ?_
      refine ad_cv1f rfl cl_X5_132 dX5_points_14 (c_X4_holds hs hr0 hw0 hv) (by omega) (by show _ < 3; omega) (Nat.le_of_ble_eq_true rfl) ?_
      refine ad_ifp_ne 22 dX5_points_17 (by decide) (fun h17 => ?_) (fun h17 => ?_)
      · skip
        refine ad_aload_n dX5_points_22 rfl ?_
        refine gf_X5_150 rfl (by omega) dX5_points_23 ?_
        refine ad_iload_n dX5_points_26 rfl ?_
        refine ad_iload_n dX5_points_27 rfl ?_
        refine ad_iast dX5_points_28 (by show _ < 3; omega) ⟨by decide, by decide⟩ (by omega) (by show _ < ((4 : Nat) : Int); omega) ?_
        refine ad_iconst dX5_points_29 ?_
        exact ad_ret1 dX5_points_30 rfl (by
          have e : ad_t_points A h v = some (ad_hd A (ad_eh (ad_aE A) h v) (ad_aK A) (ad_aF A) (ad_aN A)) := by
            unfold ad_t_points
            (repeat' split) <;> first | with_reducible rfl | contradiction | (exfalso; omega) | rfl | (exfalso; simp_all; omega) | (simp_all; done)
          rw [e]
          exact ad_po_yes hs (ad_rC_hd hr0 (fun k i h1 h2 => by funext z; simp [ad_st, h2]) (by simp [ad_st]) (by simp [ad_st]) ⟨by simp [ad_st]; exact r3.1, by simp [ad_st]; exact r3.2.1, by simp [ad_st]; exact r3.2.2⟩ (fun i hi => by
            simp only [ad_st_at, ad_eh]
            by_cases hz : i = h.toNat
            · rw [if_pos ⟨trivial, trivial, hz⟩, if_pos hz]
            · rw [if_neg (fun q => hz q.2.2), if_neg hz, r4 i hi])) (ad_wA_hd hw0 (fun i hi => by
            unfold ad_eh
            by_cases hz : i = h.toNat
            · rw [if_pos hz]
              have hb := w2 v.toNat h17.2
              exact ⟨by omega, fun q => ⟨by omega, h17.2⟩⟩
            · rw [if_neg hz]; exact w7 i hi) (fun i hi => by
            unfold ad_eh
            rw [if_neg (by omega)]; exact w9.2.2.2 i hi) w8) (ad_fr.st (Or.inr (Or.inl ⟨rfl, rfl⟩))) hn34 hd30)
      · show ad_R _ _ _ _ 20 _ _ _
        refine ad_iconst dX5_points_20 ?_
        exact ad_ret0 dX5_points_21 rfl (by
          have e : ad_t_points A h v = none := by
            unfold ad_t_points
            (repeat' split) <;> first | with_reducible rfl | contradiction | (exfalso; omega) | rfl | (exfalso; simp_all; omega) | (simp_all; done)
          rw [e]
          exact ad_po_no hr0 hw0 hn34 hd30)
theorem c_X5_breaks {g : ad_G} {d : Nat} {σ : ad_Mem} {s : Nat} {A : ad_Ar} (hs : s < 3) (hr : ad_rC σ s A) (hw : ad_wA A) (hn34 : ad_nw σ 34) (hd30 : ad_dr σ 30) {v p i : Int} {S : List Int} (hv : ad_rng v) (hp : ad_rng p) (hi : ad_rng i) (hw33 : ad_nw σ 33) (hS : ad_nl σ 33 = S) (hL : ad_isL (ad_sg S i)) (h4d : 4 ≤ d) : ad_Q g mX5_breaks d [ad_rf g 5 0, ad_iv i, ad_rf g 4 s, ad_iv v, ad_iv p] σ (fun x m => ad_po σ s A x m (ad_t_breaks A v p (ad_sg S i - 97))) := by
  have hr0 := hr
  have hw0 := hw
  obtain ⟨r1, r2, r3, r4, r5, r6, r7, r8⟩ := hr
  obtain ⟨w1, w2, w3, w4, w5, w6, w7, w8, w9⟩ := hw
  refine ad_M1 (k := 0) rfl (by simp [Value.category]) rfl (Nat.le_of_ble_eq_true rfl) ?_
  simp only [List.map_cons, List.map_nil, List.replicate, List.cons_append, List.nil_append]
  refine ad_aload_n dX5_breaks_0 rfl ?_
  refine ad_iload_n dX5_breaks_1 rfl ?_
  refine ad_cv1f rfl cl_X5_132 dX5_breaks_2 (c_X4_holds hs hr0 hw0 hv) (by omega) (by show _ < 3; omega) (Nat.le_of_ble_eq_true rfl) ?_
  refine ad_ifp_eq 20 dX5_breaks_5 (by decide) (fun h5 => ?_) (fun h5 => ?_)
  · skip
    refine ad_iconst dX5_breaks_20 ?_
    exact ad_ret0 dX5_breaks_21 rfl (by
      have e : ad_t_breaks A v p (ad_sg S i - 97) = none := by
        unfold ad_t_breaks
        (repeat' split) <;> first | with_reducible rfl | contradiction | (exfalso; omega) | rfl | (exfalso; simp_all; omega) | (simp_all; done)
      rw [e]
      exact ad_po_no hr0 hw0 hn34 hd30)
  · show ad_R _ _ _ _ 8 _ _ _
    have hv10 := w2 _ h5.2
    have hB := (r6 _ h5.2).2.2.1
    have hbr := w5 _ h5.2
    have hbg : -1 ≤ ad_aB A v.toNat ∧ ad_aB A v.toNat < 10 := by
      by_cases hz : ad_aB A v.toNat = -1
      · omega
      · have := (hbr.2 hz).1; omega
    have hsz := ad_sz hr0 hw0 h5.2
    have hl := (w3 v.toNat h5.2).1
    refine ad_aload_n dX5_breaks_8 rfl ?_
    refine gf_X5_154 rfl (by omega) dX5_breaks_9 ?_
    refine ad_iload_n dX5_breaks_12 rfl ?_
    refine ad_aald dX5_breaks_13 (by omega) (by omega) (by omega) ?_
    refine ad_cv0f rfl cl_X5_158 dX5_breaks_14 (c_X6_isWhole (by omega) (by rw [hB]; omega)) (by omega) (by show _ < 30; omega) (Nat.le_of_ble_eq_true rfl) ?_
    rw [hB]
    refine ad_ifp_ne 22 dX5_breaks_17 (by decide) (fun h17 => ?_) (fun h17 => ?_)
    · skip
      refine ad_iload dX5_breaks_22 rfl ?_
      refine ad_if_lt 44 dX5_breaks_24 (by decide) (by omega) (fun h24 => ?_) (fun h24 => ?_)
      · skip
        refine ad_iconst dX5_breaks_44 ?_
        exact ad_ret0 dX5_breaks_45 rfl (by
          have e : ad_t_breaks A v p (ad_sg S i - 97) = none := by
            unfold ad_t_breaks
            (repeat' split) <;> first | with_reducible rfl | contradiction | (exfalso; omega) | rfl | (exfalso; simp_all; omega) | (simp_all; done)
          rw [e]
          exact ad_po_no hr0 hw0 hn34 hd30)
      · show ad_R _ _ _ _ 27 _ _ _
        refine ad_iload dX5_breaks_27 rfl ?_
        refine ad_aload_n dX5_breaks_29 rfl ?_
        refine gf_X5_154 rfl (by omega) dX5_breaks_30 ?_
        refine ad_iload_n dX5_breaks_33 rfl ?_
        refine ad_aald dX5_breaks_34 (by omega) (by omega) (by omega) ?_
        refine gf_X5_163 rfl (by omega) dX5_breaks_35 ?_
        refine gf_X5_23 rfl (by omega) dX5_breaks_38 ?_
        refine ad_icmp_lt 46 dX5_breaks_41 (by decide) (by omega) (by omega) (fun h41 => ?_) (fun h41 => ?_)
        · skip
          refine ad_aload_n dX5_breaks_46 rfl ?_
          refine ad_iload_n dX5_breaks_47 rfl ?_
          refine ad_iload dX5_breaks_48 rfl ?_
          refine ad_aload_n dX5_breaks_50 rfl ?_
          refine gf_X5_14 rfl dX5_breaks_51 ?_
          refine ad_iload_n dX5_breaks_54 rfl ?_
          refine ad_cv1f rfl cl_X5_34 dX5_breaks_55 (c_X2_at (by omega) hw33 hi) (by omega) (by show _ < 36; omega) (Nat.le_of_ble_eq_true rfl) ?_
          rw [ad_sg_at hw33 hS]
          refine ad_bipush dX5_breaks_58 rfl ?_
          refine ad_isub dX5_breaks_60 ?_
          refine ad_cv3v rfl cl_X5_166 dX5_breaks_61 ((by
            have hz := c_X4_damageAt (g := g) (d := d - 1) (v := v.toNat) (p := p) (x := ad_sg S i - 97) hs hr0 hw0 (by omega) h5.2 h17 ⟨by omega, by omega⟩ ⟨by omega, by omega⟩
            rw [show ((v.toNat : Nat) : Int) = v by omega] at hz
            exact hz)) (by omega) (by show _ < 3; omega) (Nat.le_of_ble_eq_true rfl) (fun s61 q61 => ?_)
          refine ad_iconst dX5_breaks_64 ?_
          exact ad_ret1 dX5_breaks_65 rfl (by
            have e : ad_t_breaks A v p (ad_sg S i - 97) = some (ad_dmg A v.toNat p.toNat (ad_sg S i - 97)) := by
              unfold ad_t_breaks
              (repeat' split) <;> first | with_reducible rfl | contradiction | (exfalso; omega) | rfl | (exfalso; simp_all; omega) | (simp_all; done)
            rw [e]
            exact ad_po_yes hs q61.1 (ad_wA_dmg hw0 ⟨by omega, by omega⟩) q61.2 hn34 hd30)
        · show ad_R _ _ _ _ 44 _ _ _
          refine ad_iconst dX5_breaks_44 ?_
          exact ad_ret0 dX5_breaks_45 rfl (by
            have e : ad_t_breaks A v p (ad_sg S i - 97) = none := by
              unfold ad_t_breaks
              (repeat' split) <;> first | with_reducible rfl | contradiction | (exfalso; omega) | rfl | (exfalso; simp_all; omega) | (simp_all; done)
            rw [e]
            exact ad_po_no hr0 hw0 hn34 hd30)
    · show ad_R _ _ _ _ 20 _ _ _
      refine ad_iconst dX5_breaks_20 ?_
      exact ad_ret0 dX5_breaks_21 rfl (by
        have e : ad_t_breaks A v p (ad_sg S i - 97) = none := by
          unfold ad_t_breaks
          (repeat' split) <;> first | with_reducible rfl | contradiction | (exfalso; omega) | rfl | (exfalso; simp_all; omega) | (simp_all; done)
        rw [e]
        exact ad_po_no hr0 hw0 hn34 hd30)
