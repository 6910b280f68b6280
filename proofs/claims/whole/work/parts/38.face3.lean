/-! ===== edits, merges, collect, damages; spelt, ancestors, twin, version ===== -/
def ad_m_edits (C : ad_C7) (v p y : Int) : Int × ad_C7 :=
  if ¬ (0 ≤ v ∧ ad_aH (ad_cA C) v.toNat = true) then ad_no C 1
  else if p < 0 ∨ (ad_aL (ad_cA C) v.toNat).length < p then ad_no C 1
  else if y < 0 ∨ 8 < y then ad_no C 2
  else if y = 8 ∧ ((ad_aL (ad_cA C) v.toNat).length = 1 ∨ p = (ad_aL (ad_cA C) v.toNat).length) then ad_no C 3
  else if p = 12 ∨ 10 ≤ ad_aC (ad_cA C) then ad_no C 6
  else ((ad_aC (ad_cA C) : Int), ad_sA C (ad_add (ad_cA C) (ad_edl (ad_aL (ad_cA C) v.toNat) p.toNat y) v (-1)))
def ad_m_merges (C : ad_C7) (a b : Int) : Int × ad_C7 :=
  if ¬ (0 ≤ a ∧ ad_aH (ad_cA C) a.toNat = true) ∨ ¬ (0 ≤ b ∧ ad_aH (ad_cA C) b.toNat = true) then ad_no C 1
  else if a = b then ad_no C 3
  else if 10 ≤ ad_aC (ad_cA C) then ad_no C 6
  else ((ad_aC (ad_cA C) : Int), ad_sA C (ad_add (ad_cA C) (ad_aL (ad_cA C) a.toNat) a b))
def ad_m_collect (C : ad_C7) : Int × ad_C7 := ((ad_pp (ad_gn (ad_cA C)) 10 : Nat), ad_sA C (ad_gc (ad_cA C)))
def ad_m_damages (C : ad_C7) (v p y : Int) : Int × ad_C7 :=
  if ¬ (0 ≤ v ∧ ad_aH (ad_cA C) v.toNat = true) then ad_no C 1
  else if ad_aB (ad_cA C) v.toNat ≠ -1 then ad_no C 3
  else if p < 0 ∨ (ad_aL (ad_cA C) v.toNat).length ≤ p then ad_no C 1
  else if y < 0 ∨ 8 ≤ y then ad_no C 2
  else ((ad_aL (ad_cA C) v.toNat).getD p.toNat (-1), ad_sA C (ad_dmg (ad_cA C) v.toNat p.toNat y))
def ad_m_spelt (C : ad_C7) (v i : Int) : Int × ad_C7 :=
  if ¬ (0 ≤ v ∧ ad_aH (ad_cA C) v.toNat = true) ∨ i < 0 ∨ (ad_aL (ad_cA C) v.toNat).length ≤ i then ad_no C 1
  else ((ad_aL (ad_cA C) v.toNat).getD i.toNat (-1), C)
def ad_m_ancestors (C : ad_C7) (v : Int) : Int × ad_C7 :=
  if ¬ (0 ≤ v ∧ ad_aH (ad_cA C) v.toNat = true) then ad_no C 1
  else ((ad_bits (fun w => ad_reach (ad_aP (ad_cA C)) (ad_aQ (ad_cA C)) v.toNat w && !(w == v.toNat)) : Nat), C)
def ad_m_twin (C : ad_C7) (v : Int) : Int × ad_C7 :=
  if ¬ (0 ≤ v ∧ ad_aH (ad_cA C) v.toNat = true) then ad_no C 1
  else ((ad_twin (ad_cA C) v.toNat : Nat), C)
def ad_m_version (C : ad_C7) (v w : Int) : Int × ad_C7 :=
  if ¬ (0 ≤ v ∧ ad_aH (ad_cA C) v.toNat = true) then ad_no C 1
  else if w = 0 then ((ad_aL (ad_cA C) v.toNat).length, C)
  else if w = 1 then (ad_lk (ad_aP (ad_cA C) v.toNat), C)
  else if w = 2 then (ad_lk (ad_aQ (ad_cA C) v.toNat), C)
  else if w = 3 then (ad_lk (ad_aB (ad_cA C) v.toNat), C)
  else if w = 4 then ((ad_dep (ad_cA C) v.toNat : Nat), C)
  else if w = 5 then (ad_cst (ad_cA C) v.toNat, C)
  else if w = 6 then (ad_aG (ad_cA C) v.toNat, C)
  else if w = 7 then (if ad_hs (ad_aL (ad_cA C) v.toNat) = ad_aG (ad_cA C) v.toNat then 1 else 0, C)
  else if w = 8 then (if ad_aB (ad_cA C) v.toNat = -1 then 0 else (ad_aT (ad_cA C) v.toNat).length, C)
  else ad_no C 2
theorem ad_nl_getD {σ : ad_Mem} {j : Nat} {l : List Int} {i : Int} (h : ad_nl σ j = l) (hs : σ 2 j 1 = l.length) (hi : 0 ≤ i ∧ i < l.length) : (if 0 ≤ i ∧ i < σ 2 j 1 then σ 12 j i.toNat else -1) = l.getD i.toNat (-1) := by
  rw [if_pos (by omega), List.getD_eq_getElem?_getD, ← h, ad_nl_at σ j i.toNat (by omega)]
  rfl
theorem ad_dw_len {σ : ad_Mem} {j : Nat} {l : List (Int × Int)} (hw : ad_dw σ j) (h : ad_ds σ j = l) : σ 0 j 2 = l.length := by
  have := ad_ds_len σ j
  rw [h] at this
  have := hw.1
  omega
theorem c_X7_edits {g : ad_G} {d : Nat} {σ : ad_Mem} {C : ad_C7} {v p y : Int} (hC : ad_c7 σ C) (hv : ad_rng v) (hp : ad_rng p) (hy : ad_rng y) (h4d : 4 ≤ d) : ad_Q g mX7_edits d [ad_rf g 7 0, ad_iv v, ad_iv p, ad_iv y] σ (fun x m => ad_an7 σ x m (ad_m_edits C v p y)) := by
  have hC0 := hC
  obtain ⟨a1, a2, a3, a4, a5, a6, a7, a8, a9⟩ := hC0
  obtain ⟨z1, z2, z3, z4⟩ := ad_c7_sz hC
  obtain ⟨r1, r2, r3, r4, r5, r6, r7, r8⟩ := a1.1
  obtain ⟨w1, w2, w3, w4, w5, w6, w7, w8, w9⟩ := a1.2
  refine ad_M1 (k := 1) rfl (by simp [Value.category]) rfl (Nat.le_of_ble_eq_true rfl) ?_
  simp only [List.map_cons, List.map_nil, List.replicate, List.cons_append, List.nil_append]
  refine ad_aload_n dX7_edits_0 rfl ?_
  refine gf_X7_10 rfl dX7_edits_1 ?_
  refine ad_iload_n dX7_edits_4 rfl ?_
  refine ad_cv1f rfl cl_X7_109 dX7_edits_5 (c_X4_holds (by decide) a1.1 a1.2 hv) (by omega) (by show _ < 3; omega) (Nat.le_of_ble_eq_true rfl) ?_
  refine ad_ifp_ne 17 dX7_edits_8 (by decide) (fun h8 => ?_) (fun h8 => ?_)
  · skip
    have hv10 := w2 _ h8.2
    have hB := (r6 _ h8.2).2.2.1
    have hbr := w5 _ h8.2
    have hbg : -1 ≤ ad_aB (ad_cA C) v.toNat ∧ ad_aB (ad_cA C) v.toNat < 10 := by
      by_cases hz : ad_aB (ad_cA C) v.toNat = -1
      · omega
      · have := (hbr.2 hz).1; omega
    have hsz := ad_sz a1.1 a1.2 h8.2
    have hl := (w3 v.toNat h8.2).1
    refine ad_aload_n dX7_edits_17 rfl ?_
    refine gf_X7_10 rfl dX7_edits_18 ?_
    refine gf_X7_113 rfl (by omega) dX7_edits_21 ?_
    refine ad_iload_n dX7_edits_24 rfl ?_
    refine ad_aald dX7_edits_25 (by omega) (by omega) (by omega) ?_
    refine gf_X7_117 rfl (by omega) dX7_edits_26 ?_
    refine gf_X7_81 rfl (by omega) dX7_edits_29 ?_
    rw [hsz]
    refine ad_istore dX7_edits_32 (by decide) rfl (by dsimp only [ad_set]) ?_
    refine ad_iload_n dX7_edits_34 rfl ?_
    refine ad_if_lt 44 dX7_edits_35 (by decide) (by omega) (fun h35 => ?_) (fun h35 => ?_)
    · skip
      refine ad_aload_n dX7_edits_44 rfl ?_
      refine ad_iconst dX7_edits_45 ?_
      refine ad_cv1q rfl cl_X7_67 dX7_edits_46 (c_X7_refuse hC (by decide)) (by omega) (by show _ < 1; omega) (Nat.le_of_ble_eq_true rfl) (fun x46 s46 q46 => ?_)
      obtain ⟨rfl, c46, f46⟩ := q46
      exact ad_reti dX7_edits_49 rfl (by
        have e : ad_m_edits C v p y = ad_no C 1 := by
          unfold ad_m_edits
          (repeat' split) <;> first | with_reducible rfl | contradiction | (exfalso; omega) | rfl | (exfalso; simp_all; omega) | (simp_all; done)
        rw [e]
        exact ⟨rfl, c46, f46⟩)
    · show ad_R _ _ _ _ 38 _ _ _
      refine ad_iload_n dX7_edits_38 rfl ?_
      refine ad_iload dX7_edits_39 rfl ?_
      refine ad_icmp_le 50 dX7_edits_41 (by decide) (by omega) (by omega) (fun h41 => ?_) (fun h41 => ?_)
      · skip
        refine ad_iload_n dX7_edits_50 rfl ?_
        refine ad_if_lt 60 dX7_edits_51 (by decide) (by omega) (fun h51 => ?_) (fun h51 => ?_)
        · skip
          refine ad_aload_n dX7_edits_60 rfl ?_
          refine ad_bipush dX7_edits_61 rfl ?_
          refine ad_cv1q rfl cl_X7_67 dX7_edits_63 (c_X7_refuse hC (by decide)) (by omega) (by show _ < 1; omega) (Nat.le_of_ble_eq_true rfl) (fun x63 s63 q63 => ?_)
          obtain ⟨rfl, c63, f63⟩ := q63
          exact ad_reti dX7_edits_66 rfl (by
            have e : ad_m_edits C v p y = ad_no C 2 := by
              unfold ad_m_edits
              (repeat' split) <;> first | with_reducible rfl | contradiction | (exfalso; omega) | rfl | (exfalso; simp_all; omega) | (simp_all; done)
            rw [e]
            exact ⟨rfl, c63, f63⟩)
        · show ad_R _ _ _ _ 54 _ _ _
          refine ad_iload_n dX7_edits_54 rfl ?_
          refine ad_bipush dX7_edits_55 rfl ?_
          refine ad_icmp_le 67 dX7_edits_57 (by decide) (by omega) (by omega) (fun h57 => ?_) (fun h57 => ?_)
          · skip
            refine ad_iload_n dX7_edits_67 rfl ?_
            refine ad_bipush dX7_edits_68 rfl ?_
            refine ad_icmp_ne 92 dX7_edits_70 (by decide) (by omega) (by omega) (fun h70 => ?_) (fun h70 => ?_)
            · skip
              refine ad_iload_n dX7_edits_92 rfl ?_
              refine ad_bipush dX7_edits_93 rfl ?_
              refine ad_icmp_eq 108 dX7_edits_95 (by decide) (by omega) (by omega) (fun h95 => ?_) (fun h95 => ?_)
              · skip
                refine ad_aload_n dX7_edits_108 rfl ?_
                refine ad_bipush dX7_edits_109 rfl ?_
                refine ad_cv1q rfl cl_X7_67 dX7_edits_111 (c_X7_refuse hC (by decide)) (by omega) (by show _ < 1; omega) (Nat.le_of_ble_eq_true rfl) (fun x111 s111 q111 => ?_)
                obtain ⟨rfl, c111, f111⟩ := q111
                exact ad_reti dX7_edits_114 rfl (by
                  have e : ad_m_edits C v p y = ad_no C 6 := by
                    unfold ad_m_edits
                    (repeat' split) <;> first | with_reducible rfl | contradiction | (exfalso; omega) | rfl | (exfalso; simp_all; omega) | (simp_all; done)
                  rw [e]
                  exact ⟨rfl, c111, f111⟩)
              · show ad_R _ _ _ _ 98 _ _ _
                refine ad_aload_n dX7_edits_98 rfl ?_
                refine gf_X7_10 rfl dX7_edits_99 ?_
                refine ad_cv0f rfl cl_X7_122 dX7_edits_102 (c_X4_hasRoom (by decide) a1.1 a1.2) (by omega) (by show _ < 3; omega) (Nat.le_of_ble_eq_true rfl) ?_
                refine ad_ifp_ne 115 dX7_edits_105 (by decide) (fun h105 => ?_) (fun h105 => ?_)
                · skip
                  refine ad_aload_n dX7_edits_115 rfl ?_
                  refine gf_X7_10 rfl dX7_edits_116 ?_
                  refine ad_iload_n dX7_edits_119 rfl ?_
                  refine ad_iload_n dX7_edits_120 rfl ?_
                  refine ad_iload_n dX7_edits_121 rfl ?_
                  refine ad_cv3q rfl cl_X7_125 dX7_edits_122 ((by
                    have hz := c_X4_comesEdited (g := g) (d := d - 1) (v := v.toNat) (p := p) (y := y) (by decide) a1.1 a1.2 (by omega) h105 h8.2 ⟨by omega, by omega⟩ ⟨by omega, by omega⟩ (fun q => by have := (w3 v.toNat h8.2).1; omega) (by have := (w3 v.toNat h8.2).1; omega)
                    rw [show ((v.toNat : Nat) : Int) = v by omega] at hz
                    exact hz)) (by omega) (by show _ < 3; omega) (Nat.le_of_ble_eq_true rfl) (fun x122 s122 q122 => ?_)
                  obtain ⟨rfl, c122, f122⟩ := q122
                  exact ad_reti dX7_edits_125 rfl (by
                    have e : ad_m_edits C v p y = ((ad_aC (ad_cA C) : Int), ad_sA C (ad_add (ad_cA C) (ad_edl (ad_aL (ad_cA C) v.toNat) p.toNat y) v (-1))) := by
                      unfold ad_m_edits
                      (repeat' split) <;> first | with_reducible rfl | contradiction | (exfalso; omega) | rfl | (exfalso; simp_all; omega) | (simp_all; done)
                    rw [e]
                    exact ⟨rfl, ad_c7_now hC f122 c122 (ad_wA_add a1.2 h105 (ad_edl_ok hl (by omega) ⟨by omega, by omega⟩ (fun q => by omega) (by omega)) (by have := w2 _ h8.2; omega) (by omega)), ad_Ts_fr7 f122⟩)
                · show ad_R _ _ _ _ 108 _ _ _
                  refine ad_aload_n dX7_edits_108 rfl ?_
                  refine ad_bipush dX7_edits_109 rfl ?_
                  refine ad_cv1q rfl cl_X7_67 dX7_edits_111 (c_X7_refuse hC (by decide)) (by omega) (by show _ < 1; omega) (Nat.le_of_ble_eq_true rfl) (fun x111 s111 q111 => ?_)
                  obtain ⟨rfl, c111, f111⟩ := q111
                  exact ad_reti dX7_edits_114 rfl (by
                    have e : ad_m_edits C v p y = ad_no C 6 := by
                      unfold ad_m_edits
                      (repeat' split) <;> first | with_reducible rfl | contradiction | (exfalso; omega) | rfl | (exfalso; simp_all; omega) | (simp_all; done)
                    rw [e]
                    exact ⟨rfl, c111, f111⟩)
            · show ad_R _ _ _ _ 73 _ _ _
              refine ad_iload dX7_edits_73 rfl ?_
              refine ad_iconst dX7_edits_75 ?_
              refine ad_icmp_eq 85 dX7_edits_76 (by decide) (by omega) (by omega) (fun h76 => ?_) (fun h76 => ?_)
              · skip
                refine ad_aload_n dX7_edits_85 rfl ?_
                refine ad_bipush dX7_edits_86 rfl ?_
                refine ad_cv1q rfl cl_X7_67 dX7_edits_88 (c_X7_refuse hC (by decide)) (by omega) (by show _ < 1; omega) (Nat.le_of_ble_eq_true rfl) (fun x88 s88 q88 => ?_)
                obtain ⟨rfl, c88, f88⟩ := q88
                exact ad_reti dX7_edits_91 rfl (by
                  have e : ad_m_edits C v p y = ad_no C 3 := by
                    unfold ad_m_edits
                    (repeat' split) <;> first | with_reducible rfl | contradiction | (exfalso; omega) | rfl | (exfalso; simp_all; omega) | (simp_all; done)
                  rw [e]
                  exact ⟨rfl, c88, f88⟩)
              · show ad_R _ _ _ _ 79 _ _ _
                refine ad_iload_n dX7_edits_79 rfl ?_
                refine ad_iload dX7_edits_80 rfl ?_
                refine ad_icmp_ne 92 dX7_edits_82 (by decide) (by omega) (by omega) (fun h82 => ?_) (fun h82 => ?_)
                · skip
                  refine ad_iload_n dX7_edits_92 rfl ?_
                  refine ad_bipush dX7_edits_93 rfl ?_
                  refine ad_icmp_eq 108 dX7_edits_95 (by decide) (by omega) (by omega) (fun h95 => ?_) (fun h95 => ?_)
                  · skip
                    refine ad_aload_n dX7_edits_108 rfl ?_
                    refine ad_bipush dX7_edits_109 rfl ?_
                    refine ad_cv1q rfl cl_X7_67 dX7_edits_111 (c_X7_refuse hC (by decide)) (by omega) (by show _ < 1; omega) (Nat.le_of_ble_eq_true rfl) (fun x111 s111 q111 => ?_)
                    obtain ⟨rfl, c111, f111⟩ := q111
                    exact ad_reti dX7_edits_114 rfl (by
                      have e : ad_m_edits C v p y = ad_no C 6 := by
                        unfold ad_m_edits
                        (repeat' split) <;> first | with_reducible rfl | contradiction | (exfalso; omega) | rfl | (exfalso; simp_all; omega) | (simp_all; done)
                      rw [e]
                      exact ⟨rfl, c111, f111⟩)
                  · show ad_R _ _ _ _ 98 _ _ _
                    refine ad_aload_n dX7_edits_98 rfl ?_
                    refine gf_X7_10 rfl dX7_edits_99 ?_
                    refine ad_cv0f rfl cl_X7_122 dX7_edits_102 (c_X4_hasRoom (by decide) a1.1 a1.2) (by omega) (by show _ < 3; omega) (Nat.le_of_ble_eq_true rfl) ?_
                    refine ad_ifp_ne 115 dX7_edits_105 (by decide) (fun h105 => ?_) (fun h105 => ?_)
                    · skip
                      refine ad_aload_n dX7_edits_115 rfl ?_
                      refine gf_X7_10 rfl dX7_edits_116 ?_
                      refine ad_iload_n dX7_edits_119 rfl ?_
                      refine ad_iload_n dX7_edits_120 rfl ?_
                      refine ad_iload_n dX7_edits_121 rfl ?_
                      refine ad_cv3q rfl cl_X7_125 dX7_edits_122 ((by
                        have hz := c_X4_comesEdited (g := g) (d := d - 1) (v := v.toNat) (p := p) (y := y) (by decide) a1.1 a1.2 (by omega) h105 h8.2 ⟨by omega, by omega⟩ ⟨by omega, by omega⟩ (fun q => by have := (w3 v.toNat h8.2).1; omega) (by have := (w3 v.toNat h8.2).1; omega)
                        rw [show ((v.toNat : Nat) : Int) = v by omega] at hz
                        exact hz)) (by omega) (by show _ < 3; omega) (Nat.le_of_ble_eq_true rfl) (fun x122 s122 q122 => ?_)
                      obtain ⟨rfl, c122, f122⟩ := q122
                      exact ad_reti dX7_edits_125 rfl (by
                        have e : ad_m_edits C v p y = ((ad_aC (ad_cA C) : Int), ad_sA C (ad_add (ad_cA C) (ad_edl (ad_aL (ad_cA C) v.toNat) p.toNat y) v (-1))) := by
                          unfold ad_m_edits
                          (repeat' split) <;> first | with_reducible rfl | contradiction | (exfalso; omega) | rfl | (exfalso; simp_all; omega) | (simp_all; done)
                        rw [e]
                        exact ⟨rfl, ad_c7_now hC f122 c122 (ad_wA_add a1.2 h105 (ad_edl_ok hl (by omega) ⟨by omega, by omega⟩ (fun q => by omega) (by omega)) (by have := w2 _ h8.2; omega) (by omega)), ad_Ts_fr7 f122⟩)
                    · show ad_R _ _ _ _ 108 _ _ _
                      refine ad_aload_n dX7_edits_108 rfl ?_
                      refine ad_bipush dX7_edits_109 rfl ?_
                      refine ad_cv1q rfl cl_X7_67 dX7_edits_111 (c_X7_refuse hC (by decide)) (by omega) (by show _ < 1; omega) (Nat.le_of_ble_eq_true rfl) (fun x111 s111 q111 => ?_)
                      obtain ⟨rfl, c111, f111⟩ := q111
                      exact ad_reti dX7_edits_114 rfl (by
                        have e : ad_m_edits C v p y = ad_no C 6 := by
                          unfold ad_m_edits
                          (repeat' split) <;> first | with_reducible rfl | contradiction | (exfalso; omega) | rfl | (exfalso; simp_all; omega) | (simp_all; done)
                        rw [e]
                        exact ⟨rfl, c111, f111⟩)
                · show ad_R _ _ _ _ 85 _ _ _
                  refine ad_aload_n dX7_edits_85 rfl ?_
                  refine ad_bipush dX7_edits_86 rfl ?_
                  refine ad_cv1q rfl cl_X7_67 dX7_edits_88 (c_X7_refuse hC (by decide)) (by omega) (by show _ < 1; omega) (Nat.le_of_ble_eq_true rfl) (fun x88 s88 q88 => ?_)
                  obtain ⟨rfl, c88, f88⟩ := q88
                  exact ad_reti dX7_edits_91 rfl (by
                    have e : ad_m_edits C v p y = ad_no C 3 := by
                      unfold ad_m_edits
                      (repeat' split) <;> first | with_reducible rfl | contradiction | (exfalso; omega) | rfl | (exfalso; simp_all; omega) | (simp_all; done)
                    rw [e]
                    exact ⟨rfl, c88, f88⟩)
          · show ad_R _ _ _ _ 60 _ _ _
            refine ad_aload_n dX7_edits_60 rfl ?_
            refine ad_bipush dX7_edits_61 rfl ?_
            refine ad_cv1q rfl cl_X7_67 dX7_edits_63 (c_X7_refuse hC (by decide)) (by omega) (by show _ < 1; omega) (Nat.le_of_ble_eq_true rfl) (fun x63 s63 q63 => ?_)
            obtain ⟨rfl, c63, f63⟩ := q63
            exact ad_reti dX7_edits_66 rfl (by
              have e : ad_m_edits C v p y = ad_no C 2 := by
                unfold ad_m_edits
                (repeat' split) <;> first | with_reducible rfl | contradiction | (exfalso; omega) | rfl | (exfalso; simp_all; omega) | (simp_all; done)
              rw [e]
              exact ⟨rfl, c63, f63⟩)
      · show ad_R _ _ _ _ 44 _ _ _
        refine ad_aload_n dX7_edits_44 rfl ?_
        refine ad_iconst dX7_edits_45 ?_
        refine ad_cv1q rfl cl_X7_67 dX7_edits_46 (c_X7_refuse hC (by decide)) (by omega) (by show _ < 1; omega) (Nat.le_of_ble_eq_true rfl) (fun x46 s46 q46 => ?_)
        obtain ⟨rfl, c46, f46⟩ := q46
        exact ad_reti dX7_edits_49 rfl (by
          have e : ad_m_edits C v p y = ad_no C 1 := by
            unfold ad_m_edits
            (repeat' split) <;> first | with_reducible rfl | contradiction | (exfalso; omega) | rfl | (exfalso; simp_all; omega) | (simp_all; done)
          rw [e]
          exact ⟨rfl, c46, f46⟩)
  · show ad_R _ _ _ _ 11 _ _ _
    refine ad_aload_n dX7_edits_11 rfl ?_
    refine ad_iconst dX7_edits_12 ?_
    refine ad_cv1q rfl cl_X7_67 dX7_edits_13 (c_X7_refuse hC (by decide)) (by omega) (by show _ < 1; omega) (Nat.le_of_ble_eq_true rfl) (fun x13 s13 q13 => ?_)
    obtain ⟨rfl, c13, f13⟩ := q13
    exact ad_reti dX7_edits_16 rfl (by
      have e : ad_m_edits C v p y = ad_no C 1 := by
        unfold ad_m_edits
        (repeat' split) <;> first | with_reducible rfl | contradiction | (exfalso; omega) | rfl | (exfalso; simp_all; omega) | (simp_all; done)
      rw [e]
      exact ⟨rfl, c13, f13⟩)
theorem c_X7_merges {g : ad_G} {d : Nat} {σ : ad_Mem} {C : ad_C7} {a b : Int} (hC : ad_c7 σ C) (ha : ad_rng a) (hb : ad_rng b) (h4d : 4 ≤ d) : ad_Q g mX7_merges d [ad_rf g 7 0, ad_iv a, ad_iv b] σ (fun x m => ad_an7 σ x m (ad_m_merges C a b)) := by
  have hC0 := hC
  obtain ⟨a1, a2, a3, a4, a5, a6, a7, a8, a9⟩ := hC0
  obtain ⟨z1, z2, z3, z4⟩ := ad_c7_sz hC
  obtain ⟨r1, r2, r3, r4, r5, r6, r7, r8⟩ := a1.1
  obtain ⟨w1, w2, w3, w4, w5, w6, w7, w8, w9⟩ := a1.2
  refine ad_M1 (k := 0) rfl (by simp [Value.category]) rfl (Nat.le_of_ble_eq_true rfl) ?_
  simp only [List.map_cons, List.map_nil, List.replicate, List.cons_append, List.nil_append]
  refine ad_aload_n dX7_merges_0 rfl ?_
  refine gf_X7_10 rfl dX7_merges_1 ?_
  refine ad_iload_n dX7_merges_4 rfl ?_
  refine ad_cv1f rfl cl_X7_109 dX7_merges_5 (c_X4_holds (by decide) a1.1 a1.2 ha) (by omega) (by show _ < 3; omega) (Nat.le_of_ble_eq_true rfl) ?_
  refine ad_ifp_eq 22 dX7_merges_8 (by decide) (fun h8 => ?_) (fun h8 => ?_)
  · skip
    refine ad_aload_n dX7_merges_22 rfl ?_
    refine ad_iconst dX7_merges_23 ?_
    refine ad_cv1q rfl cl_X7_67 dX7_merges_24 (c_X7_refuse hC (by decide)) (by omega) (by show _ < 1; omega) (Nat.le_of_ble_eq_true rfl) (fun x24 s24 q24 => ?_)
    obtain ⟨rfl, c24, f24⟩ := q24
    exact ad_reti dX7_merges_27 rfl (by
      have e : ad_m_merges C a b = ad_no C 1 := by
        unfold ad_m_merges
        (repeat' split) <;> first | with_reducible rfl | contradiction | (exfalso; omega) | rfl | (exfalso; simp_all; omega) | (simp_all; done)
      rw [e]
      exact ⟨rfl, c24, f24⟩)
  · show ad_R _ _ _ _ 11 _ _ _
    refine ad_aload_n dX7_merges_11 rfl ?_
    refine gf_X7_10 rfl dX7_merges_12 ?_
    refine ad_iload_n dX7_merges_15 rfl ?_
    refine ad_cv1f rfl cl_X7_109 dX7_merges_16 (c_X4_holds (by decide) a1.1 a1.2 hb) (by omega) (by show _ < 3; omega) (Nat.le_of_ble_eq_true rfl) ?_
    refine ad_ifp_ne 28 dX7_merges_19 (by decide) (fun h19 => ?_) (fun h19 => ?_)
    · skip
      refine ad_iload_n dX7_merges_28 rfl ?_
      refine ad_iload_n dX7_merges_29 rfl ?_
      refine ad_icmp_ne 40 dX7_merges_30 (by decide) ha hb (fun h30 => ?_) (fun h30 => ?_)
      · skip
        refine ad_aload_n dX7_merges_40 rfl ?_
        refine gf_X7_10 rfl dX7_merges_41 ?_
        refine ad_cv0f rfl cl_X7_122 dX7_merges_44 (c_X4_hasRoom (by decide) a1.1 a1.2) (by omega) (by show _ < 3; omega) (Nat.le_of_ble_eq_true rfl) ?_
        refine ad_ifp_ne 57 dX7_merges_47 (by decide) (fun h47 => ?_) (fun h47 => ?_)
        · skip
          have ha10 := w2 _ h8.2
          refine ad_aload_n dX7_merges_57 rfl ?_
          refine gf_X7_10 rfl dX7_merges_58 ?_
          refine ad_iload_n dX7_merges_61 rfl ?_
          refine ad_iload_n dX7_merges_62 rfl ?_
          refine ad_aload_n dX7_merges_63 rfl ?_
          refine gf_X7_10 rfl dX7_merges_64 ?_
          refine gf_X7_113 rfl (by omega) dX7_merges_67 ?_
          refine ad_iload_n dX7_merges_70 rfl ?_
          refine ad_aald dX7_merges_71 (by omega) (by omega) (by omega) ?_
          refine gf_X7_117 rfl (by omega) dX7_merges_72 ?_
          refine ad_cv3q rfl cl_X7_129 dX7_merges_75 (c_X4_comes (j := 10 * 0 + a.toNat) (by decide) a1.1 a1.2 (by omega) h47 (by have := w2 _ h8.2; omega) (by have := w2 _ h8.2; omega) (r5 _ (by have := w2 _ h8.2; omega)).1 (by rw [(r6 _ h8.2).1]; exact (w3 _ h8.2).1) (by have := w2 _ h8.2; omega) (by have := w2 _ h19.2; omega)) (by omega) (by show _ < 3; omega) (Nat.le_of_ble_eq_true rfl) (fun x75 s75 q75 => ?_)
          obtain ⟨rfl, c75, f75⟩ := q75
          rw [(r6 _ h8.2).1] at c75
          exact ad_reti dX7_merges_78 rfl (by
            have e : ad_m_merges C a b = ((ad_aC (ad_cA C) : Int), ad_sA C (ad_add (ad_cA C) (ad_aL (ad_cA C) a.toNat) a b)) := by
              unfold ad_m_merges
              (repeat' split) <;> first | with_reducible rfl | contradiction | (exfalso; omega) | rfl | (exfalso; simp_all; omega) | (simp_all; done)
            rw [e]
            exact ⟨rfl, ad_c7_now hC f75 c75 (ad_wA_add a1.2 h47 (w3 _ h8.2).1 (by have := w2 _ h8.2; omega) (by have := w2 _ h19.2; omega)), ad_Ts_fr7 f75⟩)
        · show ad_R _ _ _ _ 50 _ _ _
          refine ad_aload_n dX7_merges_50 rfl ?_
          refine ad_bipush dX7_merges_51 rfl ?_
          refine ad_cv1q rfl cl_X7_67 dX7_merges_53 (c_X7_refuse hC (by decide)) (by omega) (by show _ < 1; omega) (Nat.le_of_ble_eq_true rfl) (fun x53 s53 q53 => ?_)
          obtain ⟨rfl, c53, f53⟩ := q53
          exact ad_reti dX7_merges_56 rfl (by
            have e : ad_m_merges C a b = ad_no C 6 := by
              unfold ad_m_merges
              (repeat' split) <;> first | with_reducible rfl | contradiction | (exfalso; omega) | rfl | (exfalso; simp_all; omega) | (simp_all; done)
            rw [e]
            exact ⟨rfl, c53, f53⟩)
      · show ad_R _ _ _ _ 33 _ _ _
        refine ad_aload_n dX7_merges_33 rfl ?_
        refine ad_bipush dX7_merges_34 rfl ?_
        refine ad_cv1q rfl cl_X7_67 dX7_merges_36 (c_X7_refuse hC (by decide)) (by omega) (by show _ < 1; omega) (Nat.le_of_ble_eq_true rfl) (fun x36 s36 q36 => ?_)
        obtain ⟨rfl, c36, f36⟩ := q36
        exact ad_reti dX7_merges_39 rfl (by
          have e : ad_m_merges C a b = ad_no C 3 := by
            unfold ad_m_merges
            (repeat' split) <;> first | with_reducible rfl | contradiction | (exfalso; omega) | rfl | (exfalso; simp_all; omega) | (simp_all; done)
          rw [e]
          exact ⟨rfl, c36, f36⟩)
    · show ad_R _ _ _ _ 22 _ _ _
      refine ad_aload_n dX7_merges_22 rfl ?_
      refine ad_iconst dX7_merges_23 ?_
      refine ad_cv1q rfl cl_X7_67 dX7_merges_24 (c_X7_refuse hC (by decide)) (by omega) (by show _ < 1; omega) (Nat.le_of_ble_eq_true rfl) (fun x24 s24 q24 => ?_)
      obtain ⟨rfl, c24, f24⟩ := q24
      exact ad_reti dX7_merges_27 rfl (by
        have e : ad_m_merges C a b = ad_no C 1 := by
          unfold ad_m_merges
          (repeat' split) <;> first | with_reducible rfl | contradiction | (exfalso; omega) | rfl | (exfalso; simp_all; omega) | (simp_all; done)
        rw [e]
        exact ⟨rfl, c24, f24⟩)
theorem c_X7_collect {g : ad_G} {d : Nat} {σ : ad_Mem} {C : ad_C7} (hC : ad_c7 σ C) (h4d : 4 ≤ d) : ad_Q g mX7_collect d [ad_rf g 7 0] σ (fun x m => ad_an7 σ x m (ad_m_collect C)) := by
  have hC0 := hC
  obtain ⟨a1, a2, a3, a4, a5, a6, a7, a8, a9⟩ := hC0
  obtain ⟨z1, z2, z3, z4⟩ := ad_c7_sz hC
  obtain ⟨r1, r2, r3, r4, r5, r6, r7, r8⟩ := a1.1
  obtain ⟨w1, w2, w3, w4, w5, w6, w7, w8, w9⟩ := a1.2
  refine ad_M1 (k := 0) rfl (by simp [Value.category]) rfl (Nat.le_of_ble_eq_true rfl) ?_
  simp only [List.map_cons, List.map_nil, List.replicate, List.cons_append, List.nil_append]
  refine ad_aload_n dX7_collect_0 rfl ?_
  refine gf_X7_10 rfl dX7_collect_1 ?_
  refine ad_cv0q rfl cl_X7_165 dX7_collect_4 (c_X4_dropGarbage (by decide) a1.1 a1.2 (by omega)) (by omega) (by show _ < 3; omega) (Nat.le_of_ble_eq_true rfl) (fun x4 s4 q4 => ?_)
  obtain ⟨rfl, c4, f4⟩ := q4
  exact ad_reti dX7_collect_7 rfl (⟨rfl, ad_c7_now hC f4 c4 (ad_wA_gc a1.2), ad_Ts_fr7 f4⟩)
theorem c_X7_damages {g : ad_G} {d : Nat} {σ : ad_Mem} {C : ad_C7} {v p y : Int} (hC : ad_c7 σ C) (hv : ad_rng v) (hp : ad_rng p) (hy : ad_rng y) (h4d : 4 ≤ d) : ad_Q g mX7_damages d [ad_rf g 7 0, ad_iv v, ad_iv p, ad_iv y] σ (fun x m => ad_an7 σ x m (ad_m_damages C v p y)) := by
  have hC0 := hC
  obtain ⟨a1, a2, a3, a4, a5, a6, a7, a8, a9⟩ := hC0
  obtain ⟨z1, z2, z3, z4⟩ := ad_c7_sz hC
  obtain ⟨r1, r2, r3, r4, r5, r6, r7, r8⟩ := a1.1
  obtain ⟨w1, w2, w3, w4, w5, w6, w7, w8, w9⟩ := a1.2
  refine ad_M1 (k := 2) rfl (by simp [Value.category]) rfl (Nat.le_of_ble_eq_true rfl) ?_
  simp only [List.map_cons, List.map_nil, List.replicate, List.cons_append, List.nil_append]
  refine ad_aload_n dX7_damages_0 rfl ?_
  refine gf_X7_10 rfl dX7_damages_1 ?_
  refine ad_iload_n dX7_damages_4 rfl ?_
  refine ad_cv1f rfl cl_X7_109 dX7_damages_5 (c_X4_holds (by decide) a1.1 a1.2 hv) (by omega) (by show _ < 3; omega) (Nat.le_of_ble_eq_true rfl) ?_
  refine ad_ifp_ne 17 dX7_damages_8 (by decide) (fun h8 => ?_) (fun h8 => ?_)
  · skip
    have hv10 := w2 _ h8.2
    have hB := (r6 _ h8.2).2.2.1
    have hbr := w5 _ h8.2
    have hbg : -1 ≤ ad_aB (ad_cA C) v.toNat ∧ ad_aB (ad_cA C) v.toNat < 10 := by
      by_cases hz : ad_aB (ad_cA C) v.toNat = -1
      · omega
      · have := (hbr.2 hz).1; omega
    have hsz := ad_sz a1.1 a1.2 h8.2
    have hl := (w3 v.toNat h8.2).1
    refine ad_aload_n dX7_damages_17 rfl ?_
    refine gf_X7_10 rfl dX7_damages_18 ?_
    refine gf_X7_113 rfl (by omega) dX7_damages_21 ?_
    refine ad_iload_n dX7_damages_24 rfl ?_
    refine ad_aald dX7_damages_25 (by omega) (by omega) (by omega) ?_
    refine ad_astore dX7_damages_26 (by decide) rfl (by dsimp only [ad_set]) ?_
    refine ad_aload dX7_damages_28 rfl ?_
    refine ad_cv0f rfl cl_X7_168 dX7_damages_30 (c_X6_isWhole (by omega) (by rw [hB]; omega)) (by omega) (by show _ < 30; omega) (Nat.le_of_ble_eq_true rfl) ?_
    refine ad_ifp_ne 43 dX7_damages_33 (by decide) (fun h33 => ?_) (fun h33 => ?_)
    · skip
      refine ad_iload_n dX7_damages_43 rfl ?_
      refine ad_if_lt 59 dX7_damages_44 (by decide) (by omega) (fun h44 => ?_) (fun h44 => ?_)
      · skip
        refine ad_aload_n dX7_damages_59 rfl ?_
        refine ad_iconst dX7_damages_60 ?_
        refine ad_cv1q rfl cl_X7_67 dX7_damages_61 (c_X7_refuse hC (by decide)) (by omega) (by show _ < 1; omega) (Nat.le_of_ble_eq_true rfl) (fun x61 s61 q61 => ?_)
        obtain ⟨rfl, c61, f61⟩ := q61
        exact ad_reti dX7_damages_64 rfl (by
          have e : ad_m_damages C v p y = ad_no C 1 := by
            unfold ad_m_damages
            rw [hB] at h33
            (repeat' split) <;> first | with_reducible rfl | contradiction | (exfalso; omega) | rfl | (exfalso; simp_all; omega) | (simp_all; done)
          rw [e]
          exact ⟨rfl, c61, f61⟩)
      · show ad_R _ _ _ _ 47 _ _ _
        refine ad_iload_n dX7_damages_47 rfl ?_
        refine ad_aload dX7_damages_48 rfl ?_
        refine gf_X7_117 rfl (by omega) dX7_damages_50 ?_
        refine gf_X7_81 rfl (by omega) dX7_damages_53 ?_
        refine ad_icmp_lt 65 dX7_damages_56 (by decide) (by omega) (by omega) (fun h56 => ?_) (fun h56 => ?_)
        · skip
          refine ad_iload_n dX7_damages_65 rfl ?_
          refine ad_if_lt 75 dX7_damages_66 (by decide) (by omega) (fun h66 => ?_) (fun h66 => ?_)
          · skip
            refine ad_aload_n dX7_damages_75 rfl ?_
            refine ad_bipush dX7_damages_76 rfl ?_
            refine ad_cv1q rfl cl_X7_67 dX7_damages_78 (c_X7_refuse hC (by decide)) (by omega) (by show _ < 1; omega) (Nat.le_of_ble_eq_true rfl) (fun x78 s78 q78 => ?_)
            obtain ⟨rfl, c78, f78⟩ := q78
            exact ad_reti dX7_damages_81 rfl (by
              have e : ad_m_damages C v p y = ad_no C 2 := by
                unfold ad_m_damages
                rw [hB] at h33
                (repeat' split) <;> first | with_reducible rfl | contradiction | (exfalso; omega) | rfl | (exfalso; simp_all; omega) | (simp_all; done)
              rw [e]
              exact ⟨rfl, c78, f78⟩)
          · show ad_R _ _ _ _ 69 _ _ _
            refine ad_iload_n dX7_damages_69 rfl ?_
            refine ad_bipush dX7_damages_70 rfl ?_
            refine ad_icmp_lt 82 dX7_damages_72 (by decide) (by omega) (by omega) (fun h72 => ?_) (fun h72 => ?_)
            · skip
              refine ad_aload dX7_damages_82 rfl ?_
              refine gf_X7_117 rfl (by omega) dX7_damages_84 ?_
              refine ad_iload_n dX7_damages_87 rfl ?_
              refine ad_cv1f rfl cl_X7_171 dX7_damages_88 (c_X2_at (by omega) (r5 _ (by omega)).1 hp) (by omega) (by show _ < 36; omega) (Nat.le_of_ble_eq_true rfl) ?_
              refine ad_istore dX7_damages_91 (by decide) rfl (by dsimp only [ad_set]) ?_
              refine ad_aload_n dX7_damages_93 rfl ?_
              refine gf_X7_10 rfl dX7_damages_94 ?_
              refine ad_iload_n dX7_damages_97 rfl ?_
              refine ad_iload_n dX7_damages_98 rfl ?_
              refine ad_iload_n dX7_damages_99 rfl ?_
              refine ad_cv3v rfl cl_X7_174 dX7_damages_100 ((by
                have hz := c_X4_damageAt (g := g) (d := d - 1) (v := v.toNat) (p := p) (x := y) (by decide) a1.1 a1.2 (by omega) h8.2 (hB.symm.trans h33) ⟨by omega, by omega⟩ ⟨by omega, by omega⟩
                rw [show ((v.toNat : Nat) : Int) = v by omega] at hz
                exact hz)) (by omega) (by show _ < 3; omega) (Nat.le_of_ble_eq_true rfl) (fun s100 q100 => ?_)
              refine ad_iload dX7_damages_103 rfl ?_
              exact ad_reti dX7_damages_105 rfl (by
                have e : ad_m_damages C v p y = ((ad_aL (ad_cA C) v.toNat).getD p.toNat (-1), ad_sA C (ad_dmg (ad_cA C) v.toNat p.toNat y)) := by
                  unfold ad_m_damages
                  rw [hB] at h33
                  (repeat' split) <;> first | with_reducible rfl | contradiction | (exfalso; omega) | rfl | (exfalso; simp_all; omega) | (simp_all; done)
                rw [e]
                exact ⟨by rw [ad_nl_getD (r6 _ h8.2).1 hsz ⟨by omega, by omega⟩], ad_c7_now hC q100.2 q100.1 (ad_wA_dmg a1.2 ⟨by omega, by omega⟩), ad_Ts_fr7 q100.2⟩)
            · show ad_R _ _ _ _ 75 _ _ _
              refine ad_aload_n dX7_damages_75 rfl ?_
              refine ad_bipush dX7_damages_76 rfl ?_
              refine ad_cv1q rfl cl_X7_67 dX7_damages_78 (c_X7_refuse hC (by decide)) (by omega) (by show _ < 1; omega) (Nat.le_of_ble_eq_true rfl) (fun x78 s78 q78 => ?_)
              obtain ⟨rfl, c78, f78⟩ := q78
              exact ad_reti dX7_damages_81 rfl (by
                have e : ad_m_damages C v p y = ad_no C 2 := by
                  unfold ad_m_damages
                  rw [hB] at h33
                  (repeat' split) <;> first | with_reducible rfl | contradiction | (exfalso; omega) | rfl | (exfalso; simp_all; omega) | (simp_all; done)
                rw [e]
                exact ⟨rfl, c78, f78⟩)
        · show ad_R _ _ _ _ 59 _ _ _
          refine ad_aload_n dX7_damages_59 rfl ?_
          refine ad_iconst dX7_damages_60 ?_
          refine ad_cv1q rfl cl_X7_67 dX7_damages_61 (c_X7_refuse hC (by decide)) (by omega) (by show _ < 1; omega) (Nat.le_of_ble_eq_true rfl) (fun x61 s61 q61 => ?_)
          obtain ⟨rfl, c61, f61⟩ := q61
          exact ad_reti dX7_damages_64 rfl (by
            have e : ad_m_damages C v p y = ad_no C 1 := by
              unfold ad_m_damages
              rw [hB] at h33
              (repeat' split) <;> first | with_reducible rfl | contradiction | (exfalso; omega) | rfl | (exfalso; simp_all; omega) | (simp_all; done)
            rw [e]
            exact ⟨rfl, c61, f61⟩)
    · show ad_R _ _ _ _ 36 _ _ _
      refine ad_aload_n dX7_damages_36 rfl ?_
      refine ad_bipush dX7_damages_37 rfl ?_
      refine ad_cv1q rfl cl_X7_67 dX7_damages_39 (c_X7_refuse hC (by decide)) (by omega) (by show _ < 1; omega) (Nat.le_of_ble_eq_true rfl) (fun x39 s39 q39 => ?_)
      obtain ⟨rfl, c39, f39⟩ := q39
      exact ad_reti dX7_damages_42 rfl (by
        have e : ad_m_damages C v p y = ad_no C 3 := by
          unfold ad_m_damages
          rw [hB] at h33
          (repeat' split) <;> first | with_reducible rfl | contradiction | (exfalso; omega) | rfl | (exfalso; simp_all; omega) | (simp_all; done)
        rw [e]
        exact ⟨rfl, c39, f39⟩)
  · show ad_R _ _ _ _ 11 _ _ _
    refine ad_aload_n dX7_damages_11 rfl ?_
    refine ad_iconst dX7_damages_12 ?_
    refine ad_cv1q rfl cl_X7_67 dX7_damages_13 (c_X7_refuse hC (by decide)) (by omega) (by show _ < 1; omega) (Nat.le_of_ble_eq_true rfl) (fun x13 s13 q13 => ?_)
    obtain ⟨rfl, c13, f13⟩ := q13
    exact ad_reti dX7_damages_16 rfl (by
      have e : ad_m_damages C v p y = ad_no C 1 := by
        unfold ad_m_damages
        (repeat' split) <;> first | with_reducible rfl | contradiction | (exfalso; omega) | rfl | (exfalso; simp_all; omega) | (simp_all; done)
      rw [e]
      exact ⟨rfl, c13, f13⟩)
theorem c_X7_spelt {g : ad_G} {d : Nat} {σ : ad_Mem} {C : ad_C7} {v i : Int} (hC : ad_c7 σ C) (hv : ad_rng v) (hi : ad_rng i) (h4d : 4 ≤ d) : ad_Q g mX7_spelt d [ad_rf g 7 0, ad_iv v, ad_iv i] σ (fun x m => ad_an7 σ x m (ad_m_spelt C v i)) := by
  have hC0 := hC
  obtain ⟨a1, a2, a3, a4, a5, a6, a7, a8, a9⟩ := hC0
  obtain ⟨z1, z2, z3, z4⟩ := ad_c7_sz hC
  obtain ⟨r1, r2, r3, r4, r5, r6, r7, r8⟩ := a1.1
  obtain ⟨w1, w2, w3, w4, w5, w6, w7, w8, w9⟩ := a1.2
  refine ad_M1 (k := 0) rfl (by simp [Value.category]) rfl (Nat.le_of_ble_eq_true rfl) ?_
  simp only [List.map_cons, List.map_nil, List.replicate, List.cons_append, List.nil_append]
  refine ad_aload_n dX7_spelt_0 rfl ?_
  refine gf_X7_10 rfl dX7_spelt_1 ?_
  refine ad_iload_n dX7_spelt_4 rfl ?_
  refine ad_cv1f rfl cl_X7_109 dX7_spelt_5 (c_X4_holds (by decide) a1.1 a1.2 hv) (by omega) (by show _ < 3; omega) (Nat.le_of_ble_eq_true rfl) ?_
  refine ad_ifp_eq 34 dX7_spelt_8 (by decide) (fun h8 => ?_) (fun h8 => ?_)
  · skip
    refine ad_aload_n dX7_spelt_34 rfl ?_
    refine ad_iconst dX7_spelt_35 ?_
    refine ad_cv1q rfl cl_X7_67 dX7_spelt_36 (c_X7_refuse hC (by decide)) (by omega) (by show _ < 1; omega) (Nat.le_of_ble_eq_true rfl) (fun x36 s36 q36 => ?_)
    obtain ⟨rfl, c36, f36⟩ := q36
    exact ad_reti dX7_spelt_39 rfl (by
      have e : ad_m_spelt C v i = ad_no C 1 := by
        unfold ad_m_spelt
        (repeat' split) <;> first | with_reducible rfl | contradiction | (exfalso; omega) | rfl | (exfalso; simp_all; omega) | (simp_all; done)
      rw [e]
      exact ⟨rfl, c36, f36⟩)
  · show ad_R _ _ _ _ 11 _ _ _
    have hv10 := w2 _ h8.2
    have hB := (r6 _ h8.2).2.2.1
    have hbr := w5 _ h8.2
    have hbg : -1 ≤ ad_aB (ad_cA C) v.toNat ∧ ad_aB (ad_cA C) v.toNat < 10 := by
      by_cases hz : ad_aB (ad_cA C) v.toNat = -1
      · omega
      · have := (hbr.2 hz).1; omega
    have hsz := ad_sz a1.1 a1.2 h8.2
    have hl := (w3 v.toNat h8.2).1
    refine ad_iload_n dX7_spelt_11 rfl ?_
    refine ad_if_lt 34 dX7_spelt_12 (by decide) (by omega) (fun h12 => ?_) (fun h12 => ?_)
    · skip
      refine ad_aload_n dX7_spelt_34 rfl ?_
      refine ad_iconst dX7_spelt_35 ?_
      refine ad_cv1q rfl cl_X7_67 dX7_spelt_36 (c_X7_refuse hC (by decide)) (by omega) (by show _ < 1; omega) (Nat.le_of_ble_eq_true rfl) (fun x36 s36 q36 => ?_)
      obtain ⟨rfl, c36, f36⟩ := q36
      exact ad_reti dX7_spelt_39 rfl (by
        have e : ad_m_spelt C v i = ad_no C 1 := by
          unfold ad_m_spelt
          (repeat' split) <;> first | with_reducible rfl | contradiction | (exfalso; omega) | rfl | (exfalso; simp_all; omega) | (simp_all; done)
        rw [e]
        exact ⟨rfl, c36, f36⟩)
    · show ad_R _ _ _ _ 15 _ _ _
      refine ad_iload_n dX7_spelt_15 rfl ?_
      refine ad_aload_n dX7_spelt_16 rfl ?_
      refine gf_X7_10 rfl dX7_spelt_17 ?_
      refine gf_X7_113 rfl (by omega) dX7_spelt_20 ?_
      refine ad_iload_n dX7_spelt_23 rfl ?_
      refine ad_aald dX7_spelt_24 (by omega) (by omega) (by omega) ?_
      refine gf_X7_117 rfl (by omega) dX7_spelt_25 ?_
      refine gf_X7_81 rfl (by omega) dX7_spelt_28 ?_
      refine ad_icmp_lt 40 dX7_spelt_31 (by decide) (by omega) (by omega) (fun h31 => ?_) (fun h31 => ?_)
      · skip
        refine ad_aload_n dX7_spelt_40 rfl ?_
        refine gf_X7_10 rfl dX7_spelt_41 ?_
        refine gf_X7_113 rfl (by omega) dX7_spelt_44 ?_
        refine ad_iload_n dX7_spelt_47 rfl ?_
        refine ad_aald dX7_spelt_48 (by omega) (by omega) (by omega) ?_
        refine gf_X7_117 rfl (by omega) dX7_spelt_49 ?_
        refine ad_iload_n dX7_spelt_52 rfl ?_
        refine ad_cv1f rfl cl_X7_171 dX7_spelt_53 (c_X2_at (by omega) (r5 _ (by omega)).1 hi) (by omega) (by show _ < 36; omega) (Nat.le_of_ble_eq_true rfl) ?_
        exact ad_reti dX7_spelt_56 rfl (by
          have e : ad_m_spelt C v i = ((ad_aL (ad_cA C) v.toNat).getD i.toNat (-1), C) := by
            unfold ad_m_spelt
            (repeat' split) <;> first | with_reducible rfl | contradiction | (exfalso; omega) | rfl | (exfalso; simp_all; omega) | (simp_all; done)
          rw [e]
          exact ⟨by rw [ad_nl_getD (r6 _ h8.2).1 hsz ⟨by omega, by omega⟩], hC, ad_fr.refl⟩)
      · show ad_R _ _ _ _ 34 _ _ _
        refine ad_aload_n dX7_spelt_34 rfl ?_
        refine ad_iconst dX7_spelt_35 ?_
        refine ad_cv1q rfl cl_X7_67 dX7_spelt_36 (c_X7_refuse hC (by decide)) (by omega) (by show _ < 1; omega) (Nat.le_of_ble_eq_true rfl) (fun x36 s36 q36 => ?_)
        obtain ⟨rfl, c36, f36⟩ := q36
        exact ad_reti dX7_spelt_39 rfl (by
          have e : ad_m_spelt C v i = ad_no C 1 := by
            unfold ad_m_spelt
            (repeat' split) <;> first | with_reducible rfl | contradiction | (exfalso; omega) | rfl | (exfalso; simp_all; omega) | (simp_all; done)
          rw [e]
          exact ⟨rfl, c36, f36⟩)
theorem c_X7_ancestors {g : ad_G} {d : Nat} {σ : ad_Mem} {C : ad_C7} {v : Int} (hC : ad_c7 σ C) (hv : ad_rng v) (h4d : 4 ≤ d) : ad_Q g mX7_ancestors d [ad_rf g 7 0, ad_iv v] σ (fun x m => ad_an7 σ x m (ad_m_ancestors C v)) := by
  have hC0 := hC
  obtain ⟨a1, a2, a3, a4, a5, a6, a7, a8, a9⟩ := hC0
  obtain ⟨z1, z2, z3, z4⟩ := ad_c7_sz hC
  obtain ⟨r1, r2, r3, r4, r5, r6, r7, r8⟩ := a1.1
  obtain ⟨w1, w2, w3, w4, w5, w6, w7, w8, w9⟩ := a1.2
  refine ad_M1 (k := 0) rfl (by simp [Value.category]) rfl (Nat.le_of_ble_eq_true rfl) ?_
  simp only [List.map_cons, List.map_nil, List.replicate, List.cons_append, List.nil_append]
  refine ad_aload_n dX7_ancestors_0 rfl ?_
  refine gf_X7_10 rfl dX7_ancestors_1 ?_
  refine ad_iload_n dX7_ancestors_4 rfl ?_
  refine ad_cv1f rfl cl_X7_109 dX7_ancestors_5 (c_X4_holds (by decide) a1.1 a1.2 hv) (by omega) (by show _ < 3; omega) (Nat.le_of_ble_eq_true rfl) ?_
  refine ad_ifp_ne 17 dX7_ancestors_8 (by decide) (fun h8 => ?_) (fun h8 => ?_)
  · skip
    have hv10 := w2 _ h8.2
    have hB := (r6 _ h8.2).2.2.1
    have hbr := w5 _ h8.2
    have hbg : -1 ≤ ad_aB (ad_cA C) v.toNat ∧ ad_aB (ad_cA C) v.toNat < 10 := by
      by_cases hz : ad_aB (ad_cA C) v.toNat = -1
      · omega
      · have := (hbr.2 hz).1; omega
    have hsz := ad_sz a1.1 a1.2 h8.2
    have hl := (w3 v.toNat h8.2).1
    refine ad_aload_n dX7_ancestors_17 rfl ?_
    refine gf_X7_10 rfl dX7_ancestors_18 ?_
    refine gf_X7_113 rfl (by omega) dX7_ancestors_21 ?_
    refine ad_iload_n dX7_ancestors_24 rfl ?_
    refine ad_aald dX7_ancestors_25 (by omega) (by omega) (by omega) ?_
    refine gf_X7_236 rfl (by omega) dX7_ancestors_26 ?_
    refine ad_iconst dX7_ancestors_29 ?_
    refine ad_iload_n dX7_ancestors_30 rfl ?_
    refine ad_ishl dX7_ancestors_31 ?_
    refine ad_iconst dX7_ancestors_32 ?_
    refine ad_ixor dX7_ancestors_33 ?_
    refine ad_iand dX7_ancestors_34 ?_
    exact ad_reti dX7_ancestors_35 rfl (by
      have e : ad_m_ancestors C v = (((ad_bits (fun w => ad_reach (ad_aP (ad_cA C)) (ad_aQ (ad_cA C)) v.toNat w && !(w == v.toNat)) : Nat) : Int), C) := by
        unfold ad_m_ancestors
        (repeat' split) <;> first | with_reducible rfl | contradiction | (exfalso; omega) | rfl | (exfalso; simp_all; omega) | (simp_all; done)
      rw [e]
      exact ⟨by
        have hz := ad_one_bits (k := v.toNat) (by omega)
        rw [show ((v.toNat : Nat) : Int) = v by omega] at hz
        rw [(r7 v.toNat (w2 _ h8.2)).2.2, hz, ad_not_bits], hC, ad_fr.refl⟩)
  · show ad_R _ _ _ _ 11 _ _ _
    refine ad_aload_n dX7_ancestors_11 rfl ?_
    refine ad_iconst dX7_ancestors_12 ?_
    refine ad_cv1q rfl cl_X7_67 dX7_ancestors_13 (c_X7_refuse hC (by decide)) (by omega) (by show _ < 1; omega) (Nat.le_of_ble_eq_true rfl) (fun x13 s13 q13 => ?_)
    obtain ⟨rfl, c13, f13⟩ := q13
    exact ad_reti dX7_ancestors_16 rfl (by
      have e : ad_m_ancestors C v = ad_no C 1 := by
        unfold ad_m_ancestors
        (repeat' split) <;> first | with_reducible rfl | contradiction | (exfalso; omega) | rfl | (exfalso; simp_all; omega) | (simp_all; done)
      rw [e]
      exact ⟨rfl, c13, f13⟩)
theorem c_X7_twin {g : ad_G} {d : Nat} {σ : ad_Mem} {C : ad_C7} {v : Int} (hC : ad_c7 σ C) (hv : ad_rng v) (h4d : 5 ≤ d) : ad_Q g mX7_twin d [ad_rf g 7 0, ad_iv v] σ (fun x m => ad_an7 σ x m (ad_m_twin C v)) := by
  have hC0 := hC
  obtain ⟨a1, a2, a3, a4, a5, a6, a7, a8, a9⟩ := hC0
  obtain ⟨z1, z2, z3, z4⟩ := ad_c7_sz hC
  obtain ⟨r1, r2, r3, r4, r5, r6, r7, r8⟩ := a1.1
  obtain ⟨w1, w2, w3, w4, w5, w6, w7, w8, w9⟩ := a1.2
  refine ad_M1 (k := 0) rfl (by simp [Value.category]) rfl (Nat.le_of_ble_eq_true rfl) ?_
  simp only [List.map_cons, List.map_nil, List.replicate, List.cons_append, List.nil_append]
  refine ad_aload_n dX7_twin_0 rfl ?_
  refine gf_X7_10 rfl dX7_twin_1 ?_
  refine ad_iload_n dX7_twin_4 rfl ?_
  refine ad_cv1f rfl cl_X7_109 dX7_twin_5 (c_X4_holds (by decide) a1.1 a1.2 hv) (by omega) (by show _ < 3; omega) (Nat.le_of_ble_eq_true rfl) ?_
  refine ad_ifp_ne 17 dX7_twin_8 (by decide) (fun h8 => ?_) (fun h8 => ?_)
  · skip
    refine ad_aload_n dX7_twin_17 rfl ?_
    refine gf_X7_10 rfl dX7_twin_18 ?_
    refine ad_iload_n dX7_twin_21 rfl ?_
    refine ad_cv1f rfl cl_X7_242 dX7_twin_22 ((by
      have hz := c_X4_leastTwin (g := g) (d := d - 1) (v := v.toNat) (by decide) a1.1 a1.2 (by omega) h8.2
      rw [show ((v.toNat : Nat) : Int) = v by omega] at hz
      exact hz)) (by omega) (by show _ < 3; omega) (Nat.le_of_ble_eq_true rfl) ?_
    exact ad_reti dX7_twin_25 rfl (by
      have e : ad_m_twin C v = (((ad_twin (ad_cA C) v.toNat : Nat) : Int), C) := by
        unfold ad_m_twin
        (repeat' split) <;> first | with_reducible rfl | contradiction | (exfalso; omega) | rfl | (exfalso; simp_all; omega) | (simp_all; done)
      rw [e]
      exact ⟨rfl, hC, ad_fr.refl⟩)
  · show ad_R _ _ _ _ 11 _ _ _
    refine ad_aload_n dX7_twin_11 rfl ?_
    refine ad_iconst dX7_twin_12 ?_
    refine ad_cv1q rfl cl_X7_67 dX7_twin_13 (c_X7_refuse hC (by decide)) (by omega) (by show _ < 1; omega) (Nat.le_of_ble_eq_true rfl) (fun x13 s13 q13 => ?_)
    obtain ⟨rfl, c13, f13⟩ := q13
    exact ad_reti dX7_twin_16 rfl (by
      have e : ad_m_twin C v = ad_no C 1 := by
        unfold ad_m_twin
        (repeat' split) <;> first | with_reducible rfl | contradiction | (exfalso; omega) | rfl | (exfalso; simp_all; omega) | (simp_all; done)
      rw [e]
      exact ⟨rfl, c13, f13⟩)
theorem c_X7_version {g : ad_G} {d : Nat} {σ : ad_Mem} {C : ad_C7} {v w : Int} (hC : ad_c7 σ C) (hv : ad_rng v) (hw : ad_rng w) (h4d : 4 ≤ d) : ad_Q g mX7_version d [ad_rf g 7 0, ad_iv v, ad_iv w] σ (fun x m => ad_an7 σ x m (ad_m_version C v w)) := by
  have hC0 := hC
  obtain ⟨a1, a2, a3, a4, a5, a6, a7, a8, a9⟩ := hC0
  obtain ⟨z1, z2, z3, z4⟩ := ad_c7_sz hC
  obtain ⟨r1, r2, r3, r4, r5, r6, r7, r8⟩ := a1.1
  obtain ⟨w1, w2, w3, w4, w5, w6, w7, w8, w9⟩ := a1.2
  refine ad_M1 (k := 1) rfl (by simp [Value.category]) rfl (Nat.le_of_ble_eq_true rfl) ?_
  simp only [List.map_cons, List.map_nil, List.replicate, List.cons_append, List.nil_append]
  refine ad_aload_n dX7_version_0 rfl ?_
  refine gf_X7_10 rfl dX7_version_1 ?_
  refine ad_iload_n dX7_version_4 rfl ?_
  refine ad_cv1f rfl cl_X7_109 dX7_version_5 (c_X4_holds (by decide) a1.1 a1.2 hv) (by omega) (by show _ < 3; omega) (Nat.le_of_ble_eq_true rfl) ?_
  refine ad_ifp_ne 17 dX7_version_8 (by decide) (fun h8 => ?_) (fun h8 => ?_)
  · skip
    have hv10 := w2 _ h8.2
    have hB := (r6 _ h8.2).2.2.1
    have hbr := w5 _ h8.2
    have hbg : -1 ≤ ad_aB (ad_cA C) v.toNat ∧ ad_aB (ad_cA C) v.toNat < 10 := by
      by_cases hz : ad_aB (ad_cA C) v.toNat = -1
      · omega
      · have := (hbr.2 hz).1; omega
    have hsz := ad_sz a1.1 a1.2 h8.2
    have hl := (w3 v.toNat h8.2).1
    refine ad_aload_n dX7_version_17 rfl ?_
    refine gf_X7_10 rfl dX7_version_18 ?_
    refine gf_X7_113 rfl (by omega) dX7_version_21 ?_
    refine ad_iload_n dX7_version_24 rfl ?_
    refine ad_aald dX7_version_25 (by omega) (by omega) (by omega) ?_
    refine ad_astore_n dX7_version_26 (by decide) rfl (by dsimp only [ad_set]) ?_
    refine ad_iload_n dX7_version_27 rfl ?_
    by_cases hs28_0 : w = 0
    · refine ad_table dX7_version_28 (by omega) 80 (by rw [hs28_0]; rfl) ?_
      refine ad_aload_n dX7_version_80 rfl ?_
      refine gf_X7_117 rfl (by omega) dX7_version_81 ?_
      refine gf_X7_81 rfl (by omega) dX7_version_84 ?_
      exact ad_reti dX7_version_87 rfl (by
        have e : ad_m_version C v w = (((ad_aL (ad_cA C) v.toNat).length : Int), C) := by
          unfold ad_m_version
          (repeat' split) <;> first | with_reducible rfl | contradiction | (exfalso; omega) | rfl | (exfalso; simp_all; omega) | (simp_all; done)
        rw [e]
        exact ⟨by rw [hsz], hC, ad_fr.refl⟩)
    by_cases hs28_1 : w = 1
    · refine ad_table dX7_version_28 (by omega) 88 (by rw [hs28_1]; rfl) ?_
      refine ad_aload_n dX7_version_88 rfl ?_
      refine gf_X7_177 rfl (by omega) dX7_version_89 ?_
      refine ad_cs1f rfl cl_X7_139 dX7_version_92 (c_X7_orLacking (by rw [(r7 v.toNat (w2 _ h8.2)).1]; have := w4 v.toNat; omega)) (by omega) (Nat.le_of_ble_eq_true rfl) ?_
      exact ad_reti dX7_version_95 rfl (by
        have e : ad_m_version C v w = (ad_lk (ad_aP (ad_cA C) v.toNat), C) := by
          unfold ad_m_version
          (repeat' split) <;> first | with_reducible rfl | contradiction | (exfalso; omega) | rfl | (exfalso; simp_all; omega) | (simp_all; done)
        rw [e]
        exact ⟨by rw [(r7 v.toNat (w2 _ h8.2)).1]; rfl, hC, ad_fr.refl⟩)
    by_cases hs28_2 : w = 2
    · refine ad_table dX7_version_28 (by omega) 96 (by rw [hs28_2]; rfl) ?_
      refine ad_aload_n dX7_version_96 rfl ?_
      refine gf_X7_180 rfl (by omega) dX7_version_97 ?_
      refine ad_cs1f rfl cl_X7_139 dX7_version_100 (c_X7_orLacking (by rw [(r7 v.toNat (w2 _ h8.2)).2.1]; have := w4 v.toNat; omega)) (by omega) (Nat.le_of_ble_eq_true rfl) ?_
      exact ad_reti dX7_version_103 rfl (by
        have e : ad_m_version C v w = (ad_lk (ad_aQ (ad_cA C) v.toNat), C) := by
          unfold ad_m_version
          (repeat' split) <;> first | with_reducible rfl | contradiction | (exfalso; omega) | rfl | (exfalso; simp_all; omega) | (simp_all; done)
        rw [e]
        exact ⟨by rw [(r7 v.toNat (w2 _ h8.2)).2.1]; rfl, hC, ad_fr.refl⟩)
    by_cases hs28_3 : w = 3
    · refine ad_table dX7_version_28 (by omega) 104 (by rw [hs28_3]; rfl) ?_
      refine ad_aload_n dX7_version_104 rfl ?_
      refine gf_X7_183 rfl (by omega) dX7_version_105 ?_
      refine ad_cs1f rfl cl_X7_139 dX7_version_108 (c_X7_orLacking (by rw [hB]; omega)) (by omega) (Nat.le_of_ble_eq_true rfl) ?_
      exact ad_reti dX7_version_111 rfl (by
        have e : ad_m_version C v w = (ad_lk (ad_aB (ad_cA C) v.toNat), C) := by
          unfold ad_m_version
          (repeat' split) <;> first | with_reducible rfl | contradiction | (exfalso; omega) | rfl | (exfalso; simp_all; omega) | (simp_all; done)
        rw [e]
        exact ⟨by rw [hB]; rfl, hC, ad_fr.refl⟩)
    by_cases hs28_4 : w = 4
    · refine ad_table dX7_version_28 (by omega) 112 (by rw [hs28_4]; rfl) ?_
      refine ad_aload_n dX7_version_112 rfl ?_
      refine gf_X7_10 rfl dX7_version_113 ?_
      refine ad_iload_n dX7_version_116 rfl ?_
      refine ad_cv1f rfl cl_X7_186 dX7_version_117 ((by
        have hz := c_X4_depthOf (g := g) (d := d - 1) (v := v.toNat) (by decide) a1.1 a1.2 (by omega) h8.2
        rw [show ((v.toNat : Nat) : Int) = v by omega] at hz
        exact hz)) (by omega) (by show _ < 3; omega) (Nat.le_of_ble_eq_true rfl) ?_
      exact ad_reti dX7_version_120 rfl (by
        have e : ad_m_version C v w = (((ad_dep (ad_cA C) v.toNat : Nat) : Int), C) := by
          unfold ad_m_version
          (repeat' split) <;> first | with_reducible rfl | contradiction | (exfalso; omega) | rfl | (exfalso; simp_all; omega) | (simp_all; done)
        rw [e]
        exact ⟨rfl, hC, ad_fr.refl⟩)
    by_cases hs28_5 : w = 5
    · refine ad_table dX7_version_28 (by omega) 121 (by rw [hs28_5]; rfl) ?_
      refine ad_aload_n dX7_version_121 rfl ?_
      refine ad_cv0f rfl cl_X7_189 dX7_version_122 (c_X6_cost (by omega) (by omega) (by rw [hB]; omega)) (by omega) (by show _ < 30; omega) (Nat.le_of_ble_eq_true rfl) ?_
      exact ad_reti dX7_version_125 rfl (by
        have e : ad_m_version C v w = (ad_cst (ad_cA C) v.toNat, C) := by
          unfold ad_m_version
          (repeat' split) <;> first | with_reducible rfl | contradiction | (exfalso; omega) | rfl | (exfalso; simp_all; omega) | (simp_all; done)
        rw [e]
        exact ⟨by rw [(ad_cst_mem a1.1 a1.2 h8.2).1], hC, ad_fr.refl⟩)
    by_cases hs28_6 : w = 6
    · refine ad_table dX7_version_28 (by omega) 126 (by rw [hs28_6]; rfl) ?_
      refine ad_aload_n dX7_version_126 rfl ?_
      refine gf_X7_192 rfl (by omega) dX7_version_127 ?_
      exact ad_reti dX7_version_130 rfl (by
        have e : ad_m_version C v w = (ad_aG (ad_cA C) v.toNat, C) := by
          unfold ad_m_version
          (repeat' split) <;> first | with_reducible rfl | contradiction | (exfalso; omega) | rfl | (exfalso; simp_all; omega) | (simp_all; done)
        rw [e]
        exact ⟨by rw [(r6 _ h8.2).2.1], hC, ad_fr.refl⟩)
    by_cases hs28_7 : w = 7
    · refine ad_table dX7_version_28 (by omega) 131 (by rw [hs28_7]; rfl) ?_
      refine ad_aload_n dX7_version_131 rfl ?_
      refine ad_cv0f rfl cl_X7_195 dX7_version_132 (c_X6_isSound (by omega) (by omega) (r5 _ (by omega)).1 (by rw [(r6 _ h8.2).2.1]; have := (w3 _ h8.2).2; omega)) (by omega) (by show _ < 30; omega) (Nat.le_of_ble_eq_true rfl) ?_
      refine ad_ifp_eq 142 dX7_version_135 (by decide) (fun h135 => ?_) (fun h135 => ?_)
      · skip
        refine ad_iconst dX7_version_142 ?_
        exact ad_reti dX7_version_143 rfl (by
          have e : ad_m_version C v w = (if ad_hs (ad_aL (ad_cA C) v.toNat) = ad_aG (ad_cA C) v.toNat then 1 else 0, C) := by
            unfold ad_m_version
            (repeat' split) <;> first | with_reducible rfl | contradiction | (exfalso; omega) | rfl | (exfalso; simp_all; omega) | (simp_all; done)
          rw [e]
          exact ⟨by rw [(r6 _ h8.2).1, (r6 _ h8.2).2.1] at h135; rw [if_neg h135], hC, ad_fr.refl⟩)
      · show ad_R _ _ _ _ 138 _ _ _
        refine ad_iconst dX7_version_138 ?_
        refine ad_goto 143 dX7_version_139 (by decide) ?_
        exact ad_reti dX7_version_143 rfl (by
          have e : ad_m_version C v w = (if ad_hs (ad_aL (ad_cA C) v.toNat) = ad_aG (ad_cA C) v.toNat then 1 else 0, C) := by
            unfold ad_m_version
            (repeat' split) <;> first | with_reducible rfl | contradiction | (exfalso; omega) | rfl | (exfalso; simp_all; omega) | (simp_all; done)
          rw [e]
          exact ⟨by rw [(r6 _ h8.2).1, (r6 _ h8.2).2.1] at h135; rw [if_pos h135], hC, ad_fr.refl⟩)
    by_cases hs28_8 : w = 8
    · refine ad_table dX7_version_28 (by omega) 144 (by rw [hs28_8]; rfl) ?_
      refine ad_aload_n dX7_version_144 rfl ?_
      refine ad_cv0f rfl cl_X7_168 dX7_version_145 (c_X6_isWhole (by omega) (by rw [hB]; omega)) (by omega) (by show _ < 30; omega) (Nat.le_of_ble_eq_true rfl) ?_
      refine ad_ifp_eq 155 dX7_version_148 (by decide) (fun h148 => ?_) (fun h148 => ?_)
      · skip
        refine ad_aload_n dX7_version_155 rfl ?_
        refine gf_X7_198 rfl (by omega) dX7_version_156 ?_
        refine gf_X7_201 rfl (by omega) dX7_version_159 ?_
        exact ad_reti dX7_version_162 rfl (by
          have e : ad_m_version C v w = (if ad_aB (ad_cA C) v.toNat = -1 then 0 else ((ad_aT (ad_cA C) v.toNat).length : Int), C) := by
            unfold ad_m_version
            (repeat' split) <;> first | with_reducible rfl | contradiction | (exfalso; omega) | rfl | (exfalso; simp_all; omega) | (simp_all; done)
          rw [e]
          exact ⟨by rw [hB] at h148; rw [if_neg h148, ad_dw_len (r5 _ (by omega)).2 ((r6 _ h8.2).2.2.2 h148)], hC, ad_fr.refl⟩)
      · show ad_R _ _ _ _ 151 _ _ _
        refine ad_iconst dX7_version_151 ?_
        refine ad_goto 162 dX7_version_152 (by decide) ?_
        exact ad_reti dX7_version_162 rfl (by
          have e : ad_m_version C v w = (if ad_aB (ad_cA C) v.toNat = -1 then 0 else ((ad_aT (ad_cA C) v.toNat).length : Int), C) := by
            unfold ad_m_version
            (repeat' split) <;> first | with_reducible rfl | contradiction | (exfalso; omega) | rfl | (exfalso; simp_all; omega) | (simp_all; done)
          rw [e]
          exact ⟨by rw [hB] at h148; rw [if_pos h148], hC, ad_fr.refl⟩)
    refine ad_table dX7_version_28 (by omega) 163 (by rw [if_pos (by omega)]; rfl) ?_
    refine ad_aload_n dX7_version_163 rfl ?_
    refine ad_bipush dX7_version_164 rfl ?_
    refine ad_cv1q rfl cl_X7_67 dX7_version_166 (c_X7_refuse hC (by decide)) (by omega) (by show _ < 1; omega) (Nat.le_of_ble_eq_true rfl) (fun x166 s166 q166 => ?_)
    obtain ⟨rfl, c166, f166⟩ := q166
    exact ad_reti dX7_version_169 rfl (by
      have e : ad_m_version C v w = ad_no C 2 := by
        unfold ad_m_version
        (repeat' split) <;> first | with_reducible rfl | contradiction | (exfalso; omega) | rfl | (exfalso; simp_all; omega) | (simp_all; done)
      rw [e]
      exact ⟨rfl, c166, f166⟩)
  · show ad_R _ _ _ _ 11 _ _ _
    refine ad_aload_n dX7_version_11 rfl ?_
    refine ad_iconst dX7_version_12 ?_
    refine ad_cv1q rfl cl_X7_67 dX7_version_13 (c_X7_refuse hC (by decide)) (by omega) (by show _ < 1; omega) (Nat.le_of_ble_eq_true rfl) (fun x13 s13 q13 => ?_)
    obtain ⟨rfl, c13, f13⟩ := q13
    exact ad_reti dX7_version_16 rfl (by
      have e : ad_m_version C v w = ad_no C 1 := by
        unfold ad_m_version
        (repeat' split) <;> first | with_reducible rfl | contradiction | (exfalso; omega) | rfl | (exfalso; simp_all; omega) | (simp_all; done)
      rw [e]
      exact ⟨rfl, c13, f13⟩)
