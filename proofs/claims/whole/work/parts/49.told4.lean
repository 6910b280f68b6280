/-! ===== Told: a statement runs ===== -/
theorem ad_dg_rng (S : List Int) (i : Int) : -1 ≤ ad_dg S i ∧ ad_dg S i ≤ 9 ∧ (ad_isD (ad_sg S i) → 0 ≤ ad_dg S i) := by
  unfold ad_dg
  by_cases h : ad_isD (ad_sg S i)
  · rw [if_pos h]; unfold ad_isD at h; exact ⟨by omega, by omega, fun _ => by omega⟩
  · rw [if_neg h]; exact ⟨by omega, by omega, fun q => absurd q h⟩
/-- what the form of a statement gives -/
def ad_frm (S : List Int) (i : Int) : Prop := (ad_sg S i = 118 → 1 ≤ ad_lf S (i + 3)) ∧ (ad_sg S i = 107 → ad_isD (ad_sg S (i + 2))) ∧ (ad_sg S i = 120 → ad_isL (ad_sg S (i + 4)))
def ad_t_run (A : ad_Ar) (S : List Int) (i : Int) : Option ad_Ar :=
  if ad_sg S i = 118 then ad_t_comes A S (i + 3) (ad_dg S (i + 1)) (ad_dg S (i + 2))
  else if ad_sg S i = 104 then ad_t_points A (ad_dg S (i + 1)) (ad_dg S (i + 2))
  else if ad_sg S i = 107 then ad_t_becomes A (ad_dg S (i + 1)) (ad_dg S (i + 2))
  else if ad_sg S i = 100 then ad_t_binds A (ad_dg S (i + 1))
  else if ad_sg S i = 114 then some (ad_rp A)
  else if ad_sg S i = 99 then some (ad_gc A)
  else if ad_sg S i = 120 then ad_t_breaks A (ad_dg S (i + 1)) (10 * ad_dg S (i + 2) + ad_dg S (i + 3)) (ad_sg S (i + 4) - 97)
  else none
theorem c_X5_runsAt {g : ad_G} {d : Nat} {σ : ad_Mem} {s : Nat} {A : ad_Ar} (hs : s < 3) (hr : ad_rC σ s A) (hw : ad_wA A) (hn34 : ad_nw σ 34) (hd30 : ad_dr σ 30) {i : Int} {S : List Int} (hi : 0 ≤ i ∧ i ≤ 800) (hw33 : ad_nw σ 33) (hS : ad_nl σ 33 = S) (hb : ∀ x ∈ S, 0 ≤ x ∧ x ≤ 255) (hf : ad_frm S i) (h6d : 6 ≤ d) : ad_Q g mX5_runsAt d [ad_rf g 5 0, ad_iv i, ad_rf g 4 s, ad_rf g 3 0] σ (fun x m => ad_po σ s A x m (ad_t_run A S i)) := by
  refine ad_M1 (k := 2) rfl (by simp [Value.category]) rfl (Nat.le_of_ble_eq_true rfl) ?_
  simp only [List.map_cons, List.map_nil, List.replicate, List.cons_append, List.nil_append]
  refine ad_aload_n dX5_runsAt_0 rfl ?_
  refine ad_iload_n dX5_runsAt_1 rfl ?_
  refine ad_iconst dX5_runsAt_2 ?_
  refine ad_iadd dX5_runsAt_3 ?_
  refine ad_cv1f rfl cl_X5_83 dX5_runsAt_4 (c_X5_digitAt hw33 hS hb (by omega) (by omega)) (by omega) (by show _ < 1; omega) (Nat.le_of_ble_eq_true rfl) ?_
  refine ad_istore dX5_runsAt_7 (by decide) rfl (by dsimp only [ad_set]) ?_
  refine ad_aload_n dX5_runsAt_9 rfl ?_
  refine ad_iload_n dX5_runsAt_10 rfl ?_
  refine ad_iconst dX5_runsAt_11 ?_
  refine ad_iadd dX5_runsAt_12 ?_
  refine ad_cv1f rfl cl_X5_83 dX5_runsAt_13 (c_X5_digitAt hw33 hS hb (by omega) (by omega)) (by omega) (by show _ < 1; omega) (Nat.le_of_ble_eq_true rfl) ?_
  refine ad_istore dX5_runsAt_16 (by decide) rfl (by dsimp only [ad_set]) ?_
  refine ad_aload_n dX5_runsAt_18 rfl ?_
  refine gf_X5_14 rfl dX5_runsAt_19 ?_
  refine ad_iload_n dX5_runsAt_22 rfl ?_
  refine ad_cv1f rfl cl_X5_34 dX5_runsAt_23 (c_X2_at (by omega) hw33 (by omega)) (by omega) (by show _ < 36; omega) (Nat.le_of_ble_eq_true rfl) ?_
  rw [ad_sg_at hw33 hS]
  have hsr := ad_sg_rng hb i
  have g1 := ad_dg_rng S (i + 1)
  have g2 := ad_dg_rng S (i + 2)
  have g3 := ad_dg_rng S (i + 3)
  by_cases hs26_99 : ad_sg S i = 99
  · refine ad_table dX5_runsAt_26 (by omega) 197 (by rw [hs26_99]; rfl) ?_
    refine ad_aload_n dX5_runsAt_197 rfl ?_
    refine ad_cv0q rfl cl_X5_126 dX5_runsAt_198 (c_X4_dropGarbage hs hr hw (by omega)) (by omega) (by show _ < 3; omega) (Nat.le_of_ble_eq_true rfl) (fun x198 s198 q198 => ?_)
    obtain ⟨rfl, p1, p2⟩ := q198
    refine ad_pop dX5_runsAt_201 rfl ?_
    refine ad_iconst dX5_runsAt_202 ?_
    exact ad_ret1 dX5_runsAt_203 rfl (by
      have e : ad_t_run A S i = some (ad_gc A) := by
        unfold ad_t_run
        (repeat' split) <;> first | with_reducible rfl | contradiction | (exfalso; omega) | rfl | (exfalso; simp_all; omega) | (simp_all; done)
      rw [e]
      exact ad_po_yes hs p1 (ad_wA_gc hw) p2 hn34 hd30)
  by_cases hs26_100 : ad_sg S i = 100
  · refine ad_table dX5_runsAt_26 (by omega) 161 (by rw [hs26_100]; rfl) ?_
    refine ad_aload_n dX5_runsAt_161 rfl ?_
    refine ad_aload_n dX5_runsAt_162 rfl ?_
    refine ad_iload dX5_runsAt_163 rfl ?_
    refine ad_cv2q rfl cl_X5_97 dX5_runsAt_165 (c_X5_binds hs hr hw hn34 hd30 (by omega)) (by omega) (by show _ < 1; omega) (Nat.le_of_ble_eq_true rfl) (fun x165 s165 q165 => ?_)
    obtain ⟨rfl, y165⟩ := q165
    exact ad_retp dX5_runsAt_168 rfl (by
      have e : ad_t_run A S i = ad_t_binds A (ad_dg S (i + 1)) := by
        unfold ad_t_run
        (repeat' split) <;> first | with_reducible rfl | contradiction | (exfalso; omega) | rfl | (exfalso; simp_all; omega) | (simp_all; done)
      rw [e]
      exact ⟨rfl, y165⟩)
  by_cases hs26_101 : ad_sg S i = 101
  · refine ad_table dX5_runsAt_26 (by omega) 228 (by rw [hs26_101]; rfl) ?_
    refine ad_iconst dX5_runsAt_228 ?_
    exact ad_ret0 dX5_runsAt_229 rfl (by
      have e : ad_t_run A S i = none := by
        unfold ad_t_run
        (repeat' split) <;> first | with_reducible rfl | contradiction | (exfalso; omega) | rfl | (exfalso; simp_all; omega) | (simp_all; done)
      rw [e]
      exact ad_po_no hr hw hn34 hd30)
  by_cases hs26_102 : ad_sg S i = 102
  · refine ad_table dX5_runsAt_26 (by omega) 228 (by rw [hs26_102]; rfl) ?_
    refine ad_iconst dX5_runsAt_228 ?_
    exact ad_ret0 dX5_runsAt_229 rfl (by
      have e : ad_t_run A S i = none := by
        unfold ad_t_run
        (repeat' split) <;> first | with_reducible rfl | contradiction | (exfalso; omega) | rfl | (exfalso; simp_all; omega) | (simp_all; done)
      rw [e]
      exact ad_po_no hr hw hn34 hd30)
  by_cases hs26_103 : ad_sg S i = 103
  · refine ad_table dX5_runsAt_26 (by omega) 228 (by rw [hs26_103]; rfl) ?_
    refine ad_iconst dX5_runsAt_228 ?_
    exact ad_ret0 dX5_runsAt_229 rfl (by
      have e : ad_t_run A S i = none := by
        unfold ad_t_run
        (repeat' split) <;> first | with_reducible rfl | contradiction | (exfalso; omega) | rfl | (exfalso; simp_all; omega) | (simp_all; done)
      rw [e]
      exact ad_po_no hr hw hn34 hd30)
  by_cases hs26_104 : ad_sg S i = 104
  · refine ad_table dX5_runsAt_26 (by omega) 141 (by rw [hs26_104]; rfl) ?_
    refine ad_aload_n dX5_runsAt_141 rfl ?_
    refine ad_aload_n dX5_runsAt_142 rfl ?_
    refine ad_iload dX5_runsAt_143 rfl ?_
    refine ad_iload dX5_runsAt_145 rfl ?_
    refine ad_cv3q rfl cl_X5_90 dX5_runsAt_147 (c_X5_points hs hr hw hn34 hd30 (by omega) (by omega) (by omega)) (by omega) (by show _ < 1; omega) (Nat.le_of_ble_eq_true rfl) (fun x147 s147 q147 => ?_)
    obtain ⟨rfl, y147⟩ := q147
    exact ad_retp dX5_runsAt_150 rfl (by
      have e : ad_t_run A S i = ad_t_points A (ad_dg S (i + 1)) (ad_dg S (i + 2)) := by
        unfold ad_t_run
        (repeat' split) <;> first | with_reducible rfl | contradiction | (exfalso; omega) | rfl | (exfalso; simp_all; omega) | (simp_all; done)
      rw [e]
      exact ⟨rfl, y147⟩)
  by_cases hs26_105 : ad_sg S i = 105
  · refine ad_table dX5_runsAt_26 (by omega) 228 (by rw [hs26_105]; rfl) ?_
    refine ad_iconst dX5_runsAt_228 ?_
    exact ad_ret0 dX5_runsAt_229 rfl (by
      have e : ad_t_run A S i = none := by
        unfold ad_t_run
        (repeat' split) <;> first | with_reducible rfl | contradiction | (exfalso; omega) | rfl | (exfalso; simp_all; omega) | (simp_all; done)
      rw [e]
      exact ad_po_no hr hw hn34 hd30)
  by_cases hs26_106 : ad_sg S i = 106
  · refine ad_table dX5_runsAt_26 (by omega) 228 (by rw [hs26_106]; rfl) ?_
    refine ad_iconst dX5_runsAt_228 ?_
    exact ad_ret0 dX5_runsAt_229 rfl (by
      have e : ad_t_run A S i = none := by
        unfold ad_t_run
        (repeat' split) <;> first | with_reducible rfl | contradiction | (exfalso; omega) | rfl | (exfalso; simp_all; omega) | (simp_all; done)
      rw [e]
      exact ad_po_no hr hw hn34 hd30)
  by_cases hs26_107 : ad_sg S i = 107
  · refine ad_table dX5_runsAt_26 (by omega) 151 (by rw [hs26_107]; rfl) ?_
    refine ad_aload_n dX5_runsAt_151 rfl ?_
    refine ad_aload_n dX5_runsAt_152 rfl ?_
    refine ad_iload dX5_runsAt_153 rfl ?_
    refine ad_iload dX5_runsAt_155 rfl ?_
    refine ad_cv3q rfl cl_X5_94 dX5_runsAt_157 (c_X5_becomes hs hr hw hn34 hd30 (by omega) ⟨g2.2.2 (hf.2.1 hs26_107), by omega⟩) (by omega) (by show _ < 1; omega) (Nat.le_of_ble_eq_true rfl) (fun x157 s157 q157 => ?_)
    obtain ⟨rfl, y157⟩ := q157
    exact ad_retp dX5_runsAt_160 rfl (by
      have e : ad_t_run A S i = ad_t_becomes A (ad_dg S (i + 1)) (ad_dg S (i + 2)) := by
        unfold ad_t_run
        (repeat' split) <;> first | with_reducible rfl | contradiction | (exfalso; omega) | rfl | (exfalso; simp_all; omega) | (simp_all; done)
      rw [e]
      exact ⟨rfl, y157⟩)
  by_cases hs26_108 : ad_sg S i = 108
  · refine ad_table dX5_runsAt_26 (by omega) 228 (by rw [hs26_108]; rfl) ?_
    refine ad_iconst dX5_runsAt_228 ?_
    exact ad_ret0 dX5_runsAt_229 rfl (by
      have e : ad_t_run A S i = none := by
        unfold ad_t_run
        (repeat' split) <;> first | with_reducible rfl | contradiction | (exfalso; omega) | rfl | (exfalso; simp_all; omega) | (simp_all; done)
      rw [e]
      exact ad_po_no hr hw hn34 hd30)
  by_cases hs26_109 : ad_sg S i = 109
  · refine ad_table dX5_runsAt_26 (by omega) 228 (by rw [hs26_109]; rfl) ?_
    refine ad_iconst dX5_runsAt_228 ?_
    exact ad_ret0 dX5_runsAt_229 rfl (by
      have e : ad_t_run A S i = none := by
        unfold ad_t_run
        (repeat' split) <;> first | with_reducible rfl | contradiction | (exfalso; omega) | rfl | (exfalso; simp_all; omega) | (simp_all; done)
      rw [e]
      exact ad_po_no hr hw hn34 hd30)
  by_cases hs26_110 : ad_sg S i = 110
  · refine ad_table dX5_runsAt_26 (by omega) 228 (by rw [hs26_110]; rfl) ?_
    refine ad_iconst dX5_runsAt_228 ?_
    exact ad_ret0 dX5_runsAt_229 rfl (by
      have e : ad_t_run A S i = none := by
        unfold ad_t_run
        (repeat' split) <;> first | with_reducible rfl | contradiction | (exfalso; omega) | rfl | (exfalso; simp_all; omega) | (simp_all; done)
      rw [e]
      exact ad_po_no hr hw hn34 hd30)
  by_cases hs26_111 : ad_sg S i = 111
  · refine ad_table dX5_runsAt_26 (by omega) 228 (by rw [hs26_111]; rfl) ?_
    refine ad_iconst dX5_runsAt_228 ?_
    exact ad_ret0 dX5_runsAt_229 rfl (by
      have e : ad_t_run A S i = none := by
        unfold ad_t_run
        (repeat' split) <;> first | with_reducible rfl | contradiction | (exfalso; omega) | rfl | (exfalso; simp_all; omega) | (simp_all; done)
      rw [e]
      exact ad_po_no hr hw hn34 hd30)
  by_cases hs26_112 : ad_sg S i = 112
  · refine ad_table dX5_runsAt_26 (by omega) 228 (by rw [hs26_112]; rfl) ?_
    refine ad_iconst dX5_runsAt_228 ?_
    exact ad_ret0 dX5_runsAt_229 rfl (by
      have e : ad_t_run A S i = none := by
        unfold ad_t_run
        (repeat' split) <;> first | with_reducible rfl | contradiction | (exfalso; omega) | rfl | (exfalso; simp_all; omega) | (simp_all; done)
      rw [e]
      exact ad_po_no hr hw hn34 hd30)
  by_cases hs26_113 : ad_sg S i = 113
  · refine ad_table dX5_runsAt_26 (by omega) 228 (by rw [hs26_113]; rfl) ?_
    refine ad_iconst dX5_runsAt_228 ?_
    exact ad_ret0 dX5_runsAt_229 rfl (by
      have e : ad_t_run A S i = none := by
        unfold ad_t_run
        (repeat' split) <;> first | with_reducible rfl | contradiction | (exfalso; omega) | rfl | (exfalso; simp_all; omega) | (simp_all; done)
      rw [e]
      exact ad_po_no hr hw hn34 hd30)
  by_cases hs26_114 : ad_sg S i = 114
  · refine ad_table dX5_runsAt_26 (by omega) 169 (by rw [hs26_114]; rfl) ?_
    refine ad_aload_n dX5_runsAt_169 rfl ?_
    refine ad_aload_n dX5_runsAt_170 rfl ?_
    refine ad_cv1v rfl cl_X5_101 dX5_runsAt_171 (c_X3_learn hs) (by omega) (by show _ < 1; omega) (Nat.le_of_ble_eq_true rfl) (fun s171 q171 => ?_)
    obtain ⟨L1, L2, L3⟩ := ad_lrn q171
    have L5 : ad_rC s171 s A := ad_rC_TP hs hr hw L1 (fun _ _ h => h)
    have L6 := L5.2.2.1
    have w8 := hw.2.2.2.2.2.2.2.1
    refine ad_aload_n dX5_runsAt_174 rfl ?_
    refine ad_aload_n dX5_runsAt_175 rfl ?_
    refine gf_X5_107 rfl (by omega) dX5_runsAt_176 ?_
    rw [L6.1]
    refine ad_aload_n dX5_runsAt_179 rfl ?_
    refine gf_X5_112 rfl (by omega) dX5_runsAt_180 ?_
    rw [L6.2.1]
    refine ad_aload_n dX5_runsAt_183 rfl ?_
    refine gf_X5_115 rfl (by omega) dX5_runsAt_184 ?_
    rw [L6.2.2]
    refine ad_cv3v rfl cl_X5_118 dX5_runsAt_187 (c_X3_make hs L5 hw (by omega) q171.1 w8.1 w8.2.1 w8.2.2 (L2 _ hw) (L3 hd30)) (by omega) (by show _ < 1; omega) (Nat.le_of_ble_eq_true rfl) (fun s187 q187 => ?_)
    obtain ⟨N1, N2, N3⟩ := ad_pS_bs hw w8.2.1.1 w8.2.2 q187.1
    refine ad_aload_n dX5_runsAt_190 rfl ?_
    refine ad_aload_n dX5_runsAt_191 rfl ?_
    refine ad_cv1v rfl cl_X5_122 dX5_runsAt_192 (c_X4_storeBy (bs := (ad_pln A (ad_aK A) (ad_aF A) (ad_aN A)).1) hs q187.1.1 hw (by omega) N1 N2 N3) (by omega) (by show _ < 3; omega) (Nat.le_of_ble_eq_true rfl) (fun s192 q192 => ?_)
    refine ad_iconst dX5_runsAt_195 ?_
    exact ad_ret1 dX5_runsAt_196 rfl (by
      have e : ad_t_run A S i = some (ad_rp A) := by
        unfold ad_t_run
        (repeat' split) <;> first | with_reducible rfl | contradiction | (exfalso; omega) | rfl | (exfalso; simp_all; omega) | (simp_all; done)
      rw [e]
      exact (by
        have ev : ∀ k i, ¬ (ad_Ts s k i ∨ ad_TP k i) → s192 k i = σ k i := fun k i z => ((q192.2 k i (fun q => z (Or.inl q))).trans (q187.2 k i (fun q => z (Or.inr q)))).trans (L1 k i (fun q => z (Or.inr q)))
        refine ⟨rfl, q192.1, ad_wA_rp hw, fun k i z => ev k i (fun q => z (q.elim Or.inl (fun q => Or.inr (Or.inr q)))), ad_nw_congr (ev _ _ (fun z => by unfold ad_Ts ad_TP at z; omega)) (ev _ _ (fun z => by unfold ad_Ts ad_TP at z; omega)) hn34, ad_dr_congr (q192.2 _ _ (fun z => by unfold ad_Ts at z; omega)) (q192.2 _ _ (fun z => by unfold ad_Ts at z; omega)) q187.1.2.2.2.2.2.2.2.2.2⟩))
  by_cases hs26_115 : ad_sg S i = 115
  · refine ad_table dX5_runsAt_26 (by omega) 228 (by rw [hs26_115]; rfl) ?_
    refine ad_iconst dX5_runsAt_228 ?_
    exact ad_ret0 dX5_runsAt_229 rfl (by
      have e : ad_t_run A S i = none := by
        unfold ad_t_run
        (repeat' split) <;> first | with_reducible rfl | contradiction | (exfalso; omega) | rfl | (exfalso; simp_all; omega) | (simp_all; done)
      rw [e]
      exact ad_po_no hr hw hn34 hd30)
  by_cases hs26_116 : ad_sg S i = 116
  · refine ad_table dX5_runsAt_26 (by omega) 228 (by rw [hs26_116]; rfl) ?_
    refine ad_iconst dX5_runsAt_228 ?_
    exact ad_ret0 dX5_runsAt_229 rfl (by
      have e : ad_t_run A S i = none := by
        unfold ad_t_run
        (repeat' split) <;> first | with_reducible rfl | contradiction | (exfalso; omega) | rfl | (exfalso; simp_all; omega) | (simp_all; done)
      rw [e]
      exact ad_po_no hr hw hn34 hd30)
  by_cases hs26_117 : ad_sg S i = 117
  · refine ad_table dX5_runsAt_26 (by omega) 228 (by rw [hs26_117]; rfl) ?_
    refine ad_iconst dX5_runsAt_228 ?_
    exact ad_ret0 dX5_runsAt_229 rfl (by
      have e : ad_t_run A S i = none := by
        unfold ad_t_run
        (repeat' split) <;> first | with_reducible rfl | contradiction | (exfalso; omega) | rfl | (exfalso; simp_all; omega) | (simp_all; done)
      rw [e]
      exact ad_po_no hr hw hn34 hd30)
  by_cases hs26_118 : ad_sg S i = 118
  · refine ad_table dX5_runsAt_26 (by omega) 128 (by rw [hs26_118]; rfl) ?_
    refine ad_aload_n dX5_runsAt_128 rfl ?_
    refine ad_iload_n dX5_runsAt_129 rfl ?_
    refine ad_iconst dX5_runsAt_130 ?_
    refine ad_iadd dX5_runsAt_131 ?_
    refine ad_aload_n dX5_runsAt_132 rfl ?_
    refine ad_iload dX5_runsAt_133 rfl ?_
    refine ad_iload dX5_runsAt_135 rfl ?_
    refine ad_cv4q rfl cl_X5_86 dX5_runsAt_137 (c_X5_comes hs hr hw hn34 hd30 (by omega) (by omega) (by omega) hw33 hS hb (hf.1 hs26_118) (by omega)) (by omega) (by show _ < 1; omega) (Nat.le_of_ble_eq_true rfl) (fun x137 s137 q137 => ?_)
    obtain ⟨rfl, y137⟩ := q137
    exact ad_retp dX5_runsAt_140 rfl (by
      have e : ad_t_run A S i = ad_t_comes A S (i + 3) (ad_dg S (i + 1)) (ad_dg S (i + 2)) := by
        unfold ad_t_run
        (repeat' split) <;> first | with_reducible rfl | contradiction | (exfalso; omega) | rfl | (exfalso; simp_all; omega) | (simp_all; done)
      rw [e]
      exact ⟨rfl, y137⟩)
  by_cases hs26_119 : ad_sg S i = 119
  · refine ad_table dX5_runsAt_26 (by omega) 228 (by rw [hs26_119]; rfl) ?_
    refine ad_iconst dX5_runsAt_228 ?_
    exact ad_ret0 dX5_runsAt_229 rfl (by
      have e : ad_t_run A S i = none := by
        unfold ad_t_run
        (repeat' split) <;> first | with_reducible rfl | contradiction | (exfalso; omega) | rfl | (exfalso; simp_all; omega) | (simp_all; done)
      rw [e]
      exact ad_po_no hr hw hn34 hd30)
  by_cases hs26_120 : ad_sg S i = 120
  · refine ad_table dX5_runsAt_26 (by omega) 204 (by rw [hs26_120]; rfl) ?_
    refine ad_aload_n dX5_runsAt_204 rfl ?_
    refine ad_iload_n dX5_runsAt_205 rfl ?_
    refine ad_iconst dX5_runsAt_206 ?_
    refine ad_iadd dX5_runsAt_207 ?_
    refine ad_aload_n dX5_runsAt_208 rfl ?_
    refine ad_iload dX5_runsAt_209 rfl ?_
    refine ad_bipush dX5_runsAt_211 rfl ?_
    refine ad_iload dX5_runsAt_213 rfl ?_
    refine ad_imul dX5_runsAt_215 ?_
    refine ad_aload_n dX5_runsAt_216 rfl ?_
    refine ad_iload_n dX5_runsAt_217 rfl ?_
    refine ad_iconst dX5_runsAt_218 ?_
    refine ad_iadd dX5_runsAt_219 ?_
    refine ad_cv1f rfl cl_X5_83 dX5_runsAt_220 (c_X5_digitAt hw33 hS hb (by omega) (by omega)) (by omega) (by show _ < 1; omega) (Nat.le_of_ble_eq_true rfl) ?_
    refine ad_iadd dX5_runsAt_223 ?_
    refine ad_cv4q rfl cl_X5_129 dX5_runsAt_224 (c_X5_breaks hs hr hw hn34 hd30 (by omega) (by omega) (by omega) hw33 hS (hf.2.2 hs26_120) (by omega)) (by omega) (by show _ < 1; omega) (Nat.le_of_ble_eq_true rfl) (fun x224 s224 q224 => ?_)
    obtain ⟨rfl, y224⟩ := q224
    exact ad_retp dX5_runsAt_227 rfl (by
      have e : ad_t_run A S i = ad_t_breaks A (ad_dg S (i + 1)) (10 * ad_dg S (i + 2) + ad_dg S (i + 3)) (ad_sg S (i + 4) - 97) := by
        unfold ad_t_run
        (repeat' split) <;> first | with_reducible rfl | contradiction | (exfalso; omega) | rfl | (exfalso; simp_all; omega) | (simp_all; done)
      rw [e]
      exact ⟨rfl, y224⟩)
  refine ad_table dX5_runsAt_26 (by omega) 228 (by rw [if_pos (by omega)]; rfl) ?_
  refine ad_iconst dX5_runsAt_228 ?_
  exact ad_ret0 dX5_runsAt_229 rfl (by
    have e : ad_t_run A S i = none := by
      unfold ad_t_run
      (repeat' split) <;> first | with_reducible rfl | contradiction | (exfalso; omega) | rfl | (exfalso; simp_all; omega) | (simp_all; done)
    rw [e]
    exact ad_po_no hr hw hn34 hd30)
