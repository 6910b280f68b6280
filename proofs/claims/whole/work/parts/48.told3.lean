/-! ===== Told: what fits a sign of a form ===== -/
/-- how many signs from i on fit c -/
def ad_ft (S : List Int) (c i : Int) : Int :=
  if c = 100 then (if ad_isD (ad_sg S i) then 1 else 0) else if c = 108 then (if ad_isL (ad_sg S i) then 1 else 0) else if c = 112 then (if ad_isD (ad_sg S i) ∨ ad_sg S i = 46 then 1 else 0) else if c = 115 then ad_lf S i else if ad_sg S i = c then 1 else 0
theorem c_X5_fitting {g : ad_G} {d : Nat} {σ : ad_Mem} {S : List Int} (hw : ad_nw σ 33) (hS : ad_nl σ 33 = S) (hb : ∀ x ∈ S, 0 ≤ x ∧ x ≤ 255) {c i : Int} (hc : 0 ≤ c ∧ c ≤ 255) (hi : 0 ≤ i ∧ i ≤ 1000) (h2d : 2 ≤ d) : ad_Q g mX5_fitting d [ad_rf g 5 0, ad_iv c, ad_iv i] σ (fun v m => v = ad_iv (ad_ft S c i) ∧ m = σ) := by
  refine ad_M1 (k := 1) rfl (by simp [Value.category]) rfl (Nat.le_of_ble_eq_true rfl) ?_
  simp only [List.map_cons, List.map_nil, List.replicate, List.cons_append, List.nil_append]
  refine ad_aload_n dX5_fitting_0 rfl ?_
  refine gf_X5_14 rfl dX5_fitting_1 ?_
  refine ad_iload_n dX5_fitting_4 rfl ?_
  refine ad_cv1f rfl cl_X5_34 dX5_fitting_5 (c_X2_at (by omega) hw (by omega)) (by omega) (by show _ < 36; omega) (Nat.le_of_ble_eq_true rfl) ?_
  rw [ad_sg_at hw hS]
  have hsr := ad_sg_rng hb i
  refine ad_istore_n dX5_fitting_8 (by decide) rfl (by dsimp only [ad_set]) ?_
  refine ad_iload_n dX5_fitting_9 rfl ?_
  by_cases hs10_100 : c = 100
  · refine ad_lookup dX5_fitting_10 (by omega) (by decide) 52 (by first | (rw [hs10_100]; rfl) | rw [hs10_100]) (by decide) ?_
    refine ad_iload_n dX5_fitting_52 rfl ?_
    refine ad_cs1f rfl cl_X5_73 dX5_fitting_53 (c_X5_isDigit (by omega)) (by omega) (Nat.le_of_ble_eq_true rfl) ?_
    refine ad_ifp_eq 63 dX5_fitting_56 (by decide) (fun h56 => ?_) (fun h56 => ?_)
    · skip
      refine ad_iconst dX5_fitting_63 ?_
      exact ad_reti dX5_fitting_64 rfl (by
        have e : ad_ft S c i = 0 := by
          unfold ad_ft
          (repeat' split) <;> first | with_reducible rfl | contradiction | (exfalso; omega) | rfl | (exfalso; simp_all; omega) | (simp_all; done)
        rw [e]
        exact ⟨rfl, rfl⟩)
    · show ad_R _ _ _ _ 59 _ _ _
      refine ad_iconst dX5_fitting_59 ?_
      refine ad_goto 64 dX5_fitting_60 (by decide) ?_
      exact ad_reti dX5_fitting_64 rfl (by
        have e : ad_ft S c i = 1 := by
          unfold ad_ft
          (repeat' split) <;> first | with_reducible rfl | contradiction | (exfalso; omega) | rfl | (exfalso; simp_all; omega) | (simp_all; done)
        rw [e]
        exact ⟨rfl, rfl⟩)
  by_cases hs10_108 : c = 108
  · refine ad_lookup dX5_fitting_10 (by omega) (by decide) 84 (by first | (rw [hs10_108]; rfl) | rw [hs10_108]) (by decide) ?_
    refine ad_iload_n dX5_fitting_84 rfl ?_
    refine ad_cs1f rfl cl_X5_77 dX5_fitting_85 (c_X5_isLetter (by omega)) (by omega) (Nat.le_of_ble_eq_true rfl) ?_
    refine ad_ifp_eq 95 dX5_fitting_88 (by decide) (fun h88 => ?_) (fun h88 => ?_)
    · skip
      refine ad_iconst dX5_fitting_95 ?_
      exact ad_reti dX5_fitting_96 rfl (by
        have e : ad_ft S c i = 0 := by
          unfold ad_ft
          (repeat' split) <;> first | with_reducible rfl | contradiction | (exfalso; omega) | rfl | (exfalso; simp_all; omega) | (simp_all; done)
        rw [e]
        exact ⟨rfl, rfl⟩)
    · show ad_R _ _ _ _ 91 _ _ _
      refine ad_iconst dX5_fitting_91 ?_
      refine ad_goto 96 dX5_fitting_92 (by decide) ?_
      exact ad_reti dX5_fitting_96 rfl (by
        have e : ad_ft S c i = 1 := by
          unfold ad_ft
          (repeat' split) <;> first | with_reducible rfl | contradiction | (exfalso; omega) | rfl | (exfalso; simp_all; omega) | (simp_all; done)
        rw [e]
        exact ⟨rfl, rfl⟩)
  by_cases hs10_112 : c = 112
  · refine ad_lookup dX5_fitting_10 (by omega) (by decide) 65 (by first | (rw [hs10_112]; rfl) | rw [hs10_112]) (by decide) ?_
    refine ad_iload_n dX5_fitting_65 rfl ?_
    refine ad_cs1f rfl cl_X5_73 dX5_fitting_66 (c_X5_isDigit (by omega)) (by omega) (Nat.le_of_ble_eq_true rfl) ?_
    refine ad_ifp_ne 78 dX5_fitting_69 (by decide) (fun h69 => ?_) (fun h69 => ?_)
    · skip
      refine ad_iconst dX5_fitting_78 ?_
      refine ad_goto 83 dX5_fitting_79 (by decide) ?_
      exact ad_reti dX5_fitting_83 rfl (by
        have e : ad_ft S c i = 1 := by
          unfold ad_ft
          (repeat' split) <;> first | with_reducible rfl | contradiction | (exfalso; omega) | rfl | (exfalso; simp_all; omega) | (simp_all; done)
        rw [e]
        exact ⟨rfl, rfl⟩)
    · show ad_R _ _ _ _ 72 _ _ _
      refine ad_iload_n dX5_fitting_72 rfl ?_
      refine ad_bipush dX5_fitting_73 rfl ?_
      refine ad_icmp_ne 82 dX5_fitting_75 (by decide) (by omega) (by omega) (fun h75 => ?_) (fun h75 => ?_)
      · skip
        refine ad_iconst dX5_fitting_82 ?_
        exact ad_reti dX5_fitting_83 rfl (by
          have e : ad_ft S c i = 0 := by
            unfold ad_ft
            (repeat' split) <;> first | with_reducible rfl | contradiction | (exfalso; omega) | rfl | (exfalso; simp_all; omega) | (simp_all; done)
          rw [e]
          exact ⟨rfl, rfl⟩)
      · show ad_R _ _ _ _ 78 _ _ _
        refine ad_iconst dX5_fitting_78 ?_
        refine ad_goto 83 dX5_fitting_79 (by decide) ?_
        exact ad_reti dX5_fitting_83 rfl (by
          have e : ad_ft S c i = 1 := by
            unfold ad_ft
            (repeat' split) <;> first | with_reducible rfl | contradiction | (exfalso; omega) | rfl | (exfalso; simp_all; omega) | (simp_all; done)
          rw [e]
          exact ⟨rfl, rfl⟩)
  by_cases hs10_115 : c = 115
  · refine ad_lookup dX5_fitting_10 (by omega) (by decide) 97 (by first | (rw [hs10_115]; rfl) | rw [hs10_115]) (by decide) ?_
    refine ad_aload_n dX5_fitting_97 rfl ?_
    refine ad_iload_n dX5_fitting_98 rfl ?_
    refine ad_cv1f rfl cl_X5_80 dX5_fitting_99 (c_X5_lettersFrom hw hS hb hi (by omega)) (by omega) (by show _ < 1; omega) (Nat.le_of_ble_eq_true rfl) ?_
    exact ad_reti dX5_fitting_102 rfl (by
      have e : ad_ft S c i = ad_lf S i := by
        unfold ad_ft
        (repeat' split) <;> first | with_reducible rfl | contradiction | (exfalso; omega) | rfl | (exfalso; simp_all; omega) | (simp_all; done)
      rw [e]
      exact ⟨rfl, rfl⟩)
  refine ad_lookup dX5_fitting_10 (by omega) (by decide) 103 (by simp [Op.lookupswitch.offset, Ne.symm hs10_100, Ne.symm hs10_108, Ne.symm hs10_112, Ne.symm hs10_115]; rfl) (by decide) ?_
  refine ad_iload_n dX5_fitting_103 rfl ?_
  refine ad_iload_n dX5_fitting_104 rfl ?_
  refine ad_icmp_ne 112 dX5_fitting_105 (by decide) (by omega) (by omega) (fun h105 => ?_) (fun h105 => ?_)
  · skip
    refine ad_iconst dX5_fitting_112 ?_
    exact ad_reti dX5_fitting_113 rfl (by
      have e : ad_ft S c i = 0 := by
        unfold ad_ft
        (repeat' split) <;> first | with_reducible rfl | contradiction | (exfalso; omega) | rfl | (exfalso; simp_all; omega) | (simp_all; done)
      rw [e]
      exact ⟨rfl, rfl⟩)
  · show ad_R _ _ _ _ 108 _ _ _
    refine ad_iconst dX5_fitting_108 ?_
    refine ad_goto 113 dX5_fitting_109 (by decide) ?_
    exact ad_reti dX5_fitting_113 rfl (by
      have e : ad_ft S c i = 1 := by
        unfold ad_ft
        (repeat' split) <;> first | with_reducible rfl | contradiction | (exfalso; omega) | rfl | (exfalso; simp_all; omega) | (simp_all; done)
      rw [e]
      exact ⟨rfl, rfl⟩)
