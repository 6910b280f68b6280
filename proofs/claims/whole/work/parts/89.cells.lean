/-! ===== both blocks are the whole memory ===== -/
theorem nb_cover : ad_cells.all (fun q => (ckeys ++ mkeys).contains q) = true := by decide +kernel
theorem nb_cover_in {k i : Nat} (h : i < ad_cnt k) : (k, i) ∈ ckeys ++ mkeys := by
  have h1 := List.all_eq_true.mp nb_cover (k, i) (ad_mem.mpr h)
  exact List.contains_iff_mem.mp h1
theorem nb_kcls : ckeys.all (fun q => q.1 != 8 && decide (q.1 < 21)) = true := by decide +kernel
theorem nb_kmod : mkeys.all (fun q => q.1 == 8 || decide (21 ≤ q.1)) = true := by decide +kernel
