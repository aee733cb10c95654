theorem e_llen : e_kL.length ≤ 1153 := by decide +kernel
set_option maxRecDepth 100000 in
theorem e_lawck : e_ckM e_p19 e_fin false false 99 1 4 code e_kL = true := by
  unfold e_ckM
  rw [List.all_eq_true]
  intro pc hpc
  exact e_lall pc (Nat.lt_of_lt_of_le (List.mem_range.mp hpc) e_llen)
