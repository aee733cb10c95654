def e_lf (pc : Nat) : Bool := match e_kL[pc]? with
  | some (some e) => (match decode code pc with | .ok q => decide (q.1 = e.1) && decide (q.2 = e.2.1) | .error _ => false) && decide ((if e_ln e.1 = 0 then e.2.1 else e_ln e.1) = e.2.1) && e_ckI e_p19 e_fin false false 99 1 4 pc e.1 e.2.2
  | _ => true
theorem e_rg {f : Nat → Bool} {a n : Nat} (h : (List.range' a n).all f = true) {pc : Nat} (h1 : a ≤ pc) (h2 : pc < a + n) : f pc = true := List.all_eq_true.mp h pc (List.mem_range'_1.mpr ⟨h1, h2⟩)
theorem e_lk0 : (List.range' 0 60).all e_lf = true := by decide +kernel
theorem e_lk1 : (List.range' 60 60).all e_lf = true := by decide +kernel
theorem e_lk2 : (List.range' 120 60).all e_lf = true := by decide +kernel
theorem e_lk3 : (List.range' 180 60).all e_lf = true := by decide +kernel
theorem e_lk4 : (List.range' 240 60).all e_lf = true := by decide +kernel
theorem e_lk5 : (List.range' 300 60).all e_lf = true := by decide +kernel
theorem e_lk6 : (List.range' 360 60).all e_lf = true := by decide +kernel
theorem e_lk7 : (List.range' 420 60).all e_lf = true := by decide +kernel
theorem e_lk8 : (List.range' 480 60).all e_lf = true := by decide +kernel
theorem e_lk9 : (List.range' 540 60).all e_lf = true := by decide +kernel
theorem e_lk10 : (List.range' 600 60).all e_lf = true := by decide +kernel
theorem e_lk11 : (List.range' 660 60).all e_lf = true := by decide +kernel
theorem e_lk12 : (List.range' 720 60).all e_lf = true := by decide +kernel
theorem e_lk13 : (List.range' 780 60).all e_lf = true := by decide +kernel
theorem e_lk14 : (List.range' 840 60).all e_lf = true := by decide +kernel
theorem e_lk15 : (List.range' 900 60).all e_lf = true := by decide +kernel
theorem e_lk16 : (List.range' 960 60).all e_lf = true := by decide +kernel
theorem e_lk17 : (List.range' 1020 60).all e_lf = true := by decide +kernel
theorem e_lk18 : (List.range' 1080 60).all e_lf = true := by decide +kernel
theorem e_lk19 : (List.range' 1140 13).all e_lf = true := by decide +kernel
theorem e_lall : ∀ pc, pc < 1153 → e_lf pc = true := by
  intro pc h
  rcases Nat.lt_or_ge pc 60 with h0 | h0
  · exact e_rg e_lk0 (by omega) (by omega)
  rcases Nat.lt_or_ge pc 120 with h1 | h1
  · exact e_rg e_lk1 (by omega) (by omega)
  rcases Nat.lt_or_ge pc 180 with h2 | h2
  · exact e_rg e_lk2 (by omega) (by omega)
  rcases Nat.lt_or_ge pc 240 with h3 | h3
  · exact e_rg e_lk3 (by omega) (by omega)
  rcases Nat.lt_or_ge pc 300 with h4 | h4
  · exact e_rg e_lk4 (by omega) (by omega)
  rcases Nat.lt_or_ge pc 360 with h5 | h5
  · exact e_rg e_lk5 (by omega) (by omega)
  rcases Nat.lt_or_ge pc 420 with h6 | h6
  · exact e_rg e_lk6 (by omega) (by omega)
  rcases Nat.lt_or_ge pc 480 with h7 | h7
  · exact e_rg e_lk7 (by omega) (by omega)
  rcases Nat.lt_or_ge pc 540 with h8 | h8
  · exact e_rg e_lk8 (by omega) (by omega)
  rcases Nat.lt_or_ge pc 600 with h9 | h9
  · exact e_rg e_lk9 (by omega) (by omega)
  rcases Nat.lt_or_ge pc 660 with h10 | h10
  · exact e_rg e_lk10 (by omega) (by omega)
  rcases Nat.lt_or_ge pc 720 with h11 | h11
  · exact e_rg e_lk11 (by omega) (by omega)
  rcases Nat.lt_or_ge pc 780 with h12 | h12
  · exact e_rg e_lk12 (by omega) (by omega)
  rcases Nat.lt_or_ge pc 840 with h13 | h13
  · exact e_rg e_lk13 (by omega) (by omega)
  rcases Nat.lt_or_ge pc 900 with h14 | h14
  · exact e_rg e_lk14 (by omega) (by omega)
  rcases Nat.lt_or_ge pc 960 with h15 | h15
  · exact e_rg e_lk15 (by omega) (by omega)
  rcases Nat.lt_or_ge pc 1020 with h16 | h16
  · exact e_rg e_lk16 (by omega) (by omega)
  rcases Nat.lt_or_ge pc 1080 with h17 | h17
  · exact e_rg e_lk17 (by omega) (by omega)
  rcases Nat.lt_or_ge pc 1140 with h18 | h18
  · exact e_rg e_lk18 (by omega) (by omega)
  rcases Nat.lt_or_ge pc 1153 with h19 | h19
  · exact e_rg e_lk19 (by omega) (by omega)
  omega
