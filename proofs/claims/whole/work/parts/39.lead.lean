/-! WHOM A SHEEP GOES WITH: F a: whom a follows (negative: nobody) -/
def ldS (F : Nat → Int) (a : Nat) : Nat := if 0 ≤ F a then (F a).toNat else a
def ldW (F : Nat → Int) : Nat → Nat → Nat
  | 0, a => a
  | i + 1, a => ldW F i (ldS F a)
def ldM (F : Nat → Int) : Nat → Nat → Nat
  | 0, a => a
  | i + 1, a => min a (ldM F i (ldS F a))
/-- eight steps lead to the end or into a ring, eight more go all around it: the least of them -/
def ldL (F : Nat → Int) (a : Nat) : Nat := ldM F 8 (ldW F 8 a)
theorem ldW_add (F : Nat → Int) : ∀ i j a, ldW F (i + j) a = ldW F j (ldW F i a)
  | 0, j, a => by rw [Nat.zero_add]; rfl
  | i + 1, j, a => by rw [Nat.add_right_comm]; exact ldW_add F i j (ldS F a)
theorem ldW_end {F : Nat → Int} {a : Nat} (h : F a < 0) : ∀ i, ldW F i a = a
  | 0 => rfl
  | i + 1 => by
    show ldW F i (ldS F a) = a
    rw [show ldS F a = a from if_neg (by omega)]
    exact ldW_end h i
theorem ldM_end {F : Nat → Int} {a : Nat} (h : F a < 0) : ∀ i, ldM F i a = a
  | 0 => rfl
  | i + 1 => by
    show min a (ldM F i (ldS F a)) = a
    rw [show ldS F a = a from if_neg (by omega), ldM_end h i]
    exact Nat.min_self a
theorem ldS_lt {F : Nat → Int} {n a : Nat} (hF : ∀ b, b < n → F b < n) (h : a < n) : ldS F a < n := by
  unfold ldS
  have := hF a h
  split <;> omega
theorem ldW_lt {F : Nat → Int} {n : Nat} (hF : ∀ b, b < n → F b < n) : ∀ i a, a < n → ldW F i a < n
  | 0, a, h => h
  | i + 1, a, h => ldW_lt hF i _ (ldS_lt hF h)
theorem ldM_lt {F : Nat → Int} {n : Nat} (hF : ∀ b, b < n → F b < n) : ∀ i a, a < n → ldM F i a < n
  | 0, a, h => h
  | i + 1, a, h => by
    have := ldM_lt hF i _ (ldS_lt hF h)
    show min a (ldM F i (ldS F a)) < n
    omega
/-- the least of i steps is one of them, and no greater than any -/
theorem ldM_le (F : Nat → Int) : ∀ i a j, j ≤ i → ldM F i a ≤ ldW F j a
  | 0, a, j, h => by
    obtain rfl : j = 0 := by omega
    exact Nat.le_refl _
  | i + 1, a, 0, _ => Nat.min_le_left _ _
  | i + 1, a, j + 1, h => Nat.le_trans (Nat.min_le_right _ _) (ldM_le F i (ldS F a) j (by omega))
theorem ldM_ex (F : Nat → Int) : ∀ i a, ∃ j, j ≤ i ∧ ldM F i a = ldW F j a
  | 0, a => ⟨0, Nat.le_refl _, rfl⟩
  | i + 1, a => by
    obtain ⟨j, h1, h2⟩ := ldM_ex F i (ldS F a)
    by_cases h : a ≤ ldM F i (ldS F a)
    · exact ⟨0, by omega, Nat.min_eq_left h⟩
    · exact ⟨j + 1, by omega, by show min a _ = ldW F j (ldS F a); rw [← h2]; exact Nat.min_eq_right (by omega)⟩
/-- two of nine among eight are the same -/
theorem ld_hole : ∀ (n m : Nat) (f : Nat → Nat), (∀ i, i < m → f i < n) → n < m → ∃ i j, i < j ∧ j < m ∧ f i = f j
  | 0, m, f, h, hm => absurd (h 0 hm) (by omega)
  | n + 1, m, f, h, hm => by
    by_cases hx : ∃ i, i < m - 1 ∧ f i = f (m - 1)
    · obtain ⟨i, h1, h2⟩ := hx
      exact ⟨i, m - 1, by omega, by omega, h2⟩
    · have hne : ∀ i, i < m - 1 → f i ≠ f (m - 1) := fun i hi e => hx ⟨i, hi, e⟩
      obtain ⟨i, j, h1, h2, h3⟩ := ld_hole n (m - 1) (fun i => if f i = n then f (m - 1) else f i) (fun i hi => by
        have a1 := h i (by omega)
        have a2 := h (m - 1) (by omega)
        have a3 := hne i hi
        try dsimp only
        split <;> omega) (by omega)
      refine ⟨i, j, h1, by omega, ?_⟩
      have b1 := hne i (by omega)
      have b2 := hne j h2
      try dsimp only at h3
      split at h3
      · split at h3
        · omega
        · omega
      · split at h3
        · omega
        · exact h3
/-- behind eight steps one stands on a ring of at most eight, or at an end -/
theorem ld_ring {F : Nat → Int} {n s : Nat} (hn : n ≤ 8) (hF : ∀ b, b < n → F b < n) (hs : s < n) : ∃ p, 1 ≤ p ∧ p ≤ 8 ∧ ldW F p (ldW F 8 s) = ldW F 8 s := by
  obtain ⟨i, j, h1, h2, h3⟩ := ld_hole n 9 (fun i => ldW F i s) (fun i _ => ldW_lt hF i s hs) (by omega)
  try dsimp only at h3
  refine ⟨j - i, by omega, by omega, ?_⟩
  have e1 : ldW F 8 s = ldW F (8 - i) (ldW F i s) := by
    rw [← ldW_add]
    congr 1
    omega
  rw [← ldW_add, show 8 + (j - i) = j + (8 - i) by omega, ldW_add, ← h3, ← e1]
/-- a ring's least is found in one round -/
theorem ldM_ring {F : Nat → Int} {a p : Nat} (hp : 1 ≤ p) (h : ldW F p a = a) : ∀ i, p ≤ i + 1 → ldM F i a = ldM F (p - 1) a := by
  intro i hi
  have per : ∀ j, ldW F j a = ldW F (j % p) a := by
    intro j
    induction j using Nat.strongRecOn with
    | _ j ih =>
      rcases Nat.lt_or_ge j p with q | q
      · rw [Nat.mod_eq_of_lt q]
      · have e1 : ldW F j a = ldW F (j - p) a := by
          have := ldW_add F p (j - p) a
          rw [show p + (j - p) = j by omega, h] at this
          exact this
        rw [e1, ih (j - p) (by omega)]
        congr 1
        exact (Nat.mod_eq_sub_mod q).symm
  apply Nat.le_antisymm
  · obtain ⟨j, h1, h2⟩ := ldM_ex F (p - 1) a
    rw [h2]
    exact ldM_le F i a j (by omega)
  · obtain ⟨j, h1, h2⟩ := ldM_ex F i a
    rw [h2, per j]
    have := Nat.mod_lt j (show 0 < p by omega)
    exact ldM_le F (p - 1) a _ (by omega)
theorem ldW_snoc (F : Nat → Int) (i a : Nat) : ldW F (i + 1) a = ldS F (ldW F i a) := ldW_add F i 1 a
theorem ldM_snoc (F : Nat → Int) : ∀ i a, ldM F (i + 1) a = min (ldM F i a) (ldW F (i + 1) a)
  | 0, a => rfl
  | i + 1, a => by
    show min a (ldM F (i + 1) (ldS F a)) = min (min a (ldM F i (ldS F a))) (ldW F (i + 1) (ldS F a))
    rw [ldM_snoc F i (ldS F a), Nat.min_assoc]
/-- on a ring nobody follows nobody -/
theorem ld_on {F : Nat → Int} {a p i : Nat} (h : ldW F p a = a) (ha : 0 ≤ F a) (hi : i ≤ p) : 0 ≤ F (ldW F i a) := by
  rcases Int.lt_or_le (F (ldW F i a)) 0 with q | q
  · have e1 : ldW F p a = ldW F i a := by
      have := ldW_add F i (p - i) a
      rw [show i + (p - i) = p by omega, ldW_end q] at this
      exact this
    rw [h] at e1
    rw [← e1] at q
    omega
  · exact q
