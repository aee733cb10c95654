theorem e_ifp {α : Type} {c : Prop} [Decidable c] {a b : α} (h : c) : (if c then a else b) = a := if_pos h
theorem e_ifn {α : Type} {c : Prop} [Decidable c] {a b : α} (h : ¬ c) : (if c then a else b) = b := if_neg h
theorem b_pw (s : Nat) : ((1 : Int) * 2 ^ s) = ((2 ^ s : Nat) : Int) := by
  rw [Int.one_mul]
  push_cast
  rfl
theorem b_lt31 {s : Nat} (hs : s < 31) : 2 ^ s < 2147483648 := Nat.lt_of_lt_of_le (Nat.pow_lt_pow_right (by decide) hs) (by decide)
theorem bS_lt31 (p : Nat → Bool) {s : Nat} (hs : s < 31) : bS p s < 2147483648 := Nat.lt_trans (bS_lt p s) (b_lt31 hs)
theorem b_accT {p : Nat → Bool} {s : Nat} (hs : s < 31) (hp : p s = true) : (Int32.ofInt ((bS p s : Nat) : Int) ||| Int32.ofInt (1 * 2 ^ s)).toInt = ((bS p (s + 1) : Nat) : Int) := by
  rw [b_pw, b_orI (bS_lt31 p hs) (b_lt31 hs)]
  have := bS_or p s True (by rw [hp]; rfl)
  simp only [if_true] at this
  rw [this]
theorem b_accF {p : Nat → Bool} {s : Nat} (hs : s < 31) (hp : p s = false) : (Int32.ofInt ((bS p s : Nat) : Int) ||| Int32.ofInt 0).toInt = ((bS p (s + 1) : Nat) : Int) := by
  have h0 := b_orI (a := bS p s) (b := 0) (bS_lt31 p hs) (by decide)
  rw [show Int32.ofInt 0 = Int32.ofInt ((0 : Nat) : Int) from rfl, h0]
  have := bS_or p s False (by rw [hp]; rfl)
  simp only [if_false] at this
  rw [this]
theorem b_isOf (x k : Nat) (h : x < 2147483648) : (Int32.ofInt ((x : Int) / 2 ^ k) &&& Int32.ofInt 1).toInt = ((x / 2 ^ k % 2 : Nat) : Int) := by
  have e1 : ((x : Int) / 2 ^ k) = ((x / 2 ^ k : Nat) : Int) := by
    push_cast
    rfl
  have h2 : x / 2 ^ k < 2147483648 := Nat.lt_of_le_of_lt (Nat.div_le_self _ _) h
  rw [e1, show Int32.ofInt 1 = Int32.ofInt ((1 : Nat) : Int) from rfl, b_andI h2, Nat.and_one_is_mod]
theorem b_low32 {x : Nat} (h : x < 2147483648) (h0 : x ≠ 0) : (Int32.ofInt (x : Int) &&& Int32.ofInt ((x : Int) - 1)).toInt = ((x &&& (x - 1) : Nat) : Int) := by
  rw [show ((x : Int) - 1) = ((x - 1 : Nat) : Int) by omega, b_andI h]
