/-! numbers as sets -/
theorem b_nI (a : Nat) : Int32.ofInt (a : Int) = nI a := rfl
theorem b_toI {a : Nat} (h : a < 2147483648) : (nI a).toInt = (a : Int) := nI_toInt (by omega)
theorem b_and (a b : Nat) : nI a &&& nI b = nI (a &&& b) := by
  apply Int32.toBitVec_inj.mp
  show BitVec.ofInt 32 a &&& BitVec.ofInt 32 b = BitVec.ofInt 32 ((a &&& b : Nat) : Int)
  rw [BitVec.ofInt_natCast, BitVec.ofInt_natCast, BitVec.ofInt_natCast, BitVec.ofNat_and]
theorem b_or (a b : Nat) : nI a ||| nI b = nI (a ||| b) := by
  apply Int32.toBitVec_inj.mp
  show BitVec.ofInt 32 a ||| BitVec.ofInt 32 b = BitVec.ofInt 32 ((a ||| b : Nat) : Int)
  rw [BitVec.ofInt_natCast, BitVec.ofInt_natCast, BitVec.ofInt_natCast, BitVec.ofNat_or]
theorem b_andI {a b : Nat} (ha : a < 2147483648) : (Int32.ofInt (a : Int) &&& Int32.ofInt (b : Int)).toInt = ((a &&& b : Nat) : Int) := by
  rw [b_nI, b_nI, b_and, b_toI (Nat.lt_of_le_of_lt Nat.and_le_left ha)]
theorem b_orI {a b : Nat} (ha : a < 2147483648) (hb : b < 2147483648) : (Int32.ofInt (a : Int) ||| Int32.ofInt (b : Int)).toInt = ((a ||| b : Nat) : Int) := by
  rw [b_nI, b_nI, b_or, b_toI (Nat.or_lt_two_pow (n := 31) (by omega) (by omega))]
/-- the set of those k < n with p k, as a number -/
def bS (p : Nat → Bool) : Nat → Nat
  | 0 => 0
  | n + 1 => bS p n + if p n then 2 ^ n else 0
theorem bS_lt (p : Nat → Bool) : ∀ n, bS p n < 2 ^ n
  | 0 => Nat.zero_lt_one
  | n + 1 => by
    have := bS_lt p n
    unfold bS
    rw [Nat.pow_succ]
    split <;> omega
theorem bS_or (p : Nat → Bool) (n : Nat) (c : Prop) [Decidable c] (h : p n = decide c) : bS p n ||| (if c then 2 ^ n else 0) = bS p (n + 1) := by
  have h1 := bS_lt p n
  show _ = bS p n + if p n then 2 ^ n else 0
  rw [h]
  by_cases hc : c
  · simp only [hc, if_true, decide_true]
    rw [Nat.or_comm, Nat.add_comm]
    have e := Nat.two_pow_add_eq_or_of_lt h1 1
    rw [Nat.mul_one] at e
    exact e.symm
  · simp only [hc, if_false, decide_false, Bool.false_eq_true, Nat.add_zero, Nat.or_zero]
theorem bS_bit (p : Nat → Bool) : ∀ n k, k < n → bS p n / 2 ^ k % 2 = if p k then 1 else 0
  | 0, k, h => by omega
  | n + 1, k, h => by
    have h1 := bS_lt p n
    unfold bS
    by_cases hk : k = n
    · subst hk
      have : bS p k / 2 ^ k = 0 := Nat.div_eq_of_lt h1
      by_cases hp : p k
      · rw [if_pos hp, if_pos hp, Nat.add_div_right _ (Nat.two_pow_pos k), this]
      · rw [if_neg hp, if_neg hp, Nat.add_zero, this]
    · have ih := bS_bit p n k (by omega)
      by_cases hp : p n
      · rw [if_pos hp]
        have e1 : 2 ^ n = 2 ^ k * (2 * 2 ^ (n - k - 1)) := by
          rw [← Nat.pow_succ', ← Nat.pow_add]
          congr 1
          omega
        rw [e1, Nat.add_mul_div_left _ _ (Nat.two_pow_pos k), Nat.add_mul_mod_self_left]
        exact ih
      · rw [if_neg hp, Nat.add_zero]
        exact ih
/-- how many -/
def bC (p : Nat → Bool) : Nat → Nat
  | 0 => 0
  | n + 1 => bC p n + if p n then 1 else 0
theorem bC_le (p : Nat → Bool) : ∀ n, bC p n ≤ n
  | 0 => Nat.le_refl _
  | n + 1 => by
    have := bC_le p n
    unfold bC
    split <;> omega
/-- how many bits a number has: by taking the lowest off -/
def bP : Nat → Nat → Nat
  | 0, _ => 0
  | f + 1, x => if x = 0 then 0 else bP f (x / 2) + x % 2
theorem b_low (x : Nat) (h : x ≠ 0) : x &&& (x - 1) = if x % 2 = 1 then x - 1 else 2 * (x / 2 &&& (x / 2 - 1)) := by
  apply Nat.eq_of_testBit_eq
  intro i
  rw [Nat.testBit_and]
  split
  next h1 =>
    cases i with
    | zero => simp only [Nat.testBit_zero]; rw [show (x - 1) % 2 = 0 by omega]; simp
    | succ i =>
      rw [Nat.testBit_succ, Nat.testBit_succ, show (x - 1) / 2 = x / 2 by omega, Bool.and_self]
  next h1 =>
    cases i with
    | zero => simp only [Nat.testBit_zero]; rw [show x % 2 = 0 by omega, Nat.mul_mod_right]; simp
    | succ i =>
      rw [Nat.testBit_succ, Nat.testBit_succ, Nat.testBit_succ, show (x - 1) / 2 = x / 2 - 1 by omega, Nat.mul_div_cancel_left _ (by decide : 0 < 2), Nat.testBit_and]
theorem bP_low : ∀ (f x : Nat), x < 2 ^ f → x ≠ 0 → bP f (x &&& (x - 1)) + 1 = bP f x
  | 0, x, h, h0 => by simp at h; omega
  | f + 1, x, h, h0 => by
    rw [Nat.pow_succ] at h
    rw [b_low x h0]
    split
    next h1 =>
      show (if x - 1 = 0 then 0 else bP f ((x - 1) / 2) + (x - 1) % 2) + 1 = if x = 0 then 0 else bP f (x / 2) + x % 2
      rw [if_neg h0, h1]
      by_cases h2 : x - 1 = 0
      · rw [if_pos h2, show x / 2 = 0 by omega]
        have : ∀ f, bP f 0 = 0 := fun f => by cases f <;> rfl
        rw [this]
      · rw [if_neg h2, show (x - 1) / 2 = x / 2 by omega, show (x - 1) % 2 = 0 by omega]
    next h1 =>
      have hx2 : x / 2 ≠ 0 := by omega
      have ih := bP_low f (x / 2) (by omega) hx2
      generalize hy : x / 2 &&& (x / 2 - 1) = y at ih
      show (if 2 * y = 0 then 0 else bP f (2 * y / 2) + 2 * y % 2) + 1 = if x = 0 then 0 else bP f (x / 2) + x % 2
      rw [if_neg h0, show x % 2 = 0 by omega]
      by_cases h2 : y = 0
      · subst h2
        have : ∀ f, bP f 0 = 0 := fun f => by cases f <;> rfl
        rw [this] at ih
        rw [if_pos (by omega)]
        omega
      · rw [if_neg (by omega), Nat.mul_div_cancel_left _ (by decide : 0 < 2)]
        omega
theorem bP_S (p : Nat → Bool) : ∀ (n f : Nat), n ≤ f → bP f (bS p n) = bC p n := by
  have key : ∀ (n f : Nat) (x : Nat), x < 2 ^ n → n < f → ∀ b : Bool, bP f (x + if b then 2 ^ n else 0) = bP f x + if b then 1 else 0 := by
    intro n
    induction n with
    | zero =>
      intro f x hx hf b
      have : x = 0 := by simpa using hx
      subst this
      obtain ⟨f, rfl⟩ : ∃ f', f = f' + 1 := ⟨f - 1, by omega⟩
      have h0 : ∀ f, bP f 0 = 0 := fun f => by cases f <;> rfl
      cases b
      · rfl
      · show bP (f + 1) 1 = bP (f + 1) 0 + 1
        rw [h0]
        show (if 1 = 0 then 0 else bP f (1 / 2) + 1 % 2) = 0 + 1
        rw [if_neg (by decide), show (1 / 2 : Nat) = 0 from rfl, h0]
    | succ n ih =>
      intro f x hx hf b
      obtain ⟨f, rfl⟩ : ∃ f', f = f' + 1 := ⟨f - 1, by omega⟩
      cases b
      · rfl
      · rw [Nat.pow_succ] at hx
        have ih := ih f (x / 2) (by omega) (by omega) true
        simp only [if_true] at ih ⊢
        show (if x + 2 ^ (n + 1) = 0 then 0 else bP f ((x + 2 ^ (n + 1)) / 2) + (x + 2 ^ (n + 1)) % 2) = (if x = 0 then 0 else bP f (x / 2) + x % 2) + 1
        have hp := Nat.two_pow_pos n
        rw [Nat.pow_succ, if_neg (by omega), show (x + 2 ^ n * 2) / 2 = x / 2 + 2 ^ n by omega, show (x + 2 ^ n * 2) % 2 = x % 2 by omega, ih]
        by_cases h0 : x = 0
        · subst h0
          have h0 : ∀ f, bP f 0 = 0 := fun f => by cases f <;> rfl
          rw [if_pos rfl, show (0 / 2 : Nat) = 0 from rfl, h0]
        · rw [if_neg h0]
          omega
  intro n
  induction n with
  | zero => intro f _; cases f <;> rfl
  | succ n ih =>
    intro f hf
    show bP f (bS p n + if p n then 2 ^ n else 0) = bC p n + if p n then 1 else 0
    rw [key n f _ (bS_lt p n) (by omega), ih f (by omega)]
