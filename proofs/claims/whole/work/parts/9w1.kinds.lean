theorem k_ln_0 {B : Nat → Int} {t p : Nat} (h : t ≤ p ∨ k_lt B p = false) : k_wv B t p = 0 := by
  have e : k_ln B t p = 0 := by
    unfold k_ln
    rcases h with h | h
    · rw [k_go_ge h]; omega
    · rw [k_go_f h]; omega
  unfold k_wv
  rw [e, if_pos (by omega)]
  rfl
theorem k_kw0 {B : Nat → Int} {t p : Nat} : k_wv B t p = 0x7368656570 ↔ k_kd B t p = 256 := by
  constructor
  · intro h
    have hp : p < t := by
      by_cases e : p < t
      · exact e
      · rw [k_ln_0 (Or.inl (by omega))] at h
        cases h
    have hl : k_lt B p = true := by
      cases e : k_lt B p with
      | true => rfl
      | false =>
        rw [k_ln_0 (Or.inr e)] at h
        cases h
    unfold k_kd
    rw [if_neg (by omega), if_pos hl, h]
    decide
  · intro h
    have hp : p < t := k_kd_in (B := B) (by omega)
    have hl : k_lt B p = true := by
      cases e : k_lt B p with
      | true => rfl
      | false =>
        exfalso
        unfold k_kd at h
        rw [if_neg (by omega), e, if_neg (by decide)] at h
        (repeat' split at h) <;> omega
    unfold k_kd at h
    rw [if_neg (by omega), if_pos hl] at h
    generalize k_wv B t p = V at *
    unfold k_wk at h
    (repeat' split at h) <;> first | assumption | omega
theorem k_kw1 {B : Nat → Int} {t p : Nat} : k_wv B t p = 0x6d616e ↔ k_kd B t p = 257 := by
  constructor
  · intro h
    have hp : p < t := by
      by_cases e : p < t
      · exact e
      · rw [k_ln_0 (Or.inl (by omega))] at h
        cases h
    have hl : k_lt B p = true := by
      cases e : k_lt B p with
      | true => rfl
      | false =>
        rw [k_ln_0 (Or.inr e)] at h
        cases h
    unfold k_kd
    rw [if_neg (by omega), if_pos hl, h]
    decide
  · intro h
    have hp : p < t := k_kd_in (B := B) (by omega)
    have hl : k_lt B p = true := by
      cases e : k_lt B p with
      | true => rfl
      | false =>
        exfalso
        unfold k_kd at h
        rw [if_neg (by omega), e, if_neg (by decide)] at h
        (repeat' split at h) <;> omega
    unfold k_kd at h
    rw [if_neg (by omega), if_pos hl] at h
    generalize k_wv B t p = V at *
    unfold k_wk at h
    (repeat' split at h) <;> first | assumption | omega
theorem k_kw2 {B : Nat → Int} {t p : Nat} : k_wv B t p = 0x6c696b6573 ↔ k_kd B t p = 258 := by
  constructor
  · intro h
    have hp : p < t := by
      by_cases e : p < t
      · exact e
      · rw [k_ln_0 (Or.inl (by omega))] at h
        cases h
    have hl : k_lt B p = true := by
      cases e : k_lt B p with
      | true => rfl
      | false =>
        rw [k_ln_0 (Or.inr e)] at h
        cases h
    unfold k_kd
    rw [if_neg (by omega), if_pos hl, h]
    decide
  · intro h
    have hp : p < t := k_kd_in (B := B) (by omega)
    have hl : k_lt B p = true := by
      cases e : k_lt B p with
      | true => rfl
      | false =>
        exfalso
        unfold k_kd at h
        rw [if_neg (by omega), e, if_neg (by decide)] at h
        (repeat' split at h) <;> omega
    unfold k_kd at h
    rw [if_neg (by omega), if_pos hl] at h
    generalize k_wv B t p = V at *
    unfold k_wk at h
    (repeat' split at h) <;> first | assumption | omega
theorem k_kw3 {B : Nat → Int} {t p : Nat} : k_wv B t p = 0x73616c74 ↔ k_kd B t p = 259 := by
  constructor
  · intro h
    have hp : p < t := by
      by_cases e : p < t
      · exact e
      · rw [k_ln_0 (Or.inl (by omega))] at h
        cases h
    have hl : k_lt B p = true := by
      cases e : k_lt B p with
      | true => rfl
      | false =>
        rw [k_ln_0 (Or.inr e)] at h
        cases h
    unfold k_kd
    rw [if_neg (by omega), if_pos hl, h]
    decide
  · intro h
    have hp : p < t := k_kd_in (B := B) (by omega)
    have hl : k_lt B p = true := by
      cases e : k_lt B p with
      | true => rfl
      | false =>
        exfalso
        unfold k_kd at h
        rw [if_neg (by omega), e, if_neg (by decide)] at h
        (repeat' split at h) <;> omega
    unfold k_kd at h
    rw [if_neg (by omega), if_pos hl] at h
    generalize k_wv B t p = V at *
    unfold k_wk at h
    (repeat' split at h) <;> first | assumption | omega
theorem k_kw4 {B : Nat → Int} {t p : Nat} : k_wv B t p = 0x68616e6473 ↔ k_kd B t p = 260 := by
  constructor
  · intro h
    have hp : p < t := by
      by_cases e : p < t
      · exact e
      · rw [k_ln_0 (Or.inl (by omega))] at h
        cases h
    have hl : k_lt B p = true := by
      cases e : k_lt B p with
      | true => rfl
      | false =>
        rw [k_ln_0 (Or.inr e)] at h
        cases h
    unfold k_kd
    rw [if_neg (by omega), if_pos hl, h]
    decide
  · intro h
    have hp : p < t := k_kd_in (B := B) (by omega)
    have hl : k_lt B p = true := by
      cases e : k_lt B p with
      | true => rfl
      | false =>
        exfalso
        unfold k_kd at h
        rw [if_neg (by omega), e, if_neg (by decide)] at h
        (repeat' split at h) <;> omega
    unfold k_kd at h
    rw [if_neg (by omega), if_pos hl] at h
    generalize k_wv B t p = V at *
    unfold k_wk at h
    (repeat' split at h) <;> first | assumption | omega
theorem k_kw5 {B : Nat → Int} {t p : Nat} : k_wv B t p = 0x666c6f636b ↔ k_kd B t p = 261 := by
  constructor
  · intro h
    have hp : p < t := by
      by_cases e : p < t
      · exact e
      · rw [k_ln_0 (Or.inl (by omega))] at h
        cases h
    have hl : k_lt B p = true := by
      cases e : k_lt B p with
      | true => rfl
      | false =>
        rw [k_ln_0 (Or.inr e)] at h
        cases h
    unfold k_kd
    rw [if_neg (by omega), if_pos hl, h]
    decide
  · intro h
    have hp : p < t := k_kd_in (B := B) (by omega)
    have hl : k_lt B p = true := by
      cases e : k_lt B p with
      | true => rfl
      | false =>
        exfalso
        unfold k_kd at h
        rw [if_neg (by omega), e, if_neg (by decide)] at h
        (repeat' split at h) <;> omega
    unfold k_kd at h
    rw [if_neg (by omega), if_pos hl] at h
    generalize k_wv B t p = V at *
    unfold k_wk at h
    (repeat' split at h) <;> first | assumption | omega
theorem k_kw6 {B : Nat → Int} {t p : Nat} : k_wv B t p = 0x6d696e65 ↔ k_kd B t p = 262 := by
  constructor
  · intro h
    have hp : p < t := by
      by_cases e : p < t
      · exact e
      · rw [k_ln_0 (Or.inl (by omega))] at h
        cases h
    have hl : k_lt B p = true := by
      cases e : k_lt B p with
      | true => rfl
      | false =>
        rw [k_ln_0 (Or.inr e)] at h
        cases h
    unfold k_kd
    rw [if_neg (by omega), if_pos hl, h]
    decide
  · intro h
    have hp : p < t := k_kd_in (B := B) (by omega)
    have hl : k_lt B p = true := by
      cases e : k_lt B p with
      | true => rfl
      | false =>
        exfalso
        unfold k_kd at h
        rw [if_neg (by omega), e, if_neg (by decide)] at h
        (repeat' split at h) <;> omega
    unfold k_kd at h
    rw [if_neg (by omega), if_pos hl] at h
    generalize k_wv B t p = V at *
    unfold k_wk at h
    (repeat' split at h) <;> first | assumption | omega
theorem k_kw7 {B : Nat → Int} {t p : Nat} : k_wv B t p = 0x6c6564 ↔ k_kd B t p = 263 := by
  constructor
  · intro h
    have hp : p < t := by
      by_cases e : p < t
      · exact e
      · rw [k_ln_0 (Or.inl (by omega))] at h
        cases h
    have hl : k_lt B p = true := by
      cases e : k_lt B p with
      | true => rfl
      | false =>
        rw [k_ln_0 (Or.inr e)] at h
        cases h
    unfold k_kd
    rw [if_neg (by omega), if_pos hl, h]
    decide
  · intro h
    have hp : p < t := k_kd_in (B := B) (by omega)
    have hl : k_lt B p = true := by
      cases e : k_lt B p with
      | true => rfl
      | false =>
        exfalso
        unfold k_kd at h
        rw [if_neg (by omega), e, if_neg (by decide)] at h
        (repeat' split at h) <;> omega
    unfold k_kd at h
    rw [if_neg (by omega), if_pos hl] at h
    generalize k_wv B t p = V at *
    unfold k_wk at h
    (repeat' split at h) <;> first | assumption | omega
theorem k_kw8 {B : Nat → Int} {t p : Nat} : k_wv B t p = 0x776f6f6c ↔ k_kd B t p = 264 := by
  constructor
  · intro h
    have hp : p < t := by
      by_cases e : p < t
      · exact e
      · rw [k_ln_0 (Or.inl (by omega))] at h
        cases h
    have hl : k_lt B p = true := by
      cases e : k_lt B p with
      | true => rfl
      | false =>
        rw [k_ln_0 (Or.inr e)] at h
        cases h
    unfold k_kd
    rw [if_neg (by omega), if_pos hl, h]
    decide
  · intro h
    have hp : p < t := k_kd_in (B := B) (by omega)
    have hl : k_lt B p = true := by
      cases e : k_lt B p with
      | true => rfl
      | false =>
        exfalso
        unfold k_kd at h
        rw [if_neg (by omega), e, if_neg (by decide)] at h
        (repeat' split at h) <;> omega
    unfold k_kd at h
    rw [if_neg (by omega), if_pos hl] at h
    generalize k_wv B t p = V at *
    unfold k_wk at h
    (repeat' split at h) <;> first | assumption | omega
theorem k_kw9 {B : Nat → Int} {t p : Nat} : k_wv B t p = 0x636f696e73 ↔ k_kd B t p = 265 := by
  constructor
  · intro h
    have hp : p < t := by
      by_cases e : p < t
      · exact e
      · rw [k_ln_0 (Or.inl (by omega))] at h
        cases h
    have hl : k_lt B p = true := by
      cases e : k_lt B p with
      | true => rfl
      | false =>
        rw [k_ln_0 (Or.inr e)] at h
        cases h
    unfold k_kd
    rw [if_neg (by omega), if_pos hl, h]
    decide
  · intro h
    have hp : p < t := k_kd_in (B := B) (by omega)
    have hl : k_lt B p = true := by
      cases e : k_lt B p with
      | true => rfl
      | false =>
        exfalso
        unfold k_kd at h
        rw [if_neg (by omega), e, if_neg (by decide)] at h
        (repeat' split at h) <;> omega
    unfold k_kd at h
    rw [if_neg (by omega), if_pos hl] at h
    generalize k_wv B t p = V at *
    unfold k_wk at h
    (repeat' split at h) <;> first | assumption | omega
theorem k_kw10 {B : Nat → Int} {t p : Nat} : k_wv B t p = 0x6772617373 ↔ k_kd B t p = 266 := by
  constructor
  · intro h
    have hp : p < t := by
      by_cases e : p < t
      · exact e
      · rw [k_ln_0 (Or.inl (by omega))] at h
        cases h
    have hl : k_lt B p = true := by
      cases e : k_lt B p with
      | true => rfl
      | false =>
        rw [k_ln_0 (Or.inr e)] at h
        cases h
    unfold k_kd
    rw [if_neg (by omega), if_pos hl, h]
    decide
  · intro h
    have hp : p < t := k_kd_in (B := B) (by omega)
    have hl : k_lt B p = true := by
      cases e : k_lt B p with
      | true => rfl
      | false =>
        exfalso
        unfold k_kd at h
        rw [if_neg (by omega), e, if_neg (by decide)] at h
        (repeat' split at h) <;> omega
    unfold k_kd at h
    rw [if_neg (by omega), if_pos hl] at h
    generalize k_wv B t p = V at *
    unfold k_wk at h
    (repeat' split at h) <;> first | assumption | omega
theorem k_kw11 {B : Nat → Int} {t p : Nat} : k_wv B t p = 0x79656172 ↔ k_kd B t p = 267 := by
  constructor
  · intro h
    have hp : p < t := by
      by_cases e : p < t
      · exact e
      · rw [k_ln_0 (Or.inl (by omega))] at h
        cases h
    have hl : k_lt B p = true := by
      cases e : k_lt B p with
      | true => rfl
      | false =>
        rw [k_ln_0 (Or.inr e)] at h
        cases h
    unfold k_kd
    rw [if_neg (by omega), if_pos hl, h]
    decide
  · intro h
    have hp : p < t := k_kd_in (B := B) (by omega)
    have hl : k_lt B p = true := by
      cases e : k_lt B p with
      | true => rfl
      | false =>
        exfalso
        unfold k_kd at h
        rw [if_neg (by omega), e, if_neg (by decide)] at h
        (repeat' split at h) <;> omega
    unfold k_kd at h
    rw [if_neg (by omega), if_pos hl] at h
    generalize k_wv B t p = V at *
    unfold k_wk at h
    (repeat' split at h) <;> first | assumption | omega
theorem k_kw12 {B : Nat → Int} {t p : Nat} : k_wv B t p = 0x68696c6c ↔ k_kd B t p = 268 := by
  constructor
  · intro h
    have hp : p < t := by
      by_cases e : p < t
      · exact e
      · rw [k_ln_0 (Or.inl (by omega))] at h
        cases h
    have hl : k_lt B p = true := by
      cases e : k_lt B p with
      | true => rfl
      | false =>
        rw [k_ln_0 (Or.inr e)] at h
        cases h
    unfold k_kd
    rw [if_neg (by omega), if_pos hl, h]
    decide
  · intro h
    have hp : p < t := k_kd_in (B := B) (by omega)
    have hl : k_lt B p = true := by
      cases e : k_lt B p with
      | true => rfl
      | false =>
        exfalso
        unfold k_kd at h
        rw [if_neg (by omega), e, if_neg (by decide)] at h
        (repeat' split at h) <;> omega
    unfold k_kd at h
    rw [if_neg (by omega), if_pos hl] at h
    generalize k_wv B t p = V at *
    unfold k_wk at h
    (repeat' split at h) <;> first | assumption | omega
theorem k_kw13 {B : Nat → Int} {t p : Nat} : k_wv B t p = 0x666f6c6c6f7773 ↔ k_kd B t p = 269 := by
  constructor
  · intro h
    have hp : p < t := by
      by_cases e : p < t
      · exact e
      · rw [k_ln_0 (Or.inl (by omega))] at h
        cases h
    have hl : k_lt B p = true := by
      cases e : k_lt B p with
      | true => rfl
      | false =>
        rw [k_ln_0 (Or.inr e)] at h
        cases h
    unfold k_kd
    rw [if_neg (by omega), if_pos hl, h]
    decide
  · intro h
    have hp : p < t := k_kd_in (B := B) (by omega)
    have hl : k_lt B p = true := by
      cases e : k_lt B p with
      | true => rfl
      | false =>
        exfalso
        unfold k_kd at h
        rw [if_neg (by omega), e, if_neg (by decide)] at h
        (repeat' split at h) <;> omega
    unfold k_kd at h
    rw [if_neg (by omega), if_pos hl] at h
    generalize k_wv B t p = V at *
    unfold k_wk at h
    (repeat' split at h) <;> first | assumption | omega
theorem k_kw14 {B : Nat → Int} {t p : Nat} : k_wv B t p = 0x676f ↔ k_kd B t p = 270 := by
  constructor
  · intro h
    have hp : p < t := by
      by_cases e : p < t
      · exact e
      · rw [k_ln_0 (Or.inl (by omega))] at h
        cases h
    have hl : k_lt B p = true := by
      cases e : k_lt B p with
      | true => rfl
      | false =>
        rw [k_ln_0 (Or.inr e)] at h
        cases h
    unfold k_kd
    rw [if_neg (by omega), if_pos hl, h]
    decide
  · intro h
    have hp : p < t := k_kd_in (B := B) (by omega)
    have hl : k_lt B p = true := by
      cases e : k_lt B p with
      | true => rfl
      | false =>
        exfalso
        unfold k_kd at h
        rw [if_neg (by omega), e, if_neg (by decide)] at h
        (repeat' split at h) <;> omega
    unfold k_kd at h
    rw [if_neg (by omega), if_pos hl] at h
    generalize k_wv B t p = V at *
    unfold k_wk at h
    (repeat' split at h) <;> first | assumption | omega
theorem k_kw15 {B : Nat → Int} {t p : Nat} : k_wv B t p = 0x6966 ↔ k_kd B t p = 271 := by
  constructor
  · intro h
    have hp : p < t := by
      by_cases e : p < t
      · exact e
      · rw [k_ln_0 (Or.inl (by omega))] at h
        cases h
    have hl : k_lt B p = true := by
      cases e : k_lt B p with
      | true => rfl
      | false =>
        rw [k_ln_0 (Or.inr e)] at h
        cases h
    unfold k_kd
    rw [if_neg (by omega), if_pos hl, h]
    decide
  · intro h
    have hp : p < t := k_kd_in (B := B) (by omega)
    have hl : k_lt B p = true := by
      cases e : k_lt B p with
      | true => rfl
      | false =>
        exfalso
        unfold k_kd at h
        rw [if_neg (by omega), e, if_neg (by decide)] at h
        (repeat' split at h) <;> omega
    unfold k_kd at h
    rw [if_neg (by omega), if_pos hl] at h
    generalize k_wv B t p = V at *
    unfold k_wk at h
    (repeat' split at h) <;> first | assumption | omega
theorem k_kw16 {B : Nat → Int} {t p : Nat} : k_wv B t p = 0x6f72 ↔ k_kd B t p = 272 := by
  constructor
  · intro h
    have hp : p < t := by
      by_cases e : p < t
      · exact e
      · rw [k_ln_0 (Or.inl (by omega))] at h
        cases h
    have hl : k_lt B p = true := by
      cases e : k_lt B p with
      | true => rfl
      | false =>
        rw [k_ln_0 (Or.inr e)] at h
        cases h
    unfold k_kd
    rw [if_neg (by omega), if_pos hl, h]
    decide
  · intro h
    have hp : p < t := k_kd_in (B := B) (by omega)
    have hl : k_lt B p = true := by
      cases e : k_lt B p with
      | true => rfl
      | false =>
        exfalso
        unfold k_kd at h
        rw [if_neg (by omega), e, if_neg (by decide)] at h
        (repeat' split at h) <;> omega
    unfold k_kd at h
    rw [if_neg (by omega), if_pos hl] at h
    generalize k_wv B t p = V at *
    unfold k_wk at h
    (repeat' split at h) <;> first | assumption | omega
theorem k_kw17 {B : Nat → Int} {t p : Nat} : k_wv B t p = 0x616e64 ↔ k_kd B t p = 273 := by
  constructor
  · intro h
    have hp : p < t := by
      by_cases e : p < t
      · exact e
      · rw [k_ln_0 (Or.inl (by omega))] at h
        cases h
    have hl : k_lt B p = true := by
      cases e : k_lt B p with
      | true => rfl
      | false =>
        rw [k_ln_0 (Or.inr e)] at h
        cases h
    unfold k_kd
    rw [if_neg (by omega), if_pos hl, h]
    decide
  · intro h
    have hp : p < t := k_kd_in (B := B) (by omega)
    have hl : k_lt B p = true := by
      cases e : k_lt B p with
      | true => rfl
      | false =>
        exfalso
        unfold k_kd at h
        rw [if_neg (by omega), e, if_neg (by decide)] at h
        (repeat' split at h) <;> omega
    unfold k_kd at h
    rw [if_neg (by omega), if_pos hl] at h
    generalize k_wv B t p = V at *
    unfold k_wk at h
    (repeat' split at h) <;> first | assumption | omega
theorem k_kw18 {B : Nat → Int} {t p : Nat} : k_wv B t p = 0x6e6f74 ↔ k_kd B t p = 274 := by
  constructor
  · intro h
    have hp : p < t := by
      by_cases e : p < t
      · exact e
      · rw [k_ln_0 (Or.inl (by omega))] at h
        cases h
    have hl : k_lt B p = true := by
      cases e : k_lt B p with
      | true => rfl
      | false =>
        rw [k_ln_0 (Or.inr e)] at h
        cases h
    unfold k_kd
    rw [if_neg (by omega), if_pos hl, h]
    decide
  · intro h
    have hp : p < t := k_kd_in (B := B) (by omega)
    have hl : k_lt B p = true := by
      cases e : k_lt B p with
      | true => rfl
      | false =>
        exfalso
        unfold k_kd at h
        rw [if_neg (by omega), e, if_neg (by decide)] at h
        (repeat' split at h) <;> omega
    unfold k_kd at h
    rw [if_neg (by omega), if_pos hl] at h
    generalize k_wv B t p = V at *
    unfold k_wk at h
    (repeat' split at h) <;> first | assumption | omega
/-- signs of one byte -/
theorem k_sg {B : Nat → Int} {t p : Nat} {d : Int} (hd : 0 ≤ d ∧ d < 256) (h1 : ¬ (97 ≤ d ∧ d ≤ 122)) (h2 : ¬ (48 ≤ d ∧ d ≤ 57)) (h3 : d ≠ 60 ∧ d ≠ 62) (hB : -128 ≤ B p ∧ B p < 128) : k_sv B t p = d ↔ k_kd B t p = d := by
  have hw := k_wk_b (k_wv B t p)
  unfold k_sv k_kd
  by_cases hp : p < t
  · rw [if_pos hp, if_neg (by omega)]
    by_cases hl : k_lt B p = true
    · rw [if_pos hl]
      have := of_decide_eq_true hl
      constructor <;> intro h <;> omega
    · rw [if_neg hl]
      by_cases hg : k_dg B p = true
      · rw [if_pos hg]
        have := of_decide_eq_true hg
        constructor <;> intro h <;> omega
      · rw [if_neg hg]
        by_cases hb : k_db B t p = true
        · rw [if_pos hb]
          have := of_decide_eq_true hb
          constructor
          · intro h
            omega
          · intro h
            split at h <;> omega
        · rw [if_neg hb]
  · rw [if_neg hp, if_pos (by omega)]
    constructor <;> intro h <;> omega
theorem k_sg_en {B : Nat → Int} {t p : Nat} {d : Int} (hd : 0 ≤ d ∧ d < 256) (h : k_kd B t p = d) : p < t ∧ k_en B t p = p + 1 ∧ B p % 256 = d := by
  have hp : p < t := k_kd_in (B := B) (by omega)
  have hw := k_wk_b (k_wv B t p)
  unfold k_kd at h
  unfold k_en
  rw [if_neg (by omega)] at h
  by_cases hl : k_lt B p = true
  · rw [if_pos hl] at h
    omega
  · rw [if_neg hl] at h ⊢
    by_cases hg : k_dg B p = true
    · rw [if_pos hg] at h
      omega
    · rw [if_neg hg] at h ⊢
      by_cases hb : k_db B t p = true
      · rw [if_pos hb] at h
        split at h <;> omega
      · rw [if_neg hb] at h ⊢
        exact ⟨hp, rfl, h⟩
theorem k_wd_en {B : Nat → Int} {t p : Nat} (h : 256 ≤ k_kd B t p) (h2 : k_kd B t p ≤ 275) : p < t ∧ k_lt B p = true ∧ k_en B t p = k_go (k_lt B) t p := by
  have hp : p < t := k_kd_in (B := B) (by omega)
  have hl : k_lt B p = true := by
    cases e : k_lt B p with
    | true => rfl
    | false =>
      exfalso
      have hk : k_kd B t p < 256 ∨ 276 ≤ k_kd B t p := by
        unfold k_kd
        rw [if_neg (by omega), e, if_neg (by decide)]
        (repeat' split) <;> omega
      omega
  exact ⟨hp, hl, if_pos hl⟩
theorem k_nu_en {B : Nat → Int} {t p : Nat} : k_kd B t p = 276 ↔ p < t ∧ k_dg B p = true := by
  have hw := k_wk_b (k_wv B t p)
  constructor
  · intro h
    have hp : p < t := k_kd_in (B := B) (by omega)
    refine ⟨hp, ?_⟩
    cases e : k_dg B p with
    | true => rfl
    | false =>
      exfalso
      unfold k_kd at h
      rw [if_neg (by omega), e] at h
      split at h
      · omega
      · rw [if_neg (by decide)] at h
        (repeat' split at h) <;> omega
  · intro h
    have hd := of_decide_eq_true h.2
    have hl : ¬ k_lt B p = true := fun q => by
      have := of_decide_eq_true q
      omega
    unfold k_kd
    rw [if_neg (by omega), if_neg hl, if_pos h.2]
theorem k_nu_e2 {B : Nat → Int} {t p : Nat} (h : k_dg B p = true) : k_en B t p = k_go (k_dg B) t p := by
  have hd := of_decide_eq_true h
  have hl : ¬ k_lt B p = true := fun q => by
    have := of_decide_eq_true q
    omega
  unfold k_en
  rw [if_neg hl, if_pos h]
