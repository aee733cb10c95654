/-! RULES: a step is what it does and a number: 0 a number, 1 a word, 2 + , 3 -, 4 *, 5 /, 6 to 10 < <= = >= >, 11 not, 12 and, 13 or, 14 % -/
def r_op (s : Nat) (x y : Int) : Int := if s = 2 then x + y else if s = 3 then x - y else if s = 4 then x * y else if s = 5 then (if e_w64 y = 0 then 0 else (e_w64 x).tdiv (e_w64 y)) else if s = 14 then (if e_w64 y = 0 then 0 else (e_w64 x).tmod (e_w64 y)) else if s = 6 then (if e_w64 x < e_w64 y then 1 else 0) else if s = 7 then (if e_w64 x ≤ e_w64 y then 1 else 0) else if s = 8 then (if e_w64 x = e_w64 y then 1 else 0) else if s = 9 then (if e_w64 y ≤ e_w64 x then 1 else 0) else if s = 10 then (if e_w64 y < e_w64 x then 1 else 0) else if s = 12 then (Int64.ofInt x &&& Int64.ofInt y).toInt else (Int64.ofInt x ||| Int64.ofInt y).toInt
def r_tk (w : Nat → Int) (s v : Nat) (st : List Int) : List Int := if s = 0 then (v : Int) :: st else if s = 1 then w v :: st else if s = 11 then (match st with | x :: t => (1 - x) :: t | _ => []) else (match st with | y :: x :: t => r_op s x y :: t | _ => [])
def r_ev (w : Nat → Int) : List (Nat × Nat) → List Int → List Int
  | [], st => st
  | t :: r, st => r_ev w r (r_tk w t.1 t.2 st)
/-- whether a step finds on a stack of at most M what it wants: truths and numbers -/
def r_t1 (M s v : Nat) (T : List Bool) : Option (List Bool) := if s = 0 then (if T.length < M then some (false :: T) else none) else if s = 1 then (if T.length < M ∧ v < 12 then some (false :: T) else none) else if s = 11 then (match T with | true :: U => some (true :: U) | _ => none) else (match T with
  | b :: a :: U => if a = b then (if s ≤ 10 ∨ s = 14 then (if a = true then none else some (decide (6 ≤ s ∧ s ≤ 10) :: U)) else if s ≤ 13 then (if a = true then some (true :: U) else none) else none) else none
  | _ => none)
def r_ty (M : Nat) : List (Nat × Nat) → List Bool → Option (List Bool)
  | [], T => some T
  | t :: r, T => (r_t1 M t.1 t.2 T).bind (r_ty M r)
def r_vt : List Bool → List Int → Prop
  | [], [] => True
  | b :: T, x :: st => (b = true → x = 0 ∨ x = 1) ∧ r_vt T st
  | _, _ => False
theorem r_vt_len : ∀ {T : List Bool} {st : List Int}, r_vt T st → st.length = T.length
  | [], [], _ => rfl
  | _ :: T, _ :: st, h => by
    show st.length + 1 = T.length + 1
    rw [r_vt_len h.2]
  | [], _ :: _, h => h.elim
  | _ :: _, [], h => h.elim
theorem r_op01 {s : Nat} {x y : Int} (h : 6 ≤ s ∧ s ≤ 10) : r_op s x y = 0 ∨ r_op s x y = 1 := by
  obtain rfl | rfl | rfl | rfl | rfl : s = 6 ∨ s = 7 ∨ s = 8 ∨ s = 9 ∨ s = 10 := by omega
  all_goals (simp only [r_op, Nat.reduceEqDiff, if_false, if_true]; split <;> simp)
theorem r_opb {s : Nat} {x y : Int} (h : s = 12 ∨ s = 13) (hx : x = 0 ∨ x = 1) (hy : y = 0 ∨ y = 1) : r_op s x y = 0 ∨ r_op s x y = 1 := by
  rcases h with rfl | rfl <;> rcases hx with rfl | rfl <;> rcases hy with rfl | rfl <;> simp only [r_op, Nat.reduceEqDiff, if_false, if_true] <;> decide
/-- what a step wants, and what is there behind it -/
theorem r_t1_vt {M s v : Nat} {w : Nat → Int} {T T' : List Bool} {st : List Int} (h : r_vt T st) (ht : r_t1 M s v T = some T') : r_vt T' (r_tk w s v st) := by
  unfold r_t1 at ht
  unfold r_tk
  by_cases h0 : s = 0
  · rw [if_pos h0] at ht ⊢
    split at ht
    · cases ht
      exact ⟨fun e => (by cases e), h⟩
    · cases ht
  rw [if_neg h0] at ht ⊢
  by_cases h1 : s = 1
  · rw [if_pos h1] at ht ⊢
    split at ht
    · cases ht
      exact ⟨fun e => (by cases e), h⟩
    · cases ht
  rw [if_neg h1] at ht ⊢
  by_cases h2 : s = 11
  · rw [if_pos h2] at ht ⊢
    split at ht
    next U =>
      cases ht
      cases st with
      | nil => exact h.elim
      | cons x t =>
        refine ⟨fun _ => ?_, h.2⟩
        have := h.1 rfl
        omega
    · cases ht
  rw [if_neg h2] at ht ⊢
  split at ht
  next b a U =>
    cases st with
    | nil => exact h.elim
    | cons y t =>
      cases t with
      | nil => exact h.2.elim
      | cons x t =>
        have h3 := h.1
        have h4 := h.2.1
        have h5 := h.2.2
        by_cases hab : a = b
        · rw [if_pos hab] at ht
          by_cases h6 : s ≤ 10 ∨ s = 14
          · rw [if_pos h6] at ht
            split at ht
            · cases ht
            · cases ht
              refine ⟨fun e => ?_, h5⟩
              exact r_op01 (of_decide_eq_true e)
          · rw [if_neg h6] at ht
            by_cases h7 : s ≤ 13
            · rw [if_pos h7] at ht
              split at ht
              next ha =>
                cases ht
                refine ⟨fun _ => r_opb (by omega) (h4 ha) (h3 (hab ▸ ha)), h5⟩
              · cases ht
            · rw [if_neg h7] at ht
              cases ht
        · rw [if_neg hab] at ht
          cases ht
  · cases ht
theorem r_ty_cons {M : Nat} {t : Nat × Nat} {r : List (Nat × Nat)} {T U : List Bool} (h : r_ty M (t :: r) T = some U) : ∃ T', r_t1 M t.1 t.2 T = some T' ∧ r_ty M r T' = some U := by
  have h : (r_t1 M t.1 t.2 T).bind (r_ty M r) = some U := h
  cases hh : r_t1 M t.1 t.2 T with
  | none => rw [hh] at h; cases h
  | some T' => rw [hh] at h; exact ⟨T', rfl, h⟩
theorem r_ev_vt {M : Nat} {w : Nat → Int} : ∀ (ts : List (Nat × Nat)) {T U : List Bool} {st : List Int}, r_vt T st → r_ty M ts T = some U → r_vt U (r_ev w ts st)
  | [], T, U, st, h, ht => by
    cases ht
    exact h
  | t :: r, T, U, st, h, ht => by
    obtain ⟨T', h1, h2⟩ := r_ty_cons ht
    exact r_ev_vt r (r_t1_vt h h1) h2
theorem r_ty_app {M : Nat} : ∀ (a b : List (Nat × Nat)) (T : List Bool), r_ty M (a ++ b) T = (r_ty M a T).bind (r_ty M b)
  | [], b, T => rfl
  | t :: r, b, T => by
    show (r_t1 M t.1 t.2 T).bind (r_ty M (r ++ b)) = ((r_t1 M t.1 t.2 T).bind (r_ty M r)).bind (r_ty M b)
    cases r_t1 M t.1 t.2 T with
    | none => rfl
    | some T' => exact r_ty_app r b T'
theorem r_ev_app {w : Nat → Int} : ∀ (a b : List (Nat × Nat)) (st : List Int), r_ev w (a ++ b) st = r_ev w b (r_ev w a st)
  | [], b, st => rfl
  | t :: r, b, st => r_ev_app r b _
/-- a stack in an array -/
def r_stk (f : Nat → Int) : List Int → Prop
  | [] => True
  | x :: t => f t.length = x ∧ r_stk f t
theorem r_stk_up {f : Nat → Int} {v : Int} : ∀ {t : List Int} {k : Nat}, t.length ≤ k → r_stk f t → r_stk (va_up f k v) t
  | [], k, h, _ => trivial
  | x :: t, k, h, hs => by
    have h : t.length + 1 ≤ k := h
    exact ⟨by rw [e_un _ (by omega)]; exact hs.1, r_stk_up (by omega) hs.2⟩
/-- steps in an array from b on -/
def r_tks (f : Nat → Int) : Nat → List (Nat × Nat) → Prop
  | _, [] => True
  | b, t :: r => f b = ((t.1 + 16 * t.2 : Nat) : Int) ∧ t.1 < 15 ∧ t.2 < 100000 ∧ r_tks f (b + 1) r
theorem r_c15 {s v : Nat} (hs : s < 16) (hv : v < 100000) : (Int32.ofInt ((s + 16 * v : Nat) : Int) &&& Int32.ofInt 15).toInt = (s : Int) := by
  rw [show Int32.ofInt 15 = Int32.ofInt ((15 : Nat) : Int) from rfl, b_andI (by omega), show (15 : Nat) = 2 ^ 4 - 1 from rfl, Nat.and_two_pow_sub_one_eq_mod]
  omega
theorem r_c4 {s v : Nat} (hs : s < 16) : ((s + 16 * v : Nat) : Int) / 2 ^ 4 = (v : Int) := by
  rw [show (2 : Int) ^ 4 = 16 from rfl]
  omega
