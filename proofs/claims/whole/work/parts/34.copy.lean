/-- the heap with another array at a cell -/
def e_set (σ : eH) (a : Nat) (f : Nat → Int) : eH := (σ.1, σ.2.1, σ.2.2.1, va_up σ.2.2.2.1 a f, σ.2.2.2.2)
theorem e_sk (σ : eH) (a : Nat) (f : Nat → Int) : (e_set σ a f).2.2.1 = σ.2.2.1 := rfl
theorem e_sr (σ : eH) (a : Nat) (f : Nat → Int) : (e_set σ a f).2.2.2.2 = σ.2.2.2.2 := rfl
theorem e_sn (σ : eH) (a : Nat) (f : Nat → Int) : (e_set σ a f).1 = σ.1 := rfl
theorem e_ss (σ : eH) (a : Nat) (f : Nat → Int) : (e_set σ a f).2.1 = σ.2.1 := rfl
theorem e_sd1 (σ : eH) (a : Nat) (f : Nat → Int) : (e_set σ a f).2.2.2.1 a = f := by
  show va_up _ _ _ a = _
  unfold va_up
  rw [if_pos rfl]
theorem e_sd2 (σ : eH) {a b : Nat} {f : Nat → Int} (h : b ≠ a) : (e_set σ a f).2.2.2.1 b = σ.2.2.2.1 b := by
  show va_up _ _ _ b = _
  unfold va_up
  rw [if_neg h]
theorem e_set2 (σ : eH) (a : Nat) (f g : Nat → Int) : e_set (e_set σ a f) a g = e_set σ a g := by
  unfold e_set
  congr 4
  funext b
  unfold va_up
  by_cases hb : b = a
  · simp [hb]
  · simp [hb]
theorem e_sp (σ : eH) (a i : Nat) (f : Nat → Int) (x : Int) : e_put (e_set σ a f) a i x = e_set σ a (va_up f i x) := by
  unfold e_put e_set
  congr 4
  funext b
  unfold va_up
  by_cases hb : b = a
  · subst hb
    simp
  · simp [hb]
theorem e_set_id (σ : eH) (a : Nat) : e_set σ a (σ.2.2.2.1 a) = σ := by
  unfold e_set
  have : va_up σ.2.2.2.1 a (σ.2.2.2.1 a) = σ.2.2.2.1 := by
    funext b
    unfold va_up
    split
    next h => rw [h]
    next => rfl
  rw [this]
/-- f below s, g from s on -/
def cp (f g : Nat → Int) (s : Nat) : Nat → Int := fun k => if k < s then f k else g k
theorem cp_0 (f g : Nat → Int) : cp f g 0 = g := by
  funext k
  unfold cp
  rw [if_neg (by omega)]
theorem cp_succ (f g : Nat → Int) (s : Nat) : va_up (cp f g s) s (f s) = cp f g (s + 1) := by
  funext k
  unfold va_up cp
  by_cases h : k = s
  · subst h
    rw [if_pos rfl, if_pos (by omega)]
  · rw [if_neg h]
    by_cases h2 : k < s
    · rw [if_pos h2, if_pos (by omega)]
    · rw [if_neg h2, if_neg (by omega)]
theorem cp_in {f g : Nat → Int} {s k : Nat} (h : k < s) : cp f g s k = f k := if_pos h
theorem cp_out {f g : Nat → Int} {s k : Nat} (h : s ≤ k) : cp f g s k = g k := if_neg (by omega)
/-- f on b .. b + s - 1 (counted from 0), g elsewhere -/
def cq (f g : Nat → Int) (b s : Nat) : Nat → Int := fun k => if b ≤ k ∧ k < b + s then f (k - b) else g k
theorem cq_0 (f g : Nat → Int) (b : Nat) : cq f g b 0 = g := by
  funext k
  unfold cq
  rw [if_neg (by omega)]
theorem cq_succ (f g : Nat → Int) (b s : Nat) : va_up (cq f g b s) (b + s) (f s) = cq f g b (s + 1) := by
  funext k
  unfold va_up cq
  by_cases h : k = b + s
  · subst h
    rw [if_pos rfl, if_pos (by omega), Nat.add_sub_cancel_left]
  · rw [if_neg h]
    by_cases h2 : b ≤ k ∧ k < b + s
    · rw [if_pos h2, if_pos (by omega)]
    · rw [if_neg h2, if_neg (by omega)]
theorem cq_in {f g : Nat → Int} {b s k : Nat} (h : b ≤ k) (h2 : k < b + s) : cq f g b s k = f (k - b) := if_pos ⟨h, h2⟩
theorem cq_out {f g : Nat → Int} {b s k : Nat} (h : k < b ∨ b + s ≤ k) : cq f g b s k = g k := if_neg (by omega)
