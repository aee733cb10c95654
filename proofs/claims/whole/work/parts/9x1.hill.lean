/-! A HILL's text: H as the reference's array read -/
def k_num (B : Nat → Int) (t : Nat) (lo hh : Int) (p : Nat) : Nat ⊕ (Nat × Nat) := if k_kd B t p = 276 then (if lo ≤ k_nu B t p ∧ k_nu B t p ≤ hh then .inr (k_nx B t p, (k_nu B t p).toNat) else .inl (2 + 8 * p)) else .inl (1 + 8 * p)
abbrev kH : Type := Nat ⊕ (Nat × (Nat → Int))
def k_nb (r : Nat ⊕ (Nat × Nat)) (f : Nat → Nat → kH) : kH := match r with
  | .inl e => .inl e
  | .inr x => f x.1 x.2
theorem k_nb_l (e : Nat) (f : Nat → Nat → kH) : k_nb (.inl e) f = .inl e := rfl
theorem k_nb_r (x : Nat × Nat) (f : Nat → Nat → kH) : k_nb (.inr x) f = f x.1 x.2 := rfl
theorem k_nb_i {r : Nat ⊕ (Nat × Nat)} {f : Nat → Nat → kH} {y : Nat × (Nat → Int)} (h : k_nb r f = .inr y) : ∃ x, r = .inr x ∧ f x.1 x.2 = .inr y := by
  cases r with
  | inl e => exact absurd h (by intro h; cases h)
  | inr x => exact ⟨x, rfl, h⟩
/-- a hill that begins -/
def k_h0 (a g : Nat) : Nat → Int := fun k => if k = 0 ∨ k = 4 then (a : Int) else if k = 1 then (g : Int) else if 79 ≤ k ∧ k < 87 then -1 else 0
def k_hc (B : Nat → Int) (t n : Nat) (H : Nat → Int) (s m p : Nat) : kH := if k_kd B t p = 268 ∨ k_kd B t p = 256 ∨ k_kd B t p = 257 ∨ k_kd B t p = 258 ∨ k_kd B t p = 269 then (if n = 40 ∨ ¬ (k_kd B t p = 268 ↔ n = 0) ∨ k_kd B t p = 256 ∧ s = 8 ∨ k_kd B t p = 257 ∧ m = 4 then .inl (5 + 8 * p) else if k_kd B t p = 268 then k_nb (k_num B t 1 9 (k_nx B t p)) (fun p1 a => k_nb (k_num B t 1 20 p1) (fun p2 g => .inr (p2, k_h0 a g))) else if k_kd B t p = 256 then k_nb (k_num B t 1 9 (k_nx B t p)) (fun p1 a => .inr (p1, va_up (va_up H (63 + s) (a : Int)) 2 ((s : Int) + 1))) else if k_kd B t p = 257 then k_nb (k_num B t 1 9 (k_nx B t p)) (fun p1 a => k_nb (k_num B t 0 20 p1) (fun p2 g => .inr (p2, va_up (va_up (va_up H (71 + m) (a : Int)) (75 + m) (g : Int)) 3 ((m : Int) + 1)))) else if k_kd B t p = 258 then k_nb (k_num B t 0 ((s : Int) - 1) (k_nx B t p)) (fun p1 a => k_nb (k_num B t 0 ((m : Int) - 1) p1) (fun p2 g => k_nb (k_num B t 0 99 p2) (fun p3 w => .inr (p3, va_up H (87 + 4 * a + g) (w : Int))))) else k_nb (k_num B t 0 ((s : Int) - 1) (k_nx B t p)) (fun p1 a => k_nb (k_num B t 0 ((s : Int) - 1) p1) (fun p2 g => if a = g then .inl (2 + 8 * p1) else .inr (p2, va_up H (79 + a) (g : Int))))) else .inl (1 + 8 * p)
def k_hd (B : Nat → Int) (t : Nat) : Nat → Nat → (Nat → Int) → Nat → Nat ⊕ (Nat → Int)
  | 0, _, _, _ => .inl 0
  | f + 1, n, H, p => match k_hc B t n H (H 2).toNat (H 3).toNat p with
    | .inl e => .inl e
    | .inr x => if k_kd B t x.1 = 279 then .inr x.2 else if k_kd B t x.1 = 59 then k_hd B t f (n + 1) x.2 (k_nx B t x.1) else .inl (1 + 8 * x.1)
/-- what a hill that is read keeps to -/
def Hok (H : Nat → Int) (s m : Nat) : Prop := H 2 = (s : Int) ∧ s ≤ 8 ∧ H 3 = (m : Int) ∧ m ≤ 4 ∧ (1 ≤ H 0 ∧ H 0 ≤ 9) ∧ (1 ≤ H 1 ∧ H 1 ≤ 20) ∧ (∀ i, i < 8 → 0 ≤ H (63 + i) ∧ H (63 + i) ≤ 9) ∧ (∀ i, i < 4 → 0 ≤ H (71 + i) ∧ H (71 + i) ≤ 9) ∧ (∀ i, i < 4 → 0 ≤ H (75 + i) ∧ H (75 + i) ≤ 20) ∧ (∀ i, i < 8 → -1 ≤ H (79 + i) ∧ H (79 + i) < s) ∧ (∀ i, i < 32 → 0 ≤ H (87 + i) ∧ H (87 + i) ≤ 99) ∧ ∀ k, 4 < k ∧ k < 63 ∨ 119 ≤ k → H k = 0
theorem k_num_b {B : Nat → Int} {t p : Nat} {lo hh : Int} {x : Nat × Nat} (h : k_num B t lo hh p = .inr x) : k_kd B t p = 276 ∧ x.1 = k_nx B t p ∧ (x.2 : Int) = k_nu B t p ∨ lo < 0 := by
  unfold k_num at h
  split at h
  · split at h
    · cases h
      by_cases hl : lo < 0
      · exact Or.inr hl
      · refine Or.inl ⟨by assumption, rfl, ?_⟩
        show (((k_nu B t p).toNat : Nat) : Int) = _
        omega
    · cases h
  · cases h
theorem k_num_r {B : Nat → Int} {t p : Nat} {lo hh : Int} {x : Nat × Nat} (hl : 0 ≤ lo) (h : k_num B t lo hh p = .inr x) : lo ≤ (x.2 : Int) ∧ (x.2 : Int) ≤ hh := by
  unfold k_num at h
  split at h
  · split at h
    · cases h
      show lo ≤ (((k_nu B t p).toNat : Nat) : Int) ∧ (((k_nu B t p).toNat : Nat) : Int) ≤ hh
      omega
    · cases h
  · cases h
theorem k_h0_ok {a g : Nat} (ha : 1 ≤ (a : Int) ∧ (a : Int) ≤ 9) (hg : 1 ≤ (g : Int) ∧ (g : Int) ≤ 20) : Hok (k_h0 a g) 0 0 := by
  refine ⟨rfl, by omega, rfl, by omega, ha, hg, fun i hi => ?_, fun i hi => ?_, fun i hi => ?_, fun i hi => ?_, fun i hi => ?_, fun k hk => ?_⟩
  · unfold k_h0
    rw [if_neg (by omega), if_neg (by omega), if_neg (by omega)]; omega
  · unfold k_h0
    rw [if_neg (by omega), if_neg (by omega), if_neg (by omega)]; omega
  · unfold k_h0
    rw [if_neg (by omega), if_neg (by omega), if_neg (by omega)]; omega
  · unfold k_h0
    rw [if_neg (by omega), if_neg (by omega), if_pos (by omega)]; omega
  · unfold k_h0
    rw [if_neg (by omega), if_neg (by omega), if_neg (by omega)]; omega
  · unfold k_h0
    rw [if_neg (by omega), if_neg (by omega), if_neg (by omega)]
theorem e_va {f : Nat → Int} {a k : Nat} {x : Int} : va_up f a x k = if k = a then x else f k := rfl
theorem Hok.sh {H : Nat → Int} {s m a : Nat} (h : Hok H s m) (hs8 : s < 8) (ha : (a : Int) ≤ 9) : Hok (va_up (va_up H (63 + s) (a : Int)) 2 ((s : Int) + 1)) (s + 1) (m) := by
  obtain ⟨h2, hs, h3, hm, h0, h1, hw, hh, hl, hf, hk, hz⟩ := h
  refine ⟨?_, by omega, ?_, by omega, ?_, ?_, fun i hi => ?_, fun i hi => ?_, fun i hi => ?_, fun i hi => ?_, fun i hi => ?_, fun j hj => ?_⟩
  · first | (rw [e_us]; omega) | (simp only [e_va]; (repeat' split) <;> omega)
  · first | (rw [e_us]; omega) | (simp only [e_va]; (repeat' split) <;> omega)
  · simp only [e_va]; (repeat' split) <;> omega
  · simp only [e_va]; (repeat' split) <;> omega
  · have := hw i hi; simp only [e_va]; (repeat' split) <;> omega
  · have := hh i hi; simp only [e_va]; (repeat' split) <;> omega
  · have := hl i hi; simp only [e_va]; (repeat' split) <;> omega
  · have := hf i hi; simp only [e_va]; (repeat' split) <;> omega
  · have := hk i hi; simp only [e_va]; (repeat' split) <;> omega
  · have := hz j hj; simp only [e_va]; (repeat' split) <;> omega
theorem Hok.mn {H : Nat → Int} {s m a g : Nat} (h : Hok H s m) (hm4 : m < 4) (ha : (a : Int) ≤ 9) (hg : (g : Int) ≤ 20) : Hok (va_up (va_up (va_up H (71 + m) (a : Int)) (75 + m) (g : Int)) 3 ((m : Int) + 1)) (s) (m + 1) := by
  obtain ⟨h2, hs, h3, hm, h0, h1, hw, hh, hl, hf, hk, hz⟩ := h
  refine ⟨?_, by omega, ?_, by omega, ?_, ?_, fun i hi => ?_, fun i hi => ?_, fun i hi => ?_, fun i hi => ?_, fun i hi => ?_, fun j hj => ?_⟩
  · first | (rw [e_us]; omega) | (simp only [e_va]; (repeat' split) <;> omega)
  · first | (rw [e_us]; omega) | (simp only [e_va]; (repeat' split) <;> omega)
  · simp only [e_va]; (repeat' split) <;> omega
  · simp only [e_va]; (repeat' split) <;> omega
  · have := hw i hi; simp only [e_va]; (repeat' split) <;> omega
  · have := hh i hi; simp only [e_va]; (repeat' split) <;> omega
  · have := hl i hi; simp only [e_va]; (repeat' split) <;> omega
  · have := hf i hi; simp only [e_va]; (repeat' split) <;> omega
  · have := hk i hi; simp only [e_va]; (repeat' split) <;> omega
  · have := hz j hj; simp only [e_va]; (repeat' split) <;> omega
theorem Hok.li {H : Nat → Int} {s m a g w : Nat} (h : Hok H s m) (ha : a < s) (hg : g < m) (hw9 : (w : Int) ≤ 99) : Hok (va_up H (87 + 4 * a + g) (w : Int)) (s) (m) := by
  obtain ⟨h2, hs, h3, hm, h0, h1, hw, hh, hl, hf, hk, hz⟩ := h
  refine ⟨?_, by omega, ?_, by omega, ?_, ?_, fun i hi => ?_, fun i hi => ?_, fun i hi => ?_, fun i hi => ?_, fun i hi => ?_, fun j hj => ?_⟩
  · first | (rw [e_us]; omega) | (simp only [e_va]; (repeat' split) <;> omega)
  · first | (rw [e_us]; omega) | (simp only [e_va]; (repeat' split) <;> omega)
  · simp only [e_va]; (repeat' split) <;> omega
  · simp only [e_va]; (repeat' split) <;> omega
  · have := hw i hi; simp only [e_va]; (repeat' split) <;> omega
  · have := hh i hi; simp only [e_va]; (repeat' split) <;> omega
  · have := hl i hi; simp only [e_va]; (repeat' split) <;> omega
  · have := hf i hi; simp only [e_va]; (repeat' split) <;> omega
  · have := hk i hi; simp only [e_va]; (repeat' split) <;> omega
  · have := hz j hj; simp only [e_va]; (repeat' split) <;> omega
theorem Hok.fo {H : Nat → Int} {s m a g : Nat} (h : Hok H s m) (ha : a < s) (hg : g < s) : Hok (va_up H (79 + a) (g : Int)) (s) (m) := by
  obtain ⟨h2, hs, h3, hm, h0, h1, hw, hh, hl, hf, hk, hz⟩ := h
  refine ⟨?_, by omega, ?_, by omega, ?_, ?_, fun i hi => ?_, fun i hi => ?_, fun i hi => ?_, fun i hi => ?_, fun i hi => ?_, fun j hj => ?_⟩
  · first | (rw [e_us]; omega) | (simp only [e_va]; (repeat' split) <;> omega)
  · first | (rw [e_us]; omega) | (simp only [e_va]; (repeat' split) <;> omega)
  · simp only [e_va]; (repeat' split) <;> omega
  · simp only [e_va]; (repeat' split) <;> omega
  · have := hw i hi; simp only [e_va]; (repeat' split) <;> omega
  · have := hh i hi; simp only [e_va]; (repeat' split) <;> omega
  · have := hl i hi; simp only [e_va]; (repeat' split) <;> omega
  · have := hf i hi; simp only [e_va]; (repeat' split) <;> omega
  · have := hk i hi; simp only [e_va]; (repeat' split) <;> omega
  · have := hz j hj; simp only [e_va]; (repeat' split) <;> omega
