/-! READING: bytes B, t of them -/
def k_gF (P : Nat → Bool) : Nat → Nat → Nat
  | 0, p => p
  | f + 1, p => if P p = true then k_gF P f (p + 1) else p
/-- the first place from p on that is t or has not P -/
def k_go (P : Nat → Bool) (t p : Nat) : Nat := k_gF P (t - p) p
theorem k_go_ge {P : Nat → Bool} {t p : Nat} (h : t ≤ p) : k_go P t p = p := by
  unfold k_go
  rw [show t - p = 0 by omega]
  rfl
theorem k_go_t {P : Nat → Bool} {t p : Nat} (h : p < t) (hp : P p = true) : k_go P t p = k_go P t (p + 1) := by
  unfold k_go
  rw [show t - p = (t - (p + 1)) + 1 by omega]
  exact if_pos hp
theorem k_go_f {P : Nat → Bool} {t p : Nat} (hp : P p = false) : k_go P t p = p := by
  unfold k_go
  cases t - p with
  | zero => rfl
  | succ f => exact if_neg (by rw [hp]; exact Bool.false_ne_true)
theorem k_go_sp {P : Nat → Bool} {t : Nat} : ∀ (f p : Nat), t - p = f → p ≤ k_go P t p ∧ (p ≤ t → k_go P t p ≤ t) ∧ (∀ i, p ≤ i → i < k_go P t p → P i = true) ∧ (k_go P t p < t → P (k_go P t p) = false)
  | 0, p, h => by
    rw [k_go_ge (by omega)]
    exact ⟨by omega, fun h => h, fun i h1 h2 => by omega, fun h1 => by omega⟩
  | f + 1, p, h => by
    cases hp : P p with
    | true =>
      rw [k_go_t (by omega) hp]
      have ih := k_go_sp (P := P) (t := t) f (p + 1) (by omega)
      refine ⟨by omega, fun _ => ih.2.1 (by omega), fun i h1 h2 => ?_, ih.2.2.2⟩
      by_cases e : i = p
      · rw [e]; exact hp
      · exact ih.2.2.1 i (by omega) h2
    | false =>
      rw [k_go_f hp]
      exact ⟨by omega, fun h => h, fun i h1 h2 => by omega, fun _ => hp⟩
theorem k_go_le (P : Nat → Bool) (t p : Nat) : p ≤ k_go P t p := (k_go_sp _ p rfl).1
theorem k_go_lt {P : Nat → Bool} {t p : Nat} (h : p ≤ t) : k_go P t p ≤ t := (k_go_sp _ p rfl).2.1 h
theorem k_go_in {P : Nat → Bool} {t p i : Nat} (h : p ≤ i) (h2 : i < k_go P t p) : P i = true := (k_go_sp _ p rfl).2.2.1 i h h2
theorem k_go_no {P : Nat → Bool} {t p : Nat} (h : k_go P t p < t) : P (k_go P t p) = false := (k_go_sp _ p rfl).2.2.2 h
theorem k_go_eq {P : Nat → Bool} {t p i : Nat} (h : p ≤ i) (h2 : i ≤ k_go P t p) : k_go P t p = k_go P t i := by
  induction i with
  | zero => rw [show p = 0 by omega]
  | succ i ih =>
    by_cases e : p = i + 1
    · rw [e]
    · rw [ih (by omega) (by omega)]
      refine k_go_t ?_ (k_go_in (by omega) h2)
      by_cases ht : i < t
      · exact ht
      · exfalso
        have := ih (by omega) (by omega)
        rw [k_go_ge (p := i) (by omega)] at this
        omega
def k_bl (B : Nat → Int) (p : Nat) : Bool := decide (B p = 32)
def k_lt (B : Nat → Int) (p : Nat) : Bool := decide (97 ≤ B p ∧ B p ≤ 122)
def k_dg (B : Nat → Int) (p : Nat) : Bool := decide (48 ≤ B p ∧ B p ≤ 57)
def k_sk (B : Nat → Int) (t p : Nat) : Nat := k_go (k_bl B) t p
/-- the number of n bytes -/
def k_vv (B : Nat → Int) (p : Nat) : Nat → Int
  | 0 => 0
  | n + 1 => 256 * k_vv B p n + B (p + n)
/-- how many letters lie from p on -/
def k_ln (B : Nat → Int) (t p : Nat) : Nat := k_go (k_lt B) t p - p
def k_wv (B : Nat → Int) (t p : Nat) : Int := if k_ln B t p < 8 then k_vv B p (k_ln B t p) else 0
/-- the kind of a word -/
def k_wk (V : Int) : Int := if V = 0x7368656570 then 256 else if V = 0x6d616e then 257 else if V = 0x6c696b6573 then 258 else if V = 0x73616c74 then 259 else if V = 0x68616e6473 then 260 else if V = 0x666c6f636b then 261 else if V = 0x6d696e65 then 262 else if V = 0x6c6564 then 263 else if V = 0x776f6f6c then 264 else if V = 0x636f696e73 then 265 else if V = 0x6772617373 then 266 else if V = 0x79656172 then 267 else if V = 0x68696c6c then 268 else if V = 0x666f6c6c6f7773 then 269 else if V = 0x676f then 270 else if V = 0x6966 then 271 else if V = 0x6f72 then 272 else if V = 0x616e64 then 273 else if V = 0x6e6f74 then 274 else 275
def k_db (B : Nat → Int) (t p : Nat) : Bool := decide ((B p = 60 ∨ B p = 62) ∧ p + 1 < t ∧ B (p + 1) = 61)
/-- the kind of the token at p -/
def k_kd (B : Nat → Int) (t p : Nat) : Int := if t ≤ p then 279 else if k_lt B p = true then k_wk (k_wv B t p) else if k_dg B p = true then 276 else if k_db B t p = true then (if B p = 60 then 277 else 278) else B p % 256
/-- the place behind it -/
def k_en (B : Nat → Int) (t p : Nat) : Nat := if k_lt B p = true then k_go (k_lt B) t p else if k_dg B p = true then k_go (k_dg B) t p else if k_db B t p = true then p + 2 else p + 1
/-- the next token's place -/
def k_nx (B : Nat → Int) (t p : Nat) : Nat := k_sk B t (k_en B t p)
def k_nv (B : Nat → Int) (p : Nat) : Nat → Int
  | 0 => 0
  | n + 1 => if n < 5 then 10 * k_nv B p n + B (p + n) - 48 else k_nv B p n
def k_nl (B : Nat → Int) (t p : Nat) : Nat := k_go (k_dg B) t p - p
def k_nu (B : Nat → Int) (t p : Nat) : Int := if 5 < k_nl B t p then -1 else k_nv B p (k_nl B t p)
theorem k_en_b {B : Nat → Int} {t p : Nat} (h : p < t) : p < k_en B t p ∧ k_en B t p ≤ t := by
  unfold k_en
  by_cases h1 : k_lt B p = true
  · rw [if_pos h1, k_go_t h h1]
    have := k_go_le (k_lt B) t (p + 1)
    have := k_go_lt (P := k_lt B) (t := t) (p := p + 1) (by omega)
    omega
  · rw [if_neg h1]
    by_cases h2 : k_dg B p = true
    · rw [if_pos h2, k_go_t h h2]
      have := k_go_le (k_dg B) t (p + 1)
      have := k_go_lt (P := k_dg B) (t := t) (p := p + 1) (by omega)
      omega
    · rw [if_neg h2]
      by_cases h3 : k_db B t p = true
      · rw [if_pos h3]
        have := of_decide_eq_true h3
        omega
      · rw [if_neg h3]
        omega
theorem k_sk_b {B : Nat → Int} {t p : Nat} (h : p ≤ t) : p ≤ k_sk B t p ∧ k_sk B t p ≤ t := ⟨k_go_le _ _ _, k_go_lt h⟩
theorem k_nx_b {B : Nat → Int} {t p : Nat} (h : p < t) : p < k_nx B t p ∧ k_en B t p ≤ k_nx B t p ∧ k_nx B t p ≤ t := by
  have h1 := k_en_b (B := B) h
  have h2 := k_sk_b (B := B) h1.2
  unfold k_nx
  omega
theorem k_kd_end {B : Nat → Int} {t p : Nat} (h : t ≤ p) : k_kd B t p = 279 := if_pos h
theorem k_wk_b (V : Int) : 256 ≤ k_wk V ∧ k_wk V ≤ 275 := by
  unfold k_wk
  (repeat' split) <;> omega
theorem k_kd_b (B : Nat → Int) (t p : Nat) : 0 ≤ k_kd B t p ∧ k_kd B t p ≤ 279 := by
  have hw := k_wk_b (k_wv B t p)
  unfold k_kd
  (repeat' split) <;> omega
theorem k_kd_in {B : Nat → Int} {t p : Nat} (h : k_kd B t p ≠ 279) : p < t := by
  by_cases e : t ≤ p
  · exact absurd (k_kd_end e) h
  · omega
theorem k_nv_b {B : Nat → Int} {p : Nat} : ∀ (n : Nat), (∀ i, i < n → k_dg B (p + i) = true) → 0 ≤ k_nv B p n ∧ (n ≤ 5 → k_nv B p n < 10 ^ n) ∧ k_nv B p n < 100000
  | 0, _ => by
    show (0 : Int) ≤ 0 ∧ (_ → (0 : Int) < 1) ∧ (0 : Int) < 100000
    omega
  | n + 1, h => by
    have ih := k_nv_b n (fun i hi => h i (by omega))
    have hd := of_decide_eq_true (h n (by omega))
    show 0 ≤ (if n < 5 then _ else _) ∧ (_ → (if n < 5 then _ else _) < _) ∧ (if n < 5 then _ else _) < _
    by_cases hn : n < 5
    · rw [if_pos hn]
      have h1 := ih.2.1 (by omega)
      obtain rfl | rfl | rfl | rfl | rfl : n = 0 ∨ n = 1 ∨ n = 2 ∨ n = 3 ∨ n = 4 := by omega
      all_goals (simp only [Int.reducePow, Nat.reduceAdd] at h1 ⊢; omega)
    · rw [if_neg hn]
      exact ⟨ih.1, fun h => by omega, ih.2.2⟩
theorem k_nu_b {B : Nat → Int} {t p : Nat} (h : 0 ≤ k_nu B t p) : k_nu B t p < 100000 := by
  unfold k_nu at h ⊢
  split
  · omega
  · refine (k_nv_b _ fun i hi => ?_).2.2
    exact k_go_in (t := t) (p := p) (by omega) (by unfold k_nl at hi; omega)
abbrev kR : Type := Nat ⊕ (Nat × Nat × List (Nat × Nat))
def k_bd (r : kR) (f : Nat → Nat → List (Nat × Nat) → kR) : kR := match r with
  | .inl e => .inl e
  | .inr x => f x.1 x.2.1 x.2.2
theorem k_bd_l (e : Nat) (f : Nat → Nat → List (Nat × Nat) → kR) : k_bd (.inl e) f = .inl e := rfl
theorem k_bd_r (x : Nat × Nat × List (Nat × Nat)) (f : Nat → Nat → List (Nat × Nat) → kR) : k_bd (.inr x) f = f x.1 x.2.1 x.2.2 := rfl
theorem k_bd_i {r : kR} {f : Nat → Nat → List (Nat × Nat) → kR} {y : Nat × Nat × List (Nat × Nat)} (h : k_bd r f = .inr y) : ∃ x, r = .inr x ∧ f x.1 x.2.1 x.2.2 = .inr y := by
  cases r with
  | inl e => exact absurd h (by intro h; cases h)
  | inr x => exact ⟨x, rfl, h⟩
def k_val (B : Nat → Int) (t v p : Nat) (c : List (Nat × Nat)) : kR := if 256 ≤ k_kd B t p ∧ k_kd B t p ≤ 267 then (if v = 60 then .inl (4 + 8 * p) else .inr (k_nx B t p, v + 1, c ++ [(1, (k_kd B t p - 256).toNat)])) else if k_kd B t p = 276 then (if k_nu B t p < 0 then .inl (2 + 8 * p) else if v = 60 then .inl (4 + 8 * p) else .inr (k_nx B t p, v + 1, c ++ [(0, (k_nu B t p).toNat)])) else .inl (1 + 8 * p)
/-- signs that join -/
def k_js (d : Int) : Nat := if d = 43 then 2 else if d = 45 then 3 else if d = 42 then 4 else if d = 47 then 5 else if d = 37 then 14 else 0
def k_sl (B : Nat → Int) (t : Nat) : Nat → Nat → Nat → List (Nat × Nat) → List (Nat × Nat) → kR
  | 0, v, p, w, c => .inr (p, v, c ++ w)
  | f + 1, v, p, w, c => if k_js (k_kd B t p) = 0 then .inr (p, v, c ++ w) else if k_js (k_kd B t p) ≤ 3 then k_bd (k_val B t v (k_nx B t p) (c ++ w)) (fun p' v' c' => k_sl B t f v' p' [(k_js (k_kd B t p), 0)] c') else k_bd (k_val B t v (k_nx B t p) c) (fun p' v' c' => k_sl B t f v' p' w (c' ++ [(k_js (k_kd B t p), 0)]))
def k_sum (B : Nat → Int) (t v p : Nat) (c : List (Nat × Nat)) : kR := k_bd (k_val B t v p c) (fun p' v' c' => k_sl B t 400 v' p' [] c')
/-- signs that compare -/
def k_cs (d : Int) : Nat := if d = 60 then 6 else if d = 277 then 7 else if d = 61 then 8 else if d = 278 then 9 else if d = 62 then 10 else 0
def k_cm (B : Nat → Int) (t v p : Nat) (c : List (Nat × Nat)) : kR := k_bd (k_sum B t v p c) (fun p1 v1 c1 => if k_cs (k_kd B t p1) = 0 then .inl (1 + 8 * p1) else if v1 = 60 then .inl (4 + 8 * p1) else k_bd (k_sum B t (v1 + 1) (k_nx B t p1) c1) (fun p2 v2 c2 => .inr (p2, v2, c2 ++ [(k_cs (k_kd B t p1), 0)])))
abbrev kF : Type := Nat → Nat → List (Nat × Nat) → kR
def k_tl (B : Nat → Int) (t : Nat) (F : kF) : Nat → Nat → Nat → List (Nat × Nat) → List (Nat × Nat) → kR
  | 0, v, p, w, c => .inr (p, v, c ++ w)
  | f + 1, v, p, w, c => if k_kd B t p = 273 then k_bd (F v (k_nx B t p) c) (fun p' v' c' => k_tl B t F f v' p' w (c' ++ [(12, 0)])) else if k_kd B t p = 272 then k_bd (F v (k_nx B t p) (c ++ w)) (fun p' v' c' => k_tl B t F f v' p' [(13, 0)] c') else .inr (p, v, c ++ w)
def k_ts (B : Nat → Int) (t : Nat) (F : kF) (v p : Nat) (c : List (Nat × Nat)) : kR := k_bd (F v p c) (fun p' v' c' => k_tl B t F 400 v' p' [] c')
/-- a fact, D levels may still be opened -/
def k_fa (B : Nat → Int) (t : Nat) : Nat → kF
  | 0, v, p, c => if k_kd B t p = 274 ∨ k_kd B t p = 91 then .inl (3 + 8 * p) else k_cm B t v p c
  | D + 1, v, p, c => if k_kd B t p = 274 then k_bd (k_fa B t D v (k_nx B t p) c) (fun p' v' c' => .inr (p', v', c' ++ [(11, 0)])) else if k_kd B t p = 91 then k_bd (k_ts B t (k_fa B t D) v (k_nx B t p) c) (fun p' v' c' => if k_kd B t p' = 93 then .inr (k_nx B t p', v', c') else .inl (1 + 8 * p')) else k_cm B t v p c
/-- places go on, with at most one step a place -/
def k_gr (t v p : Nat) (c : List (Nat × Nat)) (x : Nat × Nat × List (Nat × Nat)) : Prop := p < x.1 ∧ x.1 ≤ t ∧ x.2.2.length + p ≤ c.length + x.1 ∧ (v ≤ 60 → x.2.1 ≤ 60)
theorem k_val_g {B : Nat → Int} {t v p : Nat} {c : List (Nat × Nat)} {x : Nat × Nat × List (Nat × Nat)} (h : k_val B t v p c = .inr x) : k_gr t v p c x := by
  unfold k_val at h
  have key : ∀ y, k_kd B t p ≠ 279 → v ≠ 60 → (Sum.inr (k_nx B t p, v + 1, c ++ [y]) : kR) = .inr x → k_gr t v p c x := fun y h1 h2 h3 => by
    have hb := k_nx_b (B := B) (k_kd_in h1)
    cases h3
    refine ⟨hb.1, hb.2.2, ?_, fun h => ?_⟩
    · show (c ++ [y]).length + p ≤ c.length + k_nx B t p
      rw [List.length_append, List.length_cons, List.length_nil]
      omega
    · show v + 1 ≤ 60
      omega
  split at h
  · split at h
    · cases h
    · exact key _ (by omega) (by assumption) h
  · split at h
    · split at h
      · cases h
      · split at h
        · cases h
        · exact key _ (by omega) (by assumption) h
    · cases h
theorem k_js_i {B : Nat → Int} {t p : Nat} (h : k_js (k_kd B t p) ≠ 0) : p < t := k_kd_in (fun e => h (by rw [e]; rfl))
theorem k_cs_i {B : Nat → Int} {t p : Nat} (h : k_cs (k_kd B t p) ≠ 0) : p < t := k_kd_in (fun e => h (by rw [e]; rfl))
/-- as k_gr, but it may stay; w steps wait -/
def k_gs (t v p : Nat) (c w : List (Nat × Nat)) (x : Nat × Nat × List (Nat × Nat)) : Prop := p ≤ x.1 ∧ (p ≤ t → x.1 ≤ t) ∧ x.2.2.length + p ≤ c.length + w.length + x.1 ∧ (v ≤ 60 → x.2.1 ≤ 60)
theorem k_sl_g {B : Nat → Int} {t : Nat} : ∀ (f v p : Nat) (w c : List (Nat × Nat)) {x : Nat × Nat × List (Nat × Nat)}, k_sl B t f v p w c = .inr x → k_gs t v p c w x
  | 0, v, p, w, c, x, h => by
    cases h
    exact ⟨Nat.le_refl _, fun h => h, by show (c ++ w).length + p ≤ _; rw [List.length_append]; omega, fun h => h⟩
  | f + 1, v, p, w, c, x, h => by
    unfold k_sl at h
    split at h
    · cases h
      exact ⟨Nat.le_refl _, fun h => h, by show (c ++ w).length + p ≤ _; rw [List.length_append]; omega, fun h => h⟩
    · have hp := k_js_i (B := B) (t := t) (p := p) (by assumption)
      have hb := k_nx_b (B := B) hp
      split at h
      · obtain ⟨y, h1, h2⟩ := k_bd_i h
        have g1 := k_val_g h1
        have g2 := k_sl_g f _ _ _ _ h2
        unfold k_gr at g1
        unfold k_gs at g2 ⊢
        rw [List.length_append] at g1
        rw [List.length_cons, List.length_nil] at g2
        omega
      · obtain ⟨y, h1, h2⟩ := k_bd_i h
        have g1 := k_val_g h1
        have g2 := k_sl_g f _ _ _ _ h2
        unfold k_gr at g1
        unfold k_gs at g2 ⊢
        rw [List.length_append, List.length_cons, List.length_nil] at g2
        omega
theorem k_sum_g {B : Nat → Int} {t v p : Nat} {c : List (Nat × Nat)} {x : Nat × Nat × List (Nat × Nat)} (h : k_sum B t v p c = .inr x) : k_gr t v p c x := by
  obtain ⟨y, h1, h2⟩ := k_bd_i h
  have g1 := k_val_g h1
  have g2 := k_sl_g _ _ _ _ _ h2
  unfold k_gr at g1 ⊢
  unfold k_gs at g2
  rw [List.length_nil] at g2
  omega
theorem k_cm_g {B : Nat → Int} {t v p : Nat} {c : List (Nat × Nat)} {x : Nat × Nat × List (Nat × Nat)} (h : k_cm B t v p c = .inr x) : k_gr t v p c x := by
  obtain ⟨y, h1, h2⟩ := k_bd_i h
  have g1 := k_sum_g h1
  split at h2
  · cases h2
  · split at h2
    · cases h2
    · obtain ⟨z, h3, h4⟩ := k_bd_i h2
      have g2 := k_sum_g h3
      have hb := k_nx_b (B := B) (t := t) (p := y.1) (k_cs_i (by assumption))
      cases h4
      unfold k_gr at g1 g2 ⊢
      dsimp only
      rw [List.length_append, List.length_cons, List.length_nil]
      omega
def k_Fg (t : Nat) (F : kF) : Prop := ∀ v p c x, F v p c = .inr x → k_gr t v p c x
theorem k_tl_g {B : Nat → Int} {t : Nat} {F : kF} (hF : k_Fg t F) : ∀ (f v p : Nat) (w c : List (Nat × Nat)) {x : Nat × Nat × List (Nat × Nat)}, k_tl B t F f v p w c = .inr x → k_gs t v p c w x
  | 0, v, p, w, c, x, h => by
    cases h
    exact ⟨Nat.le_refl _, fun h => h, by show (c ++ w).length + p ≤ _; rw [List.length_append]; omega, fun h => h⟩
  | f + 1, v, p, w, c, x, h => by
    unfold k_tl at h
    split at h
    · have hb := k_nx_b (B := B) (t := t) (p := p) (k_kd_in (B := B) (by omega))
      obtain ⟨y, h1, h2⟩ := k_bd_i h
      have g1 := hF _ _ _ _ h1
      have g2 := k_tl_g hF f _ _ _ _ h2
      unfold k_gr at g1
      unfold k_gs at g2 ⊢
      rw [List.length_append, List.length_cons, List.length_nil] at g2
      omega
    · split at h
      · have hb := k_nx_b (B := B) (t := t) (p := p) (k_kd_in (B := B) (by omega))
        obtain ⟨y, h1, h2⟩ := k_bd_i h
        have g1 := hF _ _ _ _ h1
        have g2 := k_tl_g hF f _ _ _ _ h2
        unfold k_gr at g1
        unfold k_gs at g2 ⊢
        rw [List.length_append] at g1
        rw [List.length_cons, List.length_nil] at g2
        omega
      · cases h
        exact ⟨Nat.le_refl _, fun h => h, by show (c ++ w).length + p ≤ _; rw [List.length_append]; omega, fun h => h⟩
theorem k_ts_g {B : Nat → Int} {t : Nat} {F : kF} (hF : k_Fg t F) : k_Fg t (k_ts B t F) := fun v p c x h => by
  obtain ⟨y, h1, h2⟩ := k_bd_i h
  have g1 := hF _ _ _ _ h1
  have g2 := k_tl_g hF _ _ _ _ _ h2
  unfold k_gr at g1 ⊢
  unfold k_gs at g2
  rw [List.length_nil] at g2
  omega
theorem k_fa_g {B : Nat → Int} {t : Nat} : ∀ D, k_Fg t (k_fa B t D)
  | 0, v, p, c, x, h => by
    unfold k_fa at h
    split at h
    · cases h
    · exact k_cm_g h
  | D + 1, v, p, c, x, h => by
    unfold k_fa at h
    split at h
    · have hb := k_nx_b (B := B) (t := t) (p := p) (k_kd_in (B := B) (by omega))
      obtain ⟨y, h1, h2⟩ := k_bd_i h
      have g1 := k_fa_g D _ _ _ _ h1
      cases h2
      unfold k_gr at g1 ⊢
      dsimp only
      rw [List.length_append, List.length_cons, List.length_nil]
      omega
    · split at h
      · have hb := k_nx_b (B := B) (t := t) (p := p) (k_kd_in (B := B) (by omega))
        obtain ⟨y, h1, h2⟩ := k_bd_i h
        have g1 := k_ts_g (k_fa_g D) _ _ _ _ h1
        split at h2
        · have hb2 := k_nx_b (B := B) (t := t) (p := y.1) (k_kd_in (B := B) (by omega))
          cases h2
          unfold k_gr at g1 ⊢
          dsimp only
          omega
        · cases h2
      · exact k_cm_g h
/-- fuel does not matter -/
theorem k_tl_f {B : Nat → Int} {t : Nat} {F : kF} (hF : k_Fg t F) : ∀ (f g v p : Nat) (w c : List (Nat × Nat)), t - p ≤ f → t - p ≤ g → k_tl B t F f v p w c = k_tl B t F g v p w c
  | 0, 0, v, p, w, c, _, _ => rfl
  | 0, g + 1, v, p, w, c, h, _ => by
    unfold k_tl
    rw [k_kd_end (by omega), if_neg (by omega), if_neg (by omega)]
  | f + 1, 0, v, p, w, c, _, h => by
    unfold k_tl
    rw [k_kd_end (by omega), if_neg (by omega), if_neg (by omega)]
  | f + 1, g + 1, v, p, w, c, h1, h2 => by
    unfold k_tl
    by_cases e : k_kd B t p = 273
    · rw [if_pos e, if_pos e]
      have hb := k_nx_b (B := B) (t := t) (p := p) (k_kd_in (B := B) (by omega))
      cases hr : F v (k_nx B t p) c with
      | inl e => rfl
      | inr x =>
        have g1 := hF _ _ _ _ hr
        unfold k_gr at g1
        exact k_tl_f hF f g _ _ _ _ (by omega) (by omega)
    · rw [if_neg e, if_neg e]
      by_cases e2 : k_kd B t p = 272
      · rw [if_pos e2, if_pos e2]
        have hb := k_nx_b (B := B) (t := t) (p := p) (k_kd_in (B := B) (by omega))
        cases hr : F v (k_nx B t p) (c ++ w) with
        | inl e => rfl
        | inr x =>
          have g1 := hF _ _ _ _ hr
          unfold k_gr at g1
          exact k_tl_f hF f g _ _ _ _ (by omega) (by omega)
      · rw [if_neg e2, if_neg e2]
theorem k_tl_e {B : Nat → Int} {t : Nat} {F : kF} (hF : k_Fg t F) (ht : t ≤ 400) (v p : Nat) (w c : List (Nat × Nat)) : k_tl B t F 400 v p w c = if k_kd B t p = 273 then k_bd (F v (k_nx B t p) c) (fun p' v' c' => k_tl B t F 400 v' p' w (c' ++ [(12, 0)])) else if k_kd B t p = 272 then k_bd (F v (k_nx B t p) (c ++ w)) (fun p' v' c' => k_tl B t F 400 v' p' [(13, 0)] c') else .inr (p, v, c ++ w) := k_tl_f hF 400 401 v p w c (by omega) (by omega)
