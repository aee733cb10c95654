theorem bS_id {t n : Nat} (h : t < 2 ^ n) : bS (fun s => decide (t / 2 ^ s % 2 = 1)) n = t := by
  apply Nat.eq_of_testBit_eq
  intro k
  rw [bS_tb]
  by_cases hk : k < n
  · rw [decide_eq_true hk, Bool.true_and, Nat.testBit_eq_decide_div_mod_eq]
  · have h2 := Nat.pow_le_pow_right (n := 2) (by omega) (show n ≤ k by omega)
    rw [decide_eq_false hk, Bool.false_and, Nat.testBit_eq_decide_div_mod_eq, Nat.div_eq_of_lt (by omega)]
    rfl
theorem bC_W (p : Nat → Bool) : ∀ n, ((bC p n : Nat) : Int) = bW p (fun _ => 1) n
  | 0 => rfl
  | n + 1 => by
    have ih := bC_W p n
    unfold bC bW
    split <;> omega
theorem bP_bits {t n : Nat} (h : t < 2 ^ n) (hn : n ≤ 31) : ((bP 31 t : Nat) : Int) = ch_c (fun _ => 1) n t := by
  unfold ch_c
  rw [← bC_W, ← bP_S _ n 31 hn, bS_id h]
theorem bW_add (P : Nat → Bool) (f g : Nat → Int) : ∀ n, bW P (fun s => f s + g s) n = bW P f n + bW P g n
  | 0 => rfl
  | n + 1 => by
    have ih := bW_add P f g n
    unfold bW
    split <;> omega
theorem bW_zero {P : Nat → Bool} {f : Nat → Int} : ∀ n, (∀ s, s < n → f s = 0) → bW P f n = 0
  | 0, _ => rfl
  | n + 1, h => by
    have ih := bW_zero (P := P) n (fun s hs => h s (by omega))
    have := h n (by omega)
    unfold bW
    split <;> omega
theorem bW_one {P : Nat → Bool} {l : Nat} {v : Int} : ∀ n, l < n → bW P (fun s => if l = s then v else 0) n = if P l = true then v else 0
  | 0, h => by omega
  | n + 1, h => by
    show bW P (fun s => if l = s then v else 0) n + (if P n = true then (if l = n then v else 0) else 0) = _
    by_cases e : l = n
    · subst e
      rw [bW_zero l (fun s hs => if_neg (by omega)), if_pos rfl, Int.zero_add]
    · rw [bW_one n (by omega), if_neg e]
      split <;> (split <;> omega)
/-- counted twice: by sheep, and by their leaders -/
theorem bW_dbl {P : Nat → Bool} {f : Nat → Int} {L : Nat → Nat} {n : Nat} : ∀ j, (∀ i, i < j → L i < n) → bW (fun i => P (L i)) f j = bW P (fun s => bW (fun i => decide (L i = s)) f j) n
  | 0, _ => (bW_zero n (fun _ _ => rfl)).symm
  | j + 1, h => by
    have ih := bW_dbl (P := P) (f := f) j (fun i hi => h i (by omega))
    have e : bW P (fun s => bW (fun i => decide (L i = s)) f (j + 1)) n = bW P (fun s => bW (fun i => decide (L i = s)) f j + if L j = s then f j else 0) n := bW_cg n (fun s hs => ⟨rfl, by
      show bW (fun i => decide (L i = s)) f j + (if decide (L j = s) = true then f j else 0) = _
      by_cases e : L j = s
      · rw [if_pos e, if_pos (decide_eq_true e)]
      · rw [if_neg e, if_neg (by rw [decide_eq_false e]; decide)]⟩)
    rw [e, bW_add, ← ih, bW_one n (h j (by omega))]
    rfl
theorem dec_ni (a b : Nat) : decide (((a : Nat) : Int) = (b : Int)) = decide (a = b) := decide_eq_decide.2 (by omega)
theorem ls_ld_W (S : Nat → Int) (n s : Nat) : ls_ld S n s = bW (fun i => decide (ldL (fun i => S (19 + i)) i = s)) (fun _ => 1) n := by
  unfold ls_ld
  rw [bC_W]
  exact bW_cg n (fun i hi => ⟨dec_ni _ _, rfl⟩)
theorem bst_cg {ok ok' : Nat → Bool} {c c' : Nat → Int} : ∀ T, (∀ t, t < T → ok t = ok' t ∧ c t = c' t) → bst ok c T = bst ok' c' T
  | 0, _ => rfl
  | T + 1, h => by
    have ih := bst_cg T (fun t ht => h t (by omega))
    have hr := bst_rg ok c T
    have h1 := h T (by omega)
    unfold bst
    rw [← ih, h1.1, h1.2]
    by_cases hb : bst ok c T < 0
    · by_cases ho : ok' T = true
      · rw [if_pos ⟨ho, Or.inl hb⟩, if_pos ⟨ho, Or.inl hb⟩]
      · rw [if_neg (fun x => ho x.1), if_neg (fun x => ho x.1)]
    · rw [(h (bst ok c T).toNat (by omega)).2]
/-- S and T are alike to a leader l, but for whom it likes -/
theorem r_wd_cg {S T : Nat → Int} {n q Y l m : Nat} (hok : Ok S n q Y) (hl : l < n) (hm : m < 4) (e : ∀ k, k < 31 ∨ 63 ≤ k ∧ k < 79 → S k = T k) (e2 : S (31 + 4 * l + m) = T (31 + 4 * l + m)) : ∀ i, i < 12 → r_wd S n l m i = r_wd T n l m i := by
  have hn8 := hok.n8
  have hL : ∀ i, i < n → ldL (fun i => S (19 + i)) i = ldL (fun i => T (19 + i)) i := fun i hi => ldL_cg (F := fun i => S (19 + i)) (n := n) hok.F (fun b hb => e _ (by omega)) hi
  intro i hi
  unfold r_wd
  rw [e2, e (75 + m) (by omega), e (71 + m) (by omega), e (11 + l) (by omega), e (27 + m) (by omega), e 1 (by omega), e 10 (by omega), bC_cg (p := fun t => decide (S (11 + t) = (m : Int))) (r := fun t => decide (T (11 + t) = (m : Int))) n (fun s hs => by rw [e _ (by omega)]), bC_cg (p := fun t => decide (((ldL (fun i => S (19 + i)) t : Nat) : Int) = (l : Int))) (r := fun t => decide (((ldL (fun i => T (19 + i)) t : Nat) : Int) = (l : Int))) n (fun s hs => by rw [hL s hs]), bW_cg (p := fun t => decide (((ldL (fun i => S (19 + i)) t : Nat) : Int) = (l : Int))) (r := fun t => decide (((ldL (fun i => T (19 + i)) t : Nat) : Int) = (l : Int))) (f := fun i => S (63 + i)) (g := fun i => T (63 + i)) n (fun s hs => ⟨by rw [hL s hs], e _ (by omega)⟩)]
theorem r_best_cg {v w : Nat → Int} : ∀ q, (∀ m, m < q → v m = w m) → r_best v q = r_best w q
  | 0, _ => rfl
  | q + 1, h => by
    unfold r_best
    rw [r_best_cg q (fun m hm => h m (by omega)), h q (by omega)]
def rRok : Option rRule → Prop
  | none => True
  | some R => r_rok R
theorem r_val_cg {S T : Nat → Int} {n q Y l : Nat} {R : Option rRule} (hok : Ok S n q Y) (hR : rRok R) (hl : l < n) (e : ∀ k, k < 31 ∨ 63 ≤ k ∧ k < 79 → S k = T k) (e2 : ∀ m, m < 4 → S (31 + 4 * l + m) = T (31 + 4 * l + m)) : r_best (r_val S n R l) q = r_best (r_val T n R l) q := by
  have hq4 := hok.q4
  refine r_best_cg q (fun m hm => ?_)
  cases R with
  | none => exact e2 m (by omega)
  | some R => exact r_sum_w (r_wd_cg hok hl (by omega) e (e2 m (by omega))) R hR
theorem ls_ld_cg {S T : Nat → Int} {n q Y s : Nat} (hok : Ok S n q Y) (e : ∀ k, 19 ≤ k ∧ k < 27 → S k = T k) : ls_ld S n s = ls_ld T n s := by
  have hn8 := hok.n8
  have hL : ∀ i, i < n → ldL (fun i => S (19 + i)) i = ldL (fun i => T (19 + i)) i := fun i hi => ldL_cg (F := fun i => S (19 + i)) (n := n) hok.F (fun b hb => e _ (by omega)) hi
  unfold ls_ld
  rw [bC_cg (p := fun t => decide (((ldL (fun i => S (19 + i)) t : Nat) : Int) = (s : Int))) (r := fun t => decide (((ldL (fun i => T (19 + i)) t : Nat) : Int) = (s : Int))) n (fun s hs => by rw [hL s hs])]
theorem lto_cg {S T : Nat → Int} {n q Y l m : Nat} {R : Option rRule} (hok : Ok S n q Y) (hR : rRok R) (hl : l < n) (e : ∀ k, k < 31 ∨ 63 ≤ k ∧ k < 79 → S k = T k) (e2 : ∀ m, m < 4 → S (31 + 4 * l + m) = T (31 + 4 * l + m)) : lto S n q R l m = lto T n q R l m := by
  have hn8 := hok.n8
  have hL : ldL (fun i => S (19 + i)) l = ldL (fun i => T (19 + i)) l := ldL_cg (F := fun i => S (19 + i)) (n := n) hok.F (fun b hb => e _ (by omega)) hl
  unfold lto
  rw [hL, r_val_cg hok hR hl e e2, ls_ld_cg hok (fun k hk => e k (by omega))]
/-- how many a man has then, by leaders -/
theorem p_hs_lto {X : Nat → Int} {n q Y m : Nat} {R : Option rRule} (hok : Ok X n q Y) : ((p_hs X n q R (m : Int) : Nat) : Int) = bW (fun _ => true) (fun s => lto X n q R s m) n := by
  have hn8 := hok.n8
  have hq4 := hok.q4
  have h1 : ((p_hs X n q R (m : Int) : Nat) : Int) = bW (fun i => decide (ldL (fun i => X (19 + i)) (ldL (fun i => X (19 + i)) i) = ldL (fun i => X (19 + i)) i ∧ (r_best (r_val X n R (ldL (fun i => X (19 + i)) i)) q).1 = (m : Int))) (fun _ => 1) n := by
    unfold p_hs
    rw [bC_W]
    refine bW_cg n (fun s hs => ⟨decide_eq_decide.2 ?_, rfl⟩)
    rw [pas_w hn8 hq4 (by omega)]
    unfold p_w
    rw [if_pos (by omega), show 11 + s - 11 = s by omega]
    unfold p_ch
    rw [Nat.zero_div]
    by_cases hl : ldL (fun i => X (19 + i)) (ldL (fun i => X (19 + i)) s) = ldL (fun i => X (19 + i)) s
    · rw [if_pos ⟨hl, rfl⟩]
      exact ⟨fun x => ⟨hl, x⟩, fun x => x.2⟩
    · rw [if_neg (fun x => hl x.1)]
      exact ⟨fun x => by omega, fun x => absurd x.1 hl⟩
  rw [h1, bW_dbl (P := fun s => decide (ldL (fun i => X (19 + i)) s = s ∧ (r_best (r_val X n R s) q).1 = (m : Int))) (L := fun i => ldL (fun i => X (19 + i)) i) n (fun i hi => hok.ld hi)]
  have h2 : ∀ j, j ≤ n → bW (fun s => decide (ldL (fun i => X (19 + i)) s = s ∧ (r_best (r_val X n R s) q).1 = (m : Int))) (fun s => bW (fun i => decide (ldL (fun i => X (19 + i)) i = s)) (fun _ => 1) n) j = bW (fun _ => true) (fun s => lto X n q R s m) j := by
    intro j
    induction j with
    | zero => exact fun _ => rfl
    | succ j ih =>
      intro hj
      have ih := ih (by omega)
      unfold bW
      rw [ih, if_pos rfl]
      congr 1
      unfold lto
      rw [ls_ld_W]
      by_cases hc : ldL (fun i => X (19 + i)) j = j ∧ (r_best (r_val X n R j) q).1 = (m : Int)
      · rw [if_pos hc, if_pos (decide_eq_true hc)]
      · rw [if_neg hc, if_neg (by rw [decide_eq_false hc]; decide)]
  exact h2 n (Nat.le_refl _)
theorem ch_h_W {H G K : Nat → Int} {t : Nat} : ∀ n, (∀ s, s < n → (H s + if t / 2 ^ s % 2 = 1 then G s else 0) = K s) → ch_h H G t n = bW (fun _ => true) K n
  | 0, _ => rfl
  | n + 1, h => by
    unfold ch_h bW
    rw [ch_h_W n (fun s hs => h s (by omega)), h n (by omega), if_pos rfl]
def wnH (S : Nat → Int) (n q : Nat) (R : Option rRule) (m : Nat) : Nat → Int := fun s => lto S n q R s m
def wnG (S : Nat → Int) (n q : Nat) (R : Option rRule) (m : Nat) : Nat → Int := fun s => lto (va_up S (31 + 4 * s + m) 99) n q R s m - lto S n q R s m
theorem r_lk_at {S : Nat → Int} {m t j s i : Nat} (hi : i < 4) : r_lk S m t j (31 + 4 * s + i) = if s < j ∧ i = m ∧ t / 2 ^ s % 2 = 1 then 99 else S (31 + 4 * s + i) := by
  unfold r_lk
  rw [show (31 + 4 * s + i - 31) % 4 = i by omega, show (31 + 4 * s + i - 31) / 4 = s by omega]
  by_cases h : s < j ∧ i = m ∧ t / 2 ^ s % 2 = 1
  · rw [if_pos h, if_pos ⟨by omega, by omega, h.2.1, h.2.2⟩]
  · rw [if_neg h, if_neg (fun x => h ⟨by omega, x.2.2.1, x.2.2.2⟩)]
theorem Ok.lip {S : Nat → Int} {n q Y s m : Nat} {x : Int} (h : Ok S n q Y) (hs : s < 8) (hm : m < 4) (hx : 0 ≤ x ∧ x ≤ 99) : Ok (va_up S (31 + 4 * s + m) x) n q Y := by
  obtain ⟨h1, h2, h3, h4, h5, h6, h7, h8, h9, h10, h11, h12, h13, h14, h15⟩ := h
  refine ⟨fun k => ?_, ?_, h3, ?_, h5, ?_, ?_, ?_, fun i hi => ?_, fun i hi => ?_, fun i hi => ?_, fun i hi => ?_, fun i hi => ?_, fun i hi => ?_, fun i hi => ?_⟩
  · by_cases e : k = 31 + 4 * s + m
    · rw [e, e_us]
      exact e_i32 (by omega)
    · rw [e_un _ e]
      exact h1 k
  · rw [e_un _ (by omega)]; exact h2
  · rw [e_un _ (by omega)]; exact h4
  · rw [e_un _ (by omega)]; exact h6
  · rw [e_un _ (by omega)]; exact h7
  · rw [e_un _ (by omega)]; exact h8
  · rw [e_un _ (by omega)]; exact h9 i hi
  · rw [e_un _ (by omega)]; exact h10 i hi
  · rw [e_un _ (by omega)]; exact h11 i hi
  · by_cases e : 31 + i = 31 + 4 * s + m
    · rw [e, e_us]
      exact hx
    · rw [e_un _ e]
      exact h12 i hi
  · rw [e_un _ (by omega)]; exact h13 i hi
  · rw [e_un _ (by omega)]; exact h14 i hi
  · rw [e_un _ (by omega)]; exact h15 i hi
theorem wn_eq {S : Nat → Int} {n q Y m : Nat} {R : Option rRule} {many : Int} (hok : Ok S n q Y) (hR : rRok R) (hm : m < 4) : ch_b (wnH S n q R m) (wnG S n q R m) (fun _ => 1) n many (2 ^ n) = wn_b S n q R m many (2 ^ n) := by
  have hn8 := hok.n8
  refine bst_cg _ (fun t ht => ⟨?_, (bP_bits ht (by omega)).symm⟩)
  have hok2 := r_lk_ok (m := m) (t := t) (j := n) hok hn8
  unfold wn_ok
  rw [p_hs_lto hok2]
  have e : ch_h (wnH S n q R m) (wnG S n q R m) t n = bW (fun _ => true) (fun s => lto (r_lk S m t n) n q R s m) n := by
    refine ch_h_W n (fun s hs => ?_)
    unfold wnH wnG
    by_cases hb : t / 2 ^ s % 2 = 1
    · rw [if_pos hb]
      have := lto_cg (T := r_lk S m t n) (m := m) (hok.lip (s := s) (m := m) (x := 99) (by omega) hm (by omega)) hR hs (fun k hk => by rw [e_un _ (by omega), r_lk_o hn8 (by omega)]) (fun i hi => by
        rw [r_lk_at hi]
        by_cases e : i = m
        · subst e
          rw [e_us, if_pos ⟨hs, rfl, hb⟩]
        · rw [e_un _ (by omega), if_neg (fun x => e x.2.1)])
      omega
    · rw [if_neg hb]
      have := lto_cg (T := r_lk S m t n) (m := m) hok hR hs (fun k hk => by rw [r_lk_o hn8 (by omega)]) (fun i hi => by rw [r_lk_at hi, if_neg (fun x => hb x.2.2)])
      omega
  rw [e]
