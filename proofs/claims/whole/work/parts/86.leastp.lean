/-- the first of the most, told -/
theorem r_best_is {v : Nat → Int} : ∀ q, (∀ m, m < q → 0 ≤ v m ∧ v m ≤ 99) → ((r_best v q).1 = -1 ∧ (r_best v q).2 = 0 ∧ ∀ j, j < q → v j ≤ 0) ∨ ∃ m : Nat, (r_best v q).1 = (m : Int) ∧ m < q ∧ (r_best v q).2 = v m ∧ 0 < v m ∧ (∀ j, j < m → v j < v m) ∧ ∀ j, j < q → v j ≤ v m
  | 0, _ => Or.inl ⟨rfl, rfl, fun j hj => by omega⟩
  | q + 1, h => by
    have ih := r_best_is q (fun m hm => h m (by omega))
    have hq := h q (by omega)
    have e1 : e_w64 (v q) = v q := e_id64 (by omega) (by omega)
    rcases ih with ⟨i1, i2, i3⟩ | ⟨m, i1, i2, i3, i4, i5, i6⟩
    · have e0 : e_w64 0 = 0 := e_id64 (by omega) (by omega)
      by_cases hp : 0 < v q
      · have e : r_best v (q + 1) = ((q : Int), v q) := by
          unfold r_best
          rw [i2, e0, e1, if_pos hp]
        refine Or.inr ⟨q, by rw [e], by omega, by rw [e], hp, fun j hj => ?_, fun j hj => ?_⟩
        · have := i3 j hj
          omega
        · by_cases e2 : j = q
          · rw [e2]
            omega
          · have := i3 j (by omega)
            omega
      · have e : r_best v (q + 1) = r_best v q := by
          show (if e_w64 (r_best v q).2 < e_w64 (v q) then ((q : Int), v q) else r_best v q) = r_best v q
          rw [i2, e0, e1, if_neg hp]
        refine Or.inl ⟨by rw [e]; exact i1, by rw [e]; exact i2, fun j hj => ?_⟩
        by_cases e2 : j = q
        · rw [e2]
          omega
        · exact i3 j (by omega)
    · have hm := h m (by omega)
      have e0 : e_w64 (v m) = v m := e_id64 (by omega) (by omega)
      by_cases hp : v m < v q
      · have e : r_best v (q + 1) = ((q : Int), v q) := by
          unfold r_best
          rw [i3, e0, e1, if_pos hp]
        refine Or.inr ⟨q, by rw [e], by omega, by rw [e], by omega, fun j hj => ?_, fun j hj => ?_⟩
        · have := i6 j hj
          omega
        · by_cases e2 : j = q
          · rw [e2]
            omega
          · have := i6 j (by omega)
            omega
      · have e : r_best v (q + 1) = r_best v q := by
          show (if e_w64 (r_best v q).2 < e_w64 (v q) then ((q : Int), v q) else r_best v q) = r_best v q
          rw [i3, e0, e1, if_neg hp]
        refine Or.inr ⟨m, by rw [e]; exact i1, by omega, by rw [e]; exact i3, i4, i5, fun j hj => ?_⟩
        by_cases e2 : j = q
        · rw [e2]
          omega
        · exact i6 j (by omega)
theorem l_nd_le {S : Nat → Int} {s m : Nat} {x : Int} : ∀ q, l_nd S s m q ≤ x ↔ 1 ≤ x ∧ ∀ j, j < q → j ≠ m → (j < m → S (31 + 4 * s + j) + 1 ≤ x) ∧ (m < j → S (31 + 4 * s + j) ≤ x)
  | 0 => ⟨fun h => ⟨h, fun j hj => by omega⟩, fun h => h.1⟩
  | q + 1 => by
    have ih := l_nd_le (S := S) (s := s) (m := m) (x := x) q
    have e : l_nd S s m (q + 1) ≤ x ↔ l_nd S s m q ≤ x ∧ (q ≠ m → (q < m → S (31 + 4 * s + q) + 1 ≤ x) ∧ (m < q → S (31 + 4 * s + q) ≤ x)) := by
      conv => lhs; unfold l_nd
      by_cases e1 : q = m
      · rw [if_pos e1]
        exact ⟨fun h => ⟨h, fun h2 => absurd e1 h2⟩, fun h => h.1⟩
      · rw [if_neg e1]
        by_cases e2 : q < m
        · rw [if_pos e2]
          split <;> exact ⟨fun h => ⟨by omega, fun _ => ⟨fun _ => by omega, fun _ => by omega⟩⟩, fun h => by have := (h.2 e1).1 e2; omega⟩
        · rw [if_neg e2]
          split <;> exact ⟨fun h => ⟨by omega, fun _ => ⟨fun _ => by omega, fun _ => by omega⟩⟩, fun h => by have := (h.2 e1).2 (by omega); omega⟩
    rw [e, ih]
    constructor
    · intro h
      refine ⟨h.1.1, fun j hj hne => ?_⟩
      by_cases e2 : j = q
      · subst e2
        exact h.2 hne
      · exact h.1.2 j (by omega) hne
    · intro h
      exact ⟨⟨h.1, fun j hj hne => h.2 j (by omega) hne⟩, fun hne => h.2 q (by omega) hne⟩
/-- a leader goes to a man without a rule, if it likes him as much as is needed -/
theorem best_nd {S : Nat → Int} {n q Y s m : Nat} (hok : Ok S n q Y) (hs : s < n) (hm : m < q) : (r_best (r_val S n none s) q).1 = (m : Int) ↔ l_nd S s m q ≤ S (31 + 4 * s + m) := by
  have hn8 := hok.n8
  have hq4 := hok.q4
  have hl := hok.l4 (s := s) (by omega)
  have hr := r_best_is (v := fun m => S (31 + 4 * s + m)) q (fun m hm => hl m (by omega))
  change ((r_best (r_val S n none s) q).1 = -1 ∧ (r_best (r_val S n none s) q).2 = 0 ∧ _) ∨ (∃ m : Nat, (r_best (r_val S n none s) q).1 = (m : Int) ∧ m < q ∧ (r_best (r_val S n none s) q).2 = _ ∧ _) at hr
  rw [l_nd_le]
  rcases hr with ⟨i1, i2, i3⟩ | ⟨b, i1, i2, i3, i4, i5, i6⟩
  · have := i3 m hm
    rw [i1]
    exact ⟨fun h => by omega, fun h => by omega⟩
  · rw [i1]
    constructor
    · intro h
      obtain rfl : b = m := by omega
      refine ⟨by omega, fun j hj hne => ⟨fun h1 => ?_, fun h1 => ?_⟩⟩
      · have := i5 j h1
        omega
      · exact i6 j hj
    · intro h
      by_cases e : b = m
      · rw [e]
      · exfalso
        have h1 := h.2 b i2 e
        have h2 := i6 m hm
        rcases Nat.lt_or_gt_of_ne e with h3 | h3
        · have := h1.1 h3
          omega
        · have := h1.2 h3
          have := i5 m h3
          omega
theorem ls_ld_0 {S : Nat → Int} {n q Y s : Nat} (hok : Ok S n q Y) (hs : s < n) : ls_ld S n s = 0 ↔ ¬ ldL (fun i => S (19 + i)) s = s := by
  have hn8 := hok.n8
  constructor
  · intro h hl
    have := bC_pos (p := fun i => decide (((ldL (fun i => S (19 + i)) i : Nat) : Int) = (s : Int))) hs (by rw [decide_eq_true_eq, hl])
    unfold ls_ld at h
    omega
  · intro h
    rw [ls_ld_W]
    have : ∀ j, j ≤ n → bW (fun i => decide (ldL (fun i => S (19 + i)) i = s)) (fun _ => 1) j = 0 := by
      intro j
      induction j with
      | zero => exact fun _ => rfl
      | succ j ih =>
        intro hj
        unfold bW
        rw [ih (by omega), if_neg]
        · rfl
        · intro he
          have he := of_decide_eq_true he
          have := ldL_idem (F := fun i => S (19 + i)) hn8 hok.F (show j < n by omega)
          rw [he] at this
          exact h this
    exact this n (Nat.le_refl _)
/-- what least takes of a sheep: had, gained, cost -/
theorem ls_K {S : Nat → Int} {n q Y s m : Nat} (hok : Ok S n q Y) (hs : s < n) (hm : m < q) :
    lto S n q none s m = (if ls_lk S n q m s = 0 then ls_ld S n s else 0) ∧ (0 < ls_lk S n q m s ↔ ldL (fun i => S (19 + i)) s = s ∧ lto S n q none s m = 0 ∧ l_nd S s m q ≤ 99) ∧ (0 < ls_lk S n q m s → ls_lk S n q m s = l_nd S s m q - S (31 + 4 * s + m)) := by
  have hn8 := hok.n8
  have hq4 := hok.q4
  have hb := best_nd hok hs hm
  have h0 := ls_ld_0 hok hs
  have hl := hok.l4 (s := s) (by omega) m (by omega)
  have hr := ls_ld_rg (S := S) (n := n) (s := s)
  by_cases hld : ldL (fun i => S (19 + i)) s = s
  · have h1 : ¬ ls_ld S n s = 0 := fun x => (h0.1 x) hld
    by_cases hbe : l_nd S s m q ≤ S (31 + 4 * s + m)
    · have hK : ls_lk S n q m s = 0 := by
        unfold ls_lk l_lk
        rw [if_neg h1, if_neg (by omega), if_neg (by omega)]
      have hT : lto S n q none s m = ls_ld S n s := if_pos ⟨hld, hb.2 hbe⟩
      rw [hK, hT, if_pos rfl]
      exact ⟨rfl, ⟨fun x => by omega, fun x => absurd x.2.1 h1⟩, fun x => by omega⟩
    · have hT : lto S n q none s m = 0 := if_neg (fun x => hbe (hb.1 x.2))
      by_cases h99 : 99 < l_nd S s m q
      · have hK : ls_lk S n q m s = -1 := by
          unfold ls_lk l_lk
          rw [if_neg h1, if_pos h99]
        rw [hK, hT, if_neg (by omega)]
        exact ⟨rfl, ⟨fun x => by omega, fun x => by omega⟩, fun x => by omega⟩
      · have hK : ls_lk S n q m s = l_nd S s m q - S (31 + 4 * s + m) := by
          unfold ls_lk l_lk
          rw [if_neg h1, if_neg h99, if_pos (by omega)]
        rw [hK, hT, if_neg (by omega)]
        exact ⟨rfl, ⟨fun x => ⟨hld, rfl, by omega⟩, fun x => by omega⟩, fun x => rfl⟩
  · have hK : ls_lk S n q m s = -1 := if_pos (h0.2 hld)
    have hT : lto S n q none s m = 0 := if_neg (fun x => hld x.1)
    rw [hK, hT, if_neg (by omega)]
    exact ⟨rfl, ⟨fun x => by omega, fun x => absurd x.1 hld⟩, fun x => by omega⟩
def lsH (S : Nat → Int) (n q m : Nat) : Nat → Int := fun s => if ls_lk S n q m s = 0 then ls_ld S n s else 0
def lsG (S : Nat → Int) (n q m : Nat) : Nat → Int := fun s => if 0 < ls_lk S n q m s then ls_ld S n s else 0
def lsC (S : Nat → Int) (n q m : Nat) : Nat → Int := fun s => if 0 < ls_lk S n q m s then ls_lk S n q m s else 1
theorem bst_le {ok : Nat → Bool} {c : Nat → Int} {u : Nat} (hu : ok u = true) : ∀ T, u < T → 0 ≤ bst ok c T ∧ c (bst ok c T).toNat ≤ c u
  | 0, h => by omega
  | T + 1, h => by
    unfold bst
    by_cases hc : ok T = true ∧ (bst ok c T < 0 ∨ c T < c (bst ok c T).toNat)
    · rw [if_pos hc, Int.toNat_natCast]
      refine ⟨by omega, ?_⟩
      by_cases e : u = T
      · rw [e]
        omega
      · have ih := bst_le (c := c) hu T (by omega)
        omega
    · rw [if_neg hc]
      by_cases e : u = T
      · subst e
        refine ⟨?_, ?_⟩
        · by_cases hb : bst ok c u < 0
          · exact absurd ⟨hu, Or.inl hb⟩ hc
          · omega
        · by_cases hb : c u < c (bst ok c u).toNat
          · exact absurd ⟨hu, Or.inr hb⟩ hc
          · omega
      · exact bst_le hu T (by omega)
theorem bst_sub {ok ok' : Nat → Bool} {c c' : Nat → Int} {P : Nat → Prop} : ∀ T, (∀ t, t < T → P t → ok' t = ok t ∧ c' t = c t) → (∀ t, t < T → ¬ P t → ok' t = false ∧ (ok t = true → ∃ u, u < t ∧ ok u = true ∧ c u ≤ c t)) → bst ok c T = bst ok' c' T ∧ (0 ≤ bst ok c T → P (bst ok c T).toNat)
  | 0, _, _ => ⟨rfl, fun h => by have h : (0 : Int) ≤ -1 := h; omega⟩
  | T + 1, h1, h2 => by
    obtain ⟨ih, ihP⟩ := bst_sub T (fun t ht => h1 t (by omega)) (fun t ht => h2 t (by omega))
    have hrg := bst_rg ok c T
    unfold bst
    rw [← ih]
    by_cases hP : P T
    · obtain ⟨e1, e2⟩ := h1 T (by omega) hP
      have e3 : 0 ≤ bst ok c T → c' (bst ok c T).toNat = c (bst ok c T).toNat := fun h => (h1 _ (by omega) (ihP h)).2
      rw [e1, e2]
      by_cases hb : bst ok c T < 0
      · by_cases ho : ok T = true
        · rw [if_pos ⟨ho, Or.inl hb⟩, if_pos ⟨ho, Or.inl hb⟩, Int.toNat_natCast]
          exact ⟨rfl, fun _ => hP⟩
        · rw [if_neg (fun x => ho x.1), if_neg (fun x => ho x.1)]
          exact ⟨rfl, ihP⟩
      · rw [e3 (by omega)]
        refine ⟨rfl, fun h => ?_⟩
        by_cases hc : ok T = true ∧ (bst ok c T < 0 ∨ c T < c (bst ok c T).toNat)
        · rw [if_pos hc, Int.toNat_natCast]
          exact hP
        · rw [if_neg hc] at h ⊢
          exact ihP h
    · obtain ⟨e1, e2⟩ := h2 T (by omega) hP
      have hn : ¬ (ok T = true ∧ (bst ok c T < 0 ∨ c T < c (bst ok c T).toNat)) := by
        intro x
        obtain ⟨u, hu1, hu2, hu3⟩ := e2 x.1
        have := bst_le (c := c) hu2 T hu1
        omega
      rw [if_neg hn, if_neg (by rw [e1]; exact fun x => absurd x.1 (by decide))]
      exact ⟨rfl, ihP⟩
theorem bst_ext {ok : Nat → Bool} {c : Nat → Int} {N : Nat} : ∀ j, (∀ t, N ≤ t → t < N + j → ok t = false) → bst ok c (N + j) = bst ok c N
  | 0, _ => rfl
  | j + 1, h => by
    show (if ok (N + j) = true ∧ (bst ok c (N + j) < 0 ∨ c (N + j) < c (bst ok c (N + j)).toNat) then ((N + j : Nat) : Int) else bst ok c (N + j)) = bst ok c N
    rw [h (N + j) (by omega) (by omega), if_neg (fun x => absurd x.1 (by decide))]
    exact bst_ext j (fun t h1 h2 => h t h1 (by omega))
theorem and_bit {t c s : Nat} : (t &&& c) / 2 ^ s % 2 = 1 ↔ t / 2 ^ s % 2 = 1 ∧ c / 2 ^ s % 2 = 1 := by
  have h1 := Nat.testBit_and t c s
  rw [Nat.testBit_eq_decide_div_mod_eq, Nat.testBit_eq_decide_div_mod_eq, Nat.testBit_eq_decide_div_mod_eq, ← Bool.decide_and] at h1
  exact decide_eq_decide.1 h1
theorem ls_cn_bit {S : Nat → Int} {n q m s : Nat} (hs : s < n) : ls_cn S n q m n / 2 ^ s % 2 = 1 ↔ 0 < ls_lk S n q m s := by
  unfold ls_cn
  rw [bS_bit _ n s hs]
  by_cases h : 0 < ls_lk S n q m s
  · rw [decide_eq_true h]
    simp [h]
  · rw [decide_eq_false h]
    simp [h]
theorem ch_h_cg {H G : Nat → Int} {t u : Nat} : ∀ n, (∀ s, s < n → (if t / 2 ^ s % 2 = 1 then G s else 0) = if u / 2 ^ s % 2 = 1 then G s else 0) → ch_h H G t n = ch_h H G u n
  | 0, _ => rfl
  | n + 1, h => by
    unfold ch_h
    rw [ch_h_cg n (fun s hs => h s (by omega)), h n (by omega)]
theorem bW_le {p r : Nat → Bool} {f : Nat → Int} : ∀ n, (∀ s, s < n → 0 ≤ f s ∧ (p s = true → r s = true)) → bW p f n ≤ bW r f n
  | 0, _ => Int.le_refl _
  | n + 1, h => by
    have ih := bW_le n (fun s hs => h s (by omega))
    have h1 := h n (by omega)
    unfold bW
    by_cases hp : p n = true
    · rw [if_pos hp, if_pos (h1.2 hp)]
      omega
    · rw [if_neg hp]
      split <;> omega
theorem ls_eq {S : Nat → Int} {n q Y m : Nat} {many : Int} (hok : Ok S n q Y) (hm : m < q) : ch_b (lsH S n q m) (lsG S n q m) (lsC S n q m) n many (2 ^ n) = ls_b S n q m many (ls_cn S n q m n + 1) ∧ (0 ≤ ls_b S n q m many (ls_cn S n q m n + 1) → ch_c (lsC S n q m) n (ls_b S n q m many (ls_cn S n q m n + 1)).toNat = ls_cs S n q m (ls_b S n q m many (ls_cn S n q m n + 1)).toNat) := by
  have hlt : ls_cn S n q m n < 2 ^ n := bS_lt _ n
  have hx : ls_b S n q m many (2 ^ n) = ls_b S n q m many (ls_cn S n q m n + 1) := by
    have := bst_ext (ok := ls_ok S n q m many) (c := ls_cs S n q m) (N := ls_cn S n q m n + 1) (2 ^ n - (ls_cn S n q m n + 1)) (fun t h1 h2 => by
      unfold ls_ok
      refine decide_eq_false (fun x => ?_)
      have := Nat.and_le_right (n := t) (m := ls_cn S n q m n)
      omega)
    rw [show ls_cn S n q m n + 1 + (2 ^ n - (ls_cn S n q m n + 1)) = 2 ^ n by omega] at this
    exact this
  have hcs : ∀ t, t &&& ls_cn S n q m n = t → ch_c (lsC S n q m) n t = ls_cs S n q m t := by
    intro t hP
    have hbit : ∀ s, s < n → t / 2 ^ s % 2 = 1 → 0 < ls_lk S n q m s := fun s hs hb => by
      rw [← hP] at hb
      exact (ls_cn_bit hs).1 (and_bit.1 hb).2
    unfold ch_c ls_cs lsC
    have : ∀ j, j ≤ n → bW (fun s => decide (t / 2 ^ s % 2 = 1)) (fun s => if 0 < ls_lk S n q m s then ls_lk S n q m s else 1) j = bW (fun s => decide (t / 2 ^ s % 2 = 1)) (ls_lk S n q m) j := by
      intro j
      induction j with
      | zero => exact fun _ => rfl
      | succ j ih =>
        intro hj
        unfold bW
        rw [ih (by omega)]
        by_cases hb : t / 2 ^ j % 2 = 1
        · rw [if_pos (decide_eq_true hb), if_pos (decide_eq_true hb), if_pos (hbit j (by omega) hb)]
        · rw [if_neg (by rw [decide_eq_false hb]; decide), if_neg (by rw [decide_eq_false hb]; decide)]
    exact this n (Nat.le_refl _)
  have hs := bst_sub (ok := fun t => decide (many ≤ ch_h (lsH S n q m) (lsG S n q m) t n)) (ok' := ls_ok S n q m many) (c := ch_c (lsC S n q m) n) (c' := ls_cs S n q m) (P := fun t => t &&& ls_cn S n q m n = t) (2 ^ n) (fun t ht hP => ?_) (fun t ht hP => ?_)
  · have e : ch_b (lsH S n q m) (lsG S n q m) (lsC S n q m) n many (2 ^ n) = ls_b S n q m many (ls_cn S n q m n + 1) := hs.1.trans hx
    refine ⟨e, fun h => hcs _ ?_⟩
    have h2 := hs.2
    change 0 ≤ ch_b (lsH S n q m) (lsG S n q m) (lsC S n q m) n many (2 ^ n) → (ch_b (lsH S n q m) (lsG S n q m) (lsC S n q m) n many (2 ^ n)).toNat &&& _ = (ch_b (lsH S n q m) (lsG S n q m) (lsC S n q m) n many (2 ^ n)).toNat at h2
    rw [e] at h2
    exact h2 h
  · have hbit : ∀ s, s < n → t / 2 ^ s % 2 = 1 → 0 < ls_lk S n q m s := fun s hs hb => by
      rw [← hP] at hb
      exact (ls_cn_bit hs).1 (and_bit.1 hb).2
    refine ⟨?_, (hcs t hP).symm⟩
    unfold ls_ok
    have e : ch_h (lsH S n q m) (lsG S n q m) t n = bW (fun s => decide (t / 2 ^ s % 2 = 1) || decide (ls_lk S n q m s = 0)) (ls_ld S n) n := by
      have : ∀ j, j ≤ n → ch_h (lsH S n q m) (lsG S n q m) t j = bW (fun s => decide (t / 2 ^ s % 2 = 1) || decide (ls_lk S n q m s = 0)) (ls_ld S n) j := by
        intro j
        induction j with
        | zero => exact fun _ => rfl
        | succ j ih =>
          intro hj
          unfold ch_h bW lsH lsG
          have ih := ih (by omega)
          unfold lsH lsG at ih
          rw [ih]
          by_cases hb : t / 2 ^ j % 2 = 1
          · have hk := hbit j (by omega) hb
            rw [if_pos hb, if_pos hk, if_neg (by omega), if_pos (by rw [decide_eq_true hb]; rfl), Int.zero_add]
          · rw [if_neg hb, decide_eq_false hb, Bool.false_or, Int.add_zero]
            by_cases hk : ls_lk S n q m j = 0
            · rw [if_pos hk, if_pos (decide_eq_true hk)]
            · rw [if_neg hk, if_neg (by rw [decide_eq_false hk]; decide)]
      exact this n (Nat.le_refl _)
    rw [e]
    exact decide_eq_decide.2 ⟨fun x => x.2, fun x => ⟨hP, x⟩⟩
  · refine ⟨decide_eq_false (fun x => hP x.1), fun ho => ⟨t &&& ls_cn S n q m n, ?_, ?_, ?_⟩⟩
    · have := Nat.and_le_left (n := t) (m := ls_cn S n q m n)
      have hP : ¬ t &&& ls_cn S n q m n = t := hP
      omega
    · rw [← ho]
      refine decide_eq_decide.2 ?_
      rw [ch_h_cg (u := t) n (fun s hs => ?_)]
      unfold lsG
      by_cases hk : 0 < ls_lk S n q m s
      · have : (t &&& ls_cn S n q m n) / 2 ^ s % 2 = 1 ↔ t / 2 ^ s % 2 = 1 := and_bit.trans ⟨fun x => x.1, fun x => ⟨x, (ls_cn_bit hs).2 hk⟩⟩
        by_cases hb : t / 2 ^ s % 2 = 1
        · rw [if_pos hb, if_pos (this.2 hb)]
        · rw [if_neg hb, if_neg (fun x => hb (this.1 x))]
      · rw [if_neg hk]
        split <;> (split <;> rfl)
    · refine bW_le n (fun s hs => ⟨?_, fun hb => ?_⟩)
      · have := ls_lk_rg hok hs hm
        unfold lsC
        split <;> omega
      · exact decide_eq_true (and_bit.1 (of_decide_eq_true hb)).1
