/-- a hill as it may be: n sheep, q men, the year at most Y -/
def Ok (S : Nat → Int) (n q Y : Nat) : Prop := (∀ j, e_w32 (S j) = S j) ∧ S 2 = (n : Int) ∧ n ≤ 8 ∧ S 3 = (q : Int) ∧ q ≤ 4 ∧ (0 ≤ S 0 ∧ S 0 ≤ 9) ∧ (0 ≤ S 1 ∧ S 1 ≤ 20) ∧ (0 ≤ S 10 ∧ S 10 ≤ Y) ∧ (∀ i, i < 8 → -1 ≤ S (11 + i) ∧ S (11 + i) < 4) ∧ (∀ i, i < n → -1 ≤ S (19 + i) ∧ S (19 + i) < n) ∧ (∀ i, i < 4 → 0 ≤ S (27 + i) ∧ S (27 + i) ≤ 99999) ∧ (∀ i, i < 32 → 0 ≤ S (31 + i) ∧ S (31 + i) ≤ 99) ∧ (∀ i, i < 8 → 0 ≤ S (63 + i) ∧ S (63 + i) ≤ 9) ∧ (∀ i, i < 4 → 0 ≤ S (71 + i) ∧ S (71 + i) ≤ 9) ∧ (∀ i, i < 4 → 0 ≤ S (75 + i) ∧ S (75 + i) ≤ 20)
theorem Ok.w {S : Nat → Int} {n q Y : Nat} (h : Ok S n q Y) : ∀ j, e_w32 (S j) = S j := h.1
theorem Ok.n {S : Nat → Int} {n q Y : Nat} (h : Ok S n q Y) : S 2 = (n : Int) := h.2.1
theorem Ok.n8 {S : Nat → Int} {n q Y : Nat} (h : Ok S n q Y) : n ≤ 8 := h.2.2.1
theorem Ok.q {S : Nat → Int} {n q Y : Nat} (h : Ok S n q Y) : S 3 = (q : Int) := h.2.2.2.1
theorem Ok.q4 {S : Nat → Int} {n q Y : Nat} (h : Ok S n q Y) : q ≤ 4 := h.2.2.2.2.1
theorem Ok.pr {S : Nat → Int} {n q Y : Nat} (h : Ok S n q Y) : 0 ≤ S 0 ∧ S 0 ≤ 9 := h.2.2.2.2.2.1
theorem Ok.gr {S : Nat → Int} {n q Y : Nat} (h : Ok S n q Y) : 0 ≤ S 1 ∧ S 1 ≤ 20 := h.2.2.2.2.2.2.1
theorem Ok.yr {S : Nat → Int} {n q Y : Nat} (h : Ok S n q Y) : 0 ≤ S 10 ∧ S 10 ≤ Y := h.2.2.2.2.2.2.2.1
theorem Ok.wh {S : Nat → Int} {n q Y : Nat} (h : Ok S n q Y) : ∀ i, i < 8 → -1 ≤ S (11 + i) ∧ S (11 + i) < 4 := h.2.2.2.2.2.2.2.2.1
theorem Ok.fo {S : Nat → Int} {n q Y : Nat} (h : Ok S n q Y) : ∀ i, i < n → -1 ≤ S (19 + i) ∧ S (19 + i) < n := h.2.2.2.2.2.2.2.2.2.1
theorem Ok.co {S : Nat → Int} {n q Y : Nat} (h : Ok S n q Y) : ∀ i, i < 4 → 0 ≤ S (27 + i) ∧ S (27 + i) ≤ 99999 := h.2.2.2.2.2.2.2.2.2.2.1
theorem Ok.li {S : Nat → Int} {n q Y : Nat} (h : Ok S n q Y) : ∀ i, i < 32 → 0 ≤ S (31 + i) ∧ S (31 + i) ≤ 99 := h.2.2.2.2.2.2.2.2.2.2.2.1
theorem Ok.wo {S : Nat → Int} {n q Y : Nat} (h : Ok S n q Y) : ∀ i, i < 8 → 0 ≤ S (63 + i) ∧ S (63 + i) ≤ 9 := h.2.2.2.2.2.2.2.2.2.2.2.2.1
theorem Ok.ha {S : Nat → Int} {n q Y : Nat} (h : Ok S n q Y) : ∀ i, i < 4 → 0 ≤ S (71 + i) ∧ S (71 + i) ≤ 9 := h.2.2.2.2.2.2.2.2.2.2.2.2.2.1
theorem Ok.sa {S : Nat → Int} {n q Y : Nat} (h : Ok S n q Y) : ∀ i, i < 4 → 0 ≤ S (75 + i) ∧ S (75 + i) ≤ 20 := h.2.2.2.2.2.2.2.2.2.2.2.2.2.2
theorem Ok.F {S : Nat → Int} {n q Y : Nat} (h : Ok S n q Y) : ∀ b, b < n → S (19 + b) < n := fun b hb => (h.fo b hb).2
theorem Ok.pw {S : Nat → Int} {n q Y : Nat} (h : Ok S n q Y) (s : Nat) (hs : s < 8) : 0 ≤ S 0 * S (63 + s) ∧ S 0 * S (63 + s) ≤ 81 := by
  have h1 := h.pr
  have h2 := h.wo s hs
  refine ⟨Int.mul_nonneg h1.1 h2.1, ?_⟩
  have := Int.mul_le_mul h1.2 h2.2 h2.1 (by omega)
  omega
theorem Ok.ld {S : Nat → Int} {n q Y : Nat} (h : Ok S n q Y) {s : Nat} (hs : s < n) : ldL (fun i => S (19 + i)) s < n := ldM_lt (F := fun i => S (19 + i)) (n := n) h.F 8 _ (ldW_lt (F := fun i => S (19 + i)) (n := n) h.F 8 s hs)
/-- whom a sheep chooses as a leader -/
def p_ch (S : Nat → Int) (n q : Nat) (R : Option rRule) (f s : Nat) : Int := if ldL (fun i => S (19 + i)) s = s ∧ f / 2 ^ s % 2 = 0 then (r_best (r_val S n R s) q).1 else -1
theorem p_ch_rg (S : Nat → Int) (n q : Nat) (R : Option rRule) (f s : Nat) : -1 ≤ p_ch S n q R f s ∧ p_ch S n q R f s < q := by
  have := r_best_rg (r_val S n R s) q
  unfold p_ch
  split <;> omega
/-- the first j sheep gone -/
def p_w (S : Nat → Int) (n q : Nat) (R : Option rRule) (f j : Nat) : Nat → Int := fun k => if 11 ≤ k ∧ k < 11 + j then p_ch S n q R f (ldL (fun i => S (19 + i)) (k - 11)) else S k
/-- the first j men have shorn -/
def p_s (S : Nat → Int) (n j : Nat) : Nat → Int := fun k => if 27 ≤ k ∧ k < 27 + j then (r_sr S (k - 27) n).2 else S k
/-- how much more a man's sheep like him -/
def p_d (S : Nat → Int) (n m : Nat) : Int := if 0 < ((bC (fun s => decide (S (11 + s) = (m : Int))) n : Nat) : Int) - S (71 + m) then -(((bC (fun s => decide (S (11 + s) = (m : Int))) n : Nat) : Int) - S (71 + m)) else (S (75 + m)).tdiv ((bC (fun s => decide (S (11 + s) = (m : Int))) n : Nat) : Int)
/-- the sheep of the first j men have remembered -/
def p_r (S : Nat → Int) (n j : Nat) : Nat → Int := fun k => if 31 ≤ k ∧ k < 31 + 4 * n ∧ (k - 31) % 4 < j ∧ S (11 + (k - 31) / 4) = (((k - 31) % 4 : Nat) : Int) then r_cl (S k + p_d S n ((k - 31) % 4)) else S k
/-- a May -/
def pas (S : Nat → Int) (n q : Nat) (R : Option rRule) (f : Nat) : Nat → Int := va_up (p_r (p_s (p_w S n q R f n) n q) n q) 10 (S 10 + 1)
/-- how many sheep go to another -/
def p_mv (S : Nat → Int) (n q : Nat) (R : Option rRule) (f j : Nat) : Nat := bC (fun s => decide (S (11 + s) ≠ p_ch S n q R f (ldL (fun i => S (19 + i)) s))) j
theorem r_cl_rg (t : Int) : 0 ≤ r_cl t ∧ r_cl t ≤ 99 := by
  unfold r_cl
  split
  · omega
  · split <;> omega
theorem r_sr_cg {S T : Nat → Int} {m : Nat} (h0 : S 0 = T 0) (h1 : S 1 = T 1) (hc : S (27 + m) = T (27 + m)) : ∀ (n : Nat), (∀ s, s < n → S (11 + s) = T (11 + s) ∧ S (63 + s) = T (63 + s)) → r_sr S m n = r_sr T m n
  | 0, _ => by
    show (_, _) = (_, _)
    rw [h1, hc]
  | n + 1, h => by
    unfold r_sr
    rw [r_sr_cg h0 h1 hc n (fun s hs => h s (by omega)), (h n (by omega)).1, (h n (by omega)).2, h0]
theorem r_rm_c (S : Nat → Int) (m : Nat) (hm4 : m < 4) (d : Int) : ∀ (n k : Nat), r_rm S m d n k = if 31 ≤ k ∧ k < 31 + 4 * n ∧ (k - 31) % 4 = m ∧ S (11 + (k - 31) / 4) = (m : Int) then r_cl (S k + d) else S k
  | 0, k => by
    rw [if_neg (by omega)]
    rfl
  | n + 1, k => by
    show (if S (11 + n) = (m : Int) then va_up (r_rm S m d n) (31 + 4 * n + m) (r_cl (S (31 + 4 * n + m) + d)) else r_rm S m d n) k = _
    by_cases hk : k = 31 + 4 * n + m
    · subst hk
      have e1 : (31 + 4 * n + m - 31) / 4 = n := by omega
      have e2 : (31 + 4 * n + m - 31) % 4 = m := by omega
      rw [e1, e2]
      by_cases hh : S (11 + n) = (m : Int)
      · rw [if_pos hh, e_us, if_pos ⟨by omega, by omega, rfl, hh⟩]
      · rw [if_neg hh, if_neg (fun h => hh h.2.2.2)]
        exact r_rm_o (by omega)
    · have e : (if S (11 + n) = (m : Int) then va_up (r_rm S m d n) (31 + 4 * n + m) (r_cl (S (31 + 4 * n + m) + d)) else r_rm S m d n) k = r_rm S m d n k := by
        split
        · rw [e_un _ hk]
        · rfl
      rw [e, r_rm_c S m hm4 d n k]
      by_cases hh : 31 ≤ k ∧ k < 31 + 4 * n ∧ (k - 31) % 4 = m ∧ S (11 + (k - 31) / 4) = (m : Int)
      · rw [if_pos hh, if_pos ⟨hh.1, by omega, hh.2.2⟩]
      · rw [if_neg hh, if_neg]
        intro g
        exact hh ⟨g.1, by omega, g.2.2⟩
theorem bC_cg {p r : Nat → Bool} : ∀ (n : Nat), (∀ s, s < n → p s = r s) → bC p n = bC r n
  | 0, _ => rfl
  | n + 1, h => by
    unfold bC
    rw [bC_cg n (fun s hs => h s (by omega)), h n (by omega)]
theorem p_r_s {S : Nat → Int} {n j : Nat} (hj : j < 4) (hn8 : n ≤ 8) : r_rm (p_r S n j) j (p_d S n j) n = p_r S n (j + 1) := by
  funext k
  rw [r_rm_c _ _ hj]
  have e1 : ∀ i, i < 20 → p_r S n j (11 + i) = S (11 + i) := fun i hi => by
    unfold p_r
    rw [if_neg (by omega)]
  by_cases hk : 31 ≤ k ∧ k < 31 + 4 * n
  · rw [e1 _ (by omega)]
    by_cases h1 : (k - 31) % 4 = j
    · have e2 : p_r S n j k = S k := by
        unfold p_r
        rw [if_neg (fun h => absurd h.2.2.1 (by omega))]
      rw [e2]
      unfold p_r
      rw [h1]
      by_cases h2 : S (11 + (k - 31) / 4) = (j : Int)
      · rw [if_pos ⟨hk.1, hk.2, rfl, h2⟩, if_pos ⟨hk.1, hk.2, by omega, h2⟩]
      · rw [if_neg (fun h => h2 h.2.2.2), if_neg (fun h => h2 h.2.2.2)]
    · rw [if_neg (fun h => h1 h.2.2.1)]
      unfold p_r
      by_cases h2 : (k - 31) % 4 < j ∧ S (11 + (k - 31) / 4) = (((k - 31) % 4 : Nat) : Int)
      · rw [if_pos ⟨hk.1, hk.2, h2⟩, if_pos ⟨hk.1, hk.2, by omega, h2.2⟩]
      · rw [if_neg (fun h => h2 h.2.2), if_neg (fun h => h2 ⟨by omega, h.2.2.2⟩)]
  · rw [if_neg (fun h => hk ⟨h.1, h.2.1⟩)]
    unfold p_r
    rw [if_neg (fun h => hk ⟨h.1, h.2.1⟩), if_neg (fun h => hk ⟨h.1, h.2.1⟩)]
theorem p_r_o {S : Nat → Int} {n j k : Nat} (hn8 : n ≤ 8) (hk : k < 31 ∨ 63 ≤ k) : p_r S n j k = S k := by
  unfold p_r
  rw [if_neg (by omega)]
theorem p_s_o {S : Nat → Int} {n j k : Nat} (hj : j ≤ 4) (hk : k < 27 ∨ 31 ≤ k) : p_s S n j k = S k := by
  unfold p_s
  rw [if_neg (by omega)]
theorem p_w_o {S : Nat → Int} {n q : Nat} {R : Option rRule} {f j k : Nat} (hj : j ≤ 8) (hk : k < 11 ∨ 19 ≤ k) : p_w S n q R f j k = S k := by
  unfold p_w
  rw [if_neg (by omega)]
theorem p_s_s {S : Nat → Int} {n j : Nat} (hj : j < 4) (hn8 : n ≤ 8) : va_up (p_s S n j) (27 + j) (r_sr (p_s S n j) j n).2 = p_s S n (j + 1) := by
  have e : r_sr (p_s S n j) j n = r_sr S j n := r_sr_cg (p_s_o (by omega) (by omega)) (p_s_o (by omega) (by omega)) (by unfold p_s; rw [if_neg (by omega)]) n (fun s hs => ⟨p_s_o (by omega) (by omega), p_s_o (by omega) (by omega)⟩)
  rw [e]
  funext k
  by_cases hk : k = 27 + j
  · subst hk
    rw [e_us]
    unfold p_s
    rw [if_pos (by omega), show 27 + j - 27 = j by omega]
  · rw [e_un _ hk]
    unfold p_s
    by_cases h1 : 27 ≤ k ∧ k < 27 + j
    · rw [if_pos h1, if_pos (by omega)]
    · rw [if_neg h1, if_neg (by omega)]
theorem p_w_s {S : Nat → Int} {n q : Nat} {R : Option rRule} {f j : Nat} : va_up (p_w S n q R f j) (11 + j) (p_ch S n q R f (ldL (fun i => S (19 + i)) j)) = p_w S n q R f (j + 1) := by
  funext k
  by_cases hk : k = 11 + j
  · subst hk
    rw [e_us]
    unfold p_w
    rw [if_pos (by omega), show 11 + j - 11 = j by omega]
  · rw [e_un _ hk]
    unfold p_w
    by_cases h1 : 11 ≤ k ∧ k < 11 + j
    · rw [if_pos h1, if_pos (by omega)]
    · rw [if_neg h1, if_neg (by omega)]
theorem p_w_F {S : Nat → Int} {n q : Nat} {R : Option rRule} {f j : Nat} (hj : j ≤ 8) : (fun i => p_w S n q R f j (19 + i)) = fun i => S (19 + i) := by
  funext i
  exact p_w_o hj (by omega)
theorem e_i32 {x : Int} (h : -2147483648 ≤ x ∧ x ≤ 2147483647) : e_w32 x = x := e_id32 (by omega) (by omega)
/-- whoever goes, the hill stays such a one -/
theorem p_w_ok {S : Nat → Int} {n q Y : Nat} {R : Option rRule} {f j : Nat} (h : Ok S n q Y) (hj : j ≤ 8) : Ok (p_w S n q R f j) n q Y := by
  have hrg : ∀ i, -1 ≤ p_ch S n q R f (ldL (fun i => S (19 + i)) i) ∧ p_ch S n q R f (ldL (fun i => S (19 + i)) i) < q := fun i => p_ch_rg _ _ _ _ _ _
  have hq := h.q4
  refine ⟨fun k => ?_, ?_, h.n8, ?_, h.q4, ?_, ?_, ?_, ?_, ?_, ?_, ?_, ?_, ?_, ?_⟩
  · unfold p_w
    split
    · have := hrg (k - 11)
      exact e_i32 (by omega)
    · exact h.w k
  · rw [p_w_o hj (by omega)]; exact h.n
  · rw [p_w_o hj (by omega)]; exact h.q
  · rw [p_w_o hj (by omega)]; exact h.pr
  · rw [p_w_o hj (by omega)]; exact h.gr
  · rw [p_w_o hj (by omega)]; exact h.yr
  · intro i hi
    unfold p_w
    split
    · have := hrg (11 + i - 11)
      omega
    · exact h.wh i hi
  · intro i hi; rw [p_w_o hj (by omega)]; exact h.fo i hi
  · intro i hi; rw [p_w_o hj (by omega)]; exact h.co i hi
  · intro i hi; rw [p_w_o hj (by omega)]; exact h.li i hi
  · intro i hi; rw [p_w_o hj (by omega)]; exact h.wo i hi
  · intro i hi; rw [p_w_o hj (by omega)]; exact h.ha i hi
  · intro i hi; rw [p_w_o hj (by omega)]; exact h.sa i hi
theorem p_s_ok {S : Nat → Int} {n q Y j : Nat} (h : Ok S n q Y) (hj : j ≤ 4) : Ok (p_s S n j) n q Y := by
  have hrg : ∀ m, m < 4 → 0 ≤ (r_sr S m n).2 ∧ (r_sr S m n).2 ≤ 99999 := fun m hm => (r_sr_rg h.gr (h.co m hm) (n := n) (fun s hs => by have := h.pw s (by have := h.n8; omega); omega) n (Nat.le_refl _)).2.2
  refine ⟨fun k => ?_, ?_, h.n8, ?_, h.q4, ?_, ?_, ?_, ?_, ?_, ?_, ?_, ?_, ?_, ?_⟩
  · unfold p_s
    split
    · have := hrg (k - 27) (by omega)
      exact e_i32 (by omega)
    · exact h.w k
  · rw [p_s_o hj (by omega)]; exact h.n
  · rw [p_s_o hj (by omega)]; exact h.q
  · rw [p_s_o hj (by omega)]; exact h.pr
  · rw [p_s_o hj (by omega)]; exact h.gr
  · rw [p_s_o hj (by omega)]; exact h.yr
  · intro i hi; rw [p_s_o hj (by omega)]; exact h.wh i hi
  · intro i hi; rw [p_s_o hj (by have := h.n8; omega)]; exact h.fo i hi
  · intro i hi
    unfold p_s
    split
    · have := hrg (27 + i - 27) (by omega)
      omega
    · exact h.co i hi
  · intro i hi; rw [p_s_o hj (by omega)]; exact h.li i hi
  · intro i hi; rw [p_s_o hj (by omega)]; exact h.wo i hi
  · intro i hi; rw [p_s_o hj (by omega)]; exact h.ha i hi
  · intro i hi; rw [p_s_o hj (by omega)]; exact h.sa i hi
theorem p_r_ok {S : Nat → Int} {n q Y j : Nat} (h : Ok S n q Y) : Ok (p_r S n j) n q Y := by
  have hn8 := h.n8
  refine ⟨fun k => ?_, ?_, h.n8, ?_, h.q4, ?_, ?_, ?_, ?_, ?_, ?_, ?_, ?_, ?_, ?_⟩
  · unfold p_r
    split
    · have := r_cl_rg (S k + p_d S n ((k - 31) % 4))
      exact e_i32 (by omega)
    · exact h.w k
  · rw [p_r_o hn8 (by omega)]; exact h.n
  · rw [p_r_o hn8 (by omega)]; exact h.q
  · rw [p_r_o hn8 (by omega)]; exact h.pr
  · rw [p_r_o hn8 (by omega)]; exact h.gr
  · rw [p_r_o hn8 (by omega)]; exact h.yr
  · intro i hi; rw [p_r_o hn8 (by omega)]; exact h.wh i hi
  · intro i hi; rw [p_r_o hn8 (by omega)]; exact h.fo i hi
  · intro i hi; rw [p_r_o hn8 (by omega)]; exact h.co i hi
  · intro i hi
    unfold p_r
    split
    · exact r_cl_rg _
    · exact h.li i hi
  · intro i hi; rw [p_r_o hn8 (by omega)]; exact h.wo i hi
  · intro i hi; rw [p_r_o hn8 (by omega)]; exact h.ha i hi
  · intro i hi; rw [p_r_o hn8 (by omega)]; exact h.sa i hi
theorem Ok.y {S : Nat → Int} {n q Y Z : Nat} (h : Ok S n q Y) {x : Int} (hx : 0 ≤ x ∧ x ≤ Z) (hZ : Z ≤ 2147483647) : Ok (va_up S 10 x) n q Z := by
  have hn8 := h.n8
  refine ⟨fun k => ?_, ?_, h.n8, ?_, h.q4, ?_, ?_, ?_, ?_, ?_, ?_, ?_, ?_, ?_, ?_⟩
  · unfold va_up
    split
    · exact e_i32 (by omega)
    · exact h.w k
  · rw [e_un _ (by omega)]; exact h.n
  · rw [e_un _ (by omega)]; exact h.q
  · rw [e_un _ (by omega)]; exact h.pr
  · rw [e_un _ (by omega)]; exact h.gr
  · rw [e_us]; exact hx
  · intro i hi; rw [e_un _ (by omega)]; exact h.wh i hi
  · intro i hi; rw [e_un _ (by omega)]; exact h.fo i hi
  · intro i hi; rw [e_un _ (by omega)]; exact h.co i hi
  · intro i hi; rw [e_un _ (by omega)]; exact h.li i hi
  · intro i hi; rw [e_un _ (by omega)]; exact h.wo i hi
  · intro i hi; rw [e_un _ (by omega)]; exact h.ha i hi
  · intro i hi; rw [e_un _ (by omega)]; exact h.sa i hi
theorem pas_ok {S : Nat → Int} {n q Y : Nat} {R : Option rRule} {f : Nat} (h : Ok S n q Y) (hY : Y < 2147483647) : Ok (pas S n q R f) n q (Y + 1) := by
  have h10 := h.yr
  exact (p_r_ok (p_s_ok (p_w_ok h h.n8) h.q4)).y (by omega) (by omega)
