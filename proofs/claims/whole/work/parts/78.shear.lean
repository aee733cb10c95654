theorem ldS_cg {F G : Nat → Int} {n a : Nat} (e : ∀ b, b < n → F b = G b) (h : a < n) : ldS F a = ldS G a := by
  unfold ldS
  rw [e a h]
theorem ldW_cg {F G : Nat → Int} {n : Nat} (hF : ∀ b, b < n → F b < n) (e : ∀ b, b < n → F b = G b) : ∀ i a, a < n → ldW F i a = ldW G i a
  | 0, a, _ => rfl
  | i + 1, a, h => by
    show ldW F i (ldS F a) = ldW G i (ldS G a)
    rw [← ldS_cg e h]
    exact ldW_cg hF e i _ (ldS_lt hF h)
theorem ldM_cg {F G : Nat → Int} {n : Nat} (hF : ∀ b, b < n → F b < n) (e : ∀ b, b < n → F b = G b) : ∀ i a, a < n → ldM F i a = ldM G i a
  | 0, a, _ => rfl
  | i + 1, a, h => by
    show min a (ldM F i (ldS F a)) = min a (ldM G i (ldS G a))
    rw [← ldS_cg e h, ldM_cg hF e i _ (ldS_lt hF h)]
theorem ldL_cg {F G : Nat → Int} {n a : Nat} (hF : ∀ b, b < n → F b < n) (e : ∀ b, b < n → F b = G b) (h : a < n) : ldL F a = ldL G a := by
  unfold ldL
  rw [← ldW_cg hF e 8 a h]
  exact ldM_cg hF e 8 _ (ldW_lt hF 8 a h)
theorem LdV.cg {σ : eH} {a n q Y : Nat} {S T : Nat → Int} (h : LdV σ a S n) (hok : Ok S n q Y) (e : ∀ k, 19 ≤ k ∧ k < 19 + n ∨ 63 ≤ k ∧ k < 63 + n → S k = T k) : LdV σ a T n := by
  obtain ⟨h1, h2, h3⟩ := h
  have hl : ∀ i, i < n → ldL (fun i => S (19 + i)) i = ldL (fun i => T (19 + i)) i := fun i hi => ldL_cg (F := fun i => S (19 + i)) (n := n) hok.F (fun b hb => e _ (by omega)) hi
  refine ⟨fun i hi => ?_, fun s hs => ?_, fun s hs => ?_⟩
  · rw [← hl i hi]
    exact h1 i hi
  · rw [h2 s hs]
    unfold ls_ld
    exact congrArg (fun z : Nat => (z : Int)) (bC_cg n (fun i hi => by rw [hl i hi]))
  · rw [h3 s hs]
    exact bW_cg n (fun i hi => ⟨by rw [hl i hi], e _ (by omega)⟩)
theorem ldW_mul {F : Nat → Int} {p a : Nat} (h : ldW F p a = a) : ∀ k, ldW F (p * k) a = a
  | 0 => rfl
  | k + 1 => by rw [Nat.mul_succ, ldW_add, ldW_mul h k, h]
theorem ldW_mod {F : Nat → Int} {p a : Nat} (h : ldW F p a = a) (i : Nat) : ldW F i a = ldW F (i % p) a := by
  conv => lhs; rw [← Nat.div_add_mod i p]
  rw [ldW_add, ldW_mul h]
theorem ldM_orb {F : Nat → Int} {p a : Nat} (hp1 : 1 ≤ p) (hp8 : p ≤ 8) (h : ldW F p a = a) (i : Nat) : ldM F 8 a ≤ ldM F 8 (ldW F i a) := by
  obtain ⟨j, hj, e⟩ := ldM_ex F 8 (ldW F i a)
  rw [e, ← ldW_add, ldW_mod h]
  exact ldM_le F 8 a _ (by have := Nat.mod_lt (i + j) hp1; omega)
theorem ldM_orb2 {F : Nat → Int} {p a : Nat} (hp1 : 1 ≤ p) (hp8 : p ≤ 8) (h : ldW F p a = a) (i : Nat) : ldM F 8 (ldW F i a) = ldM F 8 a := by
  refine Nat.le_antisymm ?_ (ldM_orb hp1 hp8 h i)
  have hb : ldW F p (ldW F i a) = ldW F i a := by rw [← ldW_add, Nat.add_comm, ldW_add, h]
  have hi : i ≤ p * i := Nat.le_mul_of_pos_left i hp1
  have ha : ldW F (p * i - i) (ldW F i a) = a := by rw [← ldW_add, show i + (p * i - i) = p * i by omega, ldW_mul h]
  have := ldM_orb hp1 hp8 hb (p * i - i)
  rw [ha] at this
  exact this
theorem ldL_idem {F : Nat → Int} {n s : Nat} (hn : n ≤ 8) (hF : ∀ b, b < n → F b < n) (hs : s < n) : ldL F (ldL F s) = ldL F s := by
  obtain ⟨p, h1, h8, h⟩ := ld_ring hn hF hs
  obtain ⟨j, hj, e⟩ := ldM_ex F 8 (ldW F 8 s)
  have e : ldL F s = ldW F j (ldW F 8 s) := e
  have e2 : ldL F (ldL F s) = ldM F 8 (ldW F 8 (ldW F j (ldW F 8 s))) := by
    rw [e]
    rfl
  rw [e2, ← ldW_add, ldM_orb2 h1 h8 h]
  rfl
/-- the wool that a man shears -/
def wl (S : Nat → Int) (m : Nat) : Nat → Int
  | 0 => 0
  | s + 1 => if S (11 + s) = (m : Int) ∧ (r_sr S m s).1 ≠ 0 then wl S m s + S (63 + s) else wl S m s
theorem wl_rg {S : Nat → Int} {m : Nat} (hwo : ∀ i, i < 8 → 0 ≤ S (63 + i) ∧ S (63 + i) ≤ 9) : ∀ s : Nat, s ≤ 8 → 0 ≤ wl S m s ∧ wl S m s ≤ 9 * s
  | 0, _ => by
    unfold wl
    omega
  | s + 1, h => by
    have ih := wl_rg (m := m) hwo s (by omega)
    have hw := hwo s (by omega)
    by_cases hc : S (11 + s) = (m : Int) ∧ (r_sr S m s).1 ≠ 0
    · have e : wl S m (s + 1) = wl S m s + S (63 + s) := if_pos hc
      omega
    · have e : wl S m (s + 1) = wl S m s := if_neg hc
      omega
theorem wl_sr {S : Nat → Int} {m : Nat} (hc : 0 ≤ S (27 + m) ∧ S (27 + m) ≤ 99999) (hp : 0 ≤ S 0) (hwo : ∀ i, i < 8 → 0 ≤ S (63 + i) ∧ S (63 + i) ≤ 9) : ∀ s : Nat, s ≤ 8 → (r_sr S m s).2 = if S (27 + m) + S 0 * wl S m s < 99999 then S (27 + m) + S 0 * wl S m s else 99999
  | 0, _ => by
    show S (27 + m) = if S (27 + m) + S 0 * 0 < 99999 then S (27 + m) + S 0 * 0 else 99999
    rw [Int.mul_zero]
    split <;> omega
  | s + 1, h => by
    have ih := wl_sr hc hp hwo s (by omega)
    have hw := hwo s (by omega)
    have hpw : 0 ≤ S 0 * S (63 + s) := Int.mul_nonneg hp hw.1
    by_cases hcond : S (11 + s) = (m : Int) ∧ (r_sr S m s).1 ≠ 0
    · have e1 : r_sr S m (s + 1) = ((r_sr S m s).1 - 1, if 99999 < (r_sr S m s).2 + S 0 * S (63 + s) then 99999 else (r_sr S m s).2 + S 0 * S (63 + s)) := if_pos hcond
      have e2 : wl S m (s + 1) = wl S m s + S (63 + s) := if_pos hcond
      rw [e1, e2]
      dsimp only
      rw [ih, Int.mul_add]
      generalize S 0 * S (63 + s) = p at *
      generalize S 0 * wl S m s = r at *
      (repeat' split) <;> omega
    · have e1 : r_sr S m (s + 1) = r_sr S m s := if_neg hcond
      have e2 : wl S m (s + 1) = wl S m s := if_neg hcond
      rw [e1, e2]
      exact ih
theorem sr_stop {S : Nat → Int} {m s : Nat} (h : (r_sr S m s).1 = 0) : ∀ j, r_sr S m (s + j) = r_sr S m s
  | 0 => rfl
  | j + 1 => by
    have ih := sr_stop h j
    have hc : ¬ (S (11 + (s + j)) = (m : Int) ∧ (r_sr S m (s + j)).1 ≠ 0) := fun x => x.2 (by rw [ih]; exact h)
    have e1 : r_sr S m (s + j + 1) = r_sr S m (s + j) := if_neg hc
    exact e1.trans ih
set_option maxRecDepth 8000 in
set_option maxHeartbeats 2000000 in
theorem c_shear_e {k : Nat} {a n q Y m : Nat} {X : Nat → Int} {z fd w : Int} {σ : eH} {Q : Option eV → eH → Prop}  (ha : a + 40 ≤ 161) (hka : MyK σ a) (hok : Ok X n q Y) (hm : m < 4) (hh : HlC σ (a + 18) X n q) (hwv : ∀ i, i < 8 → σ.2.2.2.1 (a + 1 + 1) i = X (11 + i)) (hcv : σ.2.2.2.1 (a + 1 + 12) m = X (27 + m)) (hw0 : 0 ≤ w ∧ w ≤ 72) (hQ : Q none (e_put σ (a + 1 + 12) m (if X (27 + m) + X 0 * w < 99999 then X (27 + m) + X 0 * w else 99999))) : e_Gp k e_k95 66 [some (.inr (.inr (a + 2))), some (.inl (m : Int)), some (.inl fd), some (.inl w), some (.inl z)] [] σ Q := by
  have hn8 := hok.n8
  have hq4 := hok.q4
  have g1 := hh.1
  have g2 := hh.2.1
  have g3 := hh.2.2.1
  have hpr := hok.pr
  have hco := hok.co m hm
  have hp0 : 0 ≤ X 0 * w := Int.mul_nonneg hpr.1 hw0.1
  have hp1 : X 0 * w ≤ 9 * 72 := Int.mul_le_mul hpr.2 hw0.2 hw0.1 (by omega)
  refine gp_of (by rfl) ?_
  simp (disch := omega) only [e_wi, e_isr, e_isc, e_stp, e_rt, e_load, e_bin, e_binL, e_ld, e_s1, e_s2, e_n0, e_ok, e_cmp, e_ex, e_gif, e_id32, e_id64, e_v0, e_v1, e_v2, e_v3, e_dt, e_c1, e_sw, e_inv, e_cat, e_rcv, Fin.val_zero, Fin.val_one, Int.toNat_add, Int.toNat_mul, Int.toNat_natCast, Int.reduceToNat, Int.reduceMul, Int.reduceAdd, Int.reduceNeg, Nat.reduceAdd, Nat.reduceSub, Nat.reduceEqDiff, Nat.reduceLT, Nat.reduceLeDiff, List.getElem?_cons_zero, List.getElem?_cons_succ, List.length_cons, List.length_nil, List.take_succ_cons, List.take_zero, List.drop_succ_cons, List.drop_zero, List.reverse_cons, List.reverse_nil, List.nil_append, List.cons_append, List.append_nil, List.map_cons, List.map_nil, List.sum_cons, List.sum_nil, Bool.false_eq_true, if_false, if_true, Bool.and_true, Bool.true_and, Bool.and_self, Bool.or_true, Bool.true_or, Bool.or_false, Bool.false_or, Bool.or_self, decide_eq_true_eq, decide_true, decide_false, beq_self_eq_true, Option.map_some, reduceCtorEq, true_or, or_true, or_false, false_or, or_self, true_and, and_true, and_self, false_and, and_false, Option.some.injEq, exists_eq_left', ne_eq, not_true_eq_false, not_false_eq_true, eq_self, e_pk, e_pr, e_pn, e_ps, e_pd1, e_pd2, e_us, e_un, e_ifp, e_ifn, e_sk, e_sr, e_sn, e_ss, e_sd1, e_sd2, e_sp, yk0 hka, yk35 hka, yk36 hka, yk37 hka, yk38 hka, yk39 hka, yr0 hka, yr1 hka, yr2 hka, yr3 hka, yr5 hka, yr6 hka, yr7 hka, yr8 hka, sk0 (yst hka), sk1 (yst hka), sk2 (yst hka), sk3 (yst hka), sk12 (yst hka), sr0 (yst hka), sr1 (yst hka), sr2 (yst hka), sr3 (yst hka), hk0 (yhl hka), hk1 (yhl hka), hk2 (yhl hka), hk3 (yhl hka), hr5 (yhl hka), hr6 (yhl hka), hr7 (yhl hka), hr8 (yhl hka), g1, hcv]
  repeat' first
    | (refine gp_at [] (by rfl) (by decide) ?_; simp (disch := omega) only [e_wi, e_isr, e_isc, e_stp, e_rt, e_load, e_bin, e_binL, e_ld, e_s1, e_s2, e_n0, e_ok, e_cmp, e_ex, e_gif, e_id32, e_id64, e_v0, e_v1, e_v2, e_v3, e_dt, e_c1, e_sw, e_inv, e_cat, e_rcv, Fin.val_zero, Fin.val_one, Int.toNat_add, Int.toNat_mul, Int.toNat_natCast, Int.reduceToNat, Int.reduceMul, Int.reduceAdd, Int.reduceNeg, Nat.reduceAdd, Nat.reduceSub, Nat.reduceEqDiff, Nat.reduceLT, Nat.reduceLeDiff, List.getElem?_cons_zero, List.getElem?_cons_succ, List.length_cons, List.length_nil, List.take_succ_cons, List.take_zero, List.drop_succ_cons, List.drop_zero, List.reverse_cons, List.reverse_nil, List.nil_append, List.cons_append, List.append_nil, List.map_cons, List.map_nil, List.sum_cons, List.sum_nil, Bool.false_eq_true, if_false, if_true, Bool.and_true, Bool.true_and, Bool.and_self, Bool.or_true, Bool.true_or, Bool.or_false, Bool.false_or, Bool.or_self, decide_eq_true_eq, decide_true, decide_false, beq_self_eq_true, Option.map_some, reduceCtorEq, true_or, or_true, or_false, false_or, or_self, true_and, and_true, and_self, false_and, and_false, Option.some.injEq, exists_eq_left', ne_eq, not_true_eq_false, not_false_eq_true, eq_self, e_pk, e_pr, e_pn, e_ps, e_pd1, e_pd2, e_us, e_un, e_ifp, e_ifn, e_sk, e_sr, e_sn, e_ss, e_sd1, e_sd2, e_sp, yk0 hka, yk35 hka, yk36 hka, yk37 hka, yk38 hka, yk39 hka, yr0 hka, yr1 hka, yr2 hka, yr3 hka, yr5 hka, yr6 hka, yr7 hka, yr8 hka, sk0 (yst hka), sk1 (yst hka), sk2 (yst hka), sk3 (yst hka), sk12 (yst hka), sr0 (yst hka), sr1 (yst hka), sr2 (yst hka), sr3 (yst hka), hk0 (yhl hka), hk1 (yhl hka), hk2 (yhl hka), hk3 (yhl hka), hr5 (yhl hka), hr6 (yhl hka), hr7 (yhl hka), hr8 (yhl hka), g1, hcv])
    | (refine And.intro (fun hc => ?_) (fun hc => ?_) <;> try (exfalso; omega))
  all_goals first | exact hQ | (exfalso; omega)
set_option maxRecDepth 8000 in
set_option maxHeartbeats 2000000 in
theorem c_shear_l {k : Nat} {a n q Y m : Nat} {X : Nat → Int} {σ : eH} {Q : Option eV → eH → Prop}  (ha : a + 40 ≤ 161) (hka : MyK σ a) (hok : Ok X n q Y) (hm : m < 4) (hh : HlC σ (a + 18) X n q) (hwv : ∀ i, i < 8 → σ.2.2.2.1 (a + 1 + 1) i = X (11 + i)) (hcv : σ.2.2.2.1 (a + 1 + 12) m = X (27 + m)) (hQ : Q none (e_put σ (a + 1 + 12) m (r_sr X m n).2)) : ∀ (j s : Nat) (z fd w : Int), z = (s : Int) → fd = X 1 - (r_sr X m s).1 → w = wl X m s → s + j = n → e_Gp k e_k95 7 [some (.inr (.inr (a + 2))), some (.inl (m : Int)), some (.inl fd), some (.inl w), some (.inl z)] [] σ Q
  | 0, s, z, fd, w, hz, hf, hw, h => by
    subst hz
    have hn8 := hok.n8
    have hq4 := hok.q4
    have g1 := hh.1
    have g2 := hh.2.1
    have g3 := hh.2.2.1
    have hsr := wl_sr (hok.co m hm) hok.pr.1 hok.wo s (by omega)
    have hrg := r_sr_rg (S := X) (m := m) (n := n) hok.gr (hok.co m hm) (fun s hs => by have := hok.pw s (by omega); omega) s (by omega)
    have hwr := wl_rg (m := m) hok.wo s (by omega)
    have hgr := hok.gr
    obtain rfl : n = s := by omega
    rw [hsr, ← hw] at hQ
    have hE := fun z => c_shear_e (k := k) (z := z) (fd := fd) (w := w) ha hka hok hm hh hwv hcv (by omega) hQ
    refine gp_of (by rfl) ?_
    simp (disch := omega) only [e_wi, e_isr, e_isc, e_stp, e_rt, e_load, e_bin, e_binL, e_ld, e_s1, e_s2, e_n0, e_ok, e_cmp, e_ex, e_gif, e_id32, e_id64, e_v0, e_v1, e_v2, e_v3, e_dt, e_c1, e_sw, e_inv, e_cat, e_rcv, Fin.val_zero, Fin.val_one, Int.toNat_add, Int.toNat_mul, Int.toNat_natCast, Int.reduceToNat, Int.reduceMul, Int.reduceAdd, Int.reduceNeg, Nat.reduceAdd, Nat.reduceSub, Nat.reduceEqDiff, Nat.reduceLT, Nat.reduceLeDiff, List.getElem?_cons_zero, List.getElem?_cons_succ, List.length_cons, List.length_nil, List.take_succ_cons, List.take_zero, List.drop_succ_cons, List.drop_zero, List.reverse_cons, List.reverse_nil, List.nil_append, List.cons_append, List.append_nil, List.map_cons, List.map_nil, List.sum_cons, List.sum_nil, Bool.false_eq_true, if_false, if_true, Bool.and_true, Bool.true_and, Bool.and_self, Bool.or_true, Bool.true_or, Bool.or_false, Bool.false_or, Bool.or_self, decide_eq_true_eq, decide_true, decide_false, beq_self_eq_true, Option.map_some, reduceCtorEq, true_or, or_true, or_false, false_or, or_self, true_and, and_true, and_self, false_and, and_false, Option.some.injEq, exists_eq_left', ne_eq, not_true_eq_false, not_false_eq_true, eq_self, e_pk, e_pr, e_pn, e_ps, e_pd1, e_pd2, e_us, e_un, e_ifp, e_ifn, e_sk, e_sr, e_sn, e_ss, e_sd1, e_sd2, e_sp, yk0 hka, yk35 hka, yk36 hka, yk37 hka, yk38 hka, yk39 hka, yr0 hka, yr1 hka, yr2 hka, yr3 hka, yr5 hka, yr6 hka, yr7 hka, yr8 hka, sk0 (yst hka), sk1 (yst hka), sk2 (yst hka), sk3 (yst hka), sk12 (yst hka), sr0 (yst hka), sr1 (yst hka), sr2 (yst hka), sr3 (yst hka), hk0 (yhl hka), hk1 (yhl hka), hk2 (yhl hka), hk3 (yhl hka), hr5 (yhl hka), hr6 (yhl hka), hr7 (yhl hka), hr8 (yhl hka), g2, g3]
    repeat' first
      | (refine gp_at [7, 66] (by rfl) (by decide) ?_; simp (disch := omega) only [e_wi, e_isr, e_isc, e_stp, e_rt, e_load, e_bin, e_binL, e_ld, e_s1, e_s2, e_n0, e_ok, e_cmp, e_ex, e_gif, e_id32, e_id64, e_v0, e_v1, e_v2, e_v3, e_dt, e_c1, e_sw, e_inv, e_cat, e_rcv, Fin.val_zero, Fin.val_one, Int.toNat_add, Int.toNat_mul, Int.toNat_natCast, Int.reduceToNat, Int.reduceMul, Int.reduceAdd, Int.reduceNeg, Nat.reduceAdd, Nat.reduceSub, Nat.reduceEqDiff, Nat.reduceLT, Nat.reduceLeDiff, List.getElem?_cons_zero, List.getElem?_cons_succ, List.length_cons, List.length_nil, List.take_succ_cons, List.take_zero, List.drop_succ_cons, List.drop_zero, List.reverse_cons, List.reverse_nil, List.nil_append, List.cons_append, List.append_nil, List.map_cons, List.map_nil, List.sum_cons, List.sum_nil, Bool.false_eq_true, if_false, if_true, Bool.and_true, Bool.true_and, Bool.and_self, Bool.or_true, Bool.true_or, Bool.or_false, Bool.false_or, Bool.or_self, decide_eq_true_eq, decide_true, decide_false, beq_self_eq_true, Option.map_some, reduceCtorEq, true_or, or_true, or_false, false_or, or_self, true_and, and_true, and_self, false_and, and_false, Option.some.injEq, exists_eq_left', ne_eq, not_true_eq_false, not_false_eq_true, eq_self, e_pk, e_pr, e_pn, e_ps, e_pd1, e_pd2, e_us, e_un, e_ifp, e_ifn, e_sk, e_sr, e_sn, e_ss, e_sd1, e_sd2, e_sp, yk0 hka, yk35 hka, yk36 hka, yk37 hka, yk38 hka, yk39 hka, yr0 hka, yr1 hka, yr2 hka, yr3 hka, yr5 hka, yr6 hka, yr7 hka, yr8 hka, sk0 (yst hka), sk1 (yst hka), sk2 (yst hka), sk3 (yst hka), sk12 (yst hka), sr0 (yst hka), sr1 (yst hka), sr2 (yst hka), sr3 (yst hka), hk0 (yhl hka), hk1 (yhl hka), hk2 (yhl hka), hk3 (yhl hka), hr5 (yhl hka), hr6 (yhl hka), hr7 (yhl hka), hr8 (yhl hka), g2, g3])
      | (refine And.intro (fun hc => ?_) (fun hc => ?_) <;> try (exfalso; omega))
    all_goals first | exact hE _ | (exfalso; omega)
  | j + 1, s, z, fd, w, hz, hf, hw, h => by
    subst hz
    have hn8 := hok.n8
    have hq4 := hok.q4
    have g1 := hh.1
    have g2 := hh.2.1
    have g3 := hh.2.2.1
    have hsr := wl_sr (hok.co m hm) hok.pr.1 hok.wo s (by omega)
    have hrg := r_sr_rg (S := X) (m := m) (n := n) hok.gr (hok.co m hm) (fun s hs => by have := hok.pw s (by omega); omega) s (by omega)
    have hwr := wl_rg (m := m) hok.wo s (by omega)
    have hgr := hok.gr
    by_cases hl : (r_sr X m s).1 = 0
    · have hst := sr_stop hl (j + 1)
      rw [h] at hst
      rw [hst, hsr, ← hw] at hQ
      have hE := fun z => c_shear_e (k := k) (z := z) (fd := fd) (w := w) ha hka hok hm hh hwv hcv (by omega) hQ
      refine gp_of (by rfl) ?_
      simp (disch := omega) only [e_wi, e_isr, e_isc, e_stp, e_rt, e_load, e_bin, e_binL, e_ld, e_s1, e_s2, e_n0, e_ok, e_cmp, e_ex, e_gif, e_id32, e_id64, e_v0, e_v1, e_v2, e_v3, e_dt, e_c1, e_sw, e_inv, e_cat, e_rcv, Fin.val_zero, Fin.val_one, Int.toNat_add, Int.toNat_mul, Int.toNat_natCast, Int.reduceToNat, Int.reduceMul, Int.reduceAdd, Int.reduceNeg, Nat.reduceAdd, Nat.reduceSub, Nat.reduceEqDiff, Nat.reduceLT, Nat.reduceLeDiff, List.getElem?_cons_zero, List.getElem?_cons_succ, List.length_cons, List.length_nil, List.take_succ_cons, List.take_zero, List.drop_succ_cons, List.drop_zero, List.reverse_cons, List.reverse_nil, List.nil_append, List.cons_append, List.append_nil, List.map_cons, List.map_nil, List.sum_cons, List.sum_nil, Bool.false_eq_true, if_false, if_true, Bool.and_true, Bool.true_and, Bool.and_self, Bool.or_true, Bool.true_or, Bool.or_false, Bool.false_or, Bool.or_self, decide_eq_true_eq, decide_true, decide_false, beq_self_eq_true, Option.map_some, reduceCtorEq, true_or, or_true, or_false, false_or, or_self, true_and, and_true, and_self, false_and, and_false, Option.some.injEq, exists_eq_left', ne_eq, not_true_eq_false, not_false_eq_true, eq_self, e_pk, e_pr, e_pn, e_ps, e_pd1, e_pd2, e_us, e_un, e_ifp, e_ifn, e_sk, e_sr, e_sn, e_ss, e_sd1, e_sd2, e_sp, yk0 hka, yk35 hka, yk36 hka, yk37 hka, yk38 hka, yk39 hka, yr0 hka, yr1 hka, yr2 hka, yr3 hka, yr5 hka, yr6 hka, yr7 hka, yr8 hka, sk0 (yst hka), sk1 (yst hka), sk2 (yst hka), sk3 (yst hka), sk12 (yst hka), sr0 (yst hka), sr1 (yst hka), sr2 (yst hka), sr3 (yst hka), hk0 (yhl hka), hk1 (yhl hka), hk2 (yhl hka), hk3 (yhl hka), hr5 (yhl hka), hr6 (yhl hka), hr7 (yhl hka), hr8 (yhl hka), g2, g3]
      repeat' first
        | (refine gp_at [7, 66] (by rfl) (by decide) ?_; simp (disch := omega) only [e_wi, e_isr, e_isc, e_stp, e_rt, e_load, e_bin, e_binL, e_ld, e_s1, e_s2, e_n0, e_ok, e_cmp, e_ex, e_gif, e_id32, e_id64, e_v0, e_v1, e_v2, e_v3, e_dt, e_c1, e_sw, e_inv, e_cat, e_rcv, Fin.val_zero, Fin.val_one, Int.toNat_add, Int.toNat_mul, Int.toNat_natCast, Int.reduceToNat, Int.reduceMul, Int.reduceAdd, Int.reduceNeg, Nat.reduceAdd, Nat.reduceSub, Nat.reduceEqDiff, Nat.reduceLT, Nat.reduceLeDiff, List.getElem?_cons_zero, List.getElem?_cons_succ, List.length_cons, List.length_nil, List.take_succ_cons, List.take_zero, List.drop_succ_cons, List.drop_zero, List.reverse_cons, List.reverse_nil, List.nil_append, List.cons_append, List.append_nil, List.map_cons, List.map_nil, List.sum_cons, List.sum_nil, Bool.false_eq_true, if_false, if_true, Bool.and_true, Bool.true_and, Bool.and_self, Bool.or_true, Bool.true_or, Bool.or_false, Bool.false_or, Bool.or_self, decide_eq_true_eq, decide_true, decide_false, beq_self_eq_true, Option.map_some, reduceCtorEq, true_or, or_true, or_false, false_or, or_self, true_and, and_true, and_self, false_and, and_false, Option.some.injEq, exists_eq_left', ne_eq, not_true_eq_false, not_false_eq_true, eq_self, e_pk, e_pr, e_pn, e_ps, e_pd1, e_pd2, e_us, e_un, e_ifp, e_ifn, e_sk, e_sr, e_sn, e_ss, e_sd1, e_sd2, e_sp, yk0 hka, yk35 hka, yk36 hka, yk37 hka, yk38 hka, yk39 hka, yr0 hka, yr1 hka, yr2 hka, yr3 hka, yr5 hka, yr6 hka, yr7 hka, yr8 hka, sk0 (yst hka), sk1 (yst hka), sk2 (yst hka), sk3 (yst hka), sk12 (yst hka), sr0 (yst hka), sr1 (yst hka), sr2 (yst hka), sr3 (yst hka), hk0 (yhl hka), hk1 (yhl hka), hk2 (yhl hka), hk3 (yhl hka), hr5 (yhl hka), hr6 (yhl hka), hr7 (yhl hka), hr8 (yhl hka), g2, g3])
        | (refine And.intro (fun hc => ?_) (fun hc => ?_) <;> try (exfalso; omega))
      all_goals first | exact hE _ | (exfalso; omega)
    · have hwh := hok.wh s (by omega)
      have hv1 := hwv s (by omega)
      have hv2 := hh.2.2.2.2.1 s (by omega)
      have hwo := hok.wo s (by omega)
      have ih := c_shear_l (k := k) ha hka hok hm hh hwv hcv hQ j (s + 1) ((s : Int) + 1)
      by_cases hmine : X (11 + s) = (m : Int)
      · have hc : X (11 + s) = (m : Int) ∧ (r_sr X m s).1 ≠ 0 := ⟨hmine, hl⟩
        have e1 : r_sr X m (s + 1) = ((r_sr X m s).1 - 1, if 99999 < (r_sr X m s).2 + X 0 * X (63 + s) then 99999 else (r_sr X m s).2 + X 0 * X (63 + s)) := if_pos hc
        have e2 : wl X m (s + 1) = wl X m s + X (63 + s) := if_pos hc
        have ih := ih (fd + 1) (w + X (63 + s)) (by omega) (by rw [e1]; dsimp only; omega) (by rw [e2, hw]) (by omega)
        refine gp_of (by rfl) ?_
        simp (disch := omega) only [e_wi, e_isr, e_isc, e_stp, e_rt, e_load, e_bin, e_binL, e_ld, e_s1, e_s2, e_n0, e_ok, e_cmp, e_ex, e_gif, e_id32, e_id64, e_v0, e_v1, e_v2, e_v3, e_dt, e_c1, e_sw, e_inv, e_cat, e_rcv, Fin.val_zero, Fin.val_one, Int.toNat_add, Int.toNat_mul, Int.toNat_natCast, Int.reduceToNat, Int.reduceMul, Int.reduceAdd, Int.reduceNeg, Nat.reduceAdd, Nat.reduceSub, Nat.reduceEqDiff, Nat.reduceLT, Nat.reduceLeDiff, List.getElem?_cons_zero, List.getElem?_cons_succ, List.length_cons, List.length_nil, List.take_succ_cons, List.take_zero, List.drop_succ_cons, List.drop_zero, List.reverse_cons, List.reverse_nil, List.nil_append, List.cons_append, List.append_nil, List.map_cons, List.map_nil, List.sum_cons, List.sum_nil, Bool.false_eq_true, if_false, if_true, Bool.and_true, Bool.true_and, Bool.and_self, Bool.or_true, Bool.true_or, Bool.or_false, Bool.false_or, Bool.or_self, decide_eq_true_eq, decide_true, decide_false, beq_self_eq_true, Option.map_some, reduceCtorEq, true_or, or_true, or_false, false_or, or_self, true_and, and_true, and_self, false_and, and_false, Option.some.injEq, exists_eq_left', ne_eq, not_true_eq_false, not_false_eq_true, eq_self, e_pk, e_pr, e_pn, e_ps, e_pd1, e_pd2, e_us, e_un, e_ifp, e_ifn, e_sk, e_sr, e_sn, e_ss, e_sd1, e_sd2, e_sp, yk0 hka, yk35 hka, yk36 hka, yk37 hka, yk38 hka, yk39 hka, yr0 hka, yr1 hka, yr2 hka, yr3 hka, yr5 hka, yr6 hka, yr7 hka, yr8 hka, sk0 (yst hka), sk1 (yst hka), sk2 (yst hka), sk3 (yst hka), sk12 (yst hka), sr0 (yst hka), sr1 (yst hka), sr2 (yst hka), sr3 (yst hka), hk0 (yhl hka), hk1 (yhl hka), hk2 (yhl hka), hk3 (yhl hka), hr5 (yhl hka), hr6 (yhl hka), hr7 (yhl hka), hr8 (yhl hka), g2, g3, hv1, hv2, hmine]
        repeat' first
          | (refine gp_at [7] (by rfl) (by decide) ?_; simp (disch := omega) only [e_wi, e_isr, e_isc, e_stp, e_rt, e_load, e_bin, e_binL, e_ld, e_s1, e_s2, e_n0, e_ok, e_cmp, e_ex, e_gif, e_id32, e_id64, e_v0, e_v1, e_v2, e_v3, e_dt, e_c1, e_sw, e_inv, e_cat, e_rcv, Fin.val_zero, Fin.val_one, Int.toNat_add, Int.toNat_mul, Int.toNat_natCast, Int.reduceToNat, Int.reduceMul, Int.reduceAdd, Int.reduceNeg, Nat.reduceAdd, Nat.reduceSub, Nat.reduceEqDiff, Nat.reduceLT, Nat.reduceLeDiff, List.getElem?_cons_zero, List.getElem?_cons_succ, List.length_cons, List.length_nil, List.take_succ_cons, List.take_zero, List.drop_succ_cons, List.drop_zero, List.reverse_cons, List.reverse_nil, List.nil_append, List.cons_append, List.append_nil, List.map_cons, List.map_nil, List.sum_cons, List.sum_nil, Bool.false_eq_true, if_false, if_true, Bool.and_true, Bool.true_and, Bool.and_self, Bool.or_true, Bool.true_or, Bool.or_false, Bool.false_or, Bool.or_self, decide_eq_true_eq, decide_true, decide_false, beq_self_eq_true, Option.map_some, reduceCtorEq, true_or, or_true, or_false, false_or, or_self, true_and, and_true, and_self, false_and, and_false, Option.some.injEq, exists_eq_left', ne_eq, not_true_eq_false, not_false_eq_true, eq_self, e_pk, e_pr, e_pn, e_ps, e_pd1, e_pd2, e_us, e_un, e_ifp, e_ifn, e_sk, e_sr, e_sn, e_ss, e_sd1, e_sd2, e_sp, yk0 hka, yk35 hka, yk36 hka, yk37 hka, yk38 hka, yk39 hka, yr0 hka, yr1 hka, yr2 hka, yr3 hka, yr5 hka, yr6 hka, yr7 hka, yr8 hka, sk0 (yst hka), sk1 (yst hka), sk2 (yst hka), sk3 (yst hka), sk12 (yst hka), sr0 (yst hka), sr1 (yst hka), sr2 (yst hka), sr3 (yst hka), hk0 (yhl hka), hk1 (yhl hka), hk2 (yhl hka), hk3 (yhl hka), hr5 (yhl hka), hr6 (yhl hka), hr7 (yhl hka), hr8 (yhl hka), g2, g3, hv1, hv2, hmine])
          | (refine And.intro (fun hc => ?_) (fun hc => ?_) <;> try (exfalso; omega))
        all_goals first | exact ih | (exfalso; omega)
      · have hc : ¬ (X (11 + s) = (m : Int) ∧ (r_sr X m s).1 ≠ 0) := fun x => hmine x.1
        have e1 : r_sr X m (s + 1) = r_sr X m s := if_neg hc
        have e2 : wl X m (s + 1) = wl X m s := if_neg hc
        have ih := ih fd w (by omega) (by rw [e1]; exact hf) (by rw [e2]; exact hw) (by omega)
        refine gp_of (by rfl) ?_
        simp (disch := omega) only [e_wi, e_isr, e_isc, e_stp, e_rt, e_load, e_bin, e_binL, e_ld, e_s1, e_s2, e_n0, e_ok, e_cmp, e_ex, e_gif, e_id32, e_id64, e_v0, e_v1, e_v2, e_v3, e_dt, e_c1, e_sw, e_inv, e_cat, e_rcv, Fin.val_zero, Fin.val_one, Int.toNat_add, Int.toNat_mul, Int.toNat_natCast, Int.reduceToNat, Int.reduceMul, Int.reduceAdd, Int.reduceNeg, Nat.reduceAdd, Nat.reduceSub, Nat.reduceEqDiff, Nat.reduceLT, Nat.reduceLeDiff, List.getElem?_cons_zero, List.getElem?_cons_succ, List.length_cons, List.length_nil, List.take_succ_cons, List.take_zero, List.drop_succ_cons, List.drop_zero, List.reverse_cons, List.reverse_nil, List.nil_append, List.cons_append, List.append_nil, List.map_cons, List.map_nil, List.sum_cons, List.sum_nil, Bool.false_eq_true, if_false, if_true, Bool.and_true, Bool.true_and, Bool.and_self, Bool.or_true, Bool.true_or, Bool.or_false, Bool.false_or, Bool.or_self, decide_eq_true_eq, decide_true, decide_false, beq_self_eq_true, Option.map_some, reduceCtorEq, true_or, or_true, or_false, false_or, or_self, true_and, and_true, and_self, false_and, and_false, Option.some.injEq, exists_eq_left', ne_eq, not_true_eq_false, not_false_eq_true, eq_self, e_pk, e_pr, e_pn, e_ps, e_pd1, e_pd2, e_us, e_un, e_ifp, e_ifn, e_sk, e_sr, e_sn, e_ss, e_sd1, e_sd2, e_sp, yk0 hka, yk35 hka, yk36 hka, yk37 hka, yk38 hka, yk39 hka, yr0 hka, yr1 hka, yr2 hka, yr3 hka, yr5 hka, yr6 hka, yr7 hka, yr8 hka, sk0 (yst hka), sk1 (yst hka), sk2 (yst hka), sk3 (yst hka), sk12 (yst hka), sr0 (yst hka), sr1 (yst hka), sr2 (yst hka), sr3 (yst hka), hk0 (yhl hka), hk1 (yhl hka), hk2 (yhl hka), hk3 (yhl hka), hr5 (yhl hka), hr6 (yhl hka), hr7 (yhl hka), hr8 (yhl hka), g2, g3, hv1, hv2]
        repeat' first
          | (refine gp_at [7] (by rfl) (by decide) ?_; simp (disch := omega) only [e_wi, e_isr, e_isc, e_stp, e_rt, e_load, e_bin, e_binL, e_ld, e_s1, e_s2, e_n0, e_ok, e_cmp, e_ex, e_gif, e_id32, e_id64, e_v0, e_v1, e_v2, e_v3, e_dt, e_c1, e_sw, e_inv, e_cat, e_rcv, Fin.val_zero, Fin.val_one, Int.toNat_add, Int.toNat_mul, Int.toNat_natCast, Int.reduceToNat, Int.reduceMul, Int.reduceAdd, Int.reduceNeg, Nat.reduceAdd, Nat.reduceSub, Nat.reduceEqDiff, Nat.reduceLT, Nat.reduceLeDiff, List.getElem?_cons_zero, List.getElem?_cons_succ, List.length_cons, List.length_nil, List.take_succ_cons, List.take_zero, List.drop_succ_cons, List.drop_zero, List.reverse_cons, List.reverse_nil, List.nil_append, List.cons_append, List.append_nil, List.map_cons, List.map_nil, List.sum_cons, List.sum_nil, Bool.false_eq_true, if_false, if_true, Bool.and_true, Bool.true_and, Bool.and_self, Bool.or_true, Bool.true_or, Bool.or_false, Bool.false_or, Bool.or_self, decide_eq_true_eq, decide_true, decide_false, beq_self_eq_true, Option.map_some, reduceCtorEq, true_or, or_true, or_false, false_or, or_self, true_and, and_true, and_self, false_and, and_false, Option.some.injEq, exists_eq_left', ne_eq, not_true_eq_false, not_false_eq_true, eq_self, e_pk, e_pr, e_pn, e_ps, e_pd1, e_pd2, e_us, e_un, e_ifp, e_ifn, e_sk, e_sr, e_sn, e_ss, e_sd1, e_sd2, e_sp, yk0 hka, yk35 hka, yk36 hka, yk37 hka, yk38 hka, yk39 hka, yr0 hka, yr1 hka, yr2 hka, yr3 hka, yr5 hka, yr6 hka, yr7 hka, yr8 hka, sk0 (yst hka), sk1 (yst hka), sk2 (yst hka), sk3 (yst hka), sk12 (yst hka), sr0 (yst hka), sr1 (yst hka), sr2 (yst hka), sr3 (yst hka), hk0 (yhl hka), hk1 (yhl hka), hk2 (yhl hka), hk3 (yhl hka), hr5 (yhl hka), hr6 (yhl hka), hr7 (yhl hka), hr8 (yhl hka), g2, g3, hv1, hv2])
          | (refine And.intro (fun hc => ?_) (fun hc => ?_) <;> try (exfalso; omega))
        all_goals first | exact ih | (exfalso; omega)
set_option maxRecDepth 8000 in
set_option maxHeartbeats 1000000 in
theorem c_shear {k : Nat} {a n q Y m : Nat} {X : Nat → Int} {σ : eH} {Q : Option eV → eH → Prop} (hk : 1 ≤ k)  (ha : a + 40 ≤ 161) (hka : MyK σ a) (hok : Ok X n q Y) (hm : m < 4) (hh : HlC σ (a + 18) X n q) (hwv : ∀ i, i < 8 → σ.2.2.2.1 (a + 1 + 1) i = X (11 + i)) (hcv : σ.2.2.2.1 (a + 1 + 12) m = X (27 + m)) (hQ : Q none (e_put σ (a + 1 + 12) m (r_sr X m n).2)) : e_Wp k 95 [.inr (.inr (a + 2)), .inl (m : Int)] σ Q := by
  refine wp_in (nL := 5) (cd := e_k95) (by omega) (by rfl) (Nat.le_of_ble_eq_true rfl) ?_
  dsimp only [e_ent, Nat.reduceSub, List.replicate]
  refine gp_of (by rfl) ?_
  simp (disch := omega) only [e_wi, e_isr, e_isc, e_stp, e_rt, e_load, e_bin, e_binL, e_ld, e_s1, e_s2, e_n0, e_ok, e_cmp, e_ex, e_gif, e_id32, e_id64, e_v0, e_v1, e_v2, e_v3, e_dt, e_c1, e_sw, e_inv, e_cat, e_rcv, Fin.val_zero, Fin.val_one, Int.toNat_add, Int.toNat_mul, Int.toNat_natCast, Int.reduceToNat, Int.reduceMul, Int.reduceAdd, Int.reduceNeg, Nat.reduceAdd, Nat.reduceSub, Nat.reduceEqDiff, Nat.reduceLT, Nat.reduceLeDiff, List.getElem?_cons_zero, List.getElem?_cons_succ, List.length_cons, List.length_nil, List.take_succ_cons, List.take_zero, List.drop_succ_cons, List.drop_zero, List.reverse_cons, List.reverse_nil, List.nil_append, List.cons_append, List.append_nil, List.map_cons, List.map_nil, List.sum_cons, List.sum_nil, Bool.false_eq_true, if_false, if_true, Bool.and_true, Bool.true_and, Bool.and_self, Bool.or_true, Bool.true_or, Bool.or_false, Bool.false_or, Bool.or_self, decide_eq_true_eq, decide_true, decide_false, beq_self_eq_true, Option.map_some, reduceCtorEq, true_or, or_true, or_false, false_or, or_self, true_and, and_true, and_self, false_and, and_false, Option.some.injEq, exists_eq_left', ne_eq, not_true_eq_false, not_false_eq_true, eq_self, e_pk, e_pr, e_pn, e_ps, e_pd1, e_pd2, e_us, e_un, e_ifp, e_ifn, e_sk, e_sr, e_sn, e_ss, e_sd1, e_sd2, e_sp, yk0 hka]
  repeat' first
    | (refine gp_at [7] (by rfl) (by decide) ?_; simp (disch := omega) only [e_wi, e_isr, e_isc, e_stp, e_rt, e_load, e_bin, e_binL, e_ld, e_s1, e_s2, e_n0, e_ok, e_cmp, e_ex, e_gif, e_id32, e_id64, e_v0, e_v1, e_v2, e_v3, e_dt, e_c1, e_sw, e_inv, e_cat, e_rcv, Fin.val_zero, Fin.val_one, Int.toNat_add, Int.toNat_mul, Int.toNat_natCast, Int.reduceToNat, Int.reduceMul, Int.reduceAdd, Int.reduceNeg, Nat.reduceAdd, Nat.reduceSub, Nat.reduceEqDiff, Nat.reduceLT, Nat.reduceLeDiff, List.getElem?_cons_zero, List.getElem?_cons_succ, List.length_cons, List.length_nil, List.take_succ_cons, List.take_zero, List.drop_succ_cons, List.drop_zero, List.reverse_cons, List.reverse_nil, List.nil_append, List.cons_append, List.append_nil, List.map_cons, List.map_nil, List.sum_cons, List.sum_nil, Bool.false_eq_true, if_false, if_true, Bool.and_true, Bool.true_and, Bool.and_self, Bool.or_true, Bool.true_or, Bool.or_false, Bool.false_or, Bool.or_self, decide_eq_true_eq, decide_true, decide_false, beq_self_eq_true, Option.map_some, reduceCtorEq, true_or, or_true, or_false, false_or, or_self, true_and, and_true, and_self, false_and, and_false, Option.some.injEq, exists_eq_left', ne_eq, not_true_eq_false, not_false_eq_true, eq_self, e_pk, e_pr, e_pn, e_ps, e_pd1, e_pd2, e_us, e_un, e_ifp, e_ifn, e_sk, e_sr, e_sn, e_ss, e_sd1, e_sd2, e_sp, yk0 hka])
    | (refine And.intro (fun hc => ?_) (fun hc => ?_) <;> try (exfalso; omega))
  exact c_shear_l (k := k - 1) ha hka hok hm hh hwv hcv hQ n 0 0 0 0 rfl (by show (0 : Int) = X 1 - X 1; omega) rfl (by omega)
