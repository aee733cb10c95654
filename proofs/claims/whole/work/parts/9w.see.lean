/-! the reference reads -/
/-- the next byte is the q-th -/
def Mr (σ : eH) (B : Nat → Int) (t q : Nat) : Prop := Mo σ ∧ σ.2.2.2.1 161 1 = (t : Int) ∧ σ.2.2.2.1 162 = B ∧ σ.2.2.2.1 161 8 = (q : Int) ∧ q ≤ t ∧ t ≤ 400 ∧ ∀ i, -128 ≤ B i ∧ B i < 128
theorem Mr.t1 {σ : eH} {B : Nat → Int} {t q : Nat} (h : Mr σ B t q) : σ.2.2.2.1 161 1 = (t : Int) := h.2.1
theorem Mr.b8 {σ : eH} {B : Nat → Int} {t q : Nat} (h : Mr σ B t q) : σ.2.2.2.1 162 = B := h.2.2.1
theorem Mr.q8 {σ : eH} {B : Nat → Int} {t q : Nat} (h : Mr σ B t q) : σ.2.2.2.1 161 8 = (q : Int) := h.2.2.2.1
theorem Mr.qt {σ : eH} {B : Nat → Int} {t q : Nat} (h : Mr σ B t q) : q ≤ t ∧ t ≤ 400 := ⟨h.2.2.2.2.1, h.2.2.2.2.2.1⟩
theorem Mr.B {σ : eH} {B : Nat → Int} {t q : Nat} (h : Mr σ B t q) (i : Nat) : -128 ≤ B i ∧ B i < 128 := h.2.2.2.2.2.2 i
/-- at byte x -/
def k_at (σ : eH) (x : Nat) : eH := e_put σ 161 8 (x : Int)
theorem k_at_at (σ : eH) (x y : Nat) : k_at (k_at σ x) y = k_at σ y := e_pp σ 161 8 _ _
theorem Mr.at {σ : eH} {B : Nat → Int} {t q : Nat} (h : Mr σ B t q) {x : Nat} (hx : x ≤ t) : Mr (k_at σ x) B t x := by
  refine ⟨((Sm.rf [] [8] σ).pf (by decide)).mo h.1, ?_, ?_, ?_, hx, h.2.2.2.2.2⟩
  · unfold k_at
    rw [e_pd1, e_un _ (by omega)]
    exact h.t1
  · unfold k_at
    rw [e_pd2 _ (by omega)]
    exact h.b8
  · unfold k_at
    rw [e_pd1, e_us]
theorem k_at_id {σ : eH} {q : Nat} (h : σ.2.2.2.1 161 8 = (q : Int)) : k_at σ q = σ := e_put_id h
theorem k_sk_sk (B : Nat → Int) (t q : Nat) (h : q ≤ t) : k_sk B t (k_sk B t q) = k_sk B t q := by
  have hb := k_sk_b (B := B) h
  by_cases e : k_sk B t q < t
  · exact k_go_f (k_go_no e)
  · exact k_go_ge (by omega)
/-- the byte that is seen -/
def k_sv (B : Nat → Int) (t p : Nat) : Int := if p < t then B p % 256 else -1
set_option maxRecDepth 8000 in
set_option maxHeartbeats 2000000 in
theorem w_see_l {k : Nat} {σ : eH} {B : Nat → Int} {t q : Nat} {Q : Option eV → eH → Prop} (h : Mr σ B t q) (hQ : Q (some (.inl (k_sv B t (k_sk B t q)))) (k_at σ (k_sk B t q))) : ∀ (j x : Nat), q ≤ x → x + j = k_sk B t q → e_Gp k e_k160 0 [some (.inr (.inr 163))] [] (k_at σ x) Q
  | 0, x, hx, hj => by
    have hqt := h.qt
    have hb := k_sk_b (B := B) hqt.1
    obtain rfl : x = k_sk B t q := by omega
    have h1 := h.at (x := k_sk B t q) hb.2
    have hno : k_sk B t q < t → B (k_sk B t q) ≠ 32 := fun q => of_decide_eq_false (k_go_no q)
    have hBx := h.B (k_sk B t q)
    unfold k_sv at hQ
    generalize k_sk B t q = x at *
    generalize k_at σ x = τ at *
    by_cases hxt : x < t
    · have hno := hno hxt
      rw [if_pos hxt] at hQ
      refine gp_of (by rfl) ?_
      simp (disch := omega) only [e_wi, e_isr, e_isc, e_stp, e_rt, e_load, e_bin, e_binL, e_ld, e_s1, e_s2, e_n0, e_ok, e_cmp, e_ex, e_gif, e_id32, e_id64, e_v0, e_v1, e_v2, e_v3, e_dt, e_c1, e_sw, e_inv, e_cat, e_rcv, Fin.val_zero, Fin.val_one, Int.toNat_add, Int.toNat_mul, Int.toNat_natCast, Int.reduceToNat, Int.reduceMul, Int.reduceAdd, Int.reduceNeg, Nat.reduceAdd, Nat.reduceSub, Nat.reduceEqDiff, Nat.reduceLT, Nat.reduceLeDiff, List.getElem?_cons_zero, List.getElem?_cons_succ, List.length_cons, List.length_nil, List.take_succ_cons, List.take_zero, List.drop_succ_cons, List.drop_zero, List.reverse_cons, List.reverse_nil, List.nil_append, List.cons_append, List.append_nil, List.map_cons, List.map_nil, List.sum_cons, List.sum_nil, Bool.false_eq_true, if_false, if_true, Bool.and_true, Bool.true_and, Bool.and_self, Bool.or_true, Bool.true_or, Bool.or_false, Bool.false_or, Bool.or_self, decide_eq_true_eq, decide_true, decide_false, beq_self_eq_true, Option.map_some, reduceCtorEq, true_or, or_true, or_false, false_or, or_self, true_and, and_true, and_self, false_and, and_false, Option.some.injEq, exists_eq_left', ne_eq, not_true_eq_false, not_false_eq_true, eq_self, e_pk, e_pr, e_pn, e_ps, e_pd1, e_pd2, e_us, e_un, e_ifp, e_ifn, e_sk, e_sr, e_sn, e_ss, e_sd1, e_sd2, e_sp, mk161 h1.1, mk162 h1.1, mk163 h1.1, mk164 h1.1, mk168 h1.1, mr0 h1.1, mr3 h1.1, mr4 h1.1, mr15 h1.1, h1.t1, h1.b8, h1.q8, b_a255]
      repeat' first
        | (refine gp_at [] (by rfl) (by decide) ?_; simp (disch := omega) only [e_wi, e_isr, e_isc, e_stp, e_rt, e_load, e_bin, e_binL, e_ld, e_s1, e_s2, e_n0, e_ok, e_cmp, e_ex, e_gif, e_id32, e_id64, e_v0, e_v1, e_v2, e_v3, e_dt, e_c1, e_sw, e_inv, e_cat, e_rcv, Fin.val_zero, Fin.val_one, Int.toNat_add, Int.toNat_mul, Int.toNat_natCast, Int.reduceToNat, Int.reduceMul, Int.reduceAdd, Int.reduceNeg, Nat.reduceAdd, Nat.reduceSub, Nat.reduceEqDiff, Nat.reduceLT, Nat.reduceLeDiff, List.getElem?_cons_zero, List.getElem?_cons_succ, List.length_cons, List.length_nil, List.take_succ_cons, List.take_zero, List.drop_succ_cons, List.drop_zero, List.reverse_cons, List.reverse_nil, List.nil_append, List.cons_append, List.append_nil, List.map_cons, List.map_nil, List.sum_cons, List.sum_nil, Bool.false_eq_true, if_false, if_true, Bool.and_true, Bool.true_and, Bool.and_self, Bool.or_true, Bool.true_or, Bool.or_false, Bool.false_or, Bool.or_self, decide_eq_true_eq, decide_true, decide_false, beq_self_eq_true, Option.map_some, reduceCtorEq, true_or, or_true, or_false, false_or, or_self, true_and, and_true, and_self, false_and, and_false, Option.some.injEq, exists_eq_left', ne_eq, not_true_eq_false, not_false_eq_true, eq_self, e_pk, e_pr, e_pn, e_ps, e_pd1, e_pd2, e_us, e_un, e_ifp, e_ifn, e_sk, e_sr, e_sn, e_ss, e_sd1, e_sd2, e_sp, mk161 h1.1, mk162 h1.1, mk163 h1.1, mk164 h1.1, mk168 h1.1, mr0 h1.1, mr3 h1.1, mr4 h1.1, mr15 h1.1, h1.t1, h1.b8, h1.q8, b_a255])
        | (refine And.intro (fun hc => ?_) (fun hc => ?_) <;> try (exfalso; omega))
      all_goals first | exact hQ | (exfalso; omega) | skip
    · clear hno
      rw [if_neg hxt] at hQ
      refine gp_of (by rfl) ?_
      simp (disch := omega) only [e_wi, e_isr, e_isc, e_stp, e_rt, e_load, e_bin, e_binL, e_ld, e_s1, e_s2, e_n0, e_ok, e_cmp, e_ex, e_gif, e_id32, e_id64, e_v0, e_v1, e_v2, e_v3, e_dt, e_c1, e_sw, e_inv, e_cat, e_rcv, Fin.val_zero, Fin.val_one, Int.toNat_add, Int.toNat_mul, Int.toNat_natCast, Int.reduceToNat, Int.reduceMul, Int.reduceAdd, Int.reduceNeg, Nat.reduceAdd, Nat.reduceSub, Nat.reduceEqDiff, Nat.reduceLT, Nat.reduceLeDiff, List.getElem?_cons_zero, List.getElem?_cons_succ, List.length_cons, List.length_nil, List.take_succ_cons, List.take_zero, List.drop_succ_cons, List.drop_zero, List.reverse_cons, List.reverse_nil, List.nil_append, List.cons_append, List.append_nil, List.map_cons, List.map_nil, List.sum_cons, List.sum_nil, Bool.false_eq_true, if_false, if_true, Bool.and_true, Bool.true_and, Bool.and_self, Bool.or_true, Bool.true_or, Bool.or_false, Bool.false_or, Bool.or_self, decide_eq_true_eq, decide_true, decide_false, beq_self_eq_true, Option.map_some, reduceCtorEq, true_or, or_true, or_false, false_or, or_self, true_and, and_true, and_self, false_and, and_false, Option.some.injEq, exists_eq_left', ne_eq, not_true_eq_false, not_false_eq_true, eq_self, e_pk, e_pr, e_pn, e_ps, e_pd1, e_pd2, e_us, e_un, e_ifp, e_ifn, e_sk, e_sr, e_sn, e_ss, e_sd1, e_sd2, e_sp, mk161 h1.1, mk162 h1.1, mk163 h1.1, mk164 h1.1, mk168 h1.1, mr0 h1.1, mr3 h1.1, mr4 h1.1, mr15 h1.1, h1.t1, h1.b8, h1.q8, b_a255]
      repeat' first
        | (refine gp_at [] (by rfl) (by decide) ?_; simp (disch := omega) only [e_wi, e_isr, e_isc, e_stp, e_rt, e_load, e_bin, e_binL, e_ld, e_s1, e_s2, e_n0, e_ok, e_cmp, e_ex, e_gif, e_id32, e_id64, e_v0, e_v1, e_v2, e_v3, e_dt, e_c1, e_sw, e_inv, e_cat, e_rcv, Fin.val_zero, Fin.val_one, Int.toNat_add, Int.toNat_mul, Int.toNat_natCast, Int.reduceToNat, Int.reduceMul, Int.reduceAdd, Int.reduceNeg, Nat.reduceAdd, Nat.reduceSub, Nat.reduceEqDiff, Nat.reduceLT, Nat.reduceLeDiff, List.getElem?_cons_zero, List.getElem?_cons_succ, List.length_cons, List.length_nil, List.take_succ_cons, List.take_zero, List.drop_succ_cons, List.drop_zero, List.reverse_cons, List.reverse_nil, List.nil_append, List.cons_append, List.append_nil, List.map_cons, List.map_nil, List.sum_cons, List.sum_nil, Bool.false_eq_true, if_false, if_true, Bool.and_true, Bool.true_and, Bool.and_self, Bool.or_true, Bool.true_or, Bool.or_false, Bool.false_or, Bool.or_self, decide_eq_true_eq, decide_true, decide_false, beq_self_eq_true, Option.map_some, reduceCtorEq, true_or, or_true, or_false, false_or, or_self, true_and, and_true, and_self, false_and, and_false, Option.some.injEq, exists_eq_left', ne_eq, not_true_eq_false, not_false_eq_true, eq_self, e_pk, e_pr, e_pn, e_ps, e_pd1, e_pd2, e_us, e_un, e_ifp, e_ifn, e_sk, e_sr, e_sn, e_ss, e_sd1, e_sd2, e_sp, mk161 h1.1, mk162 h1.1, mk163 h1.1, mk164 h1.1, mk168 h1.1, mr0 h1.1, mr3 h1.1, mr4 h1.1, mr15 h1.1, h1.t1, h1.b8, h1.q8, b_a255])
        | (refine And.intro (fun hc => ?_) (fun hc => ?_) <;> try (exfalso; omega))
      all_goals first | exact hQ | (exfalso; omega)
  | j + 1, x, hx, hj => by
    have hqt := h.qt
    have hb := k_sk_b (B := B) hqt.1
    have h1 := h.at (x := x) (by omega)
    have ih := w_see_l (k := k) h hQ j (x + 1) (by omega) (by omega)
    have hbl : B x = 32 := of_decide_eq_true (k_go_in (P := k_bl B) (t := t) (p := q) hx (by show x < k_sk B t q; omega))
    have e1 : e_put (k_at σ x) 161 8 ((x : Int) + 1) = k_at σ (x + 1) := by
      rw [show (x : Int) + 1 = ((x + 1 : Nat) : Int) by omega]
      exact k_at_at σ x (x + 1)
    rw [← e1] at ih
    generalize k_at σ x = τ at *
    refine gp_of (by rfl) ?_
    simp (disch := omega) only [e_wi, e_isr, e_isc, e_stp, e_rt, e_load, e_bin, e_binL, e_ld, e_s1, e_s2, e_n0, e_ok, e_cmp, e_ex, e_gif, e_id32, e_id64, e_v0, e_v1, e_v2, e_v3, e_dt, e_c1, e_sw, e_inv, e_cat, e_rcv, Fin.val_zero, Fin.val_one, Int.toNat_add, Int.toNat_mul, Int.toNat_natCast, Int.reduceToNat, Int.reduceMul, Int.reduceAdd, Int.reduceNeg, Nat.reduceAdd, Nat.reduceSub, Nat.reduceEqDiff, Nat.reduceLT, Nat.reduceLeDiff, List.getElem?_cons_zero, List.getElem?_cons_succ, List.length_cons, List.length_nil, List.take_succ_cons, List.take_zero, List.drop_succ_cons, List.drop_zero, List.reverse_cons, List.reverse_nil, List.nil_append, List.cons_append, List.append_nil, List.map_cons, List.map_nil, List.sum_cons, List.sum_nil, Bool.false_eq_true, if_false, if_true, Bool.and_true, Bool.true_and, Bool.and_self, Bool.or_true, Bool.true_or, Bool.or_false, Bool.false_or, Bool.or_self, decide_eq_true_eq, decide_true, decide_false, beq_self_eq_true, Option.map_some, reduceCtorEq, true_or, or_true, or_false, false_or, or_self, true_and, and_true, and_self, false_and, and_false, Option.some.injEq, exists_eq_left', ne_eq, not_true_eq_false, not_false_eq_true, eq_self, e_pk, e_pr, e_pn, e_ps, e_pd1, e_pd2, e_us, e_un, e_ifp, e_ifn, e_sk, e_sr, e_sn, e_ss, e_sd1, e_sd2, e_sp, mk161 h1.1, mk162 h1.1, mk163 h1.1, mk164 h1.1, mk168 h1.1, mr0 h1.1, mr3 h1.1, mr4 h1.1, mr15 h1.1, h1.t1, h1.b8, h1.q8, hbl]
    repeat' first
      | (refine gp_at [0] (by rfl) (by decide) ?_; simp (disch := omega) only [e_wi, e_isr, e_isc, e_stp, e_rt, e_load, e_bin, e_binL, e_ld, e_s1, e_s2, e_n0, e_ok, e_cmp, e_ex, e_gif, e_id32, e_id64, e_v0, e_v1, e_v2, e_v3, e_dt, e_c1, e_sw, e_inv, e_cat, e_rcv, Fin.val_zero, Fin.val_one, Int.toNat_add, Int.toNat_mul, Int.toNat_natCast, Int.reduceToNat, Int.reduceMul, Int.reduceAdd, Int.reduceNeg, Nat.reduceAdd, Nat.reduceSub, Nat.reduceEqDiff, Nat.reduceLT, Nat.reduceLeDiff, List.getElem?_cons_zero, List.getElem?_cons_succ, List.length_cons, List.length_nil, List.take_succ_cons, List.take_zero, List.drop_succ_cons, List.drop_zero, List.reverse_cons, List.reverse_nil, List.nil_append, List.cons_append, List.append_nil, List.map_cons, List.map_nil, List.sum_cons, List.sum_nil, Bool.false_eq_true, if_false, if_true, Bool.and_true, Bool.true_and, Bool.and_self, Bool.or_true, Bool.true_or, Bool.or_false, Bool.false_or, Bool.or_self, decide_eq_true_eq, decide_true, decide_false, beq_self_eq_true, Option.map_some, reduceCtorEq, true_or, or_true, or_false, false_or, or_self, true_and, and_true, and_self, false_and, and_false, Option.some.injEq, exists_eq_left', ne_eq, not_true_eq_false, not_false_eq_true, eq_self, e_pk, e_pr, e_pn, e_ps, e_pd1, e_pd2, e_us, e_un, e_ifp, e_ifn, e_sk, e_sr, e_sn, e_ss, e_sd1, e_sd2, e_sp, mk161 h1.1, mk162 h1.1, mk163 h1.1, mk164 h1.1, mk168 h1.1, mr0 h1.1, mr3 h1.1, mr4 h1.1, mr15 h1.1, h1.t1, h1.b8, h1.q8, hbl])
      | (refine And.intro (fun hc => ?_) (fun hc => ?_) <;> try (exfalso; omega))
    all_goals first | exact ih | (exfalso; omega) | skip
set_option maxRecDepth 8000 in
set_option maxHeartbeats 1000000 in
theorem w_see {k : Nat} {B : Nat → Int} {t q : Nat} {σ : eH} {Q : Option eV → eH → Prop} (hk : 1 ≤ k) (h : Mr σ B t q) (hQ : Q (some (.inl (k_sv B t (k_sk B t q)))) (k_at σ (k_sk B t q))) : e_Wp k 160 [.inr (.inr 163)] σ Q := by
  refine wp_in (nL := 1) (cd := e_k160) (by omega) (by rfl) (Nat.le_of_ble_eq_true rfl) ?_
  dsimp only [e_ent, Nat.reduceSub, List.replicate]
  have hb := k_sk_b (B := B) h.qt.1
  have e := w_see_l (k := k - 1) h hQ (k_sk B t q - q) q (Nat.le_refl _) (by omega)
  rw [k_at_id h.q8] at e
  exact e
set_option maxRecDepth 8000 in
set_option maxHeartbeats 1000000 in
theorem w_isLetter {k : Nat} {B : Nat → Int} {t q : Nat} {x : Nat} {σ : eH} {Q : Option eV → eH → Prop} (hk : 1 ≤ k) (h : Mr σ B t q) (hx : x ≤ 1000) (hQ : Q (some (.inl (if x < t ∧ k_lt B x = true then 1 else 0))) σ) : e_Wp k 163 [.inr (.inr 163), .inl (x : Int)] σ Q := by
  refine wp_in (nL := 2) (cd := e_k163) (by omega) (by rfl) (Nat.le_of_ble_eq_true rfl) ?_
  dsimp only [e_ent, Nat.reduceSub, List.replicate]
  have hqt := h.qt
  have hBx := h.B x
  by_cases h1 : x < t
  · by_cases h2 : k_lt B x = true
    · rw [if_pos ⟨h1, h2⟩] at hQ
      have h3 : 97 ≤ B x ∧ B x ≤ 122 := of_decide_eq_true h2
      refine gp_of (by rfl) ?_
      simp (disch := omega) only [e_wi, e_isr, e_isc, e_stp, e_rt, e_load, e_bin, e_binL, e_ld, e_s1, e_s2, e_n0, e_ok, e_cmp, e_ex, e_gif, e_id32, e_id64, e_v0, e_v1, e_v2, e_v3, e_dt, e_c1, e_sw, e_inv, e_cat, e_rcv, Fin.val_zero, Fin.val_one, Int.toNat_add, Int.toNat_mul, Int.toNat_natCast, Int.reduceToNat, Int.reduceMul, Int.reduceAdd, Int.reduceNeg, Nat.reduceAdd, Nat.reduceSub, Nat.reduceEqDiff, Nat.reduceLT, Nat.reduceLeDiff, List.getElem?_cons_zero, List.getElem?_cons_succ, List.length_cons, List.length_nil, List.take_succ_cons, List.take_zero, List.drop_succ_cons, List.drop_zero, List.reverse_cons, List.reverse_nil, List.nil_append, List.cons_append, List.append_nil, List.map_cons, List.map_nil, List.sum_cons, List.sum_nil, Bool.false_eq_true, if_false, if_true, Bool.and_true, Bool.true_and, Bool.and_self, Bool.or_true, Bool.true_or, Bool.or_false, Bool.false_or, Bool.or_self, decide_eq_true_eq, decide_true, decide_false, beq_self_eq_true, Option.map_some, reduceCtorEq, true_or, or_true, or_false, false_or, or_self, true_and, and_true, and_self, false_and, and_false, Option.some.injEq, exists_eq_left', ne_eq, not_true_eq_false, not_false_eq_true, eq_self, e_pk, e_pr, e_pn, e_ps, e_pd1, e_pd2, e_us, e_un, e_ifp, e_ifn, e_sk, e_sr, e_sn, e_ss, e_sd1, e_sd2, e_sp, mk161 h.1, mk162 h.1, mk163 h.1, mk164 h.1, mk168 h.1, mr0 h.1, mr3 h.1, mr4 h.1, mr15 h.1, h.t1, h.b8, h.q8]
      repeat' first
        | (refine gp_at [] (by rfl) (by decide) ?_; simp (disch := omega) only [e_wi, e_isr, e_isc, e_stp, e_rt, e_load, e_bin, e_binL, e_ld, e_s1, e_s2, e_n0, e_ok, e_cmp, e_ex, e_gif, e_id32, e_id64, e_v0, e_v1, e_v2, e_v3, e_dt, e_c1, e_sw, e_inv, e_cat, e_rcv, Fin.val_zero, Fin.val_one, Int.toNat_add, Int.toNat_mul, Int.toNat_natCast, Int.reduceToNat, Int.reduceMul, Int.reduceAdd, Int.reduceNeg, Nat.reduceAdd, Nat.reduceSub, Nat.reduceEqDiff, Nat.reduceLT, Nat.reduceLeDiff, List.getElem?_cons_zero, List.getElem?_cons_succ, List.length_cons, List.length_nil, List.take_succ_cons, List.take_zero, List.drop_succ_cons, List.drop_zero, List.reverse_cons, List.reverse_nil, List.nil_append, List.cons_append, List.append_nil, List.map_cons, List.map_nil, List.sum_cons, List.sum_nil, Bool.false_eq_true, if_false, if_true, Bool.and_true, Bool.true_and, Bool.and_self, Bool.or_true, Bool.true_or, Bool.or_false, Bool.false_or, Bool.or_self, decide_eq_true_eq, decide_true, decide_false, beq_self_eq_true, Option.map_some, reduceCtorEq, true_or, or_true, or_false, false_or, or_self, true_and, and_true, and_self, false_and, and_false, Option.some.injEq, exists_eq_left', ne_eq, not_true_eq_false, not_false_eq_true, eq_self, e_pk, e_pr, e_pn, e_ps, e_pd1, e_pd2, e_us, e_un, e_ifp, e_ifn, e_sk, e_sr, e_sn, e_ss, e_sd1, e_sd2, e_sp, mk161 h.1, mk162 h.1, mk163 h.1, mk164 h.1, mk168 h.1, mr0 h.1, mr3 h.1, mr4 h.1, mr15 h.1, h.t1, h.b8, h.q8])
        | (refine And.intro (fun hc => ?_) (fun hc => ?_) <;> try (exfalso; omega))
      all_goals first | exact hQ | (exfalso; omega) | skip
    · rw [if_neg (fun q => h2 q.2)] at hQ
      have h3 : ¬ (97 ≤ B x ∧ B x ≤ 122) := fun q => h2 (decide_eq_true q)
      refine gp_of (by rfl) ?_
      simp (disch := omega) only [e_wi, e_isr, e_isc, e_stp, e_rt, e_load, e_bin, e_binL, e_ld, e_s1, e_s2, e_n0, e_ok, e_cmp, e_ex, e_gif, e_id32, e_id64, e_v0, e_v1, e_v2, e_v3, e_dt, e_c1, e_sw, e_inv, e_cat, e_rcv, Fin.val_zero, Fin.val_one, Int.toNat_add, Int.toNat_mul, Int.toNat_natCast, Int.reduceToNat, Int.reduceMul, Int.reduceAdd, Int.reduceNeg, Nat.reduceAdd, Nat.reduceSub, Nat.reduceEqDiff, Nat.reduceLT, Nat.reduceLeDiff, List.getElem?_cons_zero, List.getElem?_cons_succ, List.length_cons, List.length_nil, List.take_succ_cons, List.take_zero, List.drop_succ_cons, List.drop_zero, List.reverse_cons, List.reverse_nil, List.nil_append, List.cons_append, List.append_nil, List.map_cons, List.map_nil, List.sum_cons, List.sum_nil, Bool.false_eq_true, if_false, if_true, Bool.and_true, Bool.true_and, Bool.and_self, Bool.or_true, Bool.true_or, Bool.or_false, Bool.false_or, Bool.or_self, decide_eq_true_eq, decide_true, decide_false, beq_self_eq_true, Option.map_some, reduceCtorEq, true_or, or_true, or_false, false_or, or_self, true_and, and_true, and_self, false_and, and_false, Option.some.injEq, exists_eq_left', ne_eq, not_true_eq_false, not_false_eq_true, eq_self, e_pk, e_pr, e_pn, e_ps, e_pd1, e_pd2, e_us, e_un, e_ifp, e_ifn, e_sk, e_sr, e_sn, e_ss, e_sd1, e_sd2, e_sp, mk161 h.1, mk162 h.1, mk163 h.1, mk164 h.1, mk168 h.1, mr0 h.1, mr3 h.1, mr4 h.1, mr15 h.1, h.t1, h.b8, h.q8]
      repeat' first
        | (refine gp_at [] (by rfl) (by decide) ?_; simp (disch := omega) only [e_wi, e_isr, e_isc, e_stp, e_rt, e_load, e_bin, e_binL, e_ld, e_s1, e_s2, e_n0, e_ok, e_cmp, e_ex, e_gif, e_id32, e_id64, e_v0, e_v1, e_v2, e_v3, e_dt, e_c1, e_sw, e_inv, e_cat, e_rcv, Fin.val_zero, Fin.val_one, Int.toNat_add, Int.toNat_mul, Int.toNat_natCast, Int.reduceToNat, Int.reduceMul, Int.reduceAdd, Int.reduceNeg, Nat.reduceAdd, Nat.reduceSub, Nat.reduceEqDiff, Nat.reduceLT, Nat.reduceLeDiff, List.getElem?_cons_zero, List.getElem?_cons_succ, List.length_cons, List.length_nil, List.take_succ_cons, List.take_zero, List.drop_succ_cons, List.drop_zero, List.reverse_cons, List.reverse_nil, List.nil_append, List.cons_append, List.append_nil, List.map_cons, List.map_nil, List.sum_cons, List.sum_nil, Bool.false_eq_true, if_false, if_true, Bool.and_true, Bool.true_and, Bool.and_self, Bool.or_true, Bool.true_or, Bool.or_false, Bool.false_or, Bool.or_self, decide_eq_true_eq, decide_true, decide_false, beq_self_eq_true, Option.map_some, reduceCtorEq, true_or, or_true, or_false, false_or, or_self, true_and, and_true, and_self, false_and, and_false, Option.some.injEq, exists_eq_left', ne_eq, not_true_eq_false, not_false_eq_true, eq_self, e_pk, e_pr, e_pn, e_ps, e_pd1, e_pd2, e_us, e_un, e_ifp, e_ifn, e_sk, e_sr, e_sn, e_ss, e_sd1, e_sd2, e_sp, mk161 h.1, mk162 h.1, mk163 h.1, mk164 h.1, mk168 h.1, mr0 h.1, mr3 h.1, mr4 h.1, mr15 h.1, h.t1, h.b8, h.q8])
        | (refine And.intro (fun hc => ?_) (fun hc => ?_) <;> try (exfalso; omega))
      all_goals first | exact hQ | (exfalso; omega) | skip
  · rw [if_neg (fun q => h1 q.1)] at hQ
    refine gp_of (by rfl) ?_
    simp (disch := omega) only [e_wi, e_isr, e_isc, e_stp, e_rt, e_load, e_bin, e_binL, e_ld, e_s1, e_s2, e_n0, e_ok, e_cmp, e_ex, e_gif, e_id32, e_id64, e_v0, e_v1, e_v2, e_v3, e_dt, e_c1, e_sw, e_inv, e_cat, e_rcv, Fin.val_zero, Fin.val_one, Int.toNat_add, Int.toNat_mul, Int.toNat_natCast, Int.reduceToNat, Int.reduceMul, Int.reduceAdd, Int.reduceNeg, Nat.reduceAdd, Nat.reduceSub, Nat.reduceEqDiff, Nat.reduceLT, Nat.reduceLeDiff, List.getElem?_cons_zero, List.getElem?_cons_succ, List.length_cons, List.length_nil, List.take_succ_cons, List.take_zero, List.drop_succ_cons, List.drop_zero, List.reverse_cons, List.reverse_nil, List.nil_append, List.cons_append, List.append_nil, List.map_cons, List.map_nil, List.sum_cons, List.sum_nil, Bool.false_eq_true, if_false, if_true, Bool.and_true, Bool.true_and, Bool.and_self, Bool.or_true, Bool.true_or, Bool.or_false, Bool.false_or, Bool.or_self, decide_eq_true_eq, decide_true, decide_false, beq_self_eq_true, Option.map_some, reduceCtorEq, true_or, or_true, or_false, false_or, or_self, true_and, and_true, and_self, false_and, and_false, Option.some.injEq, exists_eq_left', ne_eq, not_true_eq_false, not_false_eq_true, eq_self, e_pk, e_pr, e_pn, e_ps, e_pd1, e_pd2, e_us, e_un, e_ifp, e_ifn, e_sk, e_sr, e_sn, e_ss, e_sd1, e_sd2, e_sp, mk161 h.1, mk162 h.1, mk163 h.1, mk164 h.1, mk168 h.1, mr0 h.1, mr3 h.1, mr4 h.1, mr15 h.1, h.t1, h.b8, h.q8]
    repeat' first
      | (refine gp_at [] (by rfl) (by decide) ?_; simp (disch := omega) only [e_wi, e_isr, e_isc, e_stp, e_rt, e_load, e_bin, e_binL, e_ld, e_s1, e_s2, e_n0, e_ok, e_cmp, e_ex, e_gif, e_id32, e_id64, e_v0, e_v1, e_v2, e_v3, e_dt, e_c1, e_sw, e_inv, e_cat, e_rcv, Fin.val_zero, Fin.val_one, Int.toNat_add, Int.toNat_mul, Int.toNat_natCast, Int.reduceToNat, Int.reduceMul, Int.reduceAdd, Int.reduceNeg, Nat.reduceAdd, Nat.reduceSub, Nat.reduceEqDiff, Nat.reduceLT, Nat.reduceLeDiff, List.getElem?_cons_zero, List.getElem?_cons_succ, List.length_cons, List.length_nil, List.take_succ_cons, List.take_zero, List.drop_succ_cons, List.drop_zero, List.reverse_cons, List.reverse_nil, List.nil_append, List.cons_append, List.append_nil, List.map_cons, List.map_nil, List.sum_cons, List.sum_nil, Bool.false_eq_true, if_false, if_true, Bool.and_true, Bool.true_and, Bool.and_self, Bool.or_true, Bool.true_or, Bool.or_false, Bool.false_or, Bool.or_self, decide_eq_true_eq, decide_true, decide_false, beq_self_eq_true, Option.map_some, reduceCtorEq, true_or, or_true, or_false, false_or, or_self, true_and, and_true, and_self, false_and, and_false, Option.some.injEq, exists_eq_left', ne_eq, not_true_eq_false, not_false_eq_true, eq_self, e_pk, e_pr, e_pn, e_ps, e_pd1, e_pd2, e_us, e_un, e_ifp, e_ifn, e_sk, e_sr, e_sn, e_ss, e_sd1, e_sd2, e_sp, mk161 h.1, mk162 h.1, mk163 h.1, mk164 h.1, mk168 h.1, mr0 h.1, mr3 h.1, mr4 h.1, mr15 h.1, h.t1, h.b8, h.q8])
      | (refine And.intro (fun hc => ?_) (fun hc => ?_) <;> try (exfalso; omega))
    all_goals first | exact hQ | (exfalso; omega) | skip
set_option maxRecDepth 8000 in
set_option maxHeartbeats 1000000 in
theorem w_isDigit {k : Nat} {B : Nat → Int} {t q : Nat} {x : Nat} {σ : eH} {Q : Option eV → eH → Prop} (hk : 1 ≤ k) (h : Mr σ B t q) (hx : x ≤ 1000) (hQ : Q (some (.inl (if x < t ∧ k_dg B x = true then 1 else 0))) σ) : e_Wp k 170 [.inr (.inr 163), .inl (x : Int)] σ Q := by
  refine wp_in (nL := 2) (cd := e_k170) (by omega) (by rfl) (Nat.le_of_ble_eq_true rfl) ?_
  dsimp only [e_ent, Nat.reduceSub, List.replicate]
  have hqt := h.qt
  have hBx := h.B x
  by_cases h1 : x < t
  · by_cases h2 : k_dg B x = true
    · rw [if_pos ⟨h1, h2⟩] at hQ
      have h3 : 48 ≤ B x ∧ B x ≤ 57 := of_decide_eq_true h2
      refine gp_of (by rfl) ?_
      simp (disch := omega) only [e_wi, e_isr, e_isc, e_stp, e_rt, e_load, e_bin, e_binL, e_ld, e_s1, e_s2, e_n0, e_ok, e_cmp, e_ex, e_gif, e_id32, e_id64, e_v0, e_v1, e_v2, e_v3, e_dt, e_c1, e_sw, e_inv, e_cat, e_rcv, Fin.val_zero, Fin.val_one, Int.toNat_add, Int.toNat_mul, Int.toNat_natCast, Int.reduceToNat, Int.reduceMul, Int.reduceAdd, Int.reduceNeg, Nat.reduceAdd, Nat.reduceSub, Nat.reduceEqDiff, Nat.reduceLT, Nat.reduceLeDiff, List.getElem?_cons_zero, List.getElem?_cons_succ, List.length_cons, List.length_nil, List.take_succ_cons, List.take_zero, List.drop_succ_cons, List.drop_zero, List.reverse_cons, List.reverse_nil, List.nil_append, List.cons_append, List.append_nil, List.map_cons, List.map_nil, List.sum_cons, List.sum_nil, Bool.false_eq_true, if_false, if_true, Bool.and_true, Bool.true_and, Bool.and_self, Bool.or_true, Bool.true_or, Bool.or_false, Bool.false_or, Bool.or_self, decide_eq_true_eq, decide_true, decide_false, beq_self_eq_true, Option.map_some, reduceCtorEq, true_or, or_true, or_false, false_or, or_self, true_and, and_true, and_self, false_and, and_false, Option.some.injEq, exists_eq_left', ne_eq, not_true_eq_false, not_false_eq_true, eq_self, e_pk, e_pr, e_pn, e_ps, e_pd1, e_pd2, e_us, e_un, e_ifp, e_ifn, e_sk, e_sr, e_sn, e_ss, e_sd1, e_sd2, e_sp, mk161 h.1, mk162 h.1, mk163 h.1, mk164 h.1, mk168 h.1, mr0 h.1, mr3 h.1, mr4 h.1, mr15 h.1, h.t1, h.b8, h.q8]
      repeat' first
        | (refine gp_at [] (by rfl) (by decide) ?_; simp (disch := omega) only [e_wi, e_isr, e_isc, e_stp, e_rt, e_load, e_bin, e_binL, e_ld, e_s1, e_s2, e_n0, e_ok, e_cmp, e_ex, e_gif, e_id32, e_id64, e_v0, e_v1, e_v2, e_v3, e_dt, e_c1, e_sw, e_inv, e_cat, e_rcv, Fin.val_zero, Fin.val_one, Int.toNat_add, Int.toNat_mul, Int.toNat_natCast, Int.reduceToNat, Int.reduceMul, Int.reduceAdd, Int.reduceNeg, Nat.reduceAdd, Nat.reduceSub, Nat.reduceEqDiff, Nat.reduceLT, Nat.reduceLeDiff, List.getElem?_cons_zero, List.getElem?_cons_succ, List.length_cons, List.length_nil, List.take_succ_cons, List.take_zero, List.drop_succ_cons, List.drop_zero, List.reverse_cons, List.reverse_nil, List.nil_append, List.cons_append, List.append_nil, List.map_cons, List.map_nil, List.sum_cons, List.sum_nil, Bool.false_eq_true, if_false, if_true, Bool.and_true, Bool.true_and, Bool.and_self, Bool.or_true, Bool.true_or, Bool.or_false, Bool.false_or, Bool.or_self, decide_eq_true_eq, decide_true, decide_false, beq_self_eq_true, Option.map_some, reduceCtorEq, true_or, or_true, or_false, false_or, or_self, true_and, and_true, and_self, false_and, and_false, Option.some.injEq, exists_eq_left', ne_eq, not_true_eq_false, not_false_eq_true, eq_self, e_pk, e_pr, e_pn, e_ps, e_pd1, e_pd2, e_us, e_un, e_ifp, e_ifn, e_sk, e_sr, e_sn, e_ss, e_sd1, e_sd2, e_sp, mk161 h.1, mk162 h.1, mk163 h.1, mk164 h.1, mk168 h.1, mr0 h.1, mr3 h.1, mr4 h.1, mr15 h.1, h.t1, h.b8, h.q8])
        | (refine And.intro (fun hc => ?_) (fun hc => ?_) <;> try (exfalso; omega))
      all_goals first | exact hQ | (exfalso; omega) | skip
    · rw [if_neg (fun q => h2 q.2)] at hQ
      have h3 : ¬ (48 ≤ B x ∧ B x ≤ 57) := fun q => h2 (decide_eq_true q)
      refine gp_of (by rfl) ?_
      simp (disch := omega) only [e_wi, e_isr, e_isc, e_stp, e_rt, e_load, e_bin, e_binL, e_ld, e_s1, e_s2, e_n0, e_ok, e_cmp, e_ex, e_gif, e_id32, e_id64, e_v0, e_v1, e_v2, e_v3, e_dt, e_c1, e_sw, e_inv, e_cat, e_rcv, Fin.val_zero, Fin.val_one, Int.toNat_add, Int.toNat_mul, Int.toNat_natCast, Int.reduceToNat, Int.reduceMul, Int.reduceAdd, Int.reduceNeg, Nat.reduceAdd, Nat.reduceSub, Nat.reduceEqDiff, Nat.reduceLT, Nat.reduceLeDiff, List.getElem?_cons_zero, List.getElem?_cons_succ, List.length_cons, List.length_nil, List.take_succ_cons, List.take_zero, List.drop_succ_cons, List.drop_zero, List.reverse_cons, List.reverse_nil, List.nil_append, List.cons_append, List.append_nil, List.map_cons, List.map_nil, List.sum_cons, List.sum_nil, Bool.false_eq_true, if_false, if_true, Bool.and_true, Bool.true_and, Bool.and_self, Bool.or_true, Bool.true_or, Bool.or_false, Bool.false_or, Bool.or_self, decide_eq_true_eq, decide_true, decide_false, beq_self_eq_true, Option.map_some, reduceCtorEq, true_or, or_true, or_false, false_or, or_self, true_and, and_true, and_self, false_and, and_false, Option.some.injEq, exists_eq_left', ne_eq, not_true_eq_false, not_false_eq_true, eq_self, e_pk, e_pr, e_pn, e_ps, e_pd1, e_pd2, e_us, e_un, e_ifp, e_ifn, e_sk, e_sr, e_sn, e_ss, e_sd1, e_sd2, e_sp, mk161 h.1, mk162 h.1, mk163 h.1, mk164 h.1, mk168 h.1, mr0 h.1, mr3 h.1, mr4 h.1, mr15 h.1, h.t1, h.b8, h.q8]
      repeat' first
        | (refine gp_at [] (by rfl) (by decide) ?_; simp (disch := omega) only [e_wi, e_isr, e_isc, e_stp, e_rt, e_load, e_bin, e_binL, e_ld, e_s1, e_s2, e_n0, e_ok, e_cmp, e_ex, e_gif, e_id32, e_id64, e_v0, e_v1, e_v2, e_v3, e_dt, e_c1, e_sw, e_inv, e_cat, e_rcv, Fin.val_zero, Fin.val_one, Int.toNat_add, Int.toNat_mul, Int.toNat_natCast, Int.reduceToNat, Int.reduceMul, Int.reduceAdd, Int.reduceNeg, Nat.reduceAdd, Nat.reduceSub, Nat.reduceEqDiff, Nat.reduceLT, Nat.reduceLeDiff, List.getElem?_cons_zero, List.getElem?_cons_succ, List.length_cons, List.length_nil, List.take_succ_cons, List.take_zero, List.drop_succ_cons, List.drop_zero, List.reverse_cons, List.reverse_nil, List.nil_append, List.cons_append, List.append_nil, List.map_cons, List.map_nil, List.sum_cons, List.sum_nil, Bool.false_eq_true, if_false, if_true, Bool.and_true, Bool.true_and, Bool.and_self, Bool.or_true, Bool.true_or, Bool.or_false, Bool.false_or, Bool.or_self, decide_eq_true_eq, decide_true, decide_false, beq_self_eq_true, Option.map_some, reduceCtorEq, true_or, or_true, or_false, false_or, or_self, true_and, and_true, and_self, false_and, and_false, Option.some.injEq, exists_eq_left', ne_eq, not_true_eq_false, not_false_eq_true, eq_self, e_pk, e_pr, e_pn, e_ps, e_pd1, e_pd2, e_us, e_un, e_ifp, e_ifn, e_sk, e_sr, e_sn, e_ss, e_sd1, e_sd2, e_sp, mk161 h.1, mk162 h.1, mk163 h.1, mk164 h.1, mk168 h.1, mr0 h.1, mr3 h.1, mr4 h.1, mr15 h.1, h.t1, h.b8, h.q8])
        | (refine And.intro (fun hc => ?_) (fun hc => ?_) <;> try (exfalso; omega))
      all_goals first | exact hQ | (exfalso; omega) | skip
  · rw [if_neg (fun q => h1 q.1)] at hQ
    refine gp_of (by rfl) ?_
    simp (disch := omega) only [e_wi, e_isr, e_isc, e_stp, e_rt, e_load, e_bin, e_binL, e_ld, e_s1, e_s2, e_n0, e_ok, e_cmp, e_ex, e_gif, e_id32, e_id64, e_v0, e_v1, e_v2, e_v3, e_dt, e_c1, e_sw, e_inv, e_cat, e_rcv, Fin.val_zero, Fin.val_one, Int.toNat_add, Int.toNat_mul, Int.toNat_natCast, Int.reduceToNat, Int.reduceMul, Int.reduceAdd, Int.reduceNeg, Nat.reduceAdd, Nat.reduceSub, Nat.reduceEqDiff, Nat.reduceLT, Nat.reduceLeDiff, List.getElem?_cons_zero, List.getElem?_cons_succ, List.length_cons, List.length_nil, List.take_succ_cons, List.take_zero, List.drop_succ_cons, List.drop_zero, List.reverse_cons, List.reverse_nil, List.nil_append, List.cons_append, List.append_nil, List.map_cons, List.map_nil, List.sum_cons, List.sum_nil, Bool.false_eq_true, if_false, if_true, Bool.and_true, Bool.true_and, Bool.and_self, Bool.or_true, Bool.true_or, Bool.or_false, Bool.false_or, Bool.or_self, decide_eq_true_eq, decide_true, decide_false, beq_self_eq_true, Option.map_some, reduceCtorEq, true_or, or_true, or_false, false_or, or_self, true_and, and_true, and_self, false_and, and_false, Option.some.injEq, exists_eq_left', ne_eq, not_true_eq_false, not_false_eq_true, eq_self, e_pk, e_pr, e_pn, e_ps, e_pd1, e_pd2, e_us, e_un, e_ifp, e_ifn, e_sk, e_sr, e_sn, e_ss, e_sd1, e_sd2, e_sp, mk161 h.1, mk162 h.1, mk163 h.1, mk164 h.1, mk168 h.1, mr0 h.1, mr3 h.1, mr4 h.1, mr15 h.1, h.t1, h.b8, h.q8]
    repeat' first
      | (refine gp_at [] (by rfl) (by decide) ?_; simp (disch := omega) only [e_wi, e_isr, e_isc, e_stp, e_rt, e_load, e_bin, e_binL, e_ld, e_s1, e_s2, e_n0, e_ok, e_cmp, e_ex, e_gif, e_id32, e_id64, e_v0, e_v1, e_v2, e_v3, e_dt, e_c1, e_sw, e_inv, e_cat, e_rcv, Fin.val_zero, Fin.val_one, Int.toNat_add, Int.toNat_mul, Int.toNat_natCast, Int.reduceToNat, Int.reduceMul, Int.reduceAdd, Int.reduceNeg, Nat.reduceAdd, Nat.reduceSub, Nat.reduceEqDiff, Nat.reduceLT, Nat.reduceLeDiff, List.getElem?_cons_zero, List.getElem?_cons_succ, List.length_cons, List.length_nil, List.take_succ_cons, List.take_zero, List.drop_succ_cons, List.drop_zero, List.reverse_cons, List.reverse_nil, List.nil_append, List.cons_append, List.append_nil, List.map_cons, List.map_nil, List.sum_cons, List.sum_nil, Bool.false_eq_true, if_false, if_true, Bool.and_true, Bool.true_and, Bool.and_self, Bool.or_true, Bool.true_or, Bool.or_false, Bool.false_or, Bool.or_self, decide_eq_true_eq, decide_true, decide_false, beq_self_eq_true, Option.map_some, reduceCtorEq, true_or, or_true, or_false, false_or, or_self, true_and, and_true, and_self, false_and, and_false, Option.some.injEq, exists_eq_left', ne_eq, not_true_eq_false, not_false_eq_true, eq_self, e_pk, e_pr, e_pn, e_ps, e_pd1, e_pd2, e_us, e_un, e_ifp, e_ifn, e_sk, e_sr, e_sn, e_ss, e_sd1, e_sd2, e_sp, mk161 h.1, mk162 h.1, mk163 h.1, mk164 h.1, mk168 h.1, mr0 h.1, mr3 h.1, mr4 h.1, mr15 h.1, h.t1, h.b8, h.q8])
      | (refine And.intro (fun hc => ?_) (fun hc => ?_) <;> try (exfalso; omega))
    all_goals first | exact hQ | (exfalso; omega) | skip
theorem k_vv_8 {B : Nat → Int} {p : Nat} : ∀ n, (∀ i, i < n → 97 ≤ B (p + i) ∧ B (p + i) ≤ 122) → 0 ≤ k_vv B p n ∧ k_vv B p n < 256 ^ n
  | 0, _ => by
    show (0 : Int) ≤ 0 ∧ (0 : Int) < 1
    omega
  | n + 1, h => by
    have ih := k_vv_8 n (fun i hi => h i (by omega))
    have h1 := h n (by omega)
    show 0 ≤ 256 * k_vv B p n + B (p + n) ∧ 256 * k_vv B p n + B (p + n) < 256 ^ (n + 1)
    rw [Int.pow_succ]
    omega
theorem k_vv_7 {B : Nat → Int} {p y : Nat} (hy : y < 8) (h : ∀ i, i < y → 97 ≤ B (p + i) ∧ B (p + i) ≤ 122) : k_vv B p y < 36028797018963968 := by
  have e0 : k_vv B p 0 = 0 := rfl
  have es : ∀ n, k_vv B p (n + 1) = 256 * k_vv B p n + B (p + n) := fun n => rfl
  have e1 := es 0
  have e2 := es 1
  have e3 := es 2
  have e4 := es 3
  have e5 := es 4
  have e6 := es 5
  have e7 := es 6
  obtain rfl | rfl | rfl | rfl | rfl | rfl | rfl | rfl : y = 0 ∨ y = 1 ∨ y = 2 ∨ y = 3 ∨ y = 4 ∨ y = 5 ∨ y = 6 ∨ y = 7 := by omega
  · rw [e0]; omega
  · have h0 := h 0 (by omega)
    rw [e1, e0]; omega
  · have h0 := h 0 (by omega)
    have h1 := h 1 (by omega)
    rw [e2, e1, e0]; omega
  · have h0 := h 0 (by omega)
    have h1 := h 1 (by omega)
    have h2 := h 2 (by omega)
    rw [e3, e2, e1, e0]; omega
  · have h0 := h 0 (by omega)
    have h1 := h 1 (by omega)
    have h2 := h 2 (by omega)
    have h3 := h 3 (by omega)
    rw [e4, e3, e2, e1, e0]; omega
  · have h0 := h 0 (by omega)
    have h1 := h 1 (by omega)
    have h2 := h 2 (by omega)
    have h3 := h 3 (by omega)
    have h4 := h 4 (by omega)
    rw [e5, e4, e3, e2, e1, e0]; omega
  · have h0 := h 0 (by omega)
    have h1 := h 1 (by omega)
    have h2 := h 2 (by omega)
    have h3 := h 3 (by omega)
    have h4 := h 4 (by omega)
    have h5 := h 5 (by omega)
    rw [e6, e5, e4, e3, e2, e1, e0]; omega
  · have h0 := h 0 (by omega)
    have h1 := h 1 (by omega)
    have h2 := h 2 (by omega)
    have h3 := h 3 (by omega)
    have h4 := h 4 (by omega)
    have h5 := h 5 (by omega)
    have h6 := h 6 (by omega)
    rw [e7, e6, e5, e4, e3, e2, e1, e0]; omega
set_option maxRecDepth 8000 in
set_option maxHeartbeats 4000000 in
theorem w_isWord_l {k : Nat} {σ : eH} {B : Nat → Int} {t p : Nat} {w : Int} {Q : Option eV → eH → Prop} (hk : 1 ≤ k) (h : Mr σ B t p) (hw : 0 < w ∧ w < 72057594037927936) (hQ : Q (some (.inl (if k_wv B t p = w then 1 else 0))) σ) : ∀ (j y : Nat) (z v : Int), z = (y : Int) → y + j = k_ln B t p → v = k_vv B p (if y < 8 then y else 8) → e_Gp k e_k162 10 [some (.inr (.inr 163)), some (.inr (.inl w)), none, some (.inr (.inl v)), none, some (.inl z)] [] σ Q
  | 0, y, z, v, hz, hj, hv => by
    subst hz
    have hqt := h.qt
    have hgl := k_go_le (k_lt B) t p
    have hgt := k_go_lt (P := k_lt B) (t := t) (p := p) hqt.1
    have hy : p + y = k_go (k_lt B) t p := by unfold k_ln at hj; omega
    have hnl : ¬ (p + y < t ∧ k_lt B (p + y) = true) := fun q => by
      have := k_go_no (P := k_lt B) (t := t) (p := p) (by omega)
      rw [← hy, q.2] at this
      cases this
    have hall : ∀ i, i < y → 97 ≤ B (p + i) ∧ B (p + i) ≤ 122 := fun i hi => of_decide_eq_true (k_go_in (P := k_lt B) (t := t) (p := p) (by omega) (by omega))
    unfold k_wv at hQ
    rw [← hj, Nat.add_zero] at hQ
    have e2 : (p : Int) + (y : Int) = ((p + y : Nat) : Int) := by omega
    by_cases h8 : y < 8
    · rw [if_pos h8] at hQ hv
      have hvb := k_vv_8 y hall
      rw [← hv] at hQ hvb
      have hv9 : v < 72057594037927936 := by
        obtain rfl | rfl | rfl | rfl | rfl | rfl | rfl | rfl : y = 0 ∨ y = 1 ∨ y = 2 ∨ y = 3 ∨ y = 4 ∨ y = 5 ∨ y = 6 ∨ y = 7 := by omega
        all_goals (have := hvb.2; simp only [Int.reducePow] at this; omega)
      have hv0 : y = 0 → v = 0 := fun q => by rw [hv, q]; rfl
      clear hv
      refine gp_of (by rfl) ?_
      simp (disch := omega) only [e_wi, e_isr, e_isc, e_stp, e_rt, e_load, e_bin, e_binL, e_ld, e_s1, e_s2, e_n0, e_ok, e_cmp, e_ex, e_gif, e_id32, e_id64, e_v0, e_v1, e_v2, e_v3, e_dt, e_c1, e_sw, e_inv, e_cat, e_rcv, Fin.val_zero, Fin.val_one, Int.toNat_add, Int.toNat_mul, Int.toNat_natCast, Int.reduceToNat, Int.reduceMul, Int.reduceAdd, Int.reduceNeg, Nat.reduceAdd, Nat.reduceSub, Nat.reduceEqDiff, Nat.reduceLT, Nat.reduceLeDiff, List.getElem?_cons_zero, List.getElem?_cons_succ, List.length_cons, List.length_nil, List.take_succ_cons, List.take_zero, List.drop_succ_cons, List.drop_zero, List.reverse_cons, List.reverse_nil, List.nil_append, List.cons_append, List.append_nil, List.map_cons, List.map_nil, List.sum_cons, List.sum_nil, Bool.false_eq_true, if_false, if_true, Bool.and_true, Bool.true_and, Bool.and_self, Bool.or_true, Bool.true_or, Bool.or_false, Bool.false_or, Bool.or_self, decide_eq_true_eq, decide_true, decide_false, beq_self_eq_true, Option.map_some, reduceCtorEq, true_or, or_true, or_false, false_or, or_self, true_and, and_true, and_self, false_and, and_false, Option.some.injEq, exists_eq_left', ne_eq, not_true_eq_false, not_false_eq_true, eq_self, e_pk, e_pr, e_pn, e_ps, e_pd1, e_pd2, e_us, e_un, e_ifp, e_ifn, e_sk, e_sr, e_sn, e_ss, e_sd1, e_sd2, e_sp, mk161 h.1, mk162 h.1, mk163 h.1, mk164 h.1, mk168 h.1, mr0 h.1, mr3 h.1, mr4 h.1, mr15 h.1, h.t1, h.b8, h.q8, e2]
      repeat' first
        | (refine gp_at [] (by rfl) (by decide) ?_; simp (disch := omega) only [e_wi, e_isr, e_isc, e_stp, e_rt, e_load, e_bin, e_binL, e_ld, e_s1, e_s2, e_n0, e_ok, e_cmp, e_ex, e_gif, e_id32, e_id64, e_v0, e_v1, e_v2, e_v3, e_dt, e_c1, e_sw, e_inv, e_cat, e_rcv, Fin.val_zero, Fin.val_one, Int.toNat_add, Int.toNat_mul, Int.toNat_natCast, Int.reduceToNat, Int.reduceMul, Int.reduceAdd, Int.reduceNeg, Nat.reduceAdd, Nat.reduceSub, Nat.reduceEqDiff, Nat.reduceLT, Nat.reduceLeDiff, List.getElem?_cons_zero, List.getElem?_cons_succ, List.length_cons, List.length_nil, List.take_succ_cons, List.take_zero, List.drop_succ_cons, List.drop_zero, List.reverse_cons, List.reverse_nil, List.nil_append, List.cons_append, List.append_nil, List.map_cons, List.map_nil, List.sum_cons, List.sum_nil, Bool.false_eq_true, if_false, if_true, Bool.and_true, Bool.true_and, Bool.and_self, Bool.or_true, Bool.true_or, Bool.or_false, Bool.false_or, Bool.or_self, decide_eq_true_eq, decide_true, decide_false, beq_self_eq_true, Option.map_some, reduceCtorEq, true_or, or_true, or_false, false_or, or_self, true_and, and_true, and_self, false_and, and_false, Option.some.injEq, exists_eq_left', ne_eq, not_true_eq_false, not_false_eq_true, eq_self, e_pk, e_pr, e_pn, e_ps, e_pd1, e_pd2, e_us, e_un, e_ifp, e_ifn, e_sk, e_sr, e_sn, e_ss, e_sd1, e_sd2, e_sp, mk161 h.1, mk162 h.1, mk163 h.1, mk164 h.1, mk168 h.1, mr0 h.1, mr3 h.1, mr4 h.1, mr15 h.1, h.t1, h.b8, h.q8, e2])
        | (refine And.intro (fun hc => ?_) (fun hc => ?_) <;> try (exfalso; omega))
        | ((refine w_isLetter (by omega) h (by omega) ?_; rw [if_neg hnl]) <;> try dsimp only [Option.toList, List.cons_append, List.nil_append, Nat.reduceAdd])
      all_goals first
        | (exfalso; omega)
        | (rw [if_pos (by omega)] at hQ; exact hQ)
        | (rw [if_neg (by omega)] at hQ; exact hQ)
        | (split at hQ <;> first | exact hQ | (exfalso; omega))
    · rw [if_neg h8, if_neg (by omega)] at hQ
      clear hv
      refine gp_of (by rfl) ?_
      simp (disch := omega) only [e_wi, e_isr, e_isc, e_stp, e_rt, e_load, e_bin, e_binL, e_ld, e_s1, e_s2, e_n0, e_ok, e_cmp, e_ex, e_gif, e_id32, e_id64, e_v0, e_v1, e_v2, e_v3, e_dt, e_c1, e_sw, e_inv, e_cat, e_rcv, Fin.val_zero, Fin.val_one, Int.toNat_add, Int.toNat_mul, Int.toNat_natCast, Int.reduceToNat, Int.reduceMul, Int.reduceAdd, Int.reduceNeg, Nat.reduceAdd, Nat.reduceSub, Nat.reduceEqDiff, Nat.reduceLT, Nat.reduceLeDiff, List.getElem?_cons_zero, List.getElem?_cons_succ, List.length_cons, List.length_nil, List.take_succ_cons, List.take_zero, List.drop_succ_cons, List.drop_zero, List.reverse_cons, List.reverse_nil, List.nil_append, List.cons_append, List.append_nil, List.map_cons, List.map_nil, List.sum_cons, List.sum_nil, Bool.false_eq_true, if_false, if_true, Bool.and_true, Bool.true_and, Bool.and_self, Bool.or_true, Bool.true_or, Bool.or_false, Bool.false_or, Bool.or_self, decide_eq_true_eq, decide_true, decide_false, beq_self_eq_true, Option.map_some, reduceCtorEq, true_or, or_true, or_false, false_or, or_self, true_and, and_true, and_self, false_and, and_false, Option.some.injEq, exists_eq_left', ne_eq, not_true_eq_false, not_false_eq_true, eq_self, e_pk, e_pr, e_pn, e_ps, e_pd1, e_pd2, e_us, e_un, e_ifp, e_ifn, e_sk, e_sr, e_sn, e_ss, e_sd1, e_sd2, e_sp, mk161 h.1, mk162 h.1, mk163 h.1, mk164 h.1, mk168 h.1, mr0 h.1, mr3 h.1, mr4 h.1, mr15 h.1, h.t1, h.b8, h.q8, e2]
      repeat' first
        | (refine gp_at [] (by rfl) (by decide) ?_; simp (disch := omega) only [e_wi, e_isr, e_isc, e_stp, e_rt, e_load, e_bin, e_binL, e_ld, e_s1, e_s2, e_n0, e_ok, e_cmp, e_ex, e_gif, e_id32, e_id64, e_v0, e_v1, e_v2, e_v3, e_dt, e_c1, e_sw, e_inv, e_cat, e_rcv, Fin.val_zero, Fin.val_one, Int.toNat_add, Int.toNat_mul, Int.toNat_natCast, Int.reduceToNat, Int.reduceMul, Int.reduceAdd, Int.reduceNeg, Nat.reduceAdd, Nat.reduceSub, Nat.reduceEqDiff, Nat.reduceLT, Nat.reduceLeDiff, List.getElem?_cons_zero, List.getElem?_cons_succ, List.length_cons, List.length_nil, List.take_succ_cons, List.take_zero, List.drop_succ_cons, List.drop_zero, List.reverse_cons, List.reverse_nil, List.nil_append, List.cons_append, List.append_nil, List.map_cons, List.map_nil, List.sum_cons, List.sum_nil, Bool.false_eq_true, if_false, if_true, Bool.and_true, Bool.true_and, Bool.and_self, Bool.or_true, Bool.true_or, Bool.or_false, Bool.false_or, Bool.or_self, decide_eq_true_eq, decide_true, decide_false, beq_self_eq_true, Option.map_some, reduceCtorEq, true_or, or_true, or_false, false_or, or_self, true_and, and_true, and_self, false_and, and_false, Option.some.injEq, exists_eq_left', ne_eq, not_true_eq_false, not_false_eq_true, eq_self, e_pk, e_pr, e_pn, e_ps, e_pd1, e_pd2, e_us, e_un, e_ifp, e_ifn, e_sk, e_sr, e_sn, e_ss, e_sd1, e_sd2, e_sp, mk161 h.1, mk162 h.1, mk163 h.1, mk164 h.1, mk168 h.1, mr0 h.1, mr3 h.1, mr4 h.1, mr15 h.1, h.t1, h.b8, h.q8, e2])
        | (refine And.intro (fun hc => ?_) (fun hc => ?_) <;> try (exfalso; omega))
        | ((refine w_isLetter (by omega) h (by omega) ?_; rw [if_neg hnl]) <;> try dsimp only [Option.toList, List.cons_append, List.nil_append, Nat.reduceAdd])
      all_goals first | exact hQ | (exfalso; omega)
  | j + 1, y, z, v, hz, hj, hv => by
    subst hz
    have hqt := h.qt
    have hgl := k_go_le (k_lt B) t p
    have hgt := k_go_lt (P := k_lt B) (t := t) (p := p) hqt.1
    have hy : p + y < k_go (k_lt B) t p := by unfold k_ln at hj; omega
    have hlt : p + y < t ∧ k_lt B (p + y) = true := ⟨by omega, k_go_in (P := k_lt B) (t := t) (p := p) (by omega) hy⟩
    have hall : ∀ i, i < y + 1 → 97 ≤ B (p + i) ∧ B (p + i) ≤ 122 := fun i hi => of_decide_eq_true (k_go_in (P := k_lt B) (t := t) (p := p) (by omega) (by omega))
    have hby := hall y (by omega)
    have e2 : (p : Int) + (y : Int) = ((p + y : Nat) : Int) := by omega
    have ih := fun z v h1 h2 => w_isWord_l hk h hw hQ j (y + 1) z v h1 (by omega) h2
    by_cases h8 : y < 8
    · rw [if_pos h8] at hv
      have hvb := k_vv_8 y (fun i hi => hall i (by omega))
      rw [← hv] at hvb
      have hv9 : v < 36028797018963968 := by
        rw [hv]
        exact k_vv_7 h8 (fun i hi => hall i (by omega))
      have ih := ih ((y : Int) + 1) (256 * v + B (p + y)) (by omega) (by
        rw [hv]
        by_cases h7 : y < 7
        · rw [if_pos (by omega)]
          rfl
        · obtain rfl : y = 7 := by omega
          rfl)
      have hor := b_or8 (x := v) (y := B (p + y)) (by omega) (by omega) (by omega) (by omega)
      clear hv
      refine gp_of (by rfl) ?_
      simp (disch := omega) only [e_wi, e_isr, e_isc, e_stp, e_rt, e_load, e_bin, e_binL, e_ld, e_s1, e_s2, e_n0, e_ok, e_cmp, e_ex, e_gif, e_id32, e_id64, e_v0, e_v1, e_v2, e_v3, e_dt, e_c1, e_sw, e_inv, e_cat, e_rcv, Fin.val_zero, Fin.val_one, Int.toNat_add, Int.toNat_mul, Int.toNat_natCast, Int.reduceToNat, Int.reduceMul, Int.reduceAdd, Int.reduceNeg, Nat.reduceAdd, Nat.reduceSub, Nat.reduceEqDiff, Nat.reduceLT, Nat.reduceLeDiff, List.getElem?_cons_zero, List.getElem?_cons_succ, List.length_cons, List.length_nil, List.take_succ_cons, List.take_zero, List.drop_succ_cons, List.drop_zero, List.reverse_cons, List.reverse_nil, List.nil_append, List.cons_append, List.append_nil, List.map_cons, List.map_nil, List.sum_cons, List.sum_nil, Bool.false_eq_true, if_false, if_true, Bool.and_true, Bool.true_and, Bool.and_self, Bool.or_true, Bool.true_or, Bool.or_false, Bool.false_or, Bool.or_self, decide_eq_true_eq, decide_true, decide_false, beq_self_eq_true, Option.map_some, reduceCtorEq, true_or, or_true, or_false, false_or, or_self, true_and, and_true, and_self, false_and, and_false, Option.some.injEq, exists_eq_left', ne_eq, not_true_eq_false, not_false_eq_true, eq_self, e_pk, e_pr, e_pn, e_ps, e_pd1, e_pd2, e_us, e_un, e_ifp, e_ifn, e_sk, e_sr, e_sn, e_ss, e_sd1, e_sd2, e_sp, mk161 h.1, mk162 h.1, mk163 h.1, mk164 h.1, mk168 h.1, mr0 h.1, mr3 h.1, mr4 h.1, mr15 h.1, h.t1, h.b8, h.q8, e2, hor]
      repeat' first
        | (refine gp_at [10] (by rfl) (by decide) ?_; simp (disch := omega) only [e_wi, e_isr, e_isc, e_stp, e_rt, e_load, e_bin, e_binL, e_ld, e_s1, e_s2, e_n0, e_ok, e_cmp, e_ex, e_gif, e_id32, e_id64, e_v0, e_v1, e_v2, e_v3, e_dt, e_c1, e_sw, e_inv, e_cat, e_rcv, Fin.val_zero, Fin.val_one, Int.toNat_add, Int.toNat_mul, Int.toNat_natCast, Int.reduceToNat, Int.reduceMul, Int.reduceAdd, Int.reduceNeg, Nat.reduceAdd, Nat.reduceSub, Nat.reduceEqDiff, Nat.reduceLT, Nat.reduceLeDiff, List.getElem?_cons_zero, List.getElem?_cons_succ, List.length_cons, List.length_nil, List.take_succ_cons, List.take_zero, List.drop_succ_cons, List.drop_zero, List.reverse_cons, List.reverse_nil, List.nil_append, List.cons_append, List.append_nil, List.map_cons, List.map_nil, List.sum_cons, List.sum_nil, Bool.false_eq_true, if_false, if_true, Bool.and_true, Bool.true_and, Bool.and_self, Bool.or_true, Bool.true_or, Bool.or_false, Bool.false_or, Bool.or_self, decide_eq_true_eq, decide_true, decide_false, beq_self_eq_true, Option.map_some, reduceCtorEq, true_or, or_true, or_false, false_or, or_self, true_and, and_true, and_self, false_and, and_false, Option.some.injEq, exists_eq_left', ne_eq, not_true_eq_false, not_false_eq_true, eq_self, e_pk, e_pr, e_pn, e_ps, e_pd1, e_pd2, e_us, e_un, e_ifp, e_ifn, e_sk, e_sr, e_sn, e_ss, e_sd1, e_sd2, e_sp, mk161 h.1, mk162 h.1, mk163 h.1, mk164 h.1, mk168 h.1, mr0 h.1, mr3 h.1, mr4 h.1, mr15 h.1, h.t1, h.b8, h.q8, e2, hor])
        | (refine And.intro (fun hc => ?_) (fun hc => ?_) <;> try (exfalso; omega))
        | ((refine w_isLetter (by omega) h (by omega) ?_; rw [if_pos hlt]) <;> try dsimp only [Option.toList, List.cons_append, List.nil_append, Nat.reduceAdd])
      all_goals first | exact ih | (exfalso; omega) | skip
    · rw [if_neg h8] at hv
      have ih := ih ((y : Int) + 1) v (by omega) (by rw [if_neg (by omega)]; exact hv)
      clear hv
      refine gp_of (by rfl) ?_
      simp (disch := omega) only [e_wi, e_isr, e_isc, e_stp, e_rt, e_load, e_bin, e_binL, e_ld, e_s1, e_s2, e_n0, e_ok, e_cmp, e_ex, e_gif, e_id32, e_id64, e_v0, e_v1, e_v2, e_v3, e_dt, e_c1, e_sw, e_inv, e_cat, e_rcv, Fin.val_zero, Fin.val_one, Int.toNat_add, Int.toNat_mul, Int.toNat_natCast, Int.reduceToNat, Int.reduceMul, Int.reduceAdd, Int.reduceNeg, Nat.reduceAdd, Nat.reduceSub, Nat.reduceEqDiff, Nat.reduceLT, Nat.reduceLeDiff, List.getElem?_cons_zero, List.getElem?_cons_succ, List.length_cons, List.length_nil, List.take_succ_cons, List.take_zero, List.drop_succ_cons, List.drop_zero, List.reverse_cons, List.reverse_nil, List.nil_append, List.cons_append, List.append_nil, List.map_cons, List.map_nil, List.sum_cons, List.sum_nil, Bool.false_eq_true, if_false, if_true, Bool.and_true, Bool.true_and, Bool.and_self, Bool.or_true, Bool.true_or, Bool.or_false, Bool.false_or, Bool.or_self, decide_eq_true_eq, decide_true, decide_false, beq_self_eq_true, Option.map_some, reduceCtorEq, true_or, or_true, or_false, false_or, or_self, true_and, and_true, and_self, false_and, and_false, Option.some.injEq, exists_eq_left', ne_eq, not_true_eq_false, not_false_eq_true, eq_self, e_pk, e_pr, e_pn, e_ps, e_pd1, e_pd2, e_us, e_un, e_ifp, e_ifn, e_sk, e_sr, e_sn, e_ss, e_sd1, e_sd2, e_sp, mk161 h.1, mk162 h.1, mk163 h.1, mk164 h.1, mk168 h.1, mr0 h.1, mr3 h.1, mr4 h.1, mr15 h.1, h.t1, h.b8, h.q8, e2]
      repeat' first
        | (refine gp_at [10] (by rfl) (by decide) ?_; simp (disch := omega) only [e_wi, e_isr, e_isc, e_stp, e_rt, e_load, e_bin, e_binL, e_ld, e_s1, e_s2, e_n0, e_ok, e_cmp, e_ex, e_gif, e_id32, e_id64, e_v0, e_v1, e_v2, e_v3, e_dt, e_c1, e_sw, e_inv, e_cat, e_rcv, Fin.val_zero, Fin.val_one, Int.toNat_add, Int.toNat_mul, Int.toNat_natCast, Int.reduceToNat, Int.reduceMul, Int.reduceAdd, Int.reduceNeg, Nat.reduceAdd, Nat.reduceSub, Nat.reduceEqDiff, Nat.reduceLT, Nat.reduceLeDiff, List.getElem?_cons_zero, List.getElem?_cons_succ, List.length_cons, List.length_nil, List.take_succ_cons, List.take_zero, List.drop_succ_cons, List.drop_zero, List.reverse_cons, List.reverse_nil, List.nil_append, List.cons_append, List.append_nil, List.map_cons, List.map_nil, List.sum_cons, List.sum_nil, Bool.false_eq_true, if_false, if_true, Bool.and_true, Bool.true_and, Bool.and_self, Bool.or_true, Bool.true_or, Bool.or_false, Bool.false_or, Bool.or_self, decide_eq_true_eq, decide_true, decide_false, beq_self_eq_true, Option.map_some, reduceCtorEq, true_or, or_true, or_false, false_or, or_self, true_and, and_true, and_self, false_and, and_false, Option.some.injEq, exists_eq_left', ne_eq, not_true_eq_false, not_false_eq_true, eq_self, e_pk, e_pr, e_pn, e_ps, e_pd1, e_pd2, e_us, e_un, e_ifp, e_ifn, e_sk, e_sr, e_sn, e_ss, e_sd1, e_sd2, e_sp, mk161 h.1, mk162 h.1, mk163 h.1, mk164 h.1, mk168 h.1, mr0 h.1, mr3 h.1, mr4 h.1, mr15 h.1, h.t1, h.b8, h.q8, e2])
        | (refine And.intro (fun hc => ?_) (fun hc => ?_) <;> try (exfalso; omega))
        | ((refine w_isLetter (by omega) h (by omega) ?_; rw [if_pos hlt]) <;> try dsimp only [Option.toList, List.cons_append, List.nil_append, Nat.reduceAdd])
      all_goals first | exact ih | (exfalso; omega) | skip
set_option maxRecDepth 8000 in
set_option maxHeartbeats 1000000 in
theorem w_isWord {k : Nat} {B : Nat → Int} {t q : Nat} {w : Int} {σ : eH} {Q : Option eV → eH → Prop} (hk : 2 ≤ k) (h : Mr σ B t q) (hw : 0 < w ∧ w < 72057594037927936) (hQ : Q (some (.inl (if k_wv B t (k_sk B t q) = w then 1 else 0))) (k_at σ (k_sk B t q))) : e_Wp k 162 [.inr (.inr 163), .inr (.inl w)] σ Q := by
  refine wp_in (nL := 6) (cd := e_k162) (by omega) (by rfl) (Nat.le_of_ble_eq_true rfl) ?_
  dsimp only [e_ent, Nat.reduceSub, List.replicate]
  have hb := k_sk_b (B := B) h.qt.1
  have h1 := h.at (x := k_sk B t q) hb.2
  refine gp_of (by rfl) ?_
  simp (disch := omega) only [e_wi, e_isr, e_isc, e_stp, e_rt, e_load, e_bin, e_binL, e_ld, e_s1, e_s2, e_n0, e_ok, e_cmp, e_ex, e_gif, e_id32, e_id64, e_v0, e_v1, e_v2, e_v3, e_dt, e_c1, e_sw, e_inv, e_cat, e_rcv, Fin.val_zero, Fin.val_one, Int.toNat_add, Int.toNat_mul, Int.toNat_natCast, Int.reduceToNat, Int.reduceMul, Int.reduceAdd, Int.reduceNeg, Nat.reduceAdd, Nat.reduceSub, Nat.reduceEqDiff, Nat.reduceLT, Nat.reduceLeDiff, List.getElem?_cons_zero, List.getElem?_cons_succ, List.length_cons, List.length_nil, List.take_succ_cons, List.take_zero, List.drop_succ_cons, List.drop_zero, List.reverse_cons, List.reverse_nil, List.nil_append, List.cons_append, List.append_nil, List.map_cons, List.map_nil, List.sum_cons, List.sum_nil, Bool.false_eq_true, if_false, if_true, Bool.and_true, Bool.true_and, Bool.and_self, Bool.or_true, Bool.true_or, Bool.or_false, Bool.false_or, Bool.or_self, decide_eq_true_eq, decide_true, decide_false, beq_self_eq_true, Option.map_some, reduceCtorEq, true_or, or_true, or_false, false_or, or_self, true_and, and_true, and_self, false_and, and_false, Option.some.injEq, exists_eq_left', ne_eq, not_true_eq_false, not_false_eq_true, eq_self, e_pk, e_pr, e_pn, e_ps, e_pd1, e_pd2, e_us, e_un, e_ifp, e_ifn, e_sk, e_sr, e_sn, e_ss, e_sd1, e_sd2, e_sp, mk161 h.1, mk162 h.1, mk163 h.1, mk164 h.1, mk168 h.1, mr0 h.1, mr3 h.1, mr4 h.1, mr15 h.1, h.t1, h.b8, h.q8]
  repeat' first
    | (refine gp_at [4] (by rfl) (by decide) ?_; simp (disch := omega) only [e_wi, e_isr, e_isc, e_stp, e_rt, e_load, e_bin, e_binL, e_ld, e_s1, e_s2, e_n0, e_ok, e_cmp, e_ex, e_gif, e_id32, e_id64, e_v0, e_v1, e_v2, e_v3, e_dt, e_c1, e_sw, e_inv, e_cat, e_rcv, Fin.val_zero, Fin.val_one, Int.toNat_add, Int.toNat_mul, Int.toNat_natCast, Int.reduceToNat, Int.reduceMul, Int.reduceAdd, Int.reduceNeg, Nat.reduceAdd, Nat.reduceSub, Nat.reduceEqDiff, Nat.reduceLT, Nat.reduceLeDiff, List.getElem?_cons_zero, List.getElem?_cons_succ, List.length_cons, List.length_nil, List.take_succ_cons, List.take_zero, List.drop_succ_cons, List.drop_zero, List.reverse_cons, List.reverse_nil, List.nil_append, List.cons_append, List.append_nil, List.map_cons, List.map_nil, List.sum_cons, List.sum_nil, Bool.false_eq_true, if_false, if_true, Bool.and_true, Bool.true_and, Bool.and_self, Bool.or_true, Bool.true_or, Bool.or_false, Bool.false_or, Bool.or_self, decide_eq_true_eq, decide_true, decide_false, beq_self_eq_true, Option.map_some, reduceCtorEq, true_or, or_true, or_false, false_or, or_self, true_and, and_true, and_self, false_and, and_false, Option.some.injEq, exists_eq_left', ne_eq, not_true_eq_false, not_false_eq_true, eq_self, e_pk, e_pr, e_pn, e_ps, e_pd1, e_pd2, e_us, e_un, e_ifp, e_ifn, e_sk, e_sr, e_sn, e_ss, e_sd1, e_sd2, e_sp, mk161 h.1, mk162 h.1, mk163 h.1, mk164 h.1, mk168 h.1, mr0 h.1, mr3 h.1, mr4 h.1, mr15 h.1, h.t1, h.b8, h.q8])
    | (refine And.intro (fun hc => ?_) (fun hc => ?_) <;> try (exfalso; omega))
    | ((refine w_see (by omega) h ?_) <;> try dsimp only [Option.toList, List.cons_append, List.nil_append, Nat.reduceAdd])
  generalize k_at σ (k_sk B t q) = τ at *
  refine gp_of (by rfl) ?_
  simp (disch := omega) only [e_wi, e_isr, e_isc, e_stp, e_rt, e_load, e_bin, e_binL, e_ld, e_s1, e_s2, e_n0, e_ok, e_cmp, e_ex, e_gif, e_id32, e_id64, e_v0, e_v1, e_v2, e_v3, e_dt, e_c1, e_sw, e_inv, e_cat, e_rcv, Fin.val_zero, Fin.val_one, Int.toNat_add, Int.toNat_mul, Int.toNat_natCast, Int.reduceToNat, Int.reduceMul, Int.reduceAdd, Int.reduceNeg, Nat.reduceAdd, Nat.reduceSub, Nat.reduceEqDiff, Nat.reduceLT, Nat.reduceLeDiff, List.getElem?_cons_zero, List.getElem?_cons_succ, List.length_cons, List.length_nil, List.take_succ_cons, List.take_zero, List.drop_succ_cons, List.drop_zero, List.reverse_cons, List.reverse_nil, List.nil_append, List.cons_append, List.append_nil, List.map_cons, List.map_nil, List.sum_cons, List.sum_nil, Bool.false_eq_true, if_false, if_true, Bool.and_true, Bool.true_and, Bool.and_self, Bool.or_true, Bool.true_or, Bool.or_false, Bool.false_or, Bool.or_self, decide_eq_true_eq, decide_true, decide_false, beq_self_eq_true, Option.map_some, reduceCtorEq, true_or, or_true, or_false, false_or, or_self, true_and, and_true, and_self, false_and, and_false, Option.some.injEq, exists_eq_left', ne_eq, not_true_eq_false, not_false_eq_true, eq_self, e_pk, e_pr, e_pn, e_ps, e_pd1, e_pd2, e_us, e_un, e_ifp, e_ifn, e_sk, e_sr, e_sn, e_ss, e_sd1, e_sd2, e_sp, mk161 h1.1, mk162 h1.1, mk163 h1.1, mk164 h1.1, mk168 h1.1, mr0 h1.1, mr3 h1.1, mr4 h1.1, mr15 h1.1]
  repeat' first
    | (refine gp_at [10] (by rfl) (by decide) ?_; simp (disch := omega) only [e_wi, e_isr, e_isc, e_stp, e_rt, e_load, e_bin, e_binL, e_ld, e_s1, e_s2, e_n0, e_ok, e_cmp, e_ex, e_gif, e_id32, e_id64, e_v0, e_v1, e_v2, e_v3, e_dt, e_c1, e_sw, e_inv, e_cat, e_rcv, Fin.val_zero, Fin.val_one, Int.toNat_add, Int.toNat_mul, Int.toNat_natCast, Int.reduceToNat, Int.reduceMul, Int.reduceAdd, Int.reduceNeg, Nat.reduceAdd, Nat.reduceSub, Nat.reduceEqDiff, Nat.reduceLT, Nat.reduceLeDiff, List.getElem?_cons_zero, List.getElem?_cons_succ, List.length_cons, List.length_nil, List.take_succ_cons, List.take_zero, List.drop_succ_cons, List.drop_zero, List.reverse_cons, List.reverse_nil, List.nil_append, List.cons_append, List.append_nil, List.map_cons, List.map_nil, List.sum_cons, List.sum_nil, Bool.false_eq_true, if_false, if_true, Bool.and_true, Bool.true_and, Bool.and_self, Bool.or_true, Bool.true_or, Bool.or_false, Bool.false_or, Bool.or_self, decide_eq_true_eq, decide_true, decide_false, beq_self_eq_true, Option.map_some, reduceCtorEq, true_or, or_true, or_false, false_or, or_self, true_and, and_true, and_self, false_and, and_false, Option.some.injEq, exists_eq_left', ne_eq, not_true_eq_false, not_false_eq_true, eq_self, e_pk, e_pr, e_pn, e_ps, e_pd1, e_pd2, e_us, e_un, e_ifp, e_ifn, e_sk, e_sr, e_sn, e_ss, e_sd1, e_sd2, e_sp, mk161 h1.1, mk162 h1.1, mk163 h1.1, mk164 h1.1, mk168 h1.1, mr0 h1.1, mr3 h1.1, mr4 h1.1, mr15 h1.1])
    | (refine And.intro (fun hc => ?_) (fun hc => ?_) <;> try (exfalso; omega))
  exact w_isWord_l (by omega) h1 hw hQ (k_ln B t (k_sk B t q)) 0 0 0 rfl (by omega) rfl
set_option maxRecDepth 8000 in
set_option maxHeartbeats 2000000 in
theorem w_passWord_l {k : Nat} {σ : eH} {B : Nat → Int} {t q : Nat} {Q : Option eV → eH → Prop} (hk : 1 ≤ k) (h : Mr σ B t q) (hQ : Q none (k_at σ (k_go (k_lt B) t q))) : ∀ (j x : Nat), q ≤ x → x + j = k_go (k_lt B) t q → e_Gp k e_k167 0 [some (.inr (.inr 163))] [] (k_at σ x) Q
  | 0, x, hx, hj => by
    have hqt := h.qt
    have hb := k_go_lt (P := k_lt B) (t := t) (p := q) hqt.1
    obtain rfl : x = k_go (k_lt B) t q := by omega
    have h1 := h.at (x := k_go (k_lt B) t q) hb
    have hnl : ¬ (k_go (k_lt B) t q < t ∧ k_lt B (k_go (k_lt B) t q) = true) := fun q => by
      have := k_go_no q.1
      rw [q.2] at this
      cases this
    generalize k_go (k_lt B) t q = x at *
    generalize k_at σ x = τ at *
    refine gp_of (by rfl) ?_
    simp (disch := omega) only [e_wi, e_isr, e_isc, e_stp, e_rt, e_load, e_bin, e_binL, e_ld, e_s1, e_s2, e_n0, e_ok, e_cmp, e_ex, e_gif, e_id32, e_id64, e_v0, e_v1, e_v2, e_v3, e_dt, e_c1, e_sw, e_inv, e_cat, e_rcv, Fin.val_zero, Fin.val_one, Int.toNat_add, Int.toNat_mul, Int.toNat_natCast, Int.reduceToNat, Int.reduceMul, Int.reduceAdd, Int.reduceNeg, Nat.reduceAdd, Nat.reduceSub, Nat.reduceEqDiff, Nat.reduceLT, Nat.reduceLeDiff, List.getElem?_cons_zero, List.getElem?_cons_succ, List.length_cons, List.length_nil, List.take_succ_cons, List.take_zero, List.drop_succ_cons, List.drop_zero, List.reverse_cons, List.reverse_nil, List.nil_append, List.cons_append, List.append_nil, List.map_cons, List.map_nil, List.sum_cons, List.sum_nil, Bool.false_eq_true, if_false, if_true, Bool.and_true, Bool.true_and, Bool.and_self, Bool.or_true, Bool.true_or, Bool.or_false, Bool.false_or, Bool.or_self, decide_eq_true_eq, decide_true, decide_false, beq_self_eq_true, Option.map_some, reduceCtorEq, true_or, or_true, or_false, false_or, or_self, true_and, and_true, and_self, false_and, and_false, Option.some.injEq, exists_eq_left', ne_eq, not_true_eq_false, not_false_eq_true, eq_self, e_pk, e_pr, e_pn, e_ps, e_pd1, e_pd2, e_us, e_un, e_ifp, e_ifn, e_sk, e_sr, e_sn, e_ss, e_sd1, e_sd2, e_sp, mk161 h1.1, mk162 h1.1, mk163 h1.1, mk164 h1.1, mk168 h1.1, mr0 h1.1, mr3 h1.1, mr4 h1.1, mr15 h1.1, h1.t1, h1.b8, h1.q8]
    repeat' first
      | (refine gp_at [] (by rfl) (by decide) ?_; simp (disch := omega) only [e_wi, e_isr, e_isc, e_stp, e_rt, e_load, e_bin, e_binL, e_ld, e_s1, e_s2, e_n0, e_ok, e_cmp, e_ex, e_gif, e_id32, e_id64, e_v0, e_v1, e_v2, e_v3, e_dt, e_c1, e_sw, e_inv, e_cat, e_rcv, Fin.val_zero, Fin.val_one, Int.toNat_add, Int.toNat_mul, Int.toNat_natCast, Int.reduceToNat, Int.reduceMul, Int.reduceAdd, Int.reduceNeg, Nat.reduceAdd, Nat.reduceSub, Nat.reduceEqDiff, Nat.reduceLT, Nat.reduceLeDiff, List.getElem?_cons_zero, List.getElem?_cons_succ, List.length_cons, List.length_nil, List.take_succ_cons, List.take_zero, List.drop_succ_cons, List.drop_zero, List.reverse_cons, List.reverse_nil, List.nil_append, List.cons_append, List.append_nil, List.map_cons, List.map_nil, List.sum_cons, List.sum_nil, Bool.false_eq_true, if_false, if_true, Bool.and_true, Bool.true_and, Bool.and_self, Bool.or_true, Bool.true_or, Bool.or_false, Bool.false_or, Bool.or_self, decide_eq_true_eq, decide_true, decide_false, beq_self_eq_true, Option.map_some, reduceCtorEq, true_or, or_true, or_false, false_or, or_self, true_and, and_true, and_self, false_and, and_false, Option.some.injEq, exists_eq_left', ne_eq, not_true_eq_false, not_false_eq_true, eq_self, e_pk, e_pr, e_pn, e_ps, e_pd1, e_pd2, e_us, e_un, e_ifp, e_ifn, e_sk, e_sr, e_sn, e_ss, e_sd1, e_sd2, e_sp, mk161 h1.1, mk162 h1.1, mk163 h1.1, mk164 h1.1, mk168 h1.1, mr0 h1.1, mr3 h1.1, mr4 h1.1, mr15 h1.1, h1.t1, h1.b8, h1.q8])
      | (refine And.intro (fun hc => ?_) (fun hc => ?_) <;> try (exfalso; omega))
      | ((refine w_isLetter (by omega) h1 (by omega) ?_; rw [if_neg hnl]) <;> try dsimp only [Option.toList, List.cons_append, List.nil_append, Nat.reduceAdd])
    all_goals first | exact hQ | (exfalso; omega)
  | j + 1, x, hx, hj => by
    have hqt := h.qt
    have hb := k_go_lt (P := k_lt B) (t := t) (p := q) hqt.1
    have h1 := h.at (x := x) (by omega)
    have ih := w_passWord_l hk h hQ j (x + 1) (by omega) (by omega)
    have hlt : x < t ∧ k_lt B x = true := ⟨by omega, k_go_in (P := k_lt B) (t := t) (p := q) hx (by omega)⟩
    have e1 : e_put (k_at σ x) 161 8 ((x : Int) + 1) = k_at σ (x + 1) := by
      rw [show (x : Int) + 1 = ((x + 1 : Nat) : Int) by omega]
      exact k_at_at σ x (x + 1)
    rw [← e1] at ih
    generalize k_at σ x = τ at *
    refine gp_of (by rfl) ?_
    simp (disch := omega) only [e_wi, e_isr, e_isc, e_stp, e_rt, e_load, e_bin, e_binL, e_ld, e_s1, e_s2, e_n0, e_ok, e_cmp, e_ex, e_gif, e_id32, e_id64, e_v0, e_v1, e_v2, e_v3, e_dt, e_c1, e_sw, e_inv, e_cat, e_rcv, Fin.val_zero, Fin.val_one, Int.toNat_add, Int.toNat_mul, Int.toNat_natCast, Int.reduceToNat, Int.reduceMul, Int.reduceAdd, Int.reduceNeg, Nat.reduceAdd, Nat.reduceSub, Nat.reduceEqDiff, Nat.reduceLT, Nat.reduceLeDiff, List.getElem?_cons_zero, List.getElem?_cons_succ, List.length_cons, List.length_nil, List.take_succ_cons, List.take_zero, List.drop_succ_cons, List.drop_zero, List.reverse_cons, List.reverse_nil, List.nil_append, List.cons_append, List.append_nil, List.map_cons, List.map_nil, List.sum_cons, List.sum_nil, Bool.false_eq_true, if_false, if_true, Bool.and_true, Bool.true_and, Bool.and_self, Bool.or_true, Bool.true_or, Bool.or_false, Bool.false_or, Bool.or_self, decide_eq_true_eq, decide_true, decide_false, beq_self_eq_true, Option.map_some, reduceCtorEq, true_or, or_true, or_false, false_or, or_self, true_and, and_true, and_self, false_and, and_false, Option.some.injEq, exists_eq_left', ne_eq, not_true_eq_false, not_false_eq_true, eq_self, e_pk, e_pr, e_pn, e_ps, e_pd1, e_pd2, e_us, e_un, e_ifp, e_ifn, e_sk, e_sr, e_sn, e_ss, e_sd1, e_sd2, e_sp, mk161 h1.1, mk162 h1.1, mk163 h1.1, mk164 h1.1, mk168 h1.1, mr0 h1.1, mr3 h1.1, mr4 h1.1, mr15 h1.1, h1.t1, h1.b8, h1.q8]
    repeat' first
      | (refine gp_at [0] (by rfl) (by decide) ?_; simp (disch := omega) only [e_wi, e_isr, e_isc, e_stp, e_rt, e_load, e_bin, e_binL, e_ld, e_s1, e_s2, e_n0, e_ok, e_cmp, e_ex, e_gif, e_id32, e_id64, e_v0, e_v1, e_v2, e_v3, e_dt, e_c1, e_sw, e_inv, e_cat, e_rcv, Fin.val_zero, Fin.val_one, Int.toNat_add, Int.toNat_mul, Int.toNat_natCast, Int.reduceToNat, Int.reduceMul, Int.reduceAdd, Int.reduceNeg, Nat.reduceAdd, Nat.reduceSub, Nat.reduceEqDiff, Nat.reduceLT, Nat.reduceLeDiff, List.getElem?_cons_zero, List.getElem?_cons_succ, List.length_cons, List.length_nil, List.take_succ_cons, List.take_zero, List.drop_succ_cons, List.drop_zero, List.reverse_cons, List.reverse_nil, List.nil_append, List.cons_append, List.append_nil, List.map_cons, List.map_nil, List.sum_cons, List.sum_nil, Bool.false_eq_true, if_false, if_true, Bool.and_true, Bool.true_and, Bool.and_self, Bool.or_true, Bool.true_or, Bool.or_false, Bool.false_or, Bool.or_self, decide_eq_true_eq, decide_true, decide_false, beq_self_eq_true, Option.map_some, reduceCtorEq, true_or, or_true, or_false, false_or, or_self, true_and, and_true, and_self, false_and, and_false, Option.some.injEq, exists_eq_left', ne_eq, not_true_eq_false, not_false_eq_true, eq_self, e_pk, e_pr, e_pn, e_ps, e_pd1, e_pd2, e_us, e_un, e_ifp, e_ifn, e_sk, e_sr, e_sn, e_ss, e_sd1, e_sd2, e_sp, mk161 h1.1, mk162 h1.1, mk163 h1.1, mk164 h1.1, mk168 h1.1, mr0 h1.1, mr3 h1.1, mr4 h1.1, mr15 h1.1, h1.t1, h1.b8, h1.q8])
      | (refine And.intro (fun hc => ?_) (fun hc => ?_) <;> try (exfalso; omega))
      | ((refine w_isLetter (by omega) h1 (by omega) ?_; rw [if_pos hlt]) <;> try dsimp only [Option.toList, List.cons_append, List.nil_append, Nat.reduceAdd])
    all_goals first | exact ih | (exfalso; omega) | skip
set_option maxRecDepth 8000 in
set_option maxHeartbeats 1000000 in
theorem w_passWord {k : Nat} {B : Nat → Int} {t q : Nat} {σ : eH} {Q : Option eV → eH → Prop} (hk : 2 ≤ k) (h : Mr σ B t q) (hQ : Q none (k_at σ (k_go (k_lt B) t q))) : e_Wp k 167 [.inr (.inr 163)] σ Q := by
  refine wp_in (nL := 1) (cd := e_k167) (by omega) (by rfl) (Nat.le_of_ble_eq_true rfl) ?_
  dsimp only [e_ent, Nat.reduceSub, List.replicate]
  have e := w_passWord_l (k := k - 1) (by omega) h hQ (k_go (k_lt B) t q - q) q (Nat.le_refl _) (by have := k_go_le (k_lt B) t q; omega)
  rw [k_at_id h.q8] at e
  exact e
