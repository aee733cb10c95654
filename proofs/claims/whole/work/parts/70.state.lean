/-- a State's cells at a: what they are -/
def StK (σ : eH) (a : Nat) : Prop := σ.2.2.1 a = (8, 5) ∧ σ.2.2.1 (a + 1) = (20, 8) ∧ σ.2.2.1 (a + 2) = (20, 8) ∧ σ.2.2.1 (a + 3) = (27, 8) ∧ σ.2.2.1 (a + 12) = (20, 4) ∧ (∀ s, s < 8 → σ.2.2.1 (a + 4 + s) = (20, 4)) ∧ σ.2.2.2.2 a 0 = a + 1 + 2 ∧ σ.2.2.2.2 a 1 = a + 2 + 2 ∧ σ.2.2.2.2 a 2 = a + 3 + 2 ∧ σ.2.2.2.2 a 3 = a + 12 + 2 ∧ ∀ s, s < 8 → σ.2.2.2.2 (a + 3) s = a + 4 + s + 2
theorem sk0 {σ : eH} {a : Nat} (h : StK σ a) : σ.2.2.1 a = (8, 5) := h.1
theorem sk1 {σ : eH} {a : Nat} (h : StK σ a) : σ.2.2.1 (a + 1) = (20, 8) := h.2.1
theorem sk2 {σ : eH} {a : Nat} (h : StK σ a) : σ.2.2.1 (a + 2) = (20, 8) := h.2.2.1
theorem sk3 {σ : eH} {a : Nat} (h : StK σ a) : σ.2.2.1 (a + 3) = (27, 8) := h.2.2.2.1
theorem sk12 {σ : eH} {a : Nat} (h : StK σ a) : σ.2.2.1 (a + 12) = (20, 4) := h.2.2.2.2.1
theorem sk4 {σ : eH} {a : Nat} (h : StK σ a) {s : Nat} (hs : s < 8) : σ.2.2.1 (a + 4 + s) = (20, 4) := h.2.2.2.2.2.1 s hs
theorem sr0 {σ : eH} {a : Nat} (h : StK σ a) : σ.2.2.2.2 a 0 = a + 1 + 2 := h.2.2.2.2.2.2.1
theorem sr1 {σ : eH} {a : Nat} (h : StK σ a) : σ.2.2.2.2 a 1 = a + 2 + 2 := h.2.2.2.2.2.2.2.1
theorem sr2 {σ : eH} {a : Nat} (h : StK σ a) : σ.2.2.2.2 a 2 = a + 3 + 2 := h.2.2.2.2.2.2.2.2.1
theorem sr3 {σ : eH} {a : Nat} (h : StK σ a) : σ.2.2.2.2 a 3 = a + 12 + 2 := h.2.2.2.2.2.2.2.2.2.1
theorem srl {σ : eH} {a : Nat} (h : StK σ a) {s : Nat} (hs : s < 8) : σ.2.2.2.2 (a + 3) s = a + 4 + s + 2 := h.2.2.2.2.2.2.2.2.2.2 s hs
set_option maxRecDepth 8000 in
set_option maxHeartbeats 2000000 in
theorem c_flock_l {k : Nat} {a n : Nat} {W : Nat → Int} {m : Int} {σ : eH} {Q : Option eV → eH → Prop}  (hk0 : StK σ a) (hw : ∀ i, i < 8 → σ.2.2.2.1 (a + 1) i = W i ∧ e_w32 (W i) = W i) (hm1 : e_w32 m = m) (hn8 : n ≤ 8) (hQ : Q (some (.inl ((bC (fun s => decide (W s = m)) n : Nat) : Int))) σ) : ∀ (j s : Nat) (z u : Int), z = (s : Int) → u = ((bC (fun s => decide (W s = m)) s : Nat) : Int) → s + j = n → e_Gp k e_k88 5 [some (.inr (.inr (a + 2))), some (.inl m), some (.inl (n : Int)), some (.inl u), some (.inl z)] [] σ Q
  | 0, s, z, u, hz, hu, h => by
    subst hz
    have hle := bC_le (fun s => decide (W s = m)) s
    obtain rfl : n = s := by omega
    rw [← hu] at hQ
    refine gp_of (by rfl) ?_
    simp (disch := omega) only [e_wi, e_isr, e_isc, e_stp, e_rt, e_load, e_bin, e_binL, e_ld, e_s1, e_s2, e_n0, e_ok, e_cmp, e_ex, e_gif, e_id32, e_id64, e_v0, e_v1, e_v2, e_v3, e_dt, e_c1, e_sw, e_inv, e_cat, e_rcv, Fin.val_zero, Fin.val_one, Int.toNat_add, Int.toNat_mul, Int.toNat_natCast, Int.reduceToNat, Int.reduceMul, Int.reduceAdd, Int.reduceNeg, Nat.reduceAdd, Nat.reduceSub, Nat.reduceEqDiff, Nat.reduceLT, Nat.reduceLeDiff, List.getElem?_cons_zero, List.getElem?_cons_succ, List.length_cons, List.length_nil, List.take_succ_cons, List.take_zero, List.drop_succ_cons, List.drop_zero, List.reverse_cons, List.reverse_nil, List.nil_append, List.cons_append, List.append_nil, List.map_cons, List.map_nil, List.sum_cons, List.sum_nil, Bool.false_eq_true, if_false, if_true, Bool.and_true, Bool.true_and, Bool.and_self, Bool.or_true, Bool.true_or, Bool.or_false, Bool.false_or, Bool.or_self, decide_eq_true_eq, decide_true, decide_false, beq_self_eq_true, Option.map_some, reduceCtorEq, true_or, or_true, or_false, false_or, or_self, true_and, and_true, and_self, false_and, and_false, Option.some.injEq, exists_eq_left', ne_eq, not_true_eq_false, not_false_eq_true, eq_self, e_pk, e_pr, e_pn, e_ps, e_pd1, e_pd2, e_us, e_un, e_ifp, e_ifn, e_sk, e_sr, e_sn, e_ss, e_sd1, e_sd2, e_sp, sk0 hk0, sk1 hk0, sk2 hk0, sk3 hk0, sk12 hk0, sr0 hk0, sr1 hk0, sr2 hk0, sr3 hk0]
    repeat' first
      | (refine gp_at [5] (by rfl) (by decide) ?_; simp (disch := omega) only [e_wi, e_isr, e_isc, e_stp, e_rt, e_load, e_bin, e_binL, e_ld, e_s1, e_s2, e_n0, e_ok, e_cmp, e_ex, e_gif, e_id32, e_id64, e_v0, e_v1, e_v2, e_v3, e_dt, e_c1, e_sw, e_inv, e_cat, e_rcv, Fin.val_zero, Fin.val_one, Int.toNat_add, Int.toNat_mul, Int.toNat_natCast, Int.reduceToNat, Int.reduceMul, Int.reduceAdd, Int.reduceNeg, Nat.reduceAdd, Nat.reduceSub, Nat.reduceEqDiff, Nat.reduceLT, Nat.reduceLeDiff, List.getElem?_cons_zero, List.getElem?_cons_succ, List.length_cons, List.length_nil, List.take_succ_cons, List.take_zero, List.drop_succ_cons, List.drop_zero, List.reverse_cons, List.reverse_nil, List.nil_append, List.cons_append, List.append_nil, List.map_cons, List.map_nil, List.sum_cons, List.sum_nil, Bool.false_eq_true, if_false, if_true, Bool.and_true, Bool.true_and, Bool.and_self, Bool.or_true, Bool.true_or, Bool.or_false, Bool.false_or, Bool.or_self, decide_eq_true_eq, decide_true, decide_false, beq_self_eq_true, Option.map_some, reduceCtorEq, true_or, or_true, or_false, false_or, or_self, true_and, and_true, and_self, false_and, and_false, Option.some.injEq, exists_eq_left', ne_eq, not_true_eq_false, not_false_eq_true, eq_self, e_pk, e_pr, e_pn, e_ps, e_pd1, e_pd2, e_us, e_un, e_ifp, e_ifn, e_sk, e_sr, e_sn, e_ss, e_sd1, e_sd2, e_sp, sk0 hk0, sk1 hk0, sk2 hk0, sk3 hk0, sk12 hk0, sr0 hk0, sr1 hk0, sr2 hk0, sr3 hk0])
      | (refine And.intro (fun hc => ?_) (fun hc => ?_) <;> try (exfalso; omega))
    all_goals first | exact hQ | (exfalso; omega)
  | j + 1, s, z, u, hz, hu, h => by
    subst hz
    have hle := bC_le (fun s => decide (W s = m)) s
    have h1 := hw s (by omega)
    have ih := c_flock_l (k := k) hk0 hw hm1 hn8 hQ j (s + 1) ((s : Int) + 1) _ (by omega) rfl (by omega)
    have hsu : bC (fun s => decide (W s = m)) (s + 1) = bC (fun s => decide (W s = m)) s + if W s = m then 1 else 0 := by
      conv => lhs; unfold bC
      simp only [decide_eq_true_eq]
    rw [hsu, Int.natCast_add, ← hu] at ih
    by_cases he : W s = m
    · rw [if_pos he] at ih
      refine gp_of (by rfl) ?_
      simp (disch := omega) only [e_wi, e_isr, e_isc, e_stp, e_rt, e_load, e_bin, e_binL, e_ld, e_s1, e_s2, e_n0, e_ok, e_cmp, e_ex, e_gif, e_id32, e_id64, e_v0, e_v1, e_v2, e_v3, e_dt, e_c1, e_sw, e_inv, e_cat, e_rcv, Fin.val_zero, Fin.val_one, Int.toNat_add, Int.toNat_mul, Int.toNat_natCast, Int.reduceToNat, Int.reduceMul, Int.reduceAdd, Int.reduceNeg, Nat.reduceAdd, Nat.reduceSub, Nat.reduceEqDiff, Nat.reduceLT, Nat.reduceLeDiff, List.getElem?_cons_zero, List.getElem?_cons_succ, List.length_cons, List.length_nil, List.take_succ_cons, List.take_zero, List.drop_succ_cons, List.drop_zero, List.reverse_cons, List.reverse_nil, List.nil_append, List.cons_append, List.append_nil, List.map_cons, List.map_nil, List.sum_cons, List.sum_nil, Bool.false_eq_true, if_false, if_true, Bool.and_true, Bool.true_and, Bool.and_self, Bool.or_true, Bool.true_or, Bool.or_false, Bool.false_or, Bool.or_self, decide_eq_true_eq, decide_true, decide_false, beq_self_eq_true, Option.map_some, reduceCtorEq, true_or, or_true, or_false, false_or, or_self, true_and, and_true, and_self, false_and, and_false, Option.some.injEq, exists_eq_left', ne_eq, not_true_eq_false, not_false_eq_true, eq_self, e_pk, e_pr, e_pn, e_ps, e_pd1, e_pd2, e_us, e_un, e_ifp, e_ifn, e_sk, e_sr, e_sn, e_ss, e_sd1, e_sd2, e_sp, sk0 hk0, sk1 hk0, sk2 hk0, sk3 hk0, sk12 hk0, sr0 hk0, sr1 hk0, sr2 hk0, sr3 hk0, h1.1, h1.2, hm1]
      repeat' first
        | (refine gp_at [5] (by rfl) (by decide) ?_; simp (disch := omega) only [e_wi, e_isr, e_isc, e_stp, e_rt, e_load, e_bin, e_binL, e_ld, e_s1, e_s2, e_n0, e_ok, e_cmp, e_ex, e_gif, e_id32, e_id64, e_v0, e_v1, e_v2, e_v3, e_dt, e_c1, e_sw, e_inv, e_cat, e_rcv, Fin.val_zero, Fin.val_one, Int.toNat_add, Int.toNat_mul, Int.toNat_natCast, Int.reduceToNat, Int.reduceMul, Int.reduceAdd, Int.reduceNeg, Nat.reduceAdd, Nat.reduceSub, Nat.reduceEqDiff, Nat.reduceLT, Nat.reduceLeDiff, List.getElem?_cons_zero, List.getElem?_cons_succ, List.length_cons, List.length_nil, List.take_succ_cons, List.take_zero, List.drop_succ_cons, List.drop_zero, List.reverse_cons, List.reverse_nil, List.nil_append, List.cons_append, List.append_nil, List.map_cons, List.map_nil, List.sum_cons, List.sum_nil, Bool.false_eq_true, if_false, if_true, Bool.and_true, Bool.true_and, Bool.and_self, Bool.or_true, Bool.true_or, Bool.or_false, Bool.false_or, Bool.or_self, decide_eq_true_eq, decide_true, decide_false, beq_self_eq_true, Option.map_some, reduceCtorEq, true_or, or_true, or_false, false_or, or_self, true_and, and_true, and_self, false_and, and_false, Option.some.injEq, exists_eq_left', ne_eq, not_true_eq_false, not_false_eq_true, eq_self, e_pk, e_pr, e_pn, e_ps, e_pd1, e_pd2, e_us, e_un, e_ifp, e_ifn, e_sk, e_sr, e_sn, e_ss, e_sd1, e_sd2, e_sp, sk0 hk0, sk1 hk0, sk2 hk0, sk3 hk0, sk12 hk0, sr0 hk0, sr1 hk0, sr2 hk0, sr3 hk0, h1.1, h1.2, hm1])
        | (refine And.intro (fun hc => ?_) (fun hc => ?_) <;> try (exfalso; omega))
      all_goals first | exact ih | (exfalso; omega)
    · rw [if_neg he, Int.natCast_zero, Int.add_zero] at ih
      refine gp_of (by rfl) ?_
      simp (disch := omega) only [e_wi, e_isr, e_isc, e_stp, e_rt, e_load, e_bin, e_binL, e_ld, e_s1, e_s2, e_n0, e_ok, e_cmp, e_ex, e_gif, e_id32, e_id64, e_v0, e_v1, e_v2, e_v3, e_dt, e_c1, e_sw, e_inv, e_cat, e_rcv, Fin.val_zero, Fin.val_one, Int.toNat_add, Int.toNat_mul, Int.toNat_natCast, Int.reduceToNat, Int.reduceMul, Int.reduceAdd, Int.reduceNeg, Nat.reduceAdd, Nat.reduceSub, Nat.reduceEqDiff, Nat.reduceLT, Nat.reduceLeDiff, List.getElem?_cons_zero, List.getElem?_cons_succ, List.length_cons, List.length_nil, List.take_succ_cons, List.take_zero, List.drop_succ_cons, List.drop_zero, List.reverse_cons, List.reverse_nil, List.nil_append, List.cons_append, List.append_nil, List.map_cons, List.map_nil, List.sum_cons, List.sum_nil, Bool.false_eq_true, if_false, if_true, Bool.and_true, Bool.true_and, Bool.and_self, Bool.or_true, Bool.true_or, Bool.or_false, Bool.false_or, Bool.or_self, decide_eq_true_eq, decide_true, decide_false, beq_self_eq_true, Option.map_some, reduceCtorEq, true_or, or_true, or_false, false_or, or_self, true_and, and_true, and_self, false_and, and_false, Option.some.injEq, exists_eq_left', ne_eq, not_true_eq_false, not_false_eq_true, eq_self, e_pk, e_pr, e_pn, e_ps, e_pd1, e_pd2, e_us, e_un, e_ifp, e_ifn, e_sk, e_sr, e_sn, e_ss, e_sd1, e_sd2, e_sp, sk0 hk0, sk1 hk0, sk2 hk0, sk3 hk0, sk12 hk0, sr0 hk0, sr1 hk0, sr2 hk0, sr3 hk0, h1.1, h1.2, hm1]
      repeat' first
        | (refine gp_at [5] (by rfl) (by decide) ?_; simp (disch := omega) only [e_wi, e_isr, e_isc, e_stp, e_rt, e_load, e_bin, e_binL, e_ld, e_s1, e_s2, e_n0, e_ok, e_cmp, e_ex, e_gif, e_id32, e_id64, e_v0, e_v1, e_v2, e_v3, e_dt, e_c1, e_sw, e_inv, e_cat, e_rcv, Fin.val_zero, Fin.val_one, Int.toNat_add, Int.toNat_mul, Int.toNat_natCast, Int.reduceToNat, Int.reduceMul, Int.reduceAdd, Int.reduceNeg, Nat.reduceAdd, Nat.reduceSub, Nat.reduceEqDiff, Nat.reduceLT, Nat.reduceLeDiff, List.getElem?_cons_zero, List.getElem?_cons_succ, List.length_cons, List.length_nil, List.take_succ_cons, List.take_zero, List.drop_succ_cons, List.drop_zero, List.reverse_cons, List.reverse_nil, List.nil_append, List.cons_append, List.append_nil, List.map_cons, List.map_nil, List.sum_cons, List.sum_nil, Bool.false_eq_true, if_false, if_true, Bool.and_true, Bool.true_and, Bool.and_self, Bool.or_true, Bool.true_or, Bool.or_false, Bool.false_or, Bool.or_self, decide_eq_true_eq, decide_true, decide_false, beq_self_eq_true, Option.map_some, reduceCtorEq, true_or, or_true, or_false, false_or, or_self, true_and, and_true, and_self, false_and, and_false, Option.some.injEq, exists_eq_left', ne_eq, not_true_eq_false, not_false_eq_true, eq_self, e_pk, e_pr, e_pn, e_ps, e_pd1, e_pd2, e_us, e_un, e_ifp, e_ifn, e_sk, e_sr, e_sn, e_ss, e_sd1, e_sd2, e_sp, sk0 hk0, sk1 hk0, sk2 hk0, sk3 hk0, sk12 hk0, sr0 hk0, sr1 hk0, sr2 hk0, sr3 hk0, h1.1, h1.2, hm1])
        | (refine And.intro (fun hc => ?_) (fun hc => ?_) <;> try (exfalso; omega))
      all_goals first | exact ih | (exfalso; omega)
set_option maxRecDepth 8000 in
set_option maxHeartbeats 1000000 in
theorem c_flock {k : Nat} {a n : Nat} {W : Nat → Int} {m : Int} {σ : eH} {Q : Option eV → eH → Prop} (hk : 1 ≤ k)  (hk0 : StK σ a) (hw : ∀ i, i < 8 → σ.2.2.2.1 (a + 1) i = W i ∧ e_w32 (W i) = W i) (hm1 : e_w32 m = m) (hn8 : n ≤ 8) (hQ : Q (some (.inl ((bC (fun s => decide (W s = m)) n : Nat) : Int))) σ) : e_Wp k 88 [.inr (.inr (a + 2)), .inl m, .inl (n : Int)] σ Q := by
  refine wp_in (nL := 5) (cd := e_k88) (by omega) (by rfl) (Nat.le_of_ble_eq_true rfl) ?_
  dsimp only [e_ent, Nat.reduceSub, List.replicate]
  refine gp_of (by rfl) ?_
  simp (disch := omega) only [e_wi, e_isr, e_isc, e_stp, e_rt, e_load, e_bin, e_binL, e_ld, e_s1, e_s2, e_n0, e_ok, e_cmp, e_ex, e_gif, e_id32, e_id64, e_v0, e_v1, e_v2, e_v3, e_dt, e_c1, e_sw, e_inv, e_cat, e_rcv, Fin.val_zero, Fin.val_one, Int.toNat_add, Int.toNat_mul, Int.toNat_natCast, Int.reduceToNat, Int.reduceMul, Int.reduceAdd, Int.reduceNeg, Nat.reduceAdd, Nat.reduceSub, Nat.reduceEqDiff, Nat.reduceLT, Nat.reduceLeDiff, List.getElem?_cons_zero, List.getElem?_cons_succ, List.length_cons, List.length_nil, List.take_succ_cons, List.take_zero, List.drop_succ_cons, List.drop_zero, List.reverse_cons, List.reverse_nil, List.nil_append, List.cons_append, List.append_nil, List.map_cons, List.map_nil, List.sum_cons, List.sum_nil, Bool.false_eq_true, if_false, if_true, Bool.and_true, Bool.true_and, Bool.and_self, Bool.or_true, Bool.true_or, Bool.or_false, Bool.false_or, Bool.or_self, decide_eq_true_eq, decide_true, decide_false, beq_self_eq_true, Option.map_some, reduceCtorEq, true_or, or_true, or_false, false_or, or_self, true_and, and_true, and_self, false_and, and_false, Option.some.injEq, exists_eq_left', ne_eq, not_true_eq_false, not_false_eq_true, eq_self, e_pk, e_pr, e_pn, e_ps, e_pd1, e_pd2, e_us, e_un, e_ifp, e_ifn, e_sk, e_sr, e_sn, e_ss, e_sd1, e_sd2, e_sp, sk0 hk0, sk1 hk0, sk2 hk0, sk3 hk0, sk12 hk0, sr0 hk0, sr1 hk0, sr2 hk0, sr3 hk0]
  repeat' first
    | (refine gp_at [5] (by rfl) (by decide) ?_; simp (disch := omega) only [e_wi, e_isr, e_isc, e_stp, e_rt, e_load, e_bin, e_binL, e_ld, e_s1, e_s2, e_n0, e_ok, e_cmp, e_ex, e_gif, e_id32, e_id64, e_v0, e_v1, e_v2, e_v3, e_dt, e_c1, e_sw, e_inv, e_cat, e_rcv, Fin.val_zero, Fin.val_one, Int.toNat_add, Int.toNat_mul, Int.toNat_natCast, Int.reduceToNat, Int.reduceMul, Int.reduceAdd, Int.reduceNeg, Nat.reduceAdd, Nat.reduceSub, Nat.reduceEqDiff, Nat.reduceLT, Nat.reduceLeDiff, List.getElem?_cons_zero, List.getElem?_cons_succ, List.length_cons, List.length_nil, List.take_succ_cons, List.take_zero, List.drop_succ_cons, List.drop_zero, List.reverse_cons, List.reverse_nil, List.nil_append, List.cons_append, List.append_nil, List.map_cons, List.map_nil, List.sum_cons, List.sum_nil, Bool.false_eq_true, if_false, if_true, Bool.and_true, Bool.true_and, Bool.and_self, Bool.or_true, Bool.true_or, Bool.or_false, Bool.false_or, Bool.or_self, decide_eq_true_eq, decide_true, decide_false, beq_self_eq_true, Option.map_some, reduceCtorEq, true_or, or_true, or_false, false_or, or_self, true_and, and_true, and_self, false_and, and_false, Option.some.injEq, exists_eq_left', ne_eq, not_true_eq_false, not_false_eq_true, eq_self, e_pk, e_pr, e_pn, e_ps, e_pd1, e_pd2, e_us, e_un, e_ifp, e_ifn, e_sk, e_sr, e_sn, e_ss, e_sd1, e_sd2, e_sp, sk0 hk0, sk1 hk0, sk2 hk0, sk3 hk0, sk12 hk0, sr0 hk0, sr1 hk0, sr2 hk0, sr3 hk0])
    | (refine And.intro (fun hc => ?_) (fun hc => ?_) <;> try (exfalso; omega))
  exact c_flock_l (k := k - 1) hk0 hw hm1 hn8 hQ n 0 0 0 rfl rfl (by omega)
/-- two heaps that differ at most in the numbers of cells that are so -/
def Sn (L : Nat → Prop) (σ τ : eH) : Prop := τ.1 = σ.1 ∧ τ.2.1 = σ.2.1 ∧ τ.2.2.1 = σ.2.2.1 ∧ τ.2.2.2.2 = σ.2.2.2.2 ∧ ∀ a, ¬ L a → τ.2.2.2.1 a = σ.2.2.2.1 a
theorem Sn.rf (L : Nat → Prop) (σ : eH) : Sn L σ σ := ⟨rfl, rfl, rfl, rfl, fun _ _ => rfl⟩
theorem Sn.tr {L : Nat → Prop} {σ τ ρ : eH} (h : Sn L σ τ) (g : Sn L τ ρ) : Sn L σ ρ := ⟨g.1.trans h.1, g.2.1.trans h.2.1, g.2.2.1.trans h.2.2.1, g.2.2.2.1.trans h.2.2.2.1, fun a ha => (g.2.2.2.2 a ha).trans (h.2.2.2.2 a ha)⟩
theorem Sn.mn {L M : Nat → Prop} {σ τ : eH} (h : Sn L σ τ) (h1 : ∀ a, L a → M a) : Sn M σ τ := ⟨h.1, h.2.1, h.2.2.1, h.2.2.2.1, fun a ha => h.2.2.2.2 a (fun q => ha (h1 a q))⟩
theorem Sn.at {L : Nat → Prop} {σ τ : eH} (h : Sn L σ τ) (a : Nat) (ha : ¬ L a) : τ.2.2.2.1 a = σ.2.2.2.1 a := h.2.2.2.2 a ha
theorem Sn.set {L : Nat → Prop} {σ τ : eH} (h : Sn L σ τ) {a : Nat} {f : Nat → Int} (ha : L a) : Sn L σ (e_set τ a f) := ⟨h.1, h.2.1, h.2.2.1, h.2.2.2.1, fun b hb => by rw [e_sd2 _ (fun e => hb (by rw [e]; exact ha))]; exact h.at b hb⟩
theorem Sn.put {L : Nat → Prop} {σ τ : eH} (h : Sn L σ τ) {a i : Nat} {x : Int} (ha : L a) : Sn L σ (e_put τ a i x) := by
  rw [e_put_set]
  exact h.set ha
theorem Sn.stk {L : Nat → Prop} {σ τ : eH} (h : Sn L σ τ) {a : Nat} (hk : StK σ a) : StK τ a := by
  unfold StK
  rw [h.2.2.1, h.2.2.2.1]
  exact hk
theorem e_cpys (σ : eH) (a b sp dp n : Nat) : e_cpy σ a b sp dp n = e_set σ b (va_cpy (σ.2.2.2.1 a) (σ.2.2.2.1 b) sp dp n) := rfl
theorem va_cpy0 {f g : Nat → Int} {n k : Nat} (h : k < n) : va_cpy f g 0 0 n k = f k := by
  unfold va_cpy
  rw [if_pos (by omega)]
  congr 1
  omega
/-- a State's numbers -/
def StV (σ : eH) (a : Nat) (S : Nat → Int) : Prop := (∀ i, i < 8 → σ.2.2.2.1 (a + 1) i = S (11 + i)) ∧ (∀ i, i < 8 → σ.2.2.2.1 (a + 2) i = S (19 + i)) ∧ (∀ s m, s < 8 → m < 4 → σ.2.2.2.1 (a + 4 + s) m = S (31 + 4 * s + m)) ∧ (∀ m, m < 4 → σ.2.2.2.1 (a + 12) m = S (27 + m)) ∧ σ.2.2.2.1 a 4 = S 10
theorem StV.sn {L : Nat → Prop} {σ τ : eH} {a : Nat} {S : Nat → Int} (h : StV σ a S) (hs : Sn L σ τ) (hd : ∀ c, a ≤ c → c < a + 13 → ¬ L c) : StV τ a S := by
  refine ⟨fun i hi => ?_, fun i hi => ?_, fun s m h1 h2 => ?_, fun m hm => ?_, ?_⟩
  · rw [hs.at _ (hd _ (by omega) (by omega))]; exact h.1 i hi
  · rw [hs.at _ (hd _ (by omega) (by omega))]; exact h.2.1 i hi
  · rw [hs.at _ (hd _ (by omega) (by omega))]; exact h.2.2.1 s m h1 h2
  · rw [hs.at _ (hd _ (by omega) (by omega))]; exact h.2.2.2.1 m hm
  · rw [hs.at _ (hd _ (by omega) (by omega))]; exact h.2.2.2.2
theorem StV.cg {σ : eH} {a : Nat} {S T : Nat → Int} (h : StV σ a S) (e : ∀ k, 10 ≤ k → k < 63 → S k = T k) : StV σ a T := by
  refine ⟨fun i hi => ?_, fun i hi => ?_, fun s m h1 h2 => ?_, fun m hm => ?_, ?_⟩
  · rw [← e _ (by omega) (by omega)]; exact h.1 i hi
  · rw [← e _ (by omega) (by omega)]; exact h.2.1 i hi
  · rw [← e _ (by omega) (by omega)]; exact h.2.2.1 s m h1 h2
  · rw [← e _ (by omega) (by omega)]; exact h.2.2.2.1 m hm
  · rw [← e _ (by omega) (by omega)]; exact h.2.2.2.2
set_option maxRecDepth 8000 in
set_option maxHeartbeats 2000000 in
theorem c_take_l {k : Nat} {a b : Nat} {S : Nat → Int} {σ : eH} {Q : Option eV → eH → Prop}  (hka : StK σ a) (hkb : StK σ b) (hab : a + 13 ≤ b ∨ b + 13 ≤ a) (hv : StV σ b S) (hN : ∀ (τ : eH) (x : Option eV), Sn (fun c => a ≤ c ∧ c < a + 13) σ τ → (∀ i, i < 8 → τ.2.2.2.1 (a + 1) i = S (11 + i)) → (∀ i, i < 8 → τ.2.2.2.1 (a + 2) i = S (19 + i)) → (∀ s m, s < 8 → m < 4 → τ.2.2.2.1 (a + 4 + s) m = S (31 + 4 * s + m)) → e_Gp k e_k55 62 [some (.inr (.inr (a + 2))), some (.inr (.inr (b + 2))), x] [] τ Q) : ∀ (j t : Nat) (z : Int) (τ : eH), Sn (fun c => a ≤ c ∧ c < a + 13) σ τ → (∀ i, i < 8 → τ.2.2.2.1 (a + 1) i = S (11 + i)) → (∀ i, i < 8 → τ.2.2.2.1 (a + 2) i = S (19 + i)) → (∀ s m, s < t → m < 4 → τ.2.2.2.1 (a + 4 + s) m = S (31 + 4 * s + m)) → z = (t : Int) → t + j = 8 → e_Gp k e_k55 32 [some (.inr (.inr (a + 2))), some (.inr (.inr (b + 2))), some (.inl z)] [] τ Q
  | 0, t, z, τ, hs1, h1, h2, h3, hz, h => by
    subst hz
    obtain rfl : t = 8 := by omega
    have hka1 := hs1.stk hka
    have hkb1 := hs1.stk hkb
    refine gp_of (by rfl) ?_
    simp (disch := omega) only [e_wi, e_isr, e_isc, e_stp, e_rt, e_load, e_bin, e_binL, e_ld, e_s1, e_s2, e_n0, e_ok, e_cmp, e_ex, e_gif, e_id32, e_id64, e_v0, e_v1, e_v2, e_v3, e_dt, e_c1, e_sw, e_inv, e_cat, e_rcv, Fin.val_zero, Fin.val_one, Int.toNat_add, Int.toNat_mul, Int.toNat_natCast, Int.reduceToNat, Int.reduceMul, Int.reduceAdd, Int.reduceNeg, Nat.reduceAdd, Nat.reduceSub, Nat.reduceEqDiff, Nat.reduceLT, Nat.reduceLeDiff, List.getElem?_cons_zero, List.getElem?_cons_succ, List.length_cons, List.length_nil, List.take_succ_cons, List.take_zero, List.drop_succ_cons, List.drop_zero, List.reverse_cons, List.reverse_nil, List.nil_append, List.cons_append, List.append_nil, List.map_cons, List.map_nil, List.sum_cons, List.sum_nil, Bool.false_eq_true, if_false, if_true, Bool.and_true, Bool.true_and, Bool.and_self, Bool.or_true, Bool.true_or, Bool.or_false, Bool.false_or, Bool.or_self, decide_eq_true_eq, decide_true, decide_false, beq_self_eq_true, Option.map_some, reduceCtorEq, true_or, or_true, or_false, false_or, or_self, true_and, and_true, and_self, false_and, and_false, Option.some.injEq, exists_eq_left', ne_eq, not_true_eq_false, not_false_eq_true, eq_self, e_pk, e_pr, e_pn, e_ps, e_pd1, e_pd2, e_us, e_un, e_ifp, e_ifn, e_sk, e_sr, e_sn, e_ss, e_sd1, e_sd2, e_sp, sk0 hka1, sk1 hka1, sk2 hka1, sk3 hka1, sk12 hka1, sr0 hka1, sr1 hka1, sr2 hka1, sr3 hka1, sk0 hkb1, sk1 hkb1, sk2 hkb1, sk3 hkb1, sk12 hkb1, sr0 hkb1, sr1 hkb1, sr2 hkb1, sr3 hkb1]
    repeat' first
      | (refine gp_at [32, 62] (by rfl) (by decide) ?_; simp (disch := omega) only [e_wi, e_isr, e_isc, e_stp, e_rt, e_load, e_bin, e_binL, e_ld, e_s1, e_s2, e_n0, e_ok, e_cmp, e_ex, e_gif, e_id32, e_id64, e_v0, e_v1, e_v2, e_v3, e_dt, e_c1, e_sw, e_inv, e_cat, e_rcv, Fin.val_zero, Fin.val_one, Int.toNat_add, Int.toNat_mul, Int.toNat_natCast, Int.reduceToNat, Int.reduceMul, Int.reduceAdd, Int.reduceNeg, Nat.reduceAdd, Nat.reduceSub, Nat.reduceEqDiff, Nat.reduceLT, Nat.reduceLeDiff, List.getElem?_cons_zero, List.getElem?_cons_succ, List.length_cons, List.length_nil, List.take_succ_cons, List.take_zero, List.drop_succ_cons, List.drop_zero, List.reverse_cons, List.reverse_nil, List.nil_append, List.cons_append, List.append_nil, List.map_cons, List.map_nil, List.sum_cons, List.sum_nil, Bool.false_eq_true, if_false, if_true, Bool.and_true, Bool.true_and, Bool.and_self, Bool.or_true, Bool.true_or, Bool.or_false, Bool.false_or, Bool.or_self, decide_eq_true_eq, decide_true, decide_false, beq_self_eq_true, Option.map_some, reduceCtorEq, true_or, or_true, or_false, false_or, or_self, true_and, and_true, and_self, false_and, and_false, Option.some.injEq, exists_eq_left', ne_eq, not_true_eq_false, not_false_eq_true, eq_self, e_pk, e_pr, e_pn, e_ps, e_pd1, e_pd2, e_us, e_un, e_ifp, e_ifn, e_sk, e_sr, e_sn, e_ss, e_sd1, e_sd2, e_sp, sk0 hka1, sk1 hka1, sk2 hka1, sk3 hka1, sk12 hka1, sr0 hka1, sr1 hka1, sr2 hka1, sr3 hka1, sk0 hkb1, sk1 hkb1, sk2 hkb1, sk3 hkb1, sk12 hkb1, sr0 hkb1, sr1 hkb1, sr2 hkb1, sr3 hkb1])
      | (refine And.intro (fun hc => ?_) (fun hc => ?_) <;> try (exfalso; omega))
    all_goals first | exact hN τ _ hs1 h1 h2 h3 | (exfalso; omega)
  | j + 1, t, z, τ, hs1, h1, h2, h3, hz, h => by
    subst hz
    have hka1 := hs1.stk hka
    have hkb1 := hs1.stk hkb
    have q1 := srl hka1 (s := t) (by omega)
    have q2 := srl hkb1 (s := t) (by omega)
    have q3 := sk4 hka1 (s := t) (by omega)
    have q4 := sk4 hkb1 (s := t) (by omega)
    have ih := fun τ2 hs2 h1 h2 h3 => c_take_l (k := k) hka hkb hab hv hN j (t + 1) ((t : Int) + 1) τ2 hs2 h1 h2 h3 (by omega) (by omega)
    refine gp_of (by rfl) ?_
    simp (disch := omega) only [e_wi, e_isr, e_isc, e_stp, e_rt, e_load, e_bin, e_binL, e_ld, e_s1, e_s2, e_n0, e_ok, e_cmp, e_ex, e_gif, e_id32, e_id64, e_v0, e_v1, e_v2, e_v3, e_dt, e_c1, e_sw, e_inv, e_cat, e_rcv, Fin.val_zero, Fin.val_one, Int.toNat_add, Int.toNat_mul, Int.toNat_natCast, Int.reduceToNat, Int.reduceMul, Int.reduceAdd, Int.reduceNeg, Nat.reduceAdd, Nat.reduceSub, Nat.reduceEqDiff, Nat.reduceLT, Nat.reduceLeDiff, List.getElem?_cons_zero, List.getElem?_cons_succ, List.length_cons, List.length_nil, List.take_succ_cons, List.take_zero, List.drop_succ_cons, List.drop_zero, List.reverse_cons, List.reverse_nil, List.nil_append, List.cons_append, List.append_nil, List.map_cons, List.map_nil, List.sum_cons, List.sum_nil, Bool.false_eq_true, if_false, if_true, Bool.and_true, Bool.true_and, Bool.and_self, Bool.or_true, Bool.true_or, Bool.or_false, Bool.false_or, Bool.or_self, decide_eq_true_eq, decide_true, decide_false, beq_self_eq_true, Option.map_some, reduceCtorEq, true_or, or_true, or_false, false_or, or_self, true_and, and_true, and_self, false_and, and_false, Option.some.injEq, exists_eq_left', ne_eq, not_true_eq_false, not_false_eq_true, eq_self, e_pk, e_pr, e_pn, e_ps, e_pd1, e_pd2, e_us, e_un, e_ifp, e_ifn, e_sk, e_sr, e_sn, e_ss, e_sd1, e_sd2, e_sp, sk0 hka1, sk1 hka1, sk2 hka1, sk3 hka1, sk12 hka1, sr0 hka1, sr1 hka1, sr2 hka1, sr3 hka1, sk0 hkb1, sk1 hkb1, sk2 hkb1, sk3 hkb1, sk12 hkb1, sr0 hkb1, sr1 hkb1, sr2 hkb1, sr3 hkb1, e_acp, e_cpys, e_sd1, e_sd2, e_sk, e_sr, q1, q2, q3, q4]
    repeat' first
      | (refine gp_at [32] (by rfl) (by decide) ?_; simp (disch := omega) only [e_wi, e_isr, e_isc, e_stp, e_rt, e_load, e_bin, e_binL, e_ld, e_s1, e_s2, e_n0, e_ok, e_cmp, e_ex, e_gif, e_id32, e_id64, e_v0, e_v1, e_v2, e_v3, e_dt, e_c1, e_sw, e_inv, e_cat, e_rcv, Fin.val_zero, Fin.val_one, Int.toNat_add, Int.toNat_mul, Int.toNat_natCast, Int.reduceToNat, Int.reduceMul, Int.reduceAdd, Int.reduceNeg, Nat.reduceAdd, Nat.reduceSub, Nat.reduceEqDiff, Nat.reduceLT, Nat.reduceLeDiff, List.getElem?_cons_zero, List.getElem?_cons_succ, List.length_cons, List.length_nil, List.take_succ_cons, List.take_zero, List.drop_succ_cons, List.drop_zero, List.reverse_cons, List.reverse_nil, List.nil_append, List.cons_append, List.append_nil, List.map_cons, List.map_nil, List.sum_cons, List.sum_nil, Bool.false_eq_true, if_false, if_true, Bool.and_true, Bool.true_and, Bool.and_self, Bool.or_true, Bool.true_or, Bool.or_false, Bool.false_or, Bool.or_self, decide_eq_true_eq, decide_true, decide_false, beq_self_eq_true, Option.map_some, reduceCtorEq, true_or, or_true, or_false, false_or, or_self, true_and, and_true, and_self, false_and, and_false, Option.some.injEq, exists_eq_left', ne_eq, not_true_eq_false, not_false_eq_true, eq_self, e_pk, e_pr, e_pn, e_ps, e_pd1, e_pd2, e_us, e_un, e_ifp, e_ifn, e_sk, e_sr, e_sn, e_ss, e_sd1, e_sd2, e_sp, sk0 hka1, sk1 hka1, sk2 hka1, sk3 hka1, sk12 hka1, sr0 hka1, sr1 hka1, sr2 hka1, sr3 hka1, sk0 hkb1, sk1 hkb1, sk2 hkb1, sk3 hkb1, sk12 hkb1, sr0 hkb1, sr1 hkb1, sr2 hkb1, sr3 hkb1, e_acp, e_cpys, e_sd1, e_sd2, e_sk, e_sr, q1, q2, q3, q4])
      | (refine And.intro (fun hc => ?_) (fun hc => ?_) <;> try (exfalso; omega))
    all_goals first | (exfalso; omega) | skip
    refine ih _ (hs1.set ⟨by omega, by omega⟩) ?_ ?_ ?_
    · intro i hi
      rw [e_sd2 _ (by omega)]
      exact h1 i hi
    · intro i hi
      rw [e_sd2 _ (by omega)]
      exact h2 i hi
    · intro s m hs hm
      by_cases e : s = t
      · subst e
        rw [e_sd1, va_cpy0 hm, hs1.at _ (fun hh => by omega)]
        exact hv.2.2.1 s m (by omega) hm
      · rw [e_sd2 _ (by omega)]
        exact h3 s m (by omega) hm
set_option maxRecDepth 8000 in
set_option maxHeartbeats 2000000 in
theorem c_take {k : Nat} {a b : Nat} {S : Nat → Int} {σ : eH} {Q : Option eV → eH → Prop} (hk : 1 ≤ k)  (hka : StK σ a) (hkb : StK σ b) (hab : a + 13 ≤ b ∨ b + 13 ≤ a) (hv : StV σ b S) (hQ : ∀ τ, Sn (fun c => a ≤ c ∧ c < a + 13) σ τ → StV τ a S → Q none τ) : e_Wp k 55 [.inr (.inr (a + 2)), .inr (.inr (b + 2))] σ Q := by
  refine wp_in (nL := 3) (cd := e_k55) (by omega) (by rfl) (Nat.le_of_ble_eq_true rfl) ?_
  dsimp only [e_ent, Nat.reduceSub, List.replicate]
  refine gp_of (by rfl) ?_
  simp (disch := omega) only [e_wi, e_isr, e_isc, e_stp, e_rt, e_load, e_bin, e_binL, e_ld, e_s1, e_s2, e_n0, e_ok, e_cmp, e_ex, e_gif, e_id32, e_id64, e_v0, e_v1, e_v2, e_v3, e_dt, e_c1, e_sw, e_inv, e_cat, e_rcv, Fin.val_zero, Fin.val_one, Int.toNat_add, Int.toNat_mul, Int.toNat_natCast, Int.reduceToNat, Int.reduceMul, Int.reduceAdd, Int.reduceNeg, Nat.reduceAdd, Nat.reduceSub, Nat.reduceEqDiff, Nat.reduceLT, Nat.reduceLeDiff, List.getElem?_cons_zero, List.getElem?_cons_succ, List.length_cons, List.length_nil, List.take_succ_cons, List.take_zero, List.drop_succ_cons, List.drop_zero, List.reverse_cons, List.reverse_nil, List.nil_append, List.cons_append, List.append_nil, List.map_cons, List.map_nil, List.sum_cons, List.sum_nil, Bool.false_eq_true, if_false, if_true, Bool.and_true, Bool.true_and, Bool.and_self, Bool.or_true, Bool.true_or, Bool.or_false, Bool.false_or, Bool.or_self, decide_eq_true_eq, decide_true, decide_false, beq_self_eq_true, Option.map_some, reduceCtorEq, true_or, or_true, or_false, false_or, or_self, true_and, and_true, and_self, false_and, and_false, Option.some.injEq, exists_eq_left', ne_eq, not_true_eq_false, not_false_eq_true, eq_self, e_pk, e_pr, e_pn, e_ps, e_pd1, e_pd2, e_us, e_un, e_ifp, e_ifn, e_sk, e_sr, e_sn, e_ss, e_sd1, e_sd2, e_sp, sk0 hka, sk1 hka, sk2 hka, sk3 hka, sk12 hka, sr0 hka, sr1 hka, sr2 hka, sr3 hka, sk0 hkb, sk1 hkb, sk2 hkb, sk3 hkb, sk12 hkb, sr0 hkb, sr1 hkb, sr2 hkb, sr3 hkb, e_acp, e_cpys, e_sd1, e_sd2, e_sk, e_sr]
  repeat' first
    | (refine gp_at [32] (by rfl) (by decide) ?_; simp (disch := omega) only [e_wi, e_isr, e_isc, e_stp, e_rt, e_load, e_bin, e_binL, e_ld, e_s1, e_s2, e_n0, e_ok, e_cmp, e_ex, e_gif, e_id32, e_id64, e_v0, e_v1, e_v2, e_v3, e_dt, e_c1, e_sw, e_inv, e_cat, e_rcv, Fin.val_zero, Fin.val_one, Int.toNat_add, Int.toNat_mul, Int.toNat_natCast, Int.reduceToNat, Int.reduceMul, Int.reduceAdd, Int.reduceNeg, Nat.reduceAdd, Nat.reduceSub, Nat.reduceEqDiff, Nat.reduceLT, Nat.reduceLeDiff, List.getElem?_cons_zero, List.getElem?_cons_succ, List.length_cons, List.length_nil, List.take_succ_cons, List.take_zero, List.drop_succ_cons, List.drop_zero, List.reverse_cons, List.reverse_nil, List.nil_append, List.cons_append, List.append_nil, List.map_cons, List.map_nil, List.sum_cons, List.sum_nil, Bool.false_eq_true, if_false, if_true, Bool.and_true, Bool.true_and, Bool.and_self, Bool.or_true, Bool.true_or, Bool.or_false, Bool.false_or, Bool.or_self, decide_eq_true_eq, decide_true, decide_false, beq_self_eq_true, Option.map_some, reduceCtorEq, true_or, or_true, or_false, false_or, or_self, true_and, and_true, and_self, false_and, and_false, Option.some.injEq, exists_eq_left', ne_eq, not_true_eq_false, not_false_eq_true, eq_self, e_pk, e_pr, e_pn, e_ps, e_pd1, e_pd2, e_us, e_un, e_ifp, e_ifn, e_sk, e_sr, e_sn, e_ss, e_sd1, e_sd2, e_sp, sk0 hka, sk1 hka, sk2 hka, sk3 hka, sk12 hka, sr0 hka, sr1 hka, sr2 hka, sr3 hka, sk0 hkb, sk1 hkb, sk2 hkb, sk3 hkb, sk12 hkb, sr0 hkb, sr1 hkb, sr2 hkb, sr3 hkb, e_acp, e_cpys, e_sd1, e_sd2, e_sk, e_sr])
    | (refine And.intro (fun hc => ?_) (fun hc => ?_) <;> try (exfalso; omega))
  refine c_take_l (k := k - 1) hka hkb hab hv ?_ 8 0 0 _ (((Sn.rf _ _).set ⟨by omega, by omega⟩).set ⟨by omega, by omega⟩) ?_ ?_ (fun s m hs => by omega) rfl (by omega)
  · intro τ x hs1 h1 h2 h3
    have hka1 := hs1.stk hka
    have hkb1 := hs1.stk hkb
    refine gp_of (by rfl) ?_
    simp (disch := omega) only [e_wi, e_isr, e_isc, e_stp, e_rt, e_load, e_bin, e_binL, e_ld, e_s1, e_s2, e_n0, e_ok, e_cmp, e_ex, e_gif, e_id32, e_id64, e_v0, e_v1, e_v2, e_v3, e_dt, e_c1, e_sw, e_inv, e_cat, e_rcv, Fin.val_zero, Fin.val_one, Int.toNat_add, Int.toNat_mul, Int.toNat_natCast, Int.reduceToNat, Int.reduceMul, Int.reduceAdd, Int.reduceNeg, Nat.reduceAdd, Nat.reduceSub, Nat.reduceEqDiff, Nat.reduceLT, Nat.reduceLeDiff, List.getElem?_cons_zero, List.getElem?_cons_succ, List.length_cons, List.length_nil, List.take_succ_cons, List.take_zero, List.drop_succ_cons, List.drop_zero, List.reverse_cons, List.reverse_nil, List.nil_append, List.cons_append, List.append_nil, List.map_cons, List.map_nil, List.sum_cons, List.sum_nil, Bool.false_eq_true, if_false, if_true, Bool.and_true, Bool.true_and, Bool.and_self, Bool.or_true, Bool.true_or, Bool.or_false, Bool.false_or, Bool.or_self, decide_eq_true_eq, decide_true, decide_false, beq_self_eq_true, Option.map_some, reduceCtorEq, true_or, or_true, or_false, false_or, or_self, true_and, and_true, and_self, false_and, and_false, Option.some.injEq, exists_eq_left', ne_eq, not_true_eq_false, not_false_eq_true, eq_self, e_pk, e_pr, e_pn, e_ps, e_pd1, e_pd2, e_us, e_un, e_ifp, e_ifn, e_sk, e_sr, e_sn, e_ss, e_sd1, e_sd2, e_sp, sk0 hka1, sk1 hka1, sk2 hka1, sk3 hka1, sk12 hka1, sr0 hka1, sr1 hka1, sr2 hka1, sr3 hka1, sk0 hkb1, sk1 hkb1, sk2 hkb1, sk3 hkb1, sk12 hkb1, sr0 hkb1, sr1 hkb1, sr2 hkb1, sr3 hkb1, e_acp, e_cpys, e_sd1, e_sd2, e_sk, e_sr]
    repeat' first
      | (refine gp_at [] (by rfl) (by decide) ?_; simp (disch := omega) only [e_wi, e_isr, e_isc, e_stp, e_rt, e_load, e_bin, e_binL, e_ld, e_s1, e_s2, e_n0, e_ok, e_cmp, e_ex, e_gif, e_id32, e_id64, e_v0, e_v1, e_v2, e_v3, e_dt, e_c1, e_sw, e_inv, e_cat, e_rcv, Fin.val_zero, Fin.val_one, Int.toNat_add, Int.toNat_mul, Int.toNat_natCast, Int.reduceToNat, Int.reduceMul, Int.reduceAdd, Int.reduceNeg, Nat.reduceAdd, Nat.reduceSub, Nat.reduceEqDiff, Nat.reduceLT, Nat.reduceLeDiff, List.getElem?_cons_zero, List.getElem?_cons_succ, List.length_cons, List.length_nil, List.take_succ_cons, List.take_zero, List.drop_succ_cons, List.drop_zero, List.reverse_cons, List.reverse_nil, List.nil_append, List.cons_append, List.append_nil, List.map_cons, List.map_nil, List.sum_cons, List.sum_nil, Bool.false_eq_true, if_false, if_true, Bool.and_true, Bool.true_and, Bool.and_self, Bool.or_true, Bool.true_or, Bool.or_false, Bool.false_or, Bool.or_self, decide_eq_true_eq, decide_true, decide_false, beq_self_eq_true, Option.map_some, reduceCtorEq, true_or, or_true, or_false, false_or, or_self, true_and, and_true, and_self, false_and, and_false, Option.some.injEq, exists_eq_left', ne_eq, not_true_eq_false, not_false_eq_true, eq_self, e_pk, e_pr, e_pn, e_ps, e_pd1, e_pd2, e_us, e_un, e_ifp, e_ifn, e_sk, e_sr, e_sn, e_ss, e_sd1, e_sd2, e_sp, sk0 hka1, sk1 hka1, sk2 hka1, sk3 hka1, sk12 hka1, sr0 hka1, sr1 hka1, sr2 hka1, sr3 hka1, sk0 hkb1, sk1 hkb1, sk2 hkb1, sk3 hkb1, sk12 hkb1, sr0 hkb1, sr1 hkb1, sr2 hkb1, sr3 hkb1, e_acp, e_cpys, e_sd1, e_sd2, e_sk, e_sr])
      | (refine And.intro (fun hc => ?_) (fun hc => ?_) <;> try (exfalso; omega))
    all_goals first | (exfalso; omega) | skip
    refine hQ _ ((hs1.set ⟨by omega, by omega⟩).put ⟨by omega, by omega⟩) ⟨?_, ?_, ?_, ?_, ?_⟩
    · intro i hi
      rw [e_pd2 _ (by omega), e_sd2 _ (by omega)]
      exact h1 i hi
    · intro i hi
      rw [e_pd2 _ (by omega), e_sd2 _ (by omega)]
      exact h2 i hi
    · intro s m h4 h5
      rw [e_pd2 _ (by omega), e_sd2 _ (by omega)]
      exact h3 s m h4 h5
    · intro m hm
      rw [e_pd2 _ (by omega), e_sd1, va_cpy0 hm, hs1.at _ (fun hh => by omega)]
      exact hv.2.2.2.1 m hm
    · rw [e_pd1, e_us, hs1.at _ (fun hh => by omega)]
      exact hv.2.2.2.2
  · intro i hi
    rw [e_sd2 _ (by omega), e_sd1, va_cpy0 hi]
    exact hv.1 i hi
  · intro i hi
    rw [e_sd1, va_cpy0 hi]
    exact hv.2.1 i hi
