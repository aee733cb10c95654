set_option maxRecDepth 8000 in
set_option maxHeartbeats 4000000 in
theorem l_sw {k L i : Nat} {xs : Nat → Int} {σ : eH} {Q : Option eV → eH → Prop} (V : Int) (hk : 61 ≤ k) (hx : ∀ j, -2147483648 ≤ xs j ∧ xs j < 2147483648) (hi : i + 6 ≤ L) (hL : L ≤ 3072) (h : IV L xs σ) (hQ : ∀ τ, IV L xs τ → τ.1 ≤ σ.1 + 40 → τ.2.1 ≤ σ.2.1 + 600 → e_Gp k e_kL 1145 [some (.inr (.inr 2)), some (.inr (.inr 5)), some (.inr (.inr 163)), some (.inl (i : Int))] [] τ Q) : e_Gp k e_kL (e_sw [(0, 172), (1, 235), (2, 258), (3, 271), (4, 284), (5, 307), (6, 340), (7, 373), (8, 406), (9, 419), (10, 462), (11, 495), (12, 528), (13, 541), (14, 584), (15, 627), (16, 670), (17, 693), (18, 746), (19, 779), (20, 802), (21, 825), (22, 858), (23, 901), (24, 944), (25, 967), (26, 1000), (27, 1023), (28, 1076), (29, 1099), (30, 1122)] V 1145) [some (.inr (.inr 2)), some (.inr (.inr 5)), some (.inr (.inr 163)), some (.inl (i : Int))] [] σ Q := by
  by_cases h0 : V = 0
  · rw [h0]
    show e_Gp _ _ 172 _ _ _ _
    exact l_feed hk hx hi hL h hQ
  by_cases h1 : V = 1
  · rw [h1]
    show e_Gp _ _ 235 _ _ _ _
    exact l_end hk hx hi hL h hQ
  by_cases h2 : V = 2
  · rw [h2]
    show e_Gp _ _ 258 _ _ _ _
    exact l_hill hk hx hi hL h hQ
  by_cases h3 : V = 3
  · rw [h3]
    show e_Gp _ _ 271 _ _ _ _
    exact l_rule hk hx hi hL h hQ
  by_cases h4 : V = 4
  · rw [h4]
    show e_Gp _ _ 284 _ _ _ _
    exact l_force hk hx hi hL h hQ
  by_cases h5 : V = 5
  · rw [h5]
    show e_Gp _ _ 307 _ _ _ _
    exact l_sheep hk hx hi hL h hQ
  by_cases h6 : V = 6
  · rw [h6]
    show e_Gp _ _ 340 _ _ _ _
    exact l_man hk hx hi hL h hQ
  by_cases h7 : V = 7
  · rw [h7]
    show e_Gp _ _ 373 _ _ _ _
    exact l_likes hk hx hi hL h hQ
  by_cases h8 : V = 8
  · rw [h8]
    show e_Gp _ _ 406 _ _ _ _
    exact l_may hk hx hi hL h hQ
  by_cases h9 : V = 9
  · rw [h9]
    show e_Gp _ _ 419 _ _ _ _
    exact l_salt hk hx hi hL h hQ
  by_cases h10 : V = 10
  · rw [h10]
    show e_Gp _ _ 462 _ _ _ _
    exact l_teach hk hx hi hL h hQ
  by_cases h11 : V = 11
  · rw [h11]
    show e_Gp _ _ 495 _ _ _ _
    exact l_lead hk hx hi hL h hQ
  by_cases h12 : V = 12
  · rw [h12]
    show e_Gp _ _ 528 _ _ _ _
    exact l_undo hk hx hi hL h hQ
  by_cases h13 : V = 13
  · rw [h13]
    show e_Gp _ _ 541 _ _ _ _
    exact l_ahead hk hx hi hL h hQ
  by_cases h14 : V = 14
  · rw [h14]
    show e_Gp _ _ 584 _ _ _ _
    exact l_won hk hx hi hL h hQ
  by_cases h15 : V = 15
  · rw [h15]
    show e_Gp _ _ 627 _ _ _ _
    exact l_least hk hx hi hL h hQ
  by_cases h16 : V = 16
  · rw [h16]
    show e_Gp _ _ 670 _ _ _ _
    exact l_men hk hx hi hL h hQ
  by_cases h17 : V = 17
  · rw [h17]
    show e_Gp _ _ 693 _ _ _ _
    exact l_rests hk hx hi hL h hQ
  by_cases h18 : V = 18
  · rw [h18]
    show e_Gp _ _ 746 _ _ _ _
    exact l_stranger hk hx hi hL h hQ
  by_cases h19 : V = 19
  · rw [h19]
    show e_Gp _ _ 779 _ _ _ _
    exact l_settled hk hx hi hL h hQ
  by_cases h20 : V = 20
  · rw [h20]
    show e_Gp _ _ 802 _ _ _ _
    exact l_shared hk hx hi hL h hQ
  by_cases h21 : V = 21
  · rw [h21]
    show e_Gp _ _ 825 _ _ _ _
    exact l_taught hk hx hi hL h hQ
  by_cases h22 : V = 22
  · rw [h22]
    show e_Gp _ _ 858 _ _ _ _
    exact l_worth hk hx hi hL h hQ
  by_cases h23 : V = 23
  · rw [h23]
    show e_Gp _ _ 901 _ _ _ _
    exact l_note hk hx hi hL h hQ
  by_cases h24 : V = 24
  · rw [h24]
    show e_Gp _ _ 944 _ _ _ _
    exact l_ruled hk hx hi hL h hQ
  by_cases h25 : V = 25
  · rw [h25]
    show e_Gp _ _ 967 _ _ _ _
    exact l_look hk hx hi hL h hQ
  by_cases h26 : V = 26
  · rw [h26]
    show e_Gp _ _ 1000 _ _ _ _
    exact l_seed hk hx hi hL h hQ
  by_cases h27 : V = 27
  · rw [h27]
    show e_Gp _ _ 1023 _ _ _ _
    exact l_frights hk hx hi hL h hQ
  by_cases h28 : V = 28
  · rw [h28]
    show e_Gp _ _ 1076 _ _ _ _
    exact l_count hk hx hi hL h hQ
  by_cases h29 : V = 29
  · rw [h29]
    show e_Gp _ _ 1099 _ _ _ _
    exact l_image hk hx hi hL h hQ
  by_cases h30 : V = 30
  · rw [h30]
    show e_Gp _ _ 1122 _ _ _ _
    exact l_back hk hx hi hL h hQ
  have e : e_sw [(0, 172), (1, 235), (2, 258), (3, 271), (4, 284), (5, 307), (6, 340), (7, 373), (8, 406), (9, 419), (10, 462), (11, 495), (12, 528), (13, 541), (14, 584), (15, 627), (16, 670), (17, 693), (18, 746), (19, 779), (20, 802), (21, 825), (22, 858), (23, 901), (24, 944), (25, 967), (26, 1000), (27, 1023), (28, 1076), (29, 1099), (30, 1122)] V 1145 = 1145 := by
    simp only [e_sw, if_neg h0, if_neg h1, if_neg h2, if_neg h3, if_neg h4, if_neg h5, if_neg h6, if_neg h7, if_neg h8, if_neg h9, if_neg h10, if_neg h11, if_neg h12, if_neg h13, if_neg h14, if_neg h15, if_neg h16, if_neg h17, if_neg h18, if_neg h19, if_neg h20, if_neg h21, if_neg h22, if_neg h23, if_neg h24, if_neg h25, if_neg h26, if_neg h27, if_neg h28, if_neg h29, if_neg h30]
  rw [e]
  exact hQ σ h (by omega) (by omega)
set_option maxRecDepth 8000 in
set_option maxHeartbeats 4000000 in
theorem l_loop {k L : Nat} {xs : Nat → Int} {Q : Option eV → eH → Prop} (hE : ∀ τ, τ.1 ≤ 600000 → τ.2.1 ≤ 7302250 → Q (some (.inl 1)) τ) (hk : 61 ≤ k) (hx : ∀ j, -2147483648 ≤ xs j ∧ xs j < 2147483648) (hL : L ≤ 3072) : ∀ (j i : Nat) (z : Int) (σ : eH), z = (i : Int) → i ≤ L → L < i + j → IV L xs σ → σ.1 ≤ 185 + 40 * i → σ.2.1 ≤ 9094 + 600 * i → e_Gp k e_kL 18 [some (.inr (.inr 2)), some (.inr (.inr 5)), some (.inr (.inr 163)), some (.inl z)] [] σ Q
  | 0, i, z, σ, hz, hi, hj, h, r1, r2 => by
    exfalso
    omega
  | j + 1, i, z, σ, hz, hi, hj, h, r1, r2 => by
    subst hz
    have hsx : Sx L xs σ := by
      obtain ⟨own, S, n, q, c, t, M, u, p, x, f, B, RS, h⟩ := h
      exact h.sx
    obtain ⟨y1, y2, y3⟩ := hsx
    by_cases hb : i + 6 ≤ L
    · have hQ : ∀ τ, IV L xs τ → τ.1 ≤ σ.1 + 40 → τ.2.1 ≤ σ.2.1 + 600 → e_Gp k e_kL 1145 [some (.inr (.inr 2)), some (.inr (.inr 5)), some (.inr (.inr 163)), some (.inl (i : Int))] [] τ Q := fun τ g a1 a2 => by
        have ih := l_loop hE hk hx hL j (i + 6) ((i : Int) + 6) τ (by omega) hb (by omega) g (by omega) (by omega)
        refine gp_of (by rfl) ?_
        simp (disch := omega) only [e_wi, e_isr, e_isc, e_stp, e_rt, e_load, e_bin, e_binL, e_ld, e_s1, e_s2, e_n0, e_ok, e_cmp, e_ex, e_gif, e_id32, e_id64, e_v0, e_v1, e_v2, e_v3, e_dt, e_c1, e_sw, e_inv, e_cat, e_rcv, Fin.val_zero, Fin.val_one, Int.toNat_add, Int.toNat_mul, Int.toNat_natCast, Int.reduceToNat, Int.reduceMul, Int.reduceAdd, Int.reduceNeg, Nat.reduceAdd, Nat.reduceSub, Nat.reduceEqDiff, Nat.reduceLT, Nat.reduceLeDiff, List.getElem?_cons_zero, List.getElem?_cons_succ, List.length_cons, List.length_nil, List.take_succ_cons, List.take_zero, List.drop_succ_cons, List.drop_zero, List.reverse_cons, List.reverse_nil, List.nil_append, List.cons_append, List.append_nil, List.map_cons, List.map_nil, List.sum_cons, List.sum_nil, Bool.false_eq_true, if_false, if_true, Bool.and_true, Bool.true_and, Bool.and_self, Bool.or_true, Bool.true_or, Bool.or_false, Bool.false_or, Bool.or_self, decide_eq_true_eq, decide_true, decide_false, beq_self_eq_true, Option.map_some, reduceCtorEq, true_or, or_true, or_false, false_or, or_self, true_and, and_true, and_self, false_and, and_false, Option.some.injEq, exists_eq_left', ne_eq, not_true_eq_false, not_false_eq_true, eq_self, e_pk, e_pr, e_pn, e_ps, e_pd1, e_pd2, e_us, e_un, e_ifp, e_ifn, e_sk, e_sr, e_sn, e_ss, e_sd1, e_sd2, e_sp]
        repeat' first
          | (refine gp_at [18] (by rfl) (by decide) ?_; simp (disch := omega) only [e_wi, e_isr, e_isc, e_stp, e_rt, e_load, e_bin, e_binL, e_ld, e_s1, e_s2, e_n0, e_ok, e_cmp, e_ex, e_gif, e_id32, e_id64, e_v0, e_v1, e_v2, e_v3, e_dt, e_c1, e_sw, e_inv, e_cat, e_rcv, Fin.val_zero, Fin.val_one, Int.toNat_add, Int.toNat_mul, Int.toNat_natCast, Int.reduceToNat, Int.reduceMul, Int.reduceAdd, Int.reduceNeg, Nat.reduceAdd, Nat.reduceSub, Nat.reduceEqDiff, Nat.reduceLT, Nat.reduceLeDiff, List.getElem?_cons_zero, List.getElem?_cons_succ, List.length_cons, List.length_nil, List.take_succ_cons, List.take_zero, List.drop_succ_cons, List.drop_zero, List.reverse_cons, List.reverse_nil, List.nil_append, List.cons_append, List.append_nil, List.map_cons, List.map_nil, List.sum_cons, List.sum_nil, Bool.false_eq_true, if_false, if_true, Bool.and_true, Bool.true_and, Bool.and_self, Bool.or_true, Bool.true_or, Bool.or_false, Bool.false_or, Bool.or_self, decide_eq_true_eq, decide_true, decide_false, beq_self_eq_true, Option.map_some, reduceCtorEq, true_or, or_true, or_false, false_or, or_self, true_and, and_true, and_self, false_and, and_false, Option.some.injEq, exists_eq_left', ne_eq, not_true_eq_false, not_false_eq_true, eq_self, e_pk, e_pr, e_pn, e_ps, e_pd1, e_pd2, e_us, e_un, e_ifp, e_ifn, e_sk, e_sr, e_sn, e_ss, e_sd1, e_sd2, e_sp])
          | (refine And.intro (fun hc => ?_) (fun hc => ?_) <;> try (exfalso; omega))
        all_goals first | exact ih | (exfalso; omega) | skip
      refine gp_of (by rfl) ?_
      simp (disch := omega) only [e_wi, e_isr, e_isc, e_stp, e_rt, e_load, e_bin, e_binL, e_ld, e_s1, e_s2, e_n0, e_ok, e_cmp, e_ex, e_gif, e_id32, e_id64, e_v0, e_v1, e_v2, e_v3, e_dt, e_c1, e_sw, e_inv, e_cat, e_rcv, Fin.val_zero, Fin.val_one, Int.toNat_add, Int.toNat_mul, Int.toNat_natCast, Int.reduceToNat, Int.reduceMul, Int.reduceAdd, Int.reduceNeg, Nat.reduceAdd, Nat.reduceSub, Nat.reduceEqDiff, Nat.reduceLT, Nat.reduceLeDiff, List.getElem?_cons_zero, List.getElem?_cons_succ, List.length_cons, List.length_nil, List.take_succ_cons, List.take_zero, List.drop_succ_cons, List.drop_zero, List.reverse_cons, List.reverse_nil, List.nil_append, List.cons_append, List.append_nil, List.map_cons, List.map_nil, List.sum_cons, List.sum_nil, Bool.false_eq_true, if_false, if_true, Bool.and_true, Bool.true_and, Bool.and_self, Bool.or_true, Bool.true_or, Bool.or_false, Bool.false_or, Bool.or_self, decide_eq_true_eq, decide_true, decide_false, beq_self_eq_true, Option.map_some, reduceCtorEq, true_or, or_true, or_false, false_or, or_self, true_and, and_true, and_self, false_and, and_false, Option.some.injEq, exists_eq_left', ne_eq, not_true_eq_false, not_false_eq_true, eq_self, e_pk, e_pr, e_pn, e_ps, e_pd1, e_pd2, e_us, e_un, e_ifp, e_ifn, e_sk, e_sr, e_sn, e_ss, e_sd1, e_sd2, e_sp, y1, y2]
      repeat' first
        | (refine gp_at [33] (by rfl) (by decide) ?_; simp (disch := omega) only [e_wi, e_isr, e_isc, e_stp, e_rt, e_load, e_bin, e_binL, e_ld, e_s1, e_s2, e_n0, e_ok, e_cmp, e_ex, e_gif, e_id32, e_id64, e_v0, e_v1, e_v2, e_v3, e_dt, e_c1, e_sw, e_inv, e_cat, e_rcv, Fin.val_zero, Fin.val_one, Int.toNat_add, Int.toNat_mul, Int.toNat_natCast, Int.reduceToNat, Int.reduceMul, Int.reduceAdd, Int.reduceNeg, Nat.reduceAdd, Nat.reduceSub, Nat.reduceEqDiff, Nat.reduceLT, Nat.reduceLeDiff, List.getElem?_cons_zero, List.getElem?_cons_succ, List.length_cons, List.length_nil, List.take_succ_cons, List.take_zero, List.drop_succ_cons, List.drop_zero, List.reverse_cons, List.reverse_nil, List.nil_append, List.cons_append, List.append_nil, List.map_cons, List.map_nil, List.sum_cons, List.sum_nil, Bool.false_eq_true, if_false, if_true, Bool.and_true, Bool.true_and, Bool.and_self, Bool.or_true, Bool.true_or, Bool.or_false, Bool.false_or, Bool.or_self, decide_eq_true_eq, decide_true, decide_false, beq_self_eq_true, Option.map_some, reduceCtorEq, true_or, or_true, or_false, false_or, or_self, true_and, and_true, and_self, false_and, and_false, Option.some.injEq, exists_eq_left', ne_eq, not_true_eq_false, not_false_eq_true, eq_self, e_pk, e_pr, e_pn, e_ps, e_pd1, e_pd2, e_us, e_un, e_ifp, e_ifn, e_sk, e_sr, e_sn, e_ss, e_sd1, e_sd2, e_sp, y1, y2])
        | (refine And.intro (fun hc => ?_) (fun hc => ?_) <;> try (exfalso; omega))
      all_goals first | (exfalso; omega) | skip
      refine gp_of (by rfl) ?_
      simp only [e_wi, e_isr, e_isc, e_stp, e_ex, if_false, Bool.false_eq_true]
      exact l_sw _ hk hx hb hL h hQ
    · have hQ := hE σ (by omega) (by omega)
      refine gp_of (by rfl) ?_
      simp (disch := omega) only [e_wi, e_isr, e_isc, e_stp, e_rt, e_load, e_bin, e_binL, e_ld, e_s1, e_s2, e_n0, e_ok, e_cmp, e_ex, e_gif, e_id32, e_id64, e_v0, e_v1, e_v2, e_v3, e_dt, e_c1, e_sw, e_inv, e_cat, e_rcv, Fin.val_zero, Fin.val_one, Int.toNat_add, Int.toNat_mul, Int.toNat_natCast, Int.reduceToNat, Int.reduceMul, Int.reduceAdd, Int.reduceNeg, Nat.reduceAdd, Nat.reduceSub, Nat.reduceEqDiff, Nat.reduceLT, Nat.reduceLeDiff, List.getElem?_cons_zero, List.getElem?_cons_succ, List.length_cons, List.length_nil, List.take_succ_cons, List.take_zero, List.drop_succ_cons, List.drop_zero, List.reverse_cons, List.reverse_nil, List.nil_append, List.cons_append, List.append_nil, List.map_cons, List.map_nil, List.sum_cons, List.sum_nil, Bool.false_eq_true, if_false, if_true, Bool.and_true, Bool.true_and, Bool.and_self, Bool.or_true, Bool.true_or, Bool.or_false, Bool.false_or, Bool.or_self, decide_eq_true_eq, decide_true, decide_false, beq_self_eq_true, Option.map_some, reduceCtorEq, true_or, or_true, or_false, false_or, or_self, true_and, and_true, and_self, false_and, and_false, Option.some.injEq, exists_eq_left', ne_eq, not_true_eq_false, not_false_eq_true, eq_self, e_pk, e_pr, e_pn, e_ps, e_pd1, e_pd2, e_us, e_un, e_ifp, e_ifn, e_sk, e_sr, e_sn, e_ss, e_sd1, e_sd2, e_sp, y1, y2]
      repeat' first
        | (refine gp_at [] (by rfl) (by decide) ?_; simp (disch := omega) only [e_wi, e_isr, e_isc, e_stp, e_rt, e_load, e_bin, e_binL, e_ld, e_s1, e_s2, e_n0, e_ok, e_cmp, e_ex, e_gif, e_id32, e_id64, e_v0, e_v1, e_v2, e_v3, e_dt, e_c1, e_sw, e_inv, e_cat, e_rcv, Fin.val_zero, Fin.val_one, Int.toNat_add, Int.toNat_mul, Int.toNat_natCast, Int.reduceToNat, Int.reduceMul, Int.reduceAdd, Int.reduceNeg, Nat.reduceAdd, Nat.reduceSub, Nat.reduceEqDiff, Nat.reduceLT, Nat.reduceLeDiff, List.getElem?_cons_zero, List.getElem?_cons_succ, List.length_cons, List.length_nil, List.take_succ_cons, List.take_zero, List.drop_succ_cons, List.drop_zero, List.reverse_cons, List.reverse_nil, List.nil_append, List.cons_append, List.append_nil, List.map_cons, List.map_nil, List.sum_cons, List.sum_nil, Bool.false_eq_true, if_false, if_true, Bool.and_true, Bool.true_and, Bool.and_self, Bool.or_true, Bool.true_or, Bool.or_false, Bool.false_or, Bool.or_self, decide_eq_true_eq, decide_true, decide_false, beq_self_eq_true, Option.map_some, reduceCtorEq, true_or, or_true, or_false, false_or, or_self, true_and, and_true, and_self, false_and, and_false, Option.some.injEq, exists_eq_left', ne_eq, not_true_eq_false, not_false_eq_true, eq_self, e_pk, e_pr, e_pn, e_ps, e_pd1, e_pd2, e_us, e_un, e_ifp, e_ifn, e_sk, e_sr, e_sn, e_ss, e_sd1, e_sd2, e_sp, y1, y2])
        | (refine And.intro (fun hc => ?_) (fun hc => ?_) <;> try (exfalso; omega))
      all_goals first | exact hQ | (exfalso; omega) | skip
set_option maxRecDepth 8000 in
set_option maxHeartbeats 4000000 in
theorem l_start {k L : Nat} {xs : Nat → Int} {Q : Option eV → eH → Prop} (hE : ∀ τ, τ.1 ≤ 600000 → τ.2.1 ≤ 7302250 → Q (some (.inl 1)) τ) (hk : 61 ≤ k) (hx : ∀ j, -2147483648 ≤ xs j ∧ xs j < 2147483648) (hL : L ≤ 3072) : e_Gp k e_kL 0 (e_ent 4 [.inr (.inr 2)]) [] (e_s0 L xs) Q := by
  dsimp only [e_ent, Nat.reduceSub, List.replicate]
  have n0 : (e_s0 L xs).1 = 3 := rfl
  refine gp_of (by rfl) ?_
  simp (disch := omega) only [e_wi, e_isr, e_isc, e_stp, e_rt, e_load, e_bin, e_binL, e_ld, e_s1, e_s2, e_n0, e_ok, e_cmp, e_ex, e_gif, e_id32, e_id64, e_v0, e_v1, e_v2, e_v3, e_dt, e_c1, e_sw, e_inv, e_cat, e_rcv, Fin.val_zero, Fin.val_one, Int.toNat_add, Int.toNat_mul, Int.toNat_natCast, Int.reduceToNat, Int.reduceMul, Int.reduceAdd, Int.reduceNeg, Nat.reduceAdd, Nat.reduceSub, Nat.reduceEqDiff, Nat.reduceLT, Nat.reduceLeDiff, List.getElem?_cons_zero, List.getElem?_cons_succ, List.length_cons, List.length_nil, List.take_succ_cons, List.take_zero, List.drop_succ_cons, List.drop_zero, List.reverse_cons, List.reverse_nil, List.nil_append, List.cons_append, List.append_nil, List.map_cons, List.map_nil, List.sum_cons, List.sum_nil, Bool.false_eq_true, if_false, if_true, Bool.and_true, Bool.true_and, Bool.and_self, Bool.or_true, Bool.true_or, Bool.or_false, Bool.false_or, Bool.or_self, decide_eq_true_eq, decide_true, decide_false, beq_self_eq_true, Option.map_some, reduceCtorEq, true_or, or_true, or_false, false_or, or_self, true_and, and_true, and_self, false_and, and_false, Option.some.injEq, exists_eq_left', ne_eq, not_true_eq_false, not_false_eq_true, eq_self, e_pk, e_pr, e_pn, e_ps, e_pd1, e_pd2, e_us, e_un, e_ifp, e_ifn, e_sk, e_sr, e_sn, e_ss, e_sd1, e_sd2, e_sp, n0, z_nk, z_nn, e_us]
  repeat' first
    | (refine gp_at [7] (by rfl) (by decide) ?_; simp (disch := omega) only [e_wi, e_isr, e_isc, e_stp, e_rt, e_load, e_bin, e_binL, e_ld, e_s1, e_s2, e_n0, e_ok, e_cmp, e_ex, e_gif, e_id32, e_id64, e_v0, e_v1, e_v2, e_v3, e_dt, e_c1, e_sw, e_inv, e_cat, e_rcv, Fin.val_zero, Fin.val_one, Int.toNat_add, Int.toNat_mul, Int.toNat_natCast, Int.reduceToNat, Int.reduceMul, Int.reduceAdd, Int.reduceNeg, Nat.reduceAdd, Nat.reduceSub, Nat.reduceEqDiff, Nat.reduceLT, Nat.reduceLeDiff, List.getElem?_cons_zero, List.getElem?_cons_succ, List.length_cons, List.length_nil, List.take_succ_cons, List.take_zero, List.drop_succ_cons, List.drop_zero, List.reverse_cons, List.reverse_nil, List.nil_append, List.cons_append, List.append_nil, List.map_cons, List.map_nil, List.sum_cons, List.sum_nil, Bool.false_eq_true, if_false, if_true, Bool.and_true, Bool.true_and, Bool.and_self, Bool.or_true, Bool.true_or, Bool.or_false, Bool.false_or, Bool.or_self, decide_eq_true_eq, decide_true, decide_false, beq_self_eq_true, Option.map_some, reduceCtorEq, true_or, or_true, or_false, false_or, or_self, true_and, and_true, and_self, false_and, and_false, Option.some.injEq, exists_eq_left', ne_eq, not_true_eq_false, not_false_eq_true, eq_self, e_pk, e_pr, e_pn, e_ps, e_pd1, e_pd2, e_us, e_un, e_ifp, e_ifn, e_sk, e_sr, e_sn, e_ss, e_sd1, e_sd2, e_sp, n0, z_nk, z_nn, e_us])
    | (refine And.intro (fun hc => ?_) (fun hc => ?_) <;> try (exfalso; omega))
    | ((refine b_MaySheep (a := 3) (σ0 := e_s0 L xs) (by omega) (Bd.ob rfl) (fun τ1 hB1 => ?_)) <;> try dsimp only [Option.toList, List.cons_append, List.nil_append, Nat.reduceAdd])
  all_goals first | (exfalso; omega) | skip
  have n1 : τ1.1 = 161 := hB1.1
  refine gp_of (by rfl) ?_
  simp (disch := omega) only [e_wi, e_isr, e_isc, e_stp, e_rt, e_load, e_bin, e_binL, e_ld, e_s1, e_s2, e_n0, e_ok, e_cmp, e_ex, e_gif, e_id32, e_id64, e_v0, e_v1, e_v2, e_v3, e_dt, e_c1, e_sw, e_inv, e_cat, e_rcv, Fin.val_zero, Fin.val_one, Int.toNat_add, Int.toNat_mul, Int.toNat_natCast, Int.reduceToNat, Int.reduceMul, Int.reduceAdd, Int.reduceNeg, Nat.reduceAdd, Nat.reduceSub, Nat.reduceEqDiff, Nat.reduceLT, Nat.reduceLeDiff, List.getElem?_cons_zero, List.getElem?_cons_succ, List.length_cons, List.length_nil, List.take_succ_cons, List.take_zero, List.drop_succ_cons, List.drop_zero, List.reverse_cons, List.reverse_nil, List.nil_append, List.cons_append, List.append_nil, List.map_cons, List.map_nil, List.sum_cons, List.sum_nil, Bool.false_eq_true, if_false, if_true, Bool.and_true, Bool.true_and, Bool.and_self, Bool.or_true, Bool.true_or, Bool.or_false, Bool.false_or, Bool.or_self, decide_eq_true_eq, decide_true, decide_false, beq_self_eq_true, Option.map_some, reduceCtorEq, true_or, or_true, or_false, false_or, or_self, true_and, and_true, and_self, false_and, and_false, Option.some.injEq, exists_eq_left', ne_eq, not_true_eq_false, not_false_eq_true, eq_self, e_pk, e_pr, e_pn, e_ps, e_pd1, e_pd2, e_us, e_un, e_ifp, e_ifn, e_sk, e_sr, e_sn, e_ss, e_sd1, e_sd2, e_sp, n1, z_nk, z_nn, e_us]
  repeat' first
    | (refine gp_at [15] (by rfl) (by decide) ?_; simp (disch := omega) only [e_wi, e_isr, e_isc, e_stp, e_rt, e_load, e_bin, e_binL, e_ld, e_s1, e_s2, e_n0, e_ok, e_cmp, e_ex, e_gif, e_id32, e_id64, e_v0, e_v1, e_v2, e_v3, e_dt, e_c1, e_sw, e_inv, e_cat, e_rcv, Fin.val_zero, Fin.val_one, Int.toNat_add, Int.toNat_mul, Int.toNat_natCast, Int.reduceToNat, Int.reduceMul, Int.reduceAdd, Int.reduceNeg, Nat.reduceAdd, Nat.reduceSub, Nat.reduceEqDiff, Nat.reduceLT, Nat.reduceLeDiff, List.getElem?_cons_zero, List.getElem?_cons_succ, List.length_cons, List.length_nil, List.take_succ_cons, List.take_zero, List.drop_succ_cons, List.drop_zero, List.reverse_cons, List.reverse_nil, List.nil_append, List.cons_append, List.append_nil, List.map_cons, List.map_nil, List.sum_cons, List.sum_nil, Bool.false_eq_true, if_false, if_true, Bool.and_true, Bool.true_and, Bool.and_self, Bool.or_true, Bool.true_or, Bool.or_false, Bool.false_or, Bool.or_self, decide_eq_true_eq, decide_true, decide_false, beq_self_eq_true, Option.map_some, reduceCtorEq, true_or, or_true, or_false, false_or, or_self, true_and, and_true, and_self, false_and, and_false, Option.some.injEq, exists_eq_left', ne_eq, not_true_eq_false, not_false_eq_true, eq_self, e_pk, e_pr, e_pn, e_ps, e_pd1, e_pd2, e_us, e_un, e_ifp, e_ifn, e_sk, e_sr, e_sn, e_ss, e_sd1, e_sd2, e_sp, n1, z_nk, z_nn, e_us])
    | (refine And.intro (fun hc => ?_) (fun hc => ?_) <;> try (exfalso; omega))
    | ((refine b_Model (a := 161) (σ0 := τ1) (by omega) (Bd.ob n1) (fun τ2 hB2 => ?_)) <;> try dsimp only [Option.toList, List.cons_append, List.nil_append, Nat.reduceAdd])
  all_goals first | (exfalso; omega) | skip
  obtain ⟨hI, e1, e2⟩ := Iv.start hB1 hB2
  have ih := l_loop (k := k) hE hk hx hL (L + 1) 0 0 τ2 rfl (by omega) (by omega) hI.x (by omega) (by omega)
  refine gp_of (by rfl) ?_
  simp (disch := omega) only [e_wi, e_isr, e_isc, e_stp, e_rt, e_load, e_bin, e_binL, e_ld, e_s1, e_s2, e_n0, e_ok, e_cmp, e_ex, e_gif, e_id32, e_id64, e_v0, e_v1, e_v2, e_v3, e_dt, e_c1, e_sw, e_inv, e_cat, e_rcv, Fin.val_zero, Fin.val_one, Int.toNat_add, Int.toNat_mul, Int.toNat_natCast, Int.reduceToNat, Int.reduceMul, Int.reduceAdd, Int.reduceNeg, Nat.reduceAdd, Nat.reduceSub, Nat.reduceEqDiff, Nat.reduceLT, Nat.reduceLeDiff, List.getElem?_cons_zero, List.getElem?_cons_succ, List.length_cons, List.length_nil, List.take_succ_cons, List.take_zero, List.drop_succ_cons, List.drop_zero, List.reverse_cons, List.reverse_nil, List.nil_append, List.cons_append, List.append_nil, List.map_cons, List.map_nil, List.sum_cons, List.sum_nil, Bool.false_eq_true, if_false, if_true, Bool.and_true, Bool.true_and, Bool.and_self, Bool.or_true, Bool.true_or, Bool.or_false, Bool.false_or, Bool.or_self, decide_eq_true_eq, decide_true, decide_false, beq_self_eq_true, Option.map_some, reduceCtorEq, true_or, or_true, or_false, false_or, or_self, true_and, and_true, and_self, false_and, and_false, Option.some.injEq, exists_eq_left', ne_eq, not_true_eq_false, not_false_eq_true, eq_self, e_pk, e_pr, e_pn, e_ps, e_pd1, e_pd2, e_us, e_un, e_ifp, e_ifn, e_sk, e_sr, e_sn, e_ss, e_sd1, e_sd2, e_sp]
  repeat' first
    | (refine gp_at [18] (by rfl) (by decide) ?_; simp (disch := omega) only [e_wi, e_isr, e_isc, e_stp, e_rt, e_load, e_bin, e_binL, e_ld, e_s1, e_s2, e_n0, e_ok, e_cmp, e_ex, e_gif, e_id32, e_id64, e_v0, e_v1, e_v2, e_v3, e_dt, e_c1, e_sw, e_inv, e_cat, e_rcv, Fin.val_zero, Fin.val_one, Int.toNat_add, Int.toNat_mul, Int.toNat_natCast, Int.reduceToNat, Int.reduceMul, Int.reduceAdd, Int.reduceNeg, Nat.reduceAdd, Nat.reduceSub, Nat.reduceEqDiff, Nat.reduceLT, Nat.reduceLeDiff, List.getElem?_cons_zero, List.getElem?_cons_succ, List.length_cons, List.length_nil, List.take_succ_cons, List.take_zero, List.drop_succ_cons, List.drop_zero, List.reverse_cons, List.reverse_nil, List.nil_append, List.cons_append, List.append_nil, List.map_cons, List.map_nil, List.sum_cons, List.sum_nil, Bool.false_eq_true, if_false, if_true, Bool.and_true, Bool.true_and, Bool.and_self, Bool.or_true, Bool.true_or, Bool.or_false, Bool.false_or, Bool.or_self, decide_eq_true_eq, decide_true, decide_false, beq_self_eq_true, Option.map_some, reduceCtorEq, true_or, or_true, or_false, false_or, or_self, true_and, and_true, and_self, false_and, and_false, Option.some.injEq, exists_eq_left', ne_eq, not_true_eq_false, not_false_eq_true, eq_self, e_pk, e_pr, e_pn, e_ps, e_pd1, e_pd2, e_us, e_un, e_ifp, e_ifn, e_sk, e_sr, e_sn, e_ss, e_sd1, e_sd2, e_sp])
    | (refine And.intro (fun hc => ?_) (fun hc => ?_) <;> try (exfalso; omega))
  all_goals first | exact ih | (exfalso; omega) | skip
theorem e_law : ∀ (L : Nat) (xs : Nat → Int), L ≤ 3072 → (∀ j, -2147483648 ≤ xs j ∧ xs j < 2147483648) → ∃ (d f : Nat) (σ' : eH), d ≤ 1000 ∧ e_run (e_cal e_cs d f) e_kL f 0 (e_ent 4 [.inr (.inr 2)]) [] (e_s0 L xs) = some (some (.inl 1), σ') ∧ σ'.1 ≤ 600000 ∧ σ'.2.1 ≤ 7302250 := fun L xs hL hx => by
  obtain ⟨f0, r, σ', h1, h2, h3, h4⟩ := l_start (k := 61) (Q := fun (v : Option eV) (τ : eH) => v = some (.inl 1) ∧ τ.1 ≤ 600000 ∧ τ.2.1 ≤ 7302250) (fun τ a1 a2 => ⟨rfl, a1, a2⟩) (Nat.le_refl _) hx hL
  subst h2
  exact ⟨61, f0, σ', by omega, h1 61 f0 f0 (Nat.le_refl _) (Nat.le_refl _) (Nat.le_refl _), h3, h4⟩
