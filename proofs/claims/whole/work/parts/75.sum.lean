set_option maxRecDepth 8000 in
set_option maxHeartbeats 2000000 in
theorem c_sum_t {k : Nat} {u ρ wc sc len : Nat} {w : Nat → Int} {σ : eH} {Q : Option eV → eH → Prop}  (hk : 1 ≤ k) (hk0 : σ.2.2.1 ρ = (6, 1)) (hr0 : σ.2.2.2.2 ρ 0 = u + 2) (hku : σ.2.2.1 u = (20, len)) (hkw : σ.2.2.1 wc = (21, 12)) (hks : σ.2.2.1 sc = (21, 32)) (hne : sc ≠ wc ∧ sc ≠ u) (hlen : len ≤ 400) (hw : ∀ i, i < 12 → σ.2.2.2.1 wc i = w i) {bs : List Int} (hbs : bs.length ≤ 1) : ∀ (ts : List (Nat × Nat)) (b : Nat) (z : Int) (T U : List Bool) (st : List Int) (τ : eH) (x5 x6 : Option eV), Sn (fun d => d = sc) σ τ → c_tks (σ.2.2.2.1 u) b ts → b + ts.length ≤ len → z = (b : Int) → r_ty 31 ts T = some U → T.length ≤ 31 → r_vt T st → r_stk (τ.2.2.2.1 sc) (st ++ bs) → (∀ (τ : eH) (x5 x6 : Option eV), Sn (fun d => d = sc) σ τ → r_stk (τ.2.2.2.1 sc) (r_ev w ts st ++ bs) → e_Gp k e_k92 5 [some (.inr (.inr (ρ + 2))), some (.inr (.inr (wc + 2))), some (.inr (.inr (sc + 2))), some (.inl (((r_ev w ts st ++ bs).length : Nat) : Int)), some (.inl ((b + ts.length : Nat) : Int)), x5, x6] [] τ Q) → e_Gp k e_k92 5 [some (.inr (.inr (ρ + 2))), some (.inr (.inr (wc + 2))), some (.inr (.inr (sc + 2))), some (.inl (((st ++ bs).length : Nat) : Int)), some (.inl z), x5, x6] [] τ Q
  | [], b, z, T, U, st, τ, x5, x6, hs1, htk, hb, hz, hty, hT, hvt, hsk, hN => by
    subst hz
    exact hN τ x5 x6 hs1 hsk
  | (s, v) :: r, b, z, T, U, st, τ, x5, x6, hs1, htk, hb, hz, hty, hT, hvt, hsk, hN => by
    subst hz
    have k0 : τ.2.2.1 ρ = (6, 1) := by rw [hs1.2.2.1]; exact hk0
    have k1 : τ.2.2.1 u = (20, len) := by rw [hs1.2.2.1]; exact hku
    have k2 : τ.2.2.1 wc = (21, 12) := by rw [hs1.2.2.1]; exact hkw
    have k3 : τ.2.2.1 sc = (21, 32) := by rw [hs1.2.2.1]; exact hks
    have r0 : τ.2.2.2.2 ρ 0 = u + 2 := by rw [hs1.2.2.2.1]; exact hr0
    obtain ⟨hcd, hs15, hv, htk2⟩ := htk
    obtain ⟨T', ht1, hty2⟩ := r_ty_cons hty
    have hvt2 := r_t1_vt (w := w) hvt ht1
    have hl0 := r_vt_len hvt
    have hh := r_t1_len ht1
    have hT2 := r_t1_le ht1 hT
    rw [List.length_cons] at hb
    dsimp only at hcd hs15 hv hh hvt2
    have hcr := cc_rg hs15
    have hsu := hs1.at u (fun e => hne.2 e.symm)
    rw [← hsu] at hcd
    have hN : ∀ (τ : eH) (x5 x6 : Option eV), Sn (fun d => d = sc) σ τ → r_stk (τ.2.2.2.1 sc) (r_ev w r (r_tk w s v st) ++ bs) → e_Gp k e_k92 5 [some (.inr (.inr (ρ + 2))), some (.inr (.inr (wc + 2))), some (.inr (.inr (sc + 2))), some (.inl (((r_ev w r (r_tk w s v st) ++ bs).length : Nat) : Int)), some (.inl ((b + 1 + r.length : Nat) : Int)), x5, x6] [] τ Q := fun τ x5 x6 h1 h2 => by
      have := hN τ x5 x6 h1 h2
      rw [List.length_cons, show b + (r.length + 1) = b + 1 + r.length by omega] at this
      exact this
    have ih := fun z τ2 x5 x6 h1 hz h2 => c_sum_t hk hk0 hr0 hku hkw hks hne hlen hw hbs r (b + 1) z T' U (r_tk w s v st) τ2 x5 x6 h1 htk2 (by omega) hz hty2 hT2 hvt2 h2 hN
    have ec := c_c31 (s := cc s) (v := v) (by omega) hv
    have ed := c_c5 (s := cc s) (v := v) (by omega)
    have hca : (st ++ bs).length = st.length + bs.length := List.length_append
    rcases hh with ⟨h0, hl⟩ | ⟨h0, hl, hv12⟩ | ⟨h0, hl⟩ | ⟨h2, h14, h11, hl⟩
    · have e1 : r_tk w s v st = (v : Int) :: st := if_pos h0
      have e2 : cc s = 0 := if_pos h0
      rw [e1] at ih
      rw [e2] at ec ed hcd
      have hl1 : ((((v : Int) :: st ++ bs).length : Nat) : Int) = (((st ++ bs).length : Nat) : Int) + 1 := by
        rw [List.cons_append, List.length_cons]
        rfl
      rw [hl1] at ih
      have hsk2 : r_stk (va_up (τ.2.2.2.1 sc) (st ++ bs).length (v : Int)) ((v : Int) :: st ++ bs) := ⟨e_us _ _ _, r_stk_up (Nat.le_refl _) hsk⟩
      generalize (st ++ bs).length = nn at *
      refine gp_of (by rfl) ?_
      simp (disch := omega) only [e_wi, e_isr, e_isc, e_stp, e_rt, e_load, e_bin, e_binL, e_ld, e_s1, e_s2, e_n0, e_ok, e_cmp, e_ex, e_gif, e_id32, e_id64, e_v0, e_v1, e_v2, e_v3, e_dt, e_c1, e_sw, e_inv, e_cat, e_rcv, Fin.val_zero, Fin.val_one, Int.toNat_add, Int.toNat_mul, Int.toNat_natCast, Int.reduceToNat, Int.reduceMul, Int.reduceAdd, Int.reduceNeg, Nat.reduceAdd, Nat.reduceSub, Nat.reduceEqDiff, Nat.reduceLT, Nat.reduceLeDiff, List.getElem?_cons_zero, List.getElem?_cons_succ, List.length_cons, List.length_nil, List.take_succ_cons, List.take_zero, List.drop_succ_cons, List.drop_zero, List.reverse_cons, List.reverse_nil, List.nil_append, List.cons_append, List.append_nil, List.map_cons, List.map_nil, List.sum_cons, List.sum_nil, Bool.false_eq_true, if_false, if_true, Bool.and_true, Bool.true_and, Bool.and_self, Bool.or_true, Bool.true_or, Bool.or_false, Bool.false_or, Bool.or_self, decide_eq_true_eq, decide_true, decide_false, beq_self_eq_true, Option.map_some, reduceCtorEq, true_or, or_true, or_false, false_or, or_self, true_and, and_true, and_self, false_and, and_false, Option.some.injEq, exists_eq_left', ne_eq, not_true_eq_false, not_false_eq_true, eq_self, e_pk, e_pr, e_pn, e_ps, e_pd1, e_pd2, e_us, e_un, e_ifp, e_ifn, e_sk, e_sr, e_sn, e_ss, e_sd1, e_sd2, e_sp, k0, k1, k2, k3, r0, hcd, ec, ed]
      repeat' first
        | (refine gp_at [5] (by rfl) (by decide) ?_; simp (disch := omega) only [e_wi, e_isr, e_isc, e_stp, e_rt, e_load, e_bin, e_binL, e_ld, e_s1, e_s2, e_n0, e_ok, e_cmp, e_ex, e_gif, e_id32, e_id64, e_v0, e_v1, e_v2, e_v3, e_dt, e_c1, e_sw, e_inv, e_cat, e_rcv, Fin.val_zero, Fin.val_one, Int.toNat_add, Int.toNat_mul, Int.toNat_natCast, Int.reduceToNat, Int.reduceMul, Int.reduceAdd, Int.reduceNeg, Nat.reduceAdd, Nat.reduceSub, Nat.reduceEqDiff, Nat.reduceLT, Nat.reduceLeDiff, List.getElem?_cons_zero, List.getElem?_cons_succ, List.length_cons, List.length_nil, List.take_succ_cons, List.take_zero, List.drop_succ_cons, List.drop_zero, List.reverse_cons, List.reverse_nil, List.nil_append, List.cons_append, List.append_nil, List.map_cons, List.map_nil, List.sum_cons, List.sum_nil, Bool.false_eq_true, if_false, if_true, Bool.and_true, Bool.true_and, Bool.and_self, Bool.or_true, Bool.true_or, Bool.or_false, Bool.false_or, Bool.or_self, decide_eq_true_eq, decide_true, decide_false, beq_self_eq_true, Option.map_some, reduceCtorEq, true_or, or_true, or_false, false_or, or_self, true_and, and_true, and_self, false_and, and_false, Option.some.injEq, exists_eq_left', ne_eq, not_true_eq_false, not_false_eq_true, eq_self, e_pk, e_pr, e_pn, e_ps, e_pd1, e_pd2, e_us, e_un, e_ifp, e_ifn, e_sk, e_sr, e_sn, e_ss, e_sd1, e_sd2, e_sp, k0, k1, k2, k3, r0, hcd, ec, ed])
        | (refine And.intro (fun hc => ?_) (fun hc => ?_) <;> try (exfalso; omega))
      all_goals first
        | (exfalso; omega)
        | exact ih _ _ _ _ (hs1.put rfl) (by omega) (by rw [e_pd1]; exact hsk2)
    · have e1 : r_tk w s v st = w v :: st := by
        unfold r_tk
        rw [if_neg (by omega), if_pos h0]
      have e2 : cc s = 1 := by
        unfold cc
        rw [if_neg (by omega), if_pos h0]
      rw [e1] at ih
      rw [e2] at ec ed hcd
      have hwv : τ.2.2.2.1 wc v = w v := by rw [hs1.at wc (fun e => hne.1 e.symm)]; exact hw v hv12
      have hl1 : (((w v :: st ++ bs).length : Nat) : Int) = (((st ++ bs).length : Nat) : Int) + 1 := by
        rw [List.cons_append, List.length_cons]
        rfl
      rw [hl1] at ih
      have hsk2 : r_stk (va_up (τ.2.2.2.1 sc) (st ++ bs).length (w v)) (w v :: st ++ bs) := ⟨e_us _ _ _, r_stk_up (Nat.le_refl _) hsk⟩
      generalize (st ++ bs).length = nn at *
      refine gp_of (by rfl) ?_
      simp (disch := omega) only [e_wi, e_isr, e_isc, e_stp, e_rt, e_load, e_bin, e_binL, e_ld, e_s1, e_s2, e_n0, e_ok, e_cmp, e_ex, e_gif, e_id32, e_id64, e_v0, e_v1, e_v2, e_v3, e_dt, e_c1, e_sw, e_inv, e_cat, e_rcv, Fin.val_zero, Fin.val_one, Int.toNat_add, Int.toNat_mul, Int.toNat_natCast, Int.reduceToNat, Int.reduceMul, Int.reduceAdd, Int.reduceNeg, Nat.reduceAdd, Nat.reduceSub, Nat.reduceEqDiff, Nat.reduceLT, Nat.reduceLeDiff, List.getElem?_cons_zero, List.getElem?_cons_succ, List.length_cons, List.length_nil, List.take_succ_cons, List.take_zero, List.drop_succ_cons, List.drop_zero, List.reverse_cons, List.reverse_nil, List.nil_append, List.cons_append, List.append_nil, List.map_cons, List.map_nil, List.sum_cons, List.sum_nil, Bool.false_eq_true, if_false, if_true, Bool.and_true, Bool.true_and, Bool.and_self, Bool.or_true, Bool.true_or, Bool.or_false, Bool.false_or, Bool.or_self, decide_eq_true_eq, decide_true, decide_false, beq_self_eq_true, Option.map_some, reduceCtorEq, true_or, or_true, or_false, false_or, or_self, true_and, and_true, and_self, false_and, and_false, Option.some.injEq, exists_eq_left', ne_eq, not_true_eq_false, not_false_eq_true, eq_self, e_pk, e_pr, e_pn, e_ps, e_pd1, e_pd2, e_us, e_un, e_ifp, e_ifn, e_sk, e_sr, e_sn, e_ss, e_sd1, e_sd2, e_sp, k0, k1, k2, k3, r0, hcd, ec, ed, hwv]
      repeat' first
        | (refine gp_at [5] (by rfl) (by decide) ?_; simp (disch := omega) only [e_wi, e_isr, e_isc, e_stp, e_rt, e_load, e_bin, e_binL, e_ld, e_s1, e_s2, e_n0, e_ok, e_cmp, e_ex, e_gif, e_id32, e_id64, e_v0, e_v1, e_v2, e_v3, e_dt, e_c1, e_sw, e_inv, e_cat, e_rcv, Fin.val_zero, Fin.val_one, Int.toNat_add, Int.toNat_mul, Int.toNat_natCast, Int.reduceToNat, Int.reduceMul, Int.reduceAdd, Int.reduceNeg, Nat.reduceAdd, Nat.reduceSub, Nat.reduceEqDiff, Nat.reduceLT, Nat.reduceLeDiff, List.getElem?_cons_zero, List.getElem?_cons_succ, List.length_cons, List.length_nil, List.take_succ_cons, List.take_zero, List.drop_succ_cons, List.drop_zero, List.reverse_cons, List.reverse_nil, List.nil_append, List.cons_append, List.append_nil, List.map_cons, List.map_nil, List.sum_cons, List.sum_nil, Bool.false_eq_true, if_false, if_true, Bool.and_true, Bool.true_and, Bool.and_self, Bool.or_true, Bool.true_or, Bool.or_false, Bool.false_or, Bool.or_self, decide_eq_true_eq, decide_true, decide_false, beq_self_eq_true, Option.map_some, reduceCtorEq, true_or, or_true, or_false, false_or, or_self, true_and, and_true, and_self, false_and, and_false, Option.some.injEq, exists_eq_left', ne_eq, not_true_eq_false, not_false_eq_true, eq_self, e_pk, e_pr, e_pn, e_ps, e_pd1, e_pd2, e_us, e_un, e_ifp, e_ifn, e_sk, e_sr, e_sn, e_ss, e_sd1, e_sd2, e_sp, k0, k1, k2, k3, r0, hcd, ec, ed, hwv])
        | (refine And.intro (fun hc => ?_) (fun hc => ?_) <;> try (exfalso; omega))
      all_goals first
        | (exfalso; omega)
        | exact ih _ _ _ _ (hs1.put rfl) (by omega) (by rw [e_pd1]; exact hsk2)
    · cases st with
      | nil => simp at hl0; omega
      | cons x st =>
        have e1 : r_tk w s v (x :: st) = (1 - x) :: st := by
          unfold r_tk
          rw [if_neg (by omega), if_neg (by omega), if_pos h0]
        have e2 : cc s = 4 := by
          unfold cc
          rw [if_neg (by omega), if_neg (by omega), if_pos h0]
        rw [e1] at ih
        rw [e2] at ec ed hcd
        have hl1 : ((((1 - x) :: st ++ bs).length : Nat) : Int) = (((st ++ bs).length + 1 : Nat) : Int) := rfl
        have hl2 : (((x :: st ++ bs).length : Nat) : Int) = (((st ++ bs).length + 1 : Nat) : Int) := rfl
        have hl3 : (x :: st ++ bs).length = (st ++ bs).length + 1 := rfl
        rw [hl1] at ih
        rw [hl2]
        rw [hl3, List.length_cons] at hca
        rw [List.length_cons] at hl0
        have hx : τ.2.2.2.1 sc (st ++ bs).length = x := hsk.1
        have hsk2 : r_stk (va_up (τ.2.2.2.1 sc) (st ++ bs).length (1 - x)) ((1 - x) :: st ++ bs) := ⟨e_us _ _ _, r_stk_up (Nat.le_refl _) hsk.2⟩
        generalize (st ++ bs).length = nn at *
        have t1 : ((nn + 1 : Nat) : Int) - 1 = (nn : Int) := by omega
        refine gp_of (by rfl) ?_
        simp (disch := omega) only [e_wi, e_isr, e_isc, e_stp, e_rt, e_load, e_bin, e_binL, e_ld, e_s1, e_s2, e_n0, e_ok, e_cmp, e_ex, e_gif, e_id32, e_id64, e_v0, e_v1, e_v2, e_v3, e_dt, e_c1, e_sw, e_inv, e_cat, e_rcv, Fin.val_zero, Fin.val_one, Int.toNat_add, Int.toNat_mul, Int.toNat_natCast, Int.reduceToNat, Int.reduceMul, Int.reduceAdd, Int.reduceNeg, Nat.reduceAdd, Nat.reduceSub, Nat.reduceEqDiff, Nat.reduceLT, Nat.reduceLeDiff, List.getElem?_cons_zero, List.getElem?_cons_succ, List.length_cons, List.length_nil, List.take_succ_cons, List.take_zero, List.drop_succ_cons, List.drop_zero, List.reverse_cons, List.reverse_nil, List.nil_append, List.cons_append, List.append_nil, List.map_cons, List.map_nil, List.sum_cons, List.sum_nil, Bool.false_eq_true, if_false, if_true, Bool.and_true, Bool.true_and, Bool.and_self, Bool.or_true, Bool.true_or, Bool.or_false, Bool.false_or, Bool.or_self, decide_eq_true_eq, decide_true, decide_false, beq_self_eq_true, Option.map_some, reduceCtorEq, true_or, or_true, or_false, false_or, or_self, true_and, and_true, and_self, false_and, and_false, Option.some.injEq, exists_eq_left', ne_eq, not_true_eq_false, not_false_eq_true, eq_self, e_pk, e_pr, e_pn, e_ps, e_pd1, e_pd2, e_us, e_un, e_ifp, e_ifn, e_sk, e_sr, e_sn, e_ss, e_sd1, e_sd2, e_sp, k0, k1, k2, k3, r0, hcd, ec, ed, hx, t1]
        repeat' first
          | (refine gp_at [5] (by rfl) (by decide) ?_; simp (disch := omega) only [e_wi, e_isr, e_isc, e_stp, e_rt, e_load, e_bin, e_binL, e_ld, e_s1, e_s2, e_n0, e_ok, e_cmp, e_ex, e_gif, e_id32, e_id64, e_v0, e_v1, e_v2, e_v3, e_dt, e_c1, e_sw, e_inv, e_cat, e_rcv, Fin.val_zero, Fin.val_one, Int.toNat_add, Int.toNat_mul, Int.toNat_natCast, Int.reduceToNat, Int.reduceMul, Int.reduceAdd, Int.reduceNeg, Nat.reduceAdd, Nat.reduceSub, Nat.reduceEqDiff, Nat.reduceLT, Nat.reduceLeDiff, List.getElem?_cons_zero, List.getElem?_cons_succ, List.length_cons, List.length_nil, List.take_succ_cons, List.take_zero, List.drop_succ_cons, List.drop_zero, List.reverse_cons, List.reverse_nil, List.nil_append, List.cons_append, List.append_nil, List.map_cons, List.map_nil, List.sum_cons, List.sum_nil, Bool.false_eq_true, if_false, if_true, Bool.and_true, Bool.true_and, Bool.and_self, Bool.or_true, Bool.true_or, Bool.or_false, Bool.false_or, Bool.or_self, decide_eq_true_eq, decide_true, decide_false, beq_self_eq_true, Option.map_some, reduceCtorEq, true_or, or_true, or_false, false_or, or_self, true_and, and_true, and_self, false_and, and_false, Option.some.injEq, exists_eq_left', ne_eq, not_true_eq_false, not_false_eq_true, eq_self, e_pk, e_pr, e_pn, e_ps, e_pd1, e_pd2, e_us, e_un, e_ifp, e_ifn, e_sk, e_sr, e_sn, e_ss, e_sd1, e_sd2, e_sp, k0, k1, k2, k3, r0, hcd, ec, ed, hx, t1])
          | (refine And.intro (fun hc => ?_) (fun hc => ?_) <;> try (exfalso; omega))
          | ((refine c_waiting (by omega) (by omega) ?_; rw [if_pos (by omega)]); dsimp only [Option.toList, List.cons_append, List.nil_append, Nat.reduceAdd])
        all_goals first
          | (exfalso; omega)
          | exact ih _ _ _ _ (hs1.put rfl) (by omega) (by rw [e_pd1]; exact hsk2)
    · have hc5 := hcr.2 h2 h11
      have hcn : cc s ≠ 2 ∧ cc s ≠ 4 ∧ cc s ≠ 3 ∧ cc s ≠ 0 ∧ cc s ≠ 1 := by omega
      cases st with
      | nil => simp at hl0; omega
      | cons y st =>
        cases st with
        | nil => simp at hl0; omega
        | cons x st =>
          have e1 : r_tk w s v (y :: x :: st) = r_op s x y :: st := by
            unfold r_tk
            rw [if_neg (by omega), if_neg (by omega), if_neg (by omega)]
          rw [e1] at ih
          have hl1 : (((r_op s x y :: st ++ bs).length : Nat) : Int) = (((st ++ bs).length + 1 : Nat) : Int) := rfl
          have hl2 : (((y :: x :: st ++ bs).length : Nat) : Int) = (((st ++ bs).length + 2 : Nat) : Int) := rfl
          have hl3 : (y :: x :: st ++ bs).length = (st ++ bs).length + 2 := rfl
          rw [hl1] at ih
          rw [hl2]
          rw [hl3, List.length_cons, List.length_cons] at hca
          rw [List.length_cons, List.length_cons] at hl0
          have hy : τ.2.2.2.1 sc ((st ++ bs).length + 1) = y := hsk.1
          have hx : τ.2.2.2.1 sc (st ++ bs).length = x := hsk.2.1
          have hsk2 : r_stk (va_up (τ.2.2.2.1 sc) (st ++ bs).length (r_op s x y)) (r_op s x y :: st ++ bs) := ⟨e_us _ _ _, r_stk_up (Nat.le_refl _) hsk.2.2⟩
          generalize (st ++ bs).length = nn at *
          have t2 : ((nn + 2 : Nat) : Int) - 2 = (nn : Int) := by omega
          have t1 : ((nn + 2 : Nat) : Int) - 1 = ((nn + 1 : Nat) : Int) := by omega
          have t3 : ((nn + 2 : Nat) : Int) + -1 = ((nn + 1 : Nat) : Int) := by omega
          refine gp_of (by rfl) ?_
          simp (disch := omega) only [e_wi, e_isr, e_isc, e_stp, e_rt, e_load, e_bin, e_binL, e_ld, e_s1, e_s2, e_n0, e_ok, e_cmp, e_ex, e_gif, e_id32, e_id64, e_v0, e_v1, e_v2, e_v3, e_dt, e_c1, e_sw, e_inv, e_cat, e_rcv, Fin.val_zero, Fin.val_one, Int.toNat_add, Int.toNat_mul, Int.toNat_natCast, Int.reduceToNat, Int.reduceMul, Int.reduceAdd, Int.reduceNeg, Nat.reduceAdd, Nat.reduceSub, Nat.reduceEqDiff, Nat.reduceLT, Nat.reduceLeDiff, List.getElem?_cons_zero, List.getElem?_cons_succ, List.length_cons, List.length_nil, List.take_succ_cons, List.take_zero, List.drop_succ_cons, List.drop_zero, List.reverse_cons, List.reverse_nil, List.nil_append, List.cons_append, List.append_nil, List.map_cons, List.map_nil, List.sum_cons, List.sum_nil, Bool.false_eq_true, if_false, if_true, Bool.and_true, Bool.true_and, Bool.and_self, Bool.or_true, Bool.true_or, Bool.or_false, Bool.false_or, Bool.or_self, decide_eq_true_eq, decide_true, decide_false, beq_self_eq_true, Option.map_some, reduceCtorEq, true_or, or_true, or_false, false_or, or_self, true_and, and_true, and_self, false_and, and_false, Option.some.injEq, exists_eq_left', ne_eq, not_true_eq_false, not_false_eq_true, eq_self, e_pk, e_pr, e_pn, e_ps, e_pd1, e_pd2, e_us, e_un, e_ifp, e_ifn, e_sk, e_sr, e_sn, e_ss, e_sd1, e_sd2, e_sp, k0, k1, k2, k3, r0, hcd, ec, ed, hx, hy, t1, t2, t3]
          repeat' first
            | (refine gp_at [5] (by rfl) (by decide) ?_; simp (disch := omega) only [e_wi, e_isr, e_isc, e_stp, e_rt, e_load, e_bin, e_binL, e_ld, e_s1, e_s2, e_n0, e_ok, e_cmp, e_ex, e_gif, e_id32, e_id64, e_v0, e_v1, e_v2, e_v3, e_dt, e_c1, e_sw, e_inv, e_cat, e_rcv, Fin.val_zero, Fin.val_one, Int.toNat_add, Int.toNat_mul, Int.toNat_natCast, Int.reduceToNat, Int.reduceMul, Int.reduceAdd, Int.reduceNeg, Nat.reduceAdd, Nat.reduceSub, Nat.reduceEqDiff, Nat.reduceLT, Nat.reduceLeDiff, List.getElem?_cons_zero, List.getElem?_cons_succ, List.length_cons, List.length_nil, List.take_succ_cons, List.take_zero, List.drop_succ_cons, List.drop_zero, List.reverse_cons, List.reverse_nil, List.nil_append, List.cons_append, List.append_nil, List.map_cons, List.map_nil, List.sum_cons, List.sum_nil, Bool.false_eq_true, if_false, if_true, Bool.and_true, Bool.true_and, Bool.and_self, Bool.or_true, Bool.true_or, Bool.or_false, Bool.false_or, Bool.or_self, decide_eq_true_eq, decide_true, decide_false, beq_self_eq_true, Option.map_some, reduceCtorEq, true_or, or_true, or_false, false_or, or_self, true_and, and_true, and_self, false_and, and_false, Option.some.injEq, exists_eq_left', ne_eq, not_true_eq_false, not_false_eq_true, eq_self, e_pk, e_pr, e_pn, e_ps, e_pd1, e_pd2, e_us, e_un, e_ifp, e_ifn, e_sk, e_sr, e_sn, e_ss, e_sd1, e_sd2, e_sp, k0, k1, k2, k3, r0, hcd, ec, ed, hx, hy, t1, t2, t3])
            | (refine And.intro (fun hc => ?_) (fun hc => ?_) <;> try (exfalso; omega))
            | ((refine c_waiting (by omega) (by omega) ?_; rw [if_neg (by omega)]); dsimp only [Option.toList, List.cons_append, List.nil_append, Nat.reduceAdd])
            | (refine c_joined (by omega) h2 h14 h11 ?_; dsimp only [Option.toList, List.cons_append, List.nil_append, Nat.reduceAdd])
          all_goals first
            | (exfalso; omega)
            | exact ih _ _ _ _ (hs1.put rfl) (by omega) (by rw [e_pd1]; exact hsk2)
/-- a rule's steps in the class -/
def c_cls (f : Nat → Int) : Nat → rRule → Prop
  | _, [] => True
  | p, (A, none) :: R => c_tks f p A ∧ f (p + A.length) = 2 ∧ c_cls f (p + A.length + 1) R
  | p, (A, some B) :: R => c_tks f p A ∧ c_tks f (p + A.length) B ∧ f (p + A.length + B.length) = 3 ∧ c_cls f (p + A.length + B.length + 1) R
/-- how many steps a rule has in the class -/
def c_len : rRule → Nat
  | [] => 0
  | (A, none) :: R => A.length + 1 + c_len R
  | (A, some B) :: R => A.length + B.length + 1 + c_len R
theorem r_hd {U : List Bool} {st : List Int} {b : Bool} (h : r_vt U st) (e : U = [b]) : ∃ x, st = [x] ∧ (b = true → x = 0 ∨ x = 1) := by
  subst e
  match st, h with
  | [x], h => exact ⟨x, rfl, h.1⟩
set_option maxRecDepth 8000 in
set_option maxHeartbeats 2000000 in
theorem c_sum_l {k : Nat} {u ρ wc sc len : Nat} {w : Nat → Int} {σ : eH} {Q : Option eV → eH → Prop}  (hk : 1 ≤ k) (hk0 : σ.2.2.1 ρ = (6, 1)) (hr0 : σ.2.2.2.2 ρ 0 = u + 2) (hku : σ.2.2.1 u = (20, len)) (hkw : σ.2.2.1 wc = (21, 12)) (hks : σ.2.2.1 sc = (21, 32)) (hne : sc ≠ wc ∧ sc ≠ u) (hlen : len ≤ 400) (hw : ∀ i, i < 12 → σ.2.2.2.1 wc i = w i) {X : Int} (hQ : ∀ τ, Sn (fun d => d = sc) σ τ → Q (some (.inr (.inl X))) τ) : ∀ (R : rRule) (p : Nat) (z : Int) (τ : eH) (x5 x6 : Option eV), Sn (fun d => d = sc) σ τ → c_cls (σ.2.2.2.1 u) p R → r_rok R → z = (p : Int) → p + c_len R = len → X = r_sum w R → e_Gp k e_k92 5 [some (.inr (.inr (ρ + 2))), some (.inr (.inr (wc + 2))), some (.inr (.inr (sc + 2))), some (.inl 0), some (.inl z), x5, x6] [] τ Q
  | [], p, z, τ, x5, x6, hs1, hcl, hro, hz, hp, hX => by
    subst hz
    have hp : p = len := hp
    have hX : X = 0 := hX
    rw [hX] at hQ
    have k0 : τ.2.2.1 ρ = (6, 1) := by rw [hs1.2.2.1]; exact hk0
    have k1 : τ.2.2.1 u = (20, len) := by rw [hs1.2.2.1]; exact hku
    have k2 : τ.2.2.1 wc = (21, 12) := by rw [hs1.2.2.1]; exact hkw
    have k3 : τ.2.2.1 sc = (21, 32) := by rw [hs1.2.2.1]; exact hks
    have r0 : τ.2.2.2.2 ρ 0 = u + 2 := by rw [hs1.2.2.2.1]; exact hr0
    refine gp_of (by rfl) ?_
    simp (disch := omega) only [e_wi, e_isr, e_isc, e_stp, e_rt, e_load, e_bin, e_binL, e_ld, e_s1, e_s2, e_n0, e_ok, e_cmp, e_ex, e_gif, e_id32, e_id64, e_v0, e_v1, e_v2, e_v3, e_dt, e_c1, e_sw, e_inv, e_cat, e_rcv, Fin.val_zero, Fin.val_one, Int.toNat_add, Int.toNat_mul, Int.toNat_natCast, Int.reduceToNat, Int.reduceMul, Int.reduceAdd, Int.reduceNeg, Nat.reduceAdd, Nat.reduceSub, Nat.reduceEqDiff, Nat.reduceLT, Nat.reduceLeDiff, List.getElem?_cons_zero, List.getElem?_cons_succ, List.length_cons, List.length_nil, List.take_succ_cons, List.take_zero, List.drop_succ_cons, List.drop_zero, List.reverse_cons, List.reverse_nil, List.nil_append, List.cons_append, List.append_nil, List.map_cons, List.map_nil, List.sum_cons, List.sum_nil, Bool.false_eq_true, if_false, if_true, Bool.and_true, Bool.true_and, Bool.and_self, Bool.or_true, Bool.true_or, Bool.or_false, Bool.false_or, Bool.or_self, decide_eq_true_eq, decide_true, decide_false, beq_self_eq_true, Option.map_some, reduceCtorEq, true_or, or_true, or_false, false_or, or_self, true_and, and_true, and_self, false_and, and_false, Option.some.injEq, exists_eq_left', ne_eq, not_true_eq_false, not_false_eq_true, eq_self, e_pk, e_pr, e_pn, e_ps, e_pd1, e_pd2, e_us, e_un, e_ifp, e_ifn, e_sk, e_sr, e_sn, e_ss, e_sd1, e_sd2, e_sp, k0, k1, k2, k3, r0]
    repeat' first
      | (refine gp_at [5] (by rfl) (by decide) ?_; simp (disch := omega) only [e_wi, e_isr, e_isc, e_stp, e_rt, e_load, e_bin, e_binL, e_ld, e_s1, e_s2, e_n0, e_ok, e_cmp, e_ex, e_gif, e_id32, e_id64, e_v0, e_v1, e_v2, e_v3, e_dt, e_c1, e_sw, e_inv, e_cat, e_rcv, Fin.val_zero, Fin.val_one, Int.toNat_add, Int.toNat_mul, Int.toNat_natCast, Int.reduceToNat, Int.reduceMul, Int.reduceAdd, Int.reduceNeg, Nat.reduceAdd, Nat.reduceSub, Nat.reduceEqDiff, Nat.reduceLT, Nat.reduceLeDiff, List.getElem?_cons_zero, List.getElem?_cons_succ, List.length_cons, List.length_nil, List.take_succ_cons, List.take_zero, List.drop_succ_cons, List.drop_zero, List.reverse_cons, List.reverse_nil, List.nil_append, List.cons_append, List.append_nil, List.map_cons, List.map_nil, List.sum_cons, List.sum_nil, Bool.false_eq_true, if_false, if_true, Bool.and_true, Bool.true_and, Bool.and_self, Bool.or_true, Bool.true_or, Bool.or_false, Bool.false_or, Bool.or_self, decide_eq_true_eq, decide_true, decide_false, beq_self_eq_true, Option.map_some, reduceCtorEq, true_or, or_true, or_false, false_or, or_self, true_and, and_true, and_self, false_and, and_false, Option.some.injEq, exists_eq_left', ne_eq, not_true_eq_false, not_false_eq_true, eq_self, e_pk, e_pr, e_pn, e_ps, e_pd1, e_pd2, e_us, e_un, e_ifp, e_ifn, e_sk, e_sr, e_sn, e_ss, e_sd1, e_sd2, e_sp, k0, k1, k2, k3, r0])
      | (refine And.intro (fun hc => ?_) (fun hc => ?_) <;> try (exfalso; omega))
    all_goals first | exact hQ τ hs1 | (exfalso; omega)
  | (A, none) :: R, p, z, τ, x5, x6, hs1, hcl, hro, hz, hp, hX => by
    subst hz
    have hp : p + (A.length + 1 + c_len R) = len := hp
    have hX : X = (r_ev w A []).headD 0 := hX
    obtain ⟨g1, g2, g3⟩ := hcl
    refine c_sum_t hk hk0 hr0 hku hkw hks hne hlen hw (bs := []) (by simp) A p _ [] [false] [] τ x5 x6 hs1 g1 (by omega) rfl hro.1 (by simp) trivial trivial ?_
    intro τ x5 x6 hs1 hsk
    have k0 : τ.2.2.1 ρ = (6, 1) := by rw [hs1.2.2.1]; exact hk0
    have k1 : τ.2.2.1 u = (20, len) := by rw [hs1.2.2.1]; exact hku
    have k2 : τ.2.2.1 wc = (21, 12) := by rw [hs1.2.2.1]; exact hkw
    have k3 : τ.2.2.1 sc = (21, 32) := by rw [hs1.2.2.1]; exact hks
    have r0 : τ.2.2.2.2 ρ 0 = u + 2 := by rw [hs1.2.2.2.1]; exact hr0
    obtain ⟨x, hx, _⟩ := r_hd (r_ev_vt (w := w) A (T := []) (st := []) trivial hro.1) rfl
    rw [hx] at hsk hX ⊢
    have hX : X = x := hX
    have hx0 : τ.2.2.2.1 sc 0 = x := hsk.1
    subst hX
    have hg : τ.2.2.2.1 u (p + A.length) = 2 := by rw [hs1.at u (fun e => hne.2 e.symm)]; exact g2
    have ec : (Int32.ofInt 2 &&& Int32.ofInt 31).toInt = 2 := by decide
    have ed : (2 : Int) / 2 ^ 5 = 0 := by decide
    change e_Gp k e_k92 5 [some (.inr (.inr (ρ + 2))), some (.inr (.inr (wc + 2))), some (.inr (.inr (sc + 2))), some (.inl 1), some (.inl ((p + A.length : Nat) : Int)), x5, x6] [] τ Q
    refine gp_of (by rfl) ?_
    simp (disch := omega) only [e_wi, e_isr, e_isc, e_stp, e_rt, e_load, e_bin, e_binL, e_ld, e_s1, e_s2, e_n0, e_ok, e_cmp, e_ex, e_gif, e_id32, e_id64, e_v0, e_v1, e_v2, e_v3, e_dt, e_c1, e_sw, e_inv, e_cat, e_rcv, Fin.val_zero, Fin.val_one, Int.toNat_add, Int.toNat_mul, Int.toNat_natCast, Int.reduceToNat, Int.reduceMul, Int.reduceAdd, Int.reduceNeg, Nat.reduceAdd, Nat.reduceSub, Nat.reduceEqDiff, Nat.reduceLT, Nat.reduceLeDiff, List.getElem?_cons_zero, List.getElem?_cons_succ, List.length_cons, List.length_nil, List.take_succ_cons, List.take_zero, List.drop_succ_cons, List.drop_zero, List.reverse_cons, List.reverse_nil, List.nil_append, List.cons_append, List.append_nil, List.map_cons, List.map_nil, List.sum_cons, List.sum_nil, Bool.false_eq_true, if_false, if_true, Bool.and_true, Bool.true_and, Bool.and_self, Bool.or_true, Bool.true_or, Bool.or_false, Bool.false_or, Bool.or_self, decide_eq_true_eq, decide_true, decide_false, beq_self_eq_true, Option.map_some, reduceCtorEq, true_or, or_true, or_false, false_or, or_self, true_and, and_true, and_self, false_and, and_false, Option.some.injEq, exists_eq_left', ne_eq, not_true_eq_false, not_false_eq_true, eq_self, e_pk, e_pr, e_pn, e_ps, e_pd1, e_pd2, e_us, e_un, e_ifp, e_ifn, e_sk, e_sr, e_sn, e_ss, e_sd1, e_sd2, e_sp, k0, k1, k2, k3, r0, hg, ec, ed, hx0, Int.reduceSub]
    repeat' first
      | (refine gp_at [5] (by rfl) (by decide) ?_; simp (disch := omega) only [e_wi, e_isr, e_isc, e_stp, e_rt, e_load, e_bin, e_binL, e_ld, e_s1, e_s2, e_n0, e_ok, e_cmp, e_ex, e_gif, e_id32, e_id64, e_v0, e_v1, e_v2, e_v3, e_dt, e_c1, e_sw, e_inv, e_cat, e_rcv, Fin.val_zero, Fin.val_one, Int.toNat_add, Int.toNat_mul, Int.toNat_natCast, Int.reduceToNat, Int.reduceMul, Int.reduceAdd, Int.reduceNeg, Nat.reduceAdd, Nat.reduceSub, Nat.reduceEqDiff, Nat.reduceLT, Nat.reduceLeDiff, List.getElem?_cons_zero, List.getElem?_cons_succ, List.length_cons, List.length_nil, List.take_succ_cons, List.take_zero, List.drop_succ_cons, List.drop_zero, List.reverse_cons, List.reverse_nil, List.nil_append, List.cons_append, List.append_nil, List.map_cons, List.map_nil, List.sum_cons, List.sum_nil, Bool.false_eq_true, if_false, if_true, Bool.and_true, Bool.true_and, Bool.and_self, Bool.or_true, Bool.true_or, Bool.or_false, Bool.false_or, Bool.or_self, decide_eq_true_eq, decide_true, decide_false, beq_self_eq_true, Option.map_some, reduceCtorEq, true_or, or_true, or_false, false_or, or_self, true_and, and_true, and_self, false_and, and_false, Option.some.injEq, exists_eq_left', ne_eq, not_true_eq_false, not_false_eq_true, eq_self, e_pk, e_pr, e_pn, e_ps, e_pd1, e_pd2, e_us, e_un, e_ifp, e_ifn, e_sk, e_sr, e_sn, e_ss, e_sd1, e_sd2, e_sp, k0, k1, k2, k3, r0, hg, ec, ed, hx0, Int.reduceSub])
      | (refine And.intro (fun hc => ?_) (fun hc => ?_) <;> try (exfalso; omega))
      | ((refine c_waiting (s := 2) (by omega) (by omega) ?_; rw [if_pos (by omega)]); dsimp only [Option.toList, List.cons_append, List.nil_append, Nat.reduceAdd])
    all_goals first | exact hQ τ hs1 | (exfalso; omega)
  | (A, some B) :: R, p, z, τ, x5, x6, hs1, hcl, hro, hz, hp, hX => by
    subst hz
    have hp : p + (A.length + B.length + 1 + c_len R) = len := hp
    have hX : X = if (r_ev w B []).headD 0 = 1 then (r_ev w A []).headD 0 else r_sum w R := hX
    obtain ⟨g1, g2, g3, g4⟩ := hcl
    refine c_sum_t hk hk0 hr0 hku hkw hks hne hlen hw (bs := []) (by simp) A p _ [] [false] [] τ x5 x6 hs1 g1 (by omega) rfl hro.1 (by simp) trivial trivial ?_
    intro τ x5 x6 hs1 hsk
    obtain ⟨x, hx, _⟩ := r_hd (r_ev_vt (w := w) A (T := []) (st := []) trivial hro.1) rfl
    rw [hx] at hsk hX ⊢
    refine c_sum_t hk hk0 hr0 hku hkw hks hne hlen hw (bs := [x]) (by simp) B (p + A.length) _ [] [true] [] τ x5 x6 hs1 g2 (by omega) rfl hro.2.1 (by simp) trivial hsk ?_
    intro τ x5 x6 hs1 hsk
    obtain ⟨y, hy, hy1⟩ := r_hd (r_ev_vt (w := w) B (T := []) (st := []) trivial hro.2.1) rfl
    have hy1 := hy1 rfl
    rw [hy] at hsk hX ⊢
    have hX : X = if y = 1 then x else r_sum w R := hX
    have hy0 : τ.2.2.2.1 sc 1 = y := hsk.1
    have hx0 : τ.2.2.2.1 sc 0 = x := hsk.2.1
    have k0 : τ.2.2.1 ρ = (6, 1) := by rw [hs1.2.2.1]; exact hk0
    have k1 : τ.2.2.1 u = (20, len) := by rw [hs1.2.2.1]; exact hku
    have k2 : τ.2.2.1 wc = (21, 12) := by rw [hs1.2.2.1]; exact hkw
    have k3 : τ.2.2.1 sc = (21, 32) := by rw [hs1.2.2.1]; exact hks
    have r0 : τ.2.2.2.2 ρ 0 = u + 2 := by rw [hs1.2.2.2.1]; exact hr0
    have hg : τ.2.2.2.1 u (p + A.length + B.length) = 3 := by rw [hs1.at u (fun e => hne.2 e.symm)]; exact g3
    have ec : (Int32.ofInt 3 &&& Int32.ofInt 31).toInt = 3 := by decide
    have ed : (3 : Int) / 2 ^ 5 = 0 := by decide
    change e_Gp k e_k92 5 [some (.inr (.inr (ρ + 2))), some (.inr (.inr (wc + 2))), some (.inr (.inr (sc + 2))), some (.inl 2), some (.inl ((p + A.length + B.length : Nat) : Int)), x5, x6] [] τ Q
    rcases hy1 with rfl | rfl
    · rw [if_neg (by decide)] at hX
      have ih := fun x5 x6 => c_sum_l hk hk0 hr0 hku hkw hks hne hlen hw hQ R (p + A.length + B.length + 1) (((p + A.length + B.length : Nat) : Int) + 1) τ x5 x6 hs1 g4 hro.2.2 (by omega) (by omega) hX
      refine gp_of (by rfl) ?_
      simp (disch := omega) only [e_wi, e_isr, e_isc, e_stp, e_rt, e_load, e_bin, e_binL, e_ld, e_s1, e_s2, e_n0, e_ok, e_cmp, e_ex, e_gif, e_id32, e_id64, e_v0, e_v1, e_v2, e_v3, e_dt, e_c1, e_sw, e_inv, e_cat, e_rcv, Fin.val_zero, Fin.val_one, Int.toNat_add, Int.toNat_mul, Int.toNat_natCast, Int.reduceToNat, Int.reduceMul, Int.reduceAdd, Int.reduceNeg, Nat.reduceAdd, Nat.reduceSub, Nat.reduceEqDiff, Nat.reduceLT, Nat.reduceLeDiff, List.getElem?_cons_zero, List.getElem?_cons_succ, List.length_cons, List.length_nil, List.take_succ_cons, List.take_zero, List.drop_succ_cons, List.drop_zero, List.reverse_cons, List.reverse_nil, List.nil_append, List.cons_append, List.append_nil, List.map_cons, List.map_nil, List.sum_cons, List.sum_nil, Bool.false_eq_true, if_false, if_true, Bool.and_true, Bool.true_and, Bool.and_self, Bool.or_true, Bool.true_or, Bool.or_false, Bool.false_or, Bool.or_self, decide_eq_true_eq, decide_true, decide_false, beq_self_eq_true, Option.map_some, reduceCtorEq, true_or, or_true, or_false, false_or, or_self, true_and, and_true, and_self, false_and, and_false, Option.some.injEq, exists_eq_left', ne_eq, not_true_eq_false, not_false_eq_true, eq_self, e_pk, e_pr, e_pn, e_ps, e_pd1, e_pd2, e_us, e_un, e_ifp, e_ifn, e_sk, e_sr, e_sn, e_ss, e_sd1, e_sd2, e_sp, k0, k1, k2, k3, r0, hg, ec, ed, hx0, hy0, Int.reduceSub]
      repeat' first
        | (refine gp_at [5] (by rfl) (by decide) ?_; simp (disch := omega) only [e_wi, e_isr, e_isc, e_stp, e_rt, e_load, e_bin, e_binL, e_ld, e_s1, e_s2, e_n0, e_ok, e_cmp, e_ex, e_gif, e_id32, e_id64, e_v0, e_v1, e_v2, e_v3, e_dt, e_c1, e_sw, e_inv, e_cat, e_rcv, Fin.val_zero, Fin.val_one, Int.toNat_add, Int.toNat_mul, Int.toNat_natCast, Int.reduceToNat, Int.reduceMul, Int.reduceAdd, Int.reduceNeg, Nat.reduceAdd, Nat.reduceSub, Nat.reduceEqDiff, Nat.reduceLT, Nat.reduceLeDiff, List.getElem?_cons_zero, List.getElem?_cons_succ, List.length_cons, List.length_nil, List.take_succ_cons, List.take_zero, List.drop_succ_cons, List.drop_zero, List.reverse_cons, List.reverse_nil, List.nil_append, List.cons_append, List.append_nil, List.map_cons, List.map_nil, List.sum_cons, List.sum_nil, Bool.false_eq_true, if_false, if_true, Bool.and_true, Bool.true_and, Bool.and_self, Bool.or_true, Bool.true_or, Bool.or_false, Bool.false_or, Bool.or_self, decide_eq_true_eq, decide_true, decide_false, beq_self_eq_true, Option.map_some, reduceCtorEq, true_or, or_true, or_false, false_or, or_self, true_and, and_true, and_self, false_and, and_false, Option.some.injEq, exists_eq_left', ne_eq, not_true_eq_false, not_false_eq_true, eq_self, e_pk, e_pr, e_pn, e_ps, e_pd1, e_pd2, e_us, e_un, e_ifp, e_ifn, e_sk, e_sr, e_sn, e_ss, e_sd1, e_sd2, e_sp, k0, k1, k2, k3, r0, hg, ec, ed, hx0, hy0, Int.reduceSub])
        | (refine And.intro (fun hc => ?_) (fun hc => ?_) <;> try (exfalso; omega))
        | ((refine c_waiting (s := 3) (by omega) (by omega) ?_; rw [if_neg (by omega)]); dsimp only [Option.toList, List.cons_append, List.nil_append, Nat.reduceAdd])
      all_goals first | exact ih _ _ | (exfalso; omega)
    · rw [if_pos rfl] at hX
      subst hX
      refine gp_of (by rfl) ?_
      simp (disch := omega) only [e_wi, e_isr, e_isc, e_stp, e_rt, e_load, e_bin, e_binL, e_ld, e_s1, e_s2, e_n0, e_ok, e_cmp, e_ex, e_gif, e_id32, e_id64, e_v0, e_v1, e_v2, e_v3, e_dt, e_c1, e_sw, e_inv, e_cat, e_rcv, Fin.val_zero, Fin.val_one, Int.toNat_add, Int.toNat_mul, Int.toNat_natCast, Int.reduceToNat, Int.reduceMul, Int.reduceAdd, Int.reduceNeg, Nat.reduceAdd, Nat.reduceSub, Nat.reduceEqDiff, Nat.reduceLT, Nat.reduceLeDiff, List.getElem?_cons_zero, List.getElem?_cons_succ, List.length_cons, List.length_nil, List.take_succ_cons, List.take_zero, List.drop_succ_cons, List.drop_zero, List.reverse_cons, List.reverse_nil, List.nil_append, List.cons_append, List.append_nil, List.map_cons, List.map_nil, List.sum_cons, List.sum_nil, Bool.false_eq_true, if_false, if_true, Bool.and_true, Bool.true_and, Bool.and_self, Bool.or_true, Bool.true_or, Bool.or_false, Bool.false_or, Bool.or_self, decide_eq_true_eq, decide_true, decide_false, beq_self_eq_true, Option.map_some, reduceCtorEq, true_or, or_true, or_false, false_or, or_self, true_and, and_true, and_self, false_and, and_false, Option.some.injEq, exists_eq_left', ne_eq, not_true_eq_false, not_false_eq_true, eq_self, e_pk, e_pr, e_pn, e_ps, e_pd1, e_pd2, e_us, e_un, e_ifp, e_ifn, e_sk, e_sr, e_sn, e_ss, e_sd1, e_sd2, e_sp, k0, k1, k2, k3, r0, hg, ec, ed, hx0, hy0, Int.reduceSub]
      repeat' first
        | (refine gp_at [5] (by rfl) (by decide) ?_; simp (disch := omega) only [e_wi, e_isr, e_isc, e_stp, e_rt, e_load, e_bin, e_binL, e_ld, e_s1, e_s2, e_n0, e_ok, e_cmp, e_ex, e_gif, e_id32, e_id64, e_v0, e_v1, e_v2, e_v3, e_dt, e_c1, e_sw, e_inv, e_cat, e_rcv, Fin.val_zero, Fin.val_one, Int.toNat_add, Int.toNat_mul, Int.toNat_natCast, Int.reduceToNat, Int.reduceMul, Int.reduceAdd, Int.reduceNeg, Nat.reduceAdd, Nat.reduceSub, Nat.reduceEqDiff, Nat.reduceLT, Nat.reduceLeDiff, List.getElem?_cons_zero, List.getElem?_cons_succ, List.length_cons, List.length_nil, List.take_succ_cons, List.take_zero, List.drop_succ_cons, List.drop_zero, List.reverse_cons, List.reverse_nil, List.nil_append, List.cons_append, List.append_nil, List.map_cons, List.map_nil, List.sum_cons, List.sum_nil, Bool.false_eq_true, if_false, if_true, Bool.and_true, Bool.true_and, Bool.and_self, Bool.or_true, Bool.true_or, Bool.or_false, Bool.false_or, Bool.or_self, decide_eq_true_eq, decide_true, decide_false, beq_self_eq_true, Option.map_some, reduceCtorEq, true_or, or_true, or_false, false_or, or_self, true_and, and_true, and_self, false_and, and_false, Option.some.injEq, exists_eq_left', ne_eq, not_true_eq_false, not_false_eq_true, eq_self, e_pk, e_pr, e_pn, e_ps, e_pd1, e_pd2, e_us, e_un, e_ifp, e_ifn, e_sk, e_sr, e_sn, e_ss, e_sd1, e_sd2, e_sp, k0, k1, k2, k3, r0, hg, ec, ed, hx0, hy0, Int.reduceSub])
        | (refine And.intro (fun hc => ?_) (fun hc => ?_) <;> try (exfalso; omega))
        | ((refine c_waiting (s := 3) (by omega) (by omega) ?_; rw [if_neg (by omega)]); dsimp only [Option.toList, List.cons_append, List.nil_append, Nat.reduceAdd])
      all_goals first | exact hQ τ hs1 | (exfalso; omega)
/-- a Rule's cells at ρ and its steps at u -/
def RuV (σ : eH) (ρ u : Nat) (R : rRule) : Prop := σ.2.2.1 ρ = (6, 1) ∧ σ.2.2.2.2 ρ 0 = u + 2 ∧ σ.2.2.1 u = (20, c_len R) ∧ c_len R ≤ 400 ∧ c_cls (σ.2.2.2.1 u) 0 R ∧ r_rok R
set_option maxRecDepth 8000 in
set_option maxHeartbeats 1000000 in
theorem c_sum {k : Nat} {u ρ wc sc : Nat} {w : Nat → Int} {R : rRule} {σ : eH} {Q : Option eV → eH → Prop} (hk : 2 ≤ k)  (hR : RuV σ ρ u R) (hkw : σ.2.2.1 wc = (21, 12)) (hks : σ.2.2.1 sc = (21, 32)) (hne : sc ≠ wc ∧ sc ≠ u) (hw : ∀ i, i < 12 → σ.2.2.2.1 wc i = w i) (hQ : ∀ τ, Sn (fun d => d = sc) σ τ → Q (some (.inr (.inl (r_sum w R)))) τ) : e_Wp k 92 [.inr (.inr (ρ + 2)), .inr (.inr (wc + 2)), .inr (.inr (sc + 2))] σ Q := by
  refine wp_in (nL := 7) (cd := e_k92) (by omega) (by rfl) (Nat.le_of_ble_eq_true rfl) ?_
  dsimp only [e_ent, Nat.reduceSub, List.replicate]
  obtain ⟨hk0, hr0, hku, hlen, hcl, hro⟩ := hR
  refine gp_of (by rfl) ?_
  simp (disch := omega) only [e_wi, e_isr, e_isc, e_stp, e_rt, e_load, e_bin, e_binL, e_ld, e_s1, e_s2, e_n0, e_ok, e_cmp, e_ex, e_gif, e_id32, e_id64, e_v0, e_v1, e_v2, e_v3, e_dt, e_c1, e_sw, e_inv, e_cat, e_rcv, Fin.val_zero, Fin.val_one, Int.toNat_add, Int.toNat_mul, Int.toNat_natCast, Int.reduceToNat, Int.reduceMul, Int.reduceAdd, Int.reduceNeg, Nat.reduceAdd, Nat.reduceSub, Nat.reduceEqDiff, Nat.reduceLT, Nat.reduceLeDiff, List.getElem?_cons_zero, List.getElem?_cons_succ, List.length_cons, List.length_nil, List.take_succ_cons, List.take_zero, List.drop_succ_cons, List.drop_zero, List.reverse_cons, List.reverse_nil, List.nil_append, List.cons_append, List.append_nil, List.map_cons, List.map_nil, List.sum_cons, List.sum_nil, Bool.false_eq_true, if_false, if_true, Bool.and_true, Bool.true_and, Bool.and_self, Bool.or_true, Bool.true_or, Bool.or_false, Bool.false_or, Bool.or_self, decide_eq_true_eq, decide_true, decide_false, beq_self_eq_true, Option.map_some, reduceCtorEq, true_or, or_true, or_false, false_or, or_self, true_and, and_true, and_self, false_and, and_false, Option.some.injEq, exists_eq_left', ne_eq, not_true_eq_false, not_false_eq_true, eq_self, e_pk, e_pr, e_pn, e_ps, e_pd1, e_pd2, e_us, e_un, e_ifp, e_ifn, e_sk, e_sr, e_sn, e_ss, e_sd1, e_sd2, e_sp, hk0, hr0]
  repeat' first
    | (refine gp_at [5] (by rfl) (by decide) ?_; simp (disch := omega) only [e_wi, e_isr, e_isc, e_stp, e_rt, e_load, e_bin, e_binL, e_ld, e_s1, e_s2, e_n0, e_ok, e_cmp, e_ex, e_gif, e_id32, e_id64, e_v0, e_v1, e_v2, e_v3, e_dt, e_c1, e_sw, e_inv, e_cat, e_rcv, Fin.val_zero, Fin.val_one, Int.toNat_add, Int.toNat_mul, Int.toNat_natCast, Int.reduceToNat, Int.reduceMul, Int.reduceAdd, Int.reduceNeg, Nat.reduceAdd, Nat.reduceSub, Nat.reduceEqDiff, Nat.reduceLT, Nat.reduceLeDiff, List.getElem?_cons_zero, List.getElem?_cons_succ, List.length_cons, List.length_nil, List.take_succ_cons, List.take_zero, List.drop_succ_cons, List.drop_zero, List.reverse_cons, List.reverse_nil, List.nil_append, List.cons_append, List.append_nil, List.map_cons, List.map_nil, List.sum_cons, List.sum_nil, Bool.false_eq_true, if_false, if_true, Bool.and_true, Bool.true_and, Bool.and_self, Bool.or_true, Bool.true_or, Bool.or_false, Bool.false_or, Bool.or_self, decide_eq_true_eq, decide_true, decide_false, beq_self_eq_true, Option.map_some, reduceCtorEq, true_or, or_true, or_false, false_or, or_self, true_and, and_true, and_self, false_and, and_false, Option.some.injEq, exists_eq_left', ne_eq, not_true_eq_false, not_false_eq_true, eq_self, e_pk, e_pr, e_pn, e_ps, e_pd1, e_pd2, e_us, e_un, e_ifp, e_ifn, e_sk, e_sr, e_sn, e_ss, e_sd1, e_sd2, e_sp, hk0, hr0])
    | (refine And.intro (fun hc => ?_) (fun hc => ?_) <;> try (exfalso; omega))
  exact c_sum_l (k := k - 1) (by omega) hk0 hr0 hku hkw hks hne hlen hw hQ R 0 0 σ _ _ (Sn.rf _ _) hcl hro rfl (by omega) rfl
