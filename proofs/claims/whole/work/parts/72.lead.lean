/-- Leaders' cells at a -/
def LdK (σ : eH) (a : Nat) : Prop := σ.2.2.1 a = (3, 3) ∧ σ.2.2.1 (a + 1) = (20, 8) ∧ σ.2.2.1 (a + 2) = (20, 8) ∧ σ.2.2.1 (a + 3) = (20, 8) ∧ σ.2.2.2.2 a 0 = a + 1 + 2 ∧ σ.2.2.2.2 a 1 = a + 2 + 2 ∧ σ.2.2.2.2 a 2 = a + 3 + 2
theorem lk0 {σ : eH} {a : Nat} (h : LdK σ a) : σ.2.2.1 a = (3, 3) := h.1
theorem lk1 {σ : eH} {a : Nat} (h : LdK σ a) : σ.2.2.1 (a + 1) = (20, 8) := h.2.1
theorem lk2 {σ : eH} {a : Nat} (h : LdK σ a) : σ.2.2.1 (a + 2) = (20, 8) := h.2.2.1
theorem lk3 {σ : eH} {a : Nat} (h : LdK σ a) : σ.2.2.1 (a + 3) = (20, 8) := h.2.2.2.1
theorem lr0 {σ : eH} {a : Nat} (h : LdK σ a) : σ.2.2.2.2 a 0 = a + 1 + 2 := h.2.2.2.2.1
theorem lr1 {σ : eH} {a : Nat} (h : LdK σ a) : σ.2.2.2.2 a 1 = a + 2 + 2 := h.2.2.2.2.2.1
theorem lr2 {σ : eH} {a : Nat} (h : LdK σ a) : σ.2.2.2.2 a 2 = a + 3 + 2 := h.2.2.2.2.2.2
theorem Sn.ldk {L : Nat → Prop} {σ τ : eH} (h : Sn L σ τ) {a : Nat} (hk : LdK σ a) : LdK τ a := by
  unfold LdK at hk ⊢
  rw [h.2.2.1, h.2.2.2.1]
  exact hk
/-- a Hill's cells at a -/
def HlK (σ : eH) (a : Nat) : Prop := σ.2.2.1 a = (2, 9) ∧ σ.2.2.1 (a + 1) = (20, 8) ∧ σ.2.2.1 (a + 2) = (20, 4) ∧ σ.2.2.1 (a + 3) = (20, 4) ∧ σ.2.2.2.2 a 5 = a + 1 + 2 ∧ σ.2.2.2.2 a 6 = a + 2 + 2 ∧ σ.2.2.2.2 a 7 = a + 3 + 2 ∧ σ.2.2.2.2 a 8 = a + 4 + 2 ∧ StK σ (a + 4)
theorem hk0 {σ : eH} {a : Nat} (h : HlK σ a) : σ.2.2.1 a = (2, 9) := h.1
theorem hk1 {σ : eH} {a : Nat} (h : HlK σ a) : σ.2.2.1 (a + 1) = (20, 8) := h.2.1
theorem hk2 {σ : eH} {a : Nat} (h : HlK σ a) : σ.2.2.1 (a + 2) = (20, 4) := h.2.2.1
theorem hk3 {σ : eH} {a : Nat} (h : HlK σ a) : σ.2.2.1 (a + 3) = (20, 4) := h.2.2.2.1
theorem hr5 {σ : eH} {a : Nat} (h : HlK σ a) : σ.2.2.2.2 a 5 = a + 1 + 2 := h.2.2.2.2.1
theorem hr6 {σ : eH} {a : Nat} (h : HlK σ a) : σ.2.2.2.2 a 6 = a + 2 + 2 := h.2.2.2.2.2.1
theorem hr7 {σ : eH} {a : Nat} (h : HlK σ a) : σ.2.2.2.2 a 7 = a + 3 + 2 := h.2.2.2.2.2.2.1
theorem hr8 {σ : eH} {a : Nat} (h : HlK σ a) : σ.2.2.2.2 a 8 = a + 4 + 2 := h.2.2.2.2.2.2.2.1
theorem hst {σ : eH} {a : Nat} (h : HlK σ a) : StK σ (a + 4) := h.2.2.2.2.2.2.2.2
theorem Sn.hlk {L : Nat → Prop} {σ τ : eH} (h : Sn L σ τ) {a : Nat} (hk : HlK σ a) : HlK τ a := by
  unfold HlK at hk ⊢
  rw [h.2.2.1, h.2.2.2.1]
  obtain ⟨q0, q1, q2, q3, q4, q5, q6, q7, q8⟩ := hk
  exact ⟨q0, q1, q2, q3, q4, q5, q6, q7, h.stk q8⟩
/-- Notes' cells at a -/
def NtK (σ : eH) (a : Nat) : Prop := σ.2.2.1 a = (5, 4) ∧ σ.2.2.1 (a + 1) = (20, 10) ∧ σ.2.2.1 (a + 2) = (20, 10) ∧ σ.2.2.1 (a + 3) = (20, 10) ∧ σ.2.2.2.2 a 1 = a + 1 + 2 ∧ σ.2.2.2.2 a 2 = a + 2 + 2 ∧ σ.2.2.2.2 a 3 = a + 3 + 2
theorem nk0 {σ : eH} {a : Nat} (h : NtK σ a) : σ.2.2.1 a = (5, 4) := h.1
theorem nk1 {σ : eH} {a : Nat} (h : NtK σ a) : σ.2.2.1 (a + 1) = (20, 10) := h.2.1
theorem nk2 {σ : eH} {a : Nat} (h : NtK σ a) : σ.2.2.1 (a + 2) = (20, 10) := h.2.2.1
theorem nk3 {σ : eH} {a : Nat} (h : NtK σ a) : σ.2.2.1 (a + 3) = (20, 10) := h.2.2.2.1
theorem nr1 {σ : eH} {a : Nat} (h : NtK σ a) : σ.2.2.2.2 a 1 = a + 1 + 2 := h.2.2.2.2.1
theorem nr2 {σ : eH} {a : Nat} (h : NtK σ a) : σ.2.2.2.2 a 2 = a + 2 + 2 := h.2.2.2.2.2.1
theorem nr3 {σ : eH} {a : Nat} (h : NtK σ a) : σ.2.2.2.2 a 3 = a + 3 + 2 := h.2.2.2.2.2.2
theorem Sn.ntk {L : Nat → Prop} {σ τ : eH} (h : Sn L σ τ) {a : Nat} (hk : NtK σ a) : NtK τ a := by
  unfold NtK at hk ⊢
  rw [h.2.2.1, h.2.2.2.1]
  exact hk
/-- a World's cells at a -/
def WoK (σ : eH) (a : Nat) : Prop := σ.2.2.1 a = (10, 5) ∧ σ.2.2.2.2 a 0 = a + 1 + 2 ∧ σ.2.2.2.2 a 1 = a + 18 + 2 ∧ σ.2.2.2.2 a 2 = a + 31 + 2 ∧ HlK σ (a + 1) ∧ StK σ (a + 18) ∧ NtK σ (a + 31)
theorem wk0 {σ : eH} {a : Nat} (h : WoK σ a) : σ.2.2.1 a = (10, 5) := h.1
theorem wr0 {σ : eH} {a : Nat} (h : WoK σ a) : σ.2.2.2.2 a 0 = a + 1 + 2 := h.2.1
theorem wr1 {σ : eH} {a : Nat} (h : WoK σ a) : σ.2.2.2.2 a 1 = a + 18 + 2 := h.2.2.1
theorem wr2 {σ : eH} {a : Nat} (h : WoK σ a) : σ.2.2.2.2 a 2 = a + 31 + 2 := h.2.2.2.1
theorem whl {σ : eH} {a : Nat} (h : WoK σ a) : HlK σ (a + 1) := h.2.2.2.2.1
theorem wst {σ : eH} {a : Nat} (h : WoK σ a) : StK σ (a + 18) := h.2.2.2.2.2.1
theorem wnt {σ : eH} {a : Nat} (h : WoK σ a) : NtK σ (a + 31) := h.2.2.2.2.2.2
theorem Sn.wok {L : Nat → Prop} {σ τ : eH} (h : Sn L σ τ) {a : Nat} (hk : WoK σ a) : WoK τ a := by
  unfold WoK at hk ⊢
  rw [h.2.2.1, h.2.2.2.1]
  obtain ⟨q0, q1, q2, q3, q4, q5, q6⟩ := hk
  exact ⟨q0, q1, q2, q3, h.hlk q4, h.stk q5, h.ntk q6⟩
/-- a Hill's numbers -/
def HlV (σ : eH) (a : Nat) (S : Nat → Int) (n q : Nat) : Prop := σ.2.2.2.1 a 0 = (if 0 < S 0 then 1 else 0) ∧ σ.2.2.2.1 a 1 = S 0 ∧ σ.2.2.2.1 a 2 = S 1 ∧ σ.2.2.2.1 a 3 = (n : Int) ∧ σ.2.2.2.1 a 4 = (q : Int) ∧ (∀ i, i < n → σ.2.2.2.1 (a + 1) i = S (63 + i)) ∧ (∀ i, i < q → σ.2.2.2.1 (a + 2) i = S (71 + i)) ∧ (∀ i, i < q → σ.2.2.2.1 (a + 3) i = S (75 + i)) ∧ ∃ Z, StV σ (a + 4) Z ∧ (0 < S 0 → Z = r_bg S 8 4 32)
theorem HlV.sn {L : Nat → Prop} {σ τ : eH} {a n q : Nat} {S : Nat → Int} (h : HlV σ a S n q) (hs : Sn L σ τ) (hd : ∀ c, a ≤ c → c < a + 17 → ¬ L c) : HlV τ a S n q := by
  have e0 := hs.at a (hd _ (by omega) (by omega))
  have e1 := hs.at (a + 1) (hd _ (by omega) (by omega))
  have e2 := hs.at (a + 2) (hd _ (by omega) (by omega))
  have e3 := hs.at (a + 3) (hd _ (by omega) (by omega))
  unfold HlV
  rw [e0, e1, e2, e3]
  obtain ⟨q0, q1, q2, q3, q4, q5, q6, q7, Z, q8, q9⟩ := h
  exact ⟨q0, q1, q2, q3, q4, q5, q6, q7, Z, q8.sn hs (fun c h1 h2 => hd c (by omega) (by omega)), q9⟩
/-- Notes' numbers -/
def NtV (σ : eH) (a : Nat) (S : Nat → Int) (c : Nat) : Prop := σ.2.2.2.1 a 0 = (c : Int) ∧ ∀ i, i < c → σ.2.2.2.1 (a + 1) i = S (119 + 3 * i) ∧ σ.2.2.2.1 (a + 2) i = S (119 + 3 * i + 1) ∧ σ.2.2.2.1 (a + 3) i = S (119 + 3 * i + 2)
theorem NtV.sn {L : Nat → Prop} {σ τ : eH} {a c : Nat} {S : Nat → Int} (h : NtV σ a S c) (hs : Sn L σ τ) (hd : ∀ c, a ≤ c → c < a + 4 → ¬ L c) : NtV τ a S c := by
  unfold NtV
  rw [hs.at a (hd _ (by omega) (by omega)), hs.at (a + 1) (hd _ (by omega) (by omega)), hs.at (a + 2) (hd _ (by omega) (by omega)), hs.at (a + 3) (hd _ (by omega) (by omega))]
  exact h
/-- Leaders' numbers -/
def LdV (σ : eH) (a : Nat) (S : Nat → Int) (n : Nat) : Prop := (∀ i, i < n → σ.2.2.2.1 (a + 1) i = ((ldL (fun i => S (19 + i)) i : Nat) : Int)) ∧ (∀ s, s < 8 → σ.2.2.2.1 (a + 2) s = ls_ld S n s) ∧ ∀ s, s < 8 → σ.2.2.2.1 (a + 3) s = bW (fun i => decide (((ldL (fun i => S (19 + i)) i : Nat) : Int) = (s : Int))) (fun i => S (63 + i)) n
theorem LdV.sn {L : Nat → Prop} {σ τ : eH} {a n : Nat} {S : Nat → Int} (h : LdV σ a S n) (hs : Sn L σ τ) (hd : ∀ c, a ≤ c → c < a + 4 → ¬ L c) : LdV τ a S n := by
  unfold LdV
  rw [hs.at (a + 1) (hd _ (by omega) (by omega)), hs.at (a + 2) (hd _ (by omega) (by omega)), hs.at (a + 3) (hd _ (by omega) (by omega))]
  exact h
set_option maxRecDepth 8000 in
set_option maxHeartbeats 2000000 in
theorem c_leaderOf_1 {k : Nat} {c n : Nat} {F : Nat → Int} {σ : eH} {Q : Option eV → eH → Prop}  (hk0 : σ.2.2.1 c = (20, 8)) (hn8 : n ≤ 8) (hF : ∀ i, i < n → σ.2.2.2.1 c i = F i ∧ -1 ≤ F i ∧ F i < n) {x0 x4 : Option eV} {w : Nat} (hN : ∀ x, e_Gp k e_k76 27 [x0, some (.inr (.inr (c + 2))), some (.inl (w : Int)), x, x4] [] σ Q) : ∀ (j a : Nat) (z : Int), z = 8 - (j : Int) → j ≤ 8 → a < n → ldW F j a = w → e_Gp k e_k76 4 [x0, some (.inr (.inr (c + 2))), some (.inl (a : Int)), some (.inl z), x4] [] σ Q
  | 0, a, z, hz, hj, ha, hw => by
    subst hz
    obtain rfl : a = w := hw
    refine gp_of (by rfl) ?_
    simp (disch := omega) only [e_wi, e_isr, e_isc, e_stp, e_rt, e_load, e_bin, e_binL, e_ld, e_s1, e_s2, e_n0, e_ok, e_cmp, e_ex, e_gif, e_id32, e_id64, e_v0, e_v1, e_v2, e_v3, e_dt, e_c1, e_sw, e_inv, e_cat, e_rcv, Fin.val_zero, Fin.val_one, Int.toNat_add, Int.toNat_mul, Int.toNat_natCast, Int.reduceToNat, Int.reduceMul, Int.reduceAdd, Int.reduceNeg, Nat.reduceAdd, Nat.reduceSub, Nat.reduceEqDiff, Nat.reduceLT, Nat.reduceLeDiff, List.getElem?_cons_zero, List.getElem?_cons_succ, List.length_cons, List.length_nil, List.take_succ_cons, List.take_zero, List.drop_succ_cons, List.drop_zero, List.reverse_cons, List.reverse_nil, List.nil_append, List.cons_append, List.append_nil, List.map_cons, List.map_nil, List.sum_cons, List.sum_nil, Bool.false_eq_true, if_false, if_true, Bool.and_true, Bool.true_and, Bool.and_self, Bool.or_true, Bool.true_or, Bool.or_false, Bool.false_or, Bool.or_self, decide_eq_true_eq, decide_true, decide_false, beq_self_eq_true, Option.map_some, reduceCtorEq, true_or, or_true, or_false, false_or, or_self, true_and, and_true, and_self, false_and, and_false, Option.some.injEq, exists_eq_left', ne_eq, not_true_eq_false, not_false_eq_true, eq_self, e_pk, e_pr, e_pn, e_ps, e_pd1, e_pd2, e_us, e_un, e_ifp, e_ifn, e_sk, e_sr, e_sn, e_ss, e_sd1, e_sd2, e_sp, hk0]
    repeat' first
      | (refine gp_at [4, 27] (by rfl) (by decide) ?_; simp (disch := omega) only [e_wi, e_isr, e_isc, e_stp, e_rt, e_load, e_bin, e_binL, e_ld, e_s1, e_s2, e_n0, e_ok, e_cmp, e_ex, e_gif, e_id32, e_id64, e_v0, e_v1, e_v2, e_v3, e_dt, e_c1, e_sw, e_inv, e_cat, e_rcv, Fin.val_zero, Fin.val_one, Int.toNat_add, Int.toNat_mul, Int.toNat_natCast, Int.reduceToNat, Int.reduceMul, Int.reduceAdd, Int.reduceNeg, Nat.reduceAdd, Nat.reduceSub, Nat.reduceEqDiff, Nat.reduceLT, Nat.reduceLeDiff, List.getElem?_cons_zero, List.getElem?_cons_succ, List.length_cons, List.length_nil, List.take_succ_cons, List.take_zero, List.drop_succ_cons, List.drop_zero, List.reverse_cons, List.reverse_nil, List.nil_append, List.cons_append, List.append_nil, List.map_cons, List.map_nil, List.sum_cons, List.sum_nil, Bool.false_eq_true, if_false, if_true, Bool.and_true, Bool.true_and, Bool.and_self, Bool.or_true, Bool.true_or, Bool.or_false, Bool.false_or, Bool.or_self, decide_eq_true_eq, decide_true, decide_false, beq_self_eq_true, Option.map_some, reduceCtorEq, true_or, or_true, or_false, false_or, or_self, true_and, and_true, and_self, false_and, and_false, Option.some.injEq, exists_eq_left', ne_eq, not_true_eq_false, not_false_eq_true, eq_self, e_pk, e_pr, e_pn, e_ps, e_pd1, e_pd2, e_us, e_un, e_ifp, e_ifn, e_sk, e_sr, e_sn, e_ss, e_sd1, e_sd2, e_sp, hk0])
      | (refine And.intro (fun hc => ?_) (fun hc => ?_) <;> try (exfalso; omega))
    all_goals first | exact hN _ | (exfalso; omega)
  | j + 1, a, z, hz, hj, ha, hw => by
    subst hz
    have h1 := hF a ha
    have e1 : e_w32 (F a) = F a := e_i32 (by omega)
    by_cases h0 : F a < 0
    · rw [ldW_end h0] at hw
      subst hw
      refine gp_of (by rfl) ?_
      simp (disch := omega) only [e_wi, e_isr, e_isc, e_stp, e_rt, e_load, e_bin, e_binL, e_ld, e_s1, e_s2, e_n0, e_ok, e_cmp, e_ex, e_gif, e_id32, e_id64, e_v0, e_v1, e_v2, e_v3, e_dt, e_c1, e_sw, e_inv, e_cat, e_rcv, Fin.val_zero, Fin.val_one, Int.toNat_add, Int.toNat_mul, Int.toNat_natCast, Int.reduceToNat, Int.reduceMul, Int.reduceAdd, Int.reduceNeg, Nat.reduceAdd, Nat.reduceSub, Nat.reduceEqDiff, Nat.reduceLT, Nat.reduceLeDiff, List.getElem?_cons_zero, List.getElem?_cons_succ, List.length_cons, List.length_nil, List.take_succ_cons, List.take_zero, List.drop_succ_cons, List.drop_zero, List.reverse_cons, List.reverse_nil, List.nil_append, List.cons_append, List.append_nil, List.map_cons, List.map_nil, List.sum_cons, List.sum_nil, Bool.false_eq_true, if_false, if_true, Bool.and_true, Bool.true_and, Bool.and_self, Bool.or_true, Bool.true_or, Bool.or_false, Bool.false_or, Bool.or_self, decide_eq_true_eq, decide_true, decide_false, beq_self_eq_true, Option.map_some, reduceCtorEq, true_or, or_true, or_false, false_or, or_self, true_and, and_true, and_self, false_and, and_false, Option.some.injEq, exists_eq_left', ne_eq, not_true_eq_false, not_false_eq_true, eq_self, e_pk, e_pr, e_pn, e_ps, e_pd1, e_pd2, e_us, e_un, e_ifp, e_ifn, e_sk, e_sr, e_sn, e_ss, e_sd1, e_sd2, e_sp, hk0, h1.1, e1]
      repeat' first
        | (refine gp_at [4, 27] (by rfl) (by decide) ?_; simp (disch := omega) only [e_wi, e_isr, e_isc, e_stp, e_rt, e_load, e_bin, e_binL, e_ld, e_s1, e_s2, e_n0, e_ok, e_cmp, e_ex, e_gif, e_id32, e_id64, e_v0, e_v1, e_v2, e_v3, e_dt, e_c1, e_sw, e_inv, e_cat, e_rcv, Fin.val_zero, Fin.val_one, Int.toNat_add, Int.toNat_mul, Int.toNat_natCast, Int.reduceToNat, Int.reduceMul, Int.reduceAdd, Int.reduceNeg, Nat.reduceAdd, Nat.reduceSub, Nat.reduceEqDiff, Nat.reduceLT, Nat.reduceLeDiff, List.getElem?_cons_zero, List.getElem?_cons_succ, List.length_cons, List.length_nil, List.take_succ_cons, List.take_zero, List.drop_succ_cons, List.drop_zero, List.reverse_cons, List.reverse_nil, List.nil_append, List.cons_append, List.append_nil, List.map_cons, List.map_nil, List.sum_cons, List.sum_nil, Bool.false_eq_true, if_false, if_true, Bool.and_true, Bool.true_and, Bool.and_self, Bool.or_true, Bool.true_or, Bool.or_false, Bool.false_or, Bool.or_self, decide_eq_true_eq, decide_true, decide_false, beq_self_eq_true, Option.map_some, reduceCtorEq, true_or, or_true, or_false, false_or, or_self, true_and, and_true, and_self, false_and, and_false, Option.some.injEq, exists_eq_left', ne_eq, not_true_eq_false, not_false_eq_true, eq_self, e_pk, e_pr, e_pn, e_ps, e_pd1, e_pd2, e_us, e_un, e_ifp, e_ifn, e_sk, e_sr, e_sn, e_ss, e_sd1, e_sd2, e_sp, hk0, h1.1, e1])
        | (refine And.intro (fun hc => ?_) (fun hc => ?_) <;> try (exfalso; omega))
      all_goals first | exact hN _ | (exfalso; omega)
    · obtain ⟨b, hb⟩ : ∃ b : Nat, F a = (b : Int) := ⟨(F a).toNat, by omega⟩
      have e2 : ldS F a = b := by
        unfold ldS
        rw [if_pos (by omega), hb, Int.toNat_natCast]
      have ih := c_leaderOf_1 (k := k) hk0 hn8 hF hN j b (8 - (j : Int)) rfl (by omega) (by omega) (by rw [← e2]; exact hw)
      rw [show (8 - (j : Int)) = 8 - ((j + 1 : Nat) : Int) + 1 by omega] at ih
      generalize hz : 8 - ((j + 1 : Nat) : Int) = z at *
      refine gp_of (by rfl) ?_
      simp (disch := omega) only [e_wi, e_isr, e_isc, e_stp, e_rt, e_load, e_bin, e_binL, e_ld, e_s1, e_s2, e_n0, e_ok, e_cmp, e_ex, e_gif, e_id32, e_id64, e_v0, e_v1, e_v2, e_v3, e_dt, e_c1, e_sw, e_inv, e_cat, e_rcv, Fin.val_zero, Fin.val_one, Int.toNat_add, Int.toNat_mul, Int.toNat_natCast, Int.reduceToNat, Int.reduceMul, Int.reduceAdd, Int.reduceNeg, Nat.reduceAdd, Nat.reduceSub, Nat.reduceEqDiff, Nat.reduceLT, Nat.reduceLeDiff, List.getElem?_cons_zero, List.getElem?_cons_succ, List.length_cons, List.length_nil, List.take_succ_cons, List.take_zero, List.drop_succ_cons, List.drop_zero, List.reverse_cons, List.reverse_nil, List.nil_append, List.cons_append, List.append_nil, List.map_cons, List.map_nil, List.sum_cons, List.sum_nil, Bool.false_eq_true, if_false, if_true, Bool.and_true, Bool.true_and, Bool.and_self, Bool.or_true, Bool.true_or, Bool.or_false, Bool.false_or, Bool.or_self, decide_eq_true_eq, decide_true, decide_false, beq_self_eq_true, Option.map_some, reduceCtorEq, true_or, or_true, or_false, false_or, or_self, true_and, and_true, and_self, false_and, and_false, Option.some.injEq, exists_eq_left', ne_eq, not_true_eq_false, not_false_eq_true, eq_self, e_pk, e_pr, e_pn, e_ps, e_pd1, e_pd2, e_us, e_un, e_ifp, e_ifn, e_sk, e_sr, e_sn, e_ss, e_sd1, e_sd2, e_sp, hk0, h1.1, hb]
      repeat' first
        | (refine gp_at [4, 27] (by rfl) (by decide) ?_; simp (disch := omega) only [e_wi, e_isr, e_isc, e_stp, e_rt, e_load, e_bin, e_binL, e_ld, e_s1, e_s2, e_n0, e_ok, e_cmp, e_ex, e_gif, e_id32, e_id64, e_v0, e_v1, e_v2, e_v3, e_dt, e_c1, e_sw, e_inv, e_cat, e_rcv, Fin.val_zero, Fin.val_one, Int.toNat_add, Int.toNat_mul, Int.toNat_natCast, Int.reduceToNat, Int.reduceMul, Int.reduceAdd, Int.reduceNeg, Nat.reduceAdd, Nat.reduceSub, Nat.reduceEqDiff, Nat.reduceLT, Nat.reduceLeDiff, List.getElem?_cons_zero, List.getElem?_cons_succ, List.length_cons, List.length_nil, List.take_succ_cons, List.take_zero, List.drop_succ_cons, List.drop_zero, List.reverse_cons, List.reverse_nil, List.nil_append, List.cons_append, List.append_nil, List.map_cons, List.map_nil, List.sum_cons, List.sum_nil, Bool.false_eq_true, if_false, if_true, Bool.and_true, Bool.true_and, Bool.and_self, Bool.or_true, Bool.true_or, Bool.or_false, Bool.false_or, Bool.or_self, decide_eq_true_eq, decide_true, decide_false, beq_self_eq_true, Option.map_some, reduceCtorEq, true_or, or_true, or_false, false_or, or_self, true_and, and_true, and_self, false_and, and_false, Option.some.injEq, exists_eq_left', ne_eq, not_true_eq_false, not_false_eq_true, eq_self, e_pk, e_pr, e_pn, e_ps, e_pd1, e_pd2, e_us, e_un, e_ifp, e_ifn, e_sk, e_sr, e_sn, e_ss, e_sd1, e_sd2, e_sp, hk0, h1.1, hb])
        | (refine And.intro (fun hc => ?_) (fun hc => ?_) <;> try (exfalso; omega))
      all_goals first | exact ih | (exfalso; omega)
set_option maxRecDepth 8000 in
set_option maxHeartbeats 2000000 in
theorem c_leaderOf_2 {k : Nat} {c n : Nat} {F : Nat → Int} {σ : eH} {Q : Option eV → eH → Prop}  (hk0 : σ.2.2.1 c = (20, 8)) (hn8 : n ≤ 8) (hF : ∀ i, i < n → σ.2.2.2.1 c i = F i ∧ -1 ≤ F i ∧ F i < n) {x0 : Option eV} {w : Nat} (hQ : Q (some (.inl (w : Int))) σ) : ∀ (j a l : Nat) (z : Int), z = 8 - (j : Int) → j ≤ 8 → a < n → l < n → l ≤ a → min l (ldM F j a) = w → e_Gp k e_k76 32 [x0, some (.inr (.inr (c + 2))), some (.inl (a : Int)), some (.inl (l : Int)), some (.inl z)] [] σ Q
  | 0, a, l, z, hz, hj, ha, hl, hla, hw => by
    subst hz
    have hw : min l a = w := hw
    obtain rfl : l = w := by omega
    refine gp_of (by rfl) ?_
    simp (disch := omega) only [e_wi, e_isr, e_isc, e_stp, e_rt, e_load, e_bin, e_binL, e_ld, e_s1, e_s2, e_n0, e_ok, e_cmp, e_ex, e_gif, e_id32, e_id64, e_v0, e_v1, e_v2, e_v3, e_dt, e_c1, e_sw, e_inv, e_cat, e_rcv, Fin.val_zero, Fin.val_one, Int.toNat_add, Int.toNat_mul, Int.toNat_natCast, Int.reduceToNat, Int.reduceMul, Int.reduceAdd, Int.reduceNeg, Nat.reduceAdd, Nat.reduceSub, Nat.reduceEqDiff, Nat.reduceLT, Nat.reduceLeDiff, List.getElem?_cons_zero, List.getElem?_cons_succ, List.length_cons, List.length_nil, List.take_succ_cons, List.take_zero, List.drop_succ_cons, List.drop_zero, List.reverse_cons, List.reverse_nil, List.nil_append, List.cons_append, List.append_nil, List.map_cons, List.map_nil, List.sum_cons, List.sum_nil, Bool.false_eq_true, if_false, if_true, Bool.and_true, Bool.true_and, Bool.and_self, Bool.or_true, Bool.true_or, Bool.or_false, Bool.false_or, Bool.or_self, decide_eq_true_eq, decide_true, decide_false, beq_self_eq_true, Option.map_some, reduceCtorEq, true_or, or_true, or_false, false_or, or_self, true_and, and_true, and_self, false_and, and_false, Option.some.injEq, exists_eq_left', ne_eq, not_true_eq_false, not_false_eq_true, eq_self, e_pk, e_pr, e_pn, e_ps, e_pd1, e_pd2, e_us, e_un, e_ifp, e_ifn, e_sk, e_sr, e_sn, e_ss, e_sd1, e_sd2, e_sp, hk0]
    repeat' first
      | (refine gp_at [32] (by rfl) (by decide) ?_; simp (disch := omega) only [e_wi, e_isr, e_isc, e_stp, e_rt, e_load, e_bin, e_binL, e_ld, e_s1, e_s2, e_n0, e_ok, e_cmp, e_ex, e_gif, e_id32, e_id64, e_v0, e_v1, e_v2, e_v3, e_dt, e_c1, e_sw, e_inv, e_cat, e_rcv, Fin.val_zero, Fin.val_one, Int.toNat_add, Int.toNat_mul, Int.toNat_natCast, Int.reduceToNat, Int.reduceMul, Int.reduceAdd, Int.reduceNeg, Nat.reduceAdd, Nat.reduceSub, Nat.reduceEqDiff, Nat.reduceLT, Nat.reduceLeDiff, List.getElem?_cons_zero, List.getElem?_cons_succ, List.length_cons, List.length_nil, List.take_succ_cons, List.take_zero, List.drop_succ_cons, List.drop_zero, List.reverse_cons, List.reverse_nil, List.nil_append, List.cons_append, List.append_nil, List.map_cons, List.map_nil, List.sum_cons, List.sum_nil, Bool.false_eq_true, if_false, if_true, Bool.and_true, Bool.true_and, Bool.and_self, Bool.or_true, Bool.true_or, Bool.or_false, Bool.false_or, Bool.or_self, decide_eq_true_eq, decide_true, decide_false, beq_self_eq_true, Option.map_some, reduceCtorEq, true_or, or_true, or_false, false_or, or_self, true_and, and_true, and_self, false_and, and_false, Option.some.injEq, exists_eq_left', ne_eq, not_true_eq_false, not_false_eq_true, eq_self, e_pk, e_pr, e_pn, e_ps, e_pd1, e_pd2, e_us, e_un, e_ifp, e_ifn, e_sk, e_sr, e_sn, e_ss, e_sd1, e_sd2, e_sp, hk0])
      | (refine And.intro (fun hc => ?_) (fun hc => ?_) <;> try (exfalso; omega))
    all_goals first | exact hQ | (exfalso; omega)
  | j + 1, a, l, z, hz, hj, ha, hl, hla, hw => by
    subst hz
    have h1 := hF a ha
    have e1 : e_w32 (F a) = F a := e_i32 (by omega)
    by_cases h0 : F a < 0
    · rw [ldM_end h0] at hw
      obtain rfl : l = w := by omega
      refine gp_of (by rfl) ?_
      simp (disch := omega) only [e_wi, e_isr, e_isc, e_stp, e_rt, e_load, e_bin, e_binL, e_ld, e_s1, e_s2, e_n0, e_ok, e_cmp, e_ex, e_gif, e_id32, e_id64, e_v0, e_v1, e_v2, e_v3, e_dt, e_c1, e_sw, e_inv, e_cat, e_rcv, Fin.val_zero, Fin.val_one, Int.toNat_add, Int.toNat_mul, Int.toNat_natCast, Int.reduceToNat, Int.reduceMul, Int.reduceAdd, Int.reduceNeg, Nat.reduceAdd, Nat.reduceSub, Nat.reduceEqDiff, Nat.reduceLT, Nat.reduceLeDiff, List.getElem?_cons_zero, List.getElem?_cons_succ, List.length_cons, List.length_nil, List.take_succ_cons, List.take_zero, List.drop_succ_cons, List.drop_zero, List.reverse_cons, List.reverse_nil, List.nil_append, List.cons_append, List.append_nil, List.map_cons, List.map_nil, List.sum_cons, List.sum_nil, Bool.false_eq_true, if_false, if_true, Bool.and_true, Bool.true_and, Bool.and_self, Bool.or_true, Bool.true_or, Bool.or_false, Bool.false_or, Bool.or_self, decide_eq_true_eq, decide_true, decide_false, beq_self_eq_true, Option.map_some, reduceCtorEq, true_or, or_true, or_false, false_or, or_self, true_and, and_true, and_self, false_and, and_false, Option.some.injEq, exists_eq_left', ne_eq, not_true_eq_false, not_false_eq_true, eq_self, e_pk, e_pr, e_pn, e_ps, e_pd1, e_pd2, e_us, e_un, e_ifp, e_ifn, e_sk, e_sr, e_sn, e_ss, e_sd1, e_sd2, e_sp, hk0, h1.1, e1]
      repeat' first
        | (refine gp_at [32] (by rfl) (by decide) ?_; simp (disch := omega) only [e_wi, e_isr, e_isc, e_stp, e_rt, e_load, e_bin, e_binL, e_ld, e_s1, e_s2, e_n0, e_ok, e_cmp, e_ex, e_gif, e_id32, e_id64, e_v0, e_v1, e_v2, e_v3, e_dt, e_c1, e_sw, e_inv, e_cat, e_rcv, Fin.val_zero, Fin.val_one, Int.toNat_add, Int.toNat_mul, Int.toNat_natCast, Int.reduceToNat, Int.reduceMul, Int.reduceAdd, Int.reduceNeg, Nat.reduceAdd, Nat.reduceSub, Nat.reduceEqDiff, Nat.reduceLT, Nat.reduceLeDiff, List.getElem?_cons_zero, List.getElem?_cons_succ, List.length_cons, List.length_nil, List.take_succ_cons, List.take_zero, List.drop_succ_cons, List.drop_zero, List.reverse_cons, List.reverse_nil, List.nil_append, List.cons_append, List.append_nil, List.map_cons, List.map_nil, List.sum_cons, List.sum_nil, Bool.false_eq_true, if_false, if_true, Bool.and_true, Bool.true_and, Bool.and_self, Bool.or_true, Bool.true_or, Bool.or_false, Bool.false_or, Bool.or_self, decide_eq_true_eq, decide_true, decide_false, beq_self_eq_true, Option.map_some, reduceCtorEq, true_or, or_true, or_false, false_or, or_self, true_and, and_true, and_self, false_and, and_false, Option.some.injEq, exists_eq_left', ne_eq, not_true_eq_false, not_false_eq_true, eq_self, e_pk, e_pr, e_pn, e_ps, e_pd1, e_pd2, e_us, e_un, e_ifp, e_ifn, e_sk, e_sr, e_sn, e_ss, e_sd1, e_sd2, e_sp, hk0, h1.1, e1])
        | (refine And.intro (fun hc => ?_) (fun hc => ?_) <;> try (exfalso; omega))
      all_goals first | exact hQ | (exfalso; omega)
    · obtain ⟨b, hb⟩ : ∃ b : Nat, F a = (b : Int) := ⟨(F a).toNat, by omega⟩
      have e2 : ldS F a = b := by
        unfold ldS
        rw [if_pos (by omega), hb, Int.toNat_natCast]
      have hw : min l (min a (ldM F j (ldS F a))) = w := hw
      rw [e2] at hw
      have hle := ldM_le F j b 0 (by omega)
      have hle : ldM F j b ≤ b := hle
      have ih := fun l2 h3 h4 h5 => c_leaderOf_2 (k := k) (x0 := x0) hk0 hn8 hF hQ j b l2 (8 - (j : Int)) rfl (by omega) (by omega) h3 h4 h5
      rw [show (8 - (j : Int)) = 8 - ((j + 1 : Nat) : Int) + 1 by omega] at ih
      generalize hz : 8 - ((j + 1 : Nat) : Int) = z at *
      by_cases hlt : b < l
      · have ih := ih b (by omega) (by omega) (by omega)
        have e3 : (if (b : Int) < (l : Int) then (b : Int) else (l : Int)) = (b : Int) := if_pos (by omega)
        refine gp_of (by rfl) ?_
        simp (disch := omega) only [e_wi, e_isr, e_isc, e_stp, e_rt, e_load, e_bin, e_binL, e_ld, e_s1, e_s2, e_n0, e_ok, e_cmp, e_ex, e_gif, e_id32, e_id64, e_v0, e_v1, e_v2, e_v3, e_dt, e_c1, e_sw, e_inv, e_cat, e_rcv, Fin.val_zero, Fin.val_one, Int.toNat_add, Int.toNat_mul, Int.toNat_natCast, Int.reduceToNat, Int.reduceMul, Int.reduceAdd, Int.reduceNeg, Nat.reduceAdd, Nat.reduceSub, Nat.reduceEqDiff, Nat.reduceLT, Nat.reduceLeDiff, List.getElem?_cons_zero, List.getElem?_cons_succ, List.length_cons, List.length_nil, List.take_succ_cons, List.take_zero, List.drop_succ_cons, List.drop_zero, List.reverse_cons, List.reverse_nil, List.nil_append, List.cons_append, List.append_nil, List.map_cons, List.map_nil, List.sum_cons, List.sum_nil, Bool.false_eq_true, if_false, if_true, Bool.and_true, Bool.true_and, Bool.and_self, Bool.or_true, Bool.true_or, Bool.or_false, Bool.false_or, Bool.or_self, decide_eq_true_eq, decide_true, decide_false, beq_self_eq_true, Option.map_some, reduceCtorEq, true_or, or_true, or_false, false_or, or_self, true_and, and_true, and_self, false_and, and_false, Option.some.injEq, exists_eq_left', ne_eq, not_true_eq_false, not_false_eq_true, eq_self, e_pk, e_pr, e_pn, e_ps, e_pd1, e_pd2, e_us, e_un, e_ifp, e_ifn, e_sk, e_sr, e_sn, e_ss, e_sd1, e_sd2, e_sp, hk0, h1.1, hb, e3]
        repeat' first
          | (refine gp_at [32] (by rfl) (by decide) ?_; simp (disch := omega) only [e_wi, e_isr, e_isc, e_stp, e_rt, e_load, e_bin, e_binL, e_ld, e_s1, e_s2, e_n0, e_ok, e_cmp, e_ex, e_gif, e_id32, e_id64, e_v0, e_v1, e_v2, e_v3, e_dt, e_c1, e_sw, e_inv, e_cat, e_rcv, Fin.val_zero, Fin.val_one, Int.toNat_add, Int.toNat_mul, Int.toNat_natCast, Int.reduceToNat, Int.reduceMul, Int.reduceAdd, Int.reduceNeg, Nat.reduceAdd, Nat.reduceSub, Nat.reduceEqDiff, Nat.reduceLT, Nat.reduceLeDiff, List.getElem?_cons_zero, List.getElem?_cons_succ, List.length_cons, List.length_nil, List.take_succ_cons, List.take_zero, List.drop_succ_cons, List.drop_zero, List.reverse_cons, List.reverse_nil, List.nil_append, List.cons_append, List.append_nil, List.map_cons, List.map_nil, List.sum_cons, List.sum_nil, Bool.false_eq_true, if_false, if_true, Bool.and_true, Bool.true_and, Bool.and_self, Bool.or_true, Bool.true_or, Bool.or_false, Bool.false_or, Bool.or_self, decide_eq_true_eq, decide_true, decide_false, beq_self_eq_true, Option.map_some, reduceCtorEq, true_or, or_true, or_false, false_or, or_self, true_and, and_true, and_self, false_and, and_false, Option.some.injEq, exists_eq_left', ne_eq, not_true_eq_false, not_false_eq_true, eq_self, e_pk, e_pr, e_pn, e_ps, e_pd1, e_pd2, e_us, e_un, e_ifp, e_ifn, e_sk, e_sr, e_sn, e_ss, e_sd1, e_sd2, e_sp, hk0, h1.1, hb, e3])
          | (refine And.intro (fun hc => ?_) (fun hc => ?_) <;> try (exfalso; omega))
        all_goals first | exact ih | (exfalso; omega)
      · have ih := ih l (by omega) (by omega) (by omega)
        have e3 : (if (b : Int) < (l : Int) then (b : Int) else (l : Int)) = (l : Int) := if_neg (by omega)
        refine gp_of (by rfl) ?_
        simp (disch := omega) only [e_wi, e_isr, e_isc, e_stp, e_rt, e_load, e_bin, e_binL, e_ld, e_s1, e_s2, e_n0, e_ok, e_cmp, e_ex, e_gif, e_id32, e_id64, e_v0, e_v1, e_v2, e_v3, e_dt, e_c1, e_sw, e_inv, e_cat, e_rcv, Fin.val_zero, Fin.val_one, Int.toNat_add, Int.toNat_mul, Int.toNat_natCast, Int.reduceToNat, Int.reduceMul, Int.reduceAdd, Int.reduceNeg, Nat.reduceAdd, Nat.reduceSub, Nat.reduceEqDiff, Nat.reduceLT, Nat.reduceLeDiff, List.getElem?_cons_zero, List.getElem?_cons_succ, List.length_cons, List.length_nil, List.take_succ_cons, List.take_zero, List.drop_succ_cons, List.drop_zero, List.reverse_cons, List.reverse_nil, List.nil_append, List.cons_append, List.append_nil, List.map_cons, List.map_nil, List.sum_cons, List.sum_nil, Bool.false_eq_true, if_false, if_true, Bool.and_true, Bool.true_and, Bool.and_self, Bool.or_true, Bool.true_or, Bool.or_false, Bool.false_or, Bool.or_self, decide_eq_true_eq, decide_true, decide_false, beq_self_eq_true, Option.map_some, reduceCtorEq, true_or, or_true, or_false, false_or, or_self, true_and, and_true, and_self, false_and, and_false, Option.some.injEq, exists_eq_left', ne_eq, not_true_eq_false, not_false_eq_true, eq_self, e_pk, e_pr, e_pn, e_ps, e_pd1, e_pd2, e_us, e_un, e_ifp, e_ifn, e_sk, e_sr, e_sn, e_ss, e_sd1, e_sd2, e_sp, hk0, h1.1, hb, e3]
        repeat' first
          | (refine gp_at [32] (by rfl) (by decide) ?_; simp (disch := omega) only [e_wi, e_isr, e_isc, e_stp, e_rt, e_load, e_bin, e_binL, e_ld, e_s1, e_s2, e_n0, e_ok, e_cmp, e_ex, e_gif, e_id32, e_id64, e_v0, e_v1, e_v2, e_v3, e_dt, e_c1, e_sw, e_inv, e_cat, e_rcv, Fin.val_zero, Fin.val_one, Int.toNat_add, Int.toNat_mul, Int.toNat_natCast, Int.reduceToNat, Int.reduceMul, Int.reduceAdd, Int.reduceNeg, Nat.reduceAdd, Nat.reduceSub, Nat.reduceEqDiff, Nat.reduceLT, Nat.reduceLeDiff, List.getElem?_cons_zero, List.getElem?_cons_succ, List.length_cons, List.length_nil, List.take_succ_cons, List.take_zero, List.drop_succ_cons, List.drop_zero, List.reverse_cons, List.reverse_nil, List.nil_append, List.cons_append, List.append_nil, List.map_cons, List.map_nil, List.sum_cons, List.sum_nil, Bool.false_eq_true, if_false, if_true, Bool.and_true, Bool.true_and, Bool.and_self, Bool.or_true, Bool.true_or, Bool.or_false, Bool.false_or, Bool.or_self, decide_eq_true_eq, decide_true, decide_false, beq_self_eq_true, Option.map_some, reduceCtorEq, true_or, or_true, or_false, false_or, or_self, true_and, and_true, and_self, false_and, and_false, Option.some.injEq, exists_eq_left', ne_eq, not_true_eq_false, not_false_eq_true, eq_self, e_pk, e_pr, e_pn, e_ps, e_pd1, e_pd2, e_us, e_un, e_ifp, e_ifn, e_sk, e_sr, e_sn, e_ss, e_sd1, e_sd2, e_sp, hk0, h1.1, hb, e3])
          | (refine And.intro (fun hc => ?_) (fun hc => ?_) <;> try (exfalso; omega))
        all_goals first | exact ih | (exfalso; omega)
set_option maxRecDepth 8000 in
set_option maxHeartbeats 1000000 in
theorem c_leaderOf {k : Nat} {c n s : Nat} {F : Nat → Int} {σ : eH} {Q : Option eV → eH → Prop} (hk : 1 ≤ k)  (hk0 : σ.2.2.1 c = (20, 8)) (hn8 : n ≤ 8) (hF : ∀ i, i < n → σ.2.2.2.1 c i = F i ∧ -1 ≤ F i ∧ F i < n) (hs : s < n) (hQ : Q (some (.inl ((ldL F s : Nat) : Int))) σ) : e_Wp k 76 [.inl (s : Int), .inr (.inr (c + 2))] σ Q := by
  refine wp_in (nL := 5) (cd := e_k76) (by omega) (by rfl) (Nat.le_of_ble_eq_true rfl) ?_
  dsimp only [e_ent, Nat.reduceSub, List.replicate]
  have hFn : ∀ b, b < n → F b < n := fun b hb => (hF b hb).2.2
  have hwl := ldW_lt hFn 8 s hs
  refine gp_of (by rfl) ?_
  simp (disch := omega) only [e_wi, e_isr, e_isc, e_stp, e_rt, e_load, e_bin, e_binL, e_ld, e_s1, e_s2, e_n0, e_ok, e_cmp, e_ex, e_gif, e_id32, e_id64, e_v0, e_v1, e_v2, e_v3, e_dt, e_c1, e_sw, e_inv, e_cat, e_rcv, Fin.val_zero, Fin.val_one, Int.toNat_add, Int.toNat_mul, Int.toNat_natCast, Int.reduceToNat, Int.reduceMul, Int.reduceAdd, Int.reduceNeg, Nat.reduceAdd, Nat.reduceSub, Nat.reduceEqDiff, Nat.reduceLT, Nat.reduceLeDiff, List.getElem?_cons_zero, List.getElem?_cons_succ, List.length_cons, List.length_nil, List.take_succ_cons, List.take_zero, List.drop_succ_cons, List.drop_zero, List.reverse_cons, List.reverse_nil, List.nil_append, List.cons_append, List.append_nil, List.map_cons, List.map_nil, List.sum_cons, List.sum_nil, Bool.false_eq_true, if_false, if_true, Bool.and_true, Bool.true_and, Bool.and_self, Bool.or_true, Bool.true_or, Bool.or_false, Bool.false_or, Bool.or_self, decide_eq_true_eq, decide_true, decide_false, beq_self_eq_true, Option.map_some, reduceCtorEq, true_or, or_true, or_false, false_or, or_self, true_and, and_true, and_self, false_and, and_false, Option.some.injEq, exists_eq_left', ne_eq, not_true_eq_false, not_false_eq_true, eq_self, e_pk, e_pr, e_pn, e_ps, e_pd1, e_pd2, e_us, e_un, e_ifp, e_ifn, e_sk, e_sr, e_sn, e_ss, e_sd1, e_sd2, e_sp, hk0]
  repeat' first
    | (refine gp_at [4] (by rfl) (by decide) ?_; simp (disch := omega) only [e_wi, e_isr, e_isc, e_stp, e_rt, e_load, e_bin, e_binL, e_ld, e_s1, e_s2, e_n0, e_ok, e_cmp, e_ex, e_gif, e_id32, e_id64, e_v0, e_v1, e_v2, e_v3, e_dt, e_c1, e_sw, e_inv, e_cat, e_rcv, Fin.val_zero, Fin.val_one, Int.toNat_add, Int.toNat_mul, Int.toNat_natCast, Int.reduceToNat, Int.reduceMul, Int.reduceAdd, Int.reduceNeg, Nat.reduceAdd, Nat.reduceSub, Nat.reduceEqDiff, Nat.reduceLT, Nat.reduceLeDiff, List.getElem?_cons_zero, List.getElem?_cons_succ, List.length_cons, List.length_nil, List.take_succ_cons, List.take_zero, List.drop_succ_cons, List.drop_zero, List.reverse_cons, List.reverse_nil, List.nil_append, List.cons_append, List.append_nil, List.map_cons, List.map_nil, List.sum_cons, List.sum_nil, Bool.false_eq_true, if_false, if_true, Bool.and_true, Bool.true_and, Bool.and_self, Bool.or_true, Bool.true_or, Bool.or_false, Bool.false_or, Bool.or_self, decide_eq_true_eq, decide_true, decide_false, beq_self_eq_true, Option.map_some, reduceCtorEq, true_or, or_true, or_false, false_or, or_self, true_and, and_true, and_self, false_and, and_false, Option.some.injEq, exists_eq_left', ne_eq, not_true_eq_false, not_false_eq_true, eq_self, e_pk, e_pr, e_pn, e_ps, e_pd1, e_pd2, e_us, e_un, e_ifp, e_ifn, e_sk, e_sr, e_sn, e_ss, e_sd1, e_sd2, e_sp, hk0])
    | (refine And.intro (fun hc => ?_) (fun hc => ?_) <;> try (exfalso; omega))
  refine c_leaderOf_1 (k := k - 1) hk0 hn8 hF ?_ 8 s 0 (by omega) (by omega) hs rfl
  intro y
  have hL : ldL F s = ldM F 8 (ldW F 8 s) := rfl
  have hml := ldM_le F 8 (ldW F 8 s) 0 (by omega)
  have hml : ldM F 8 (ldW F 8 s) ≤ ldW F 8 s := hml
  rw [hL] at hQ
  generalize ldW F 8 s = w at *
  refine gp_of (by rfl) ?_
  simp (disch := omega) only [e_wi, e_isr, e_isc, e_stp, e_rt, e_load, e_bin, e_binL, e_ld, e_s1, e_s2, e_n0, e_ok, e_cmp, e_ex, e_gif, e_id32, e_id64, e_v0, e_v1, e_v2, e_v3, e_dt, e_c1, e_sw, e_inv, e_cat, e_rcv, Fin.val_zero, Fin.val_one, Int.toNat_add, Int.toNat_mul, Int.toNat_natCast, Int.reduceToNat, Int.reduceMul, Int.reduceAdd, Int.reduceNeg, Nat.reduceAdd, Nat.reduceSub, Nat.reduceEqDiff, Nat.reduceLT, Nat.reduceLeDiff, List.getElem?_cons_zero, List.getElem?_cons_succ, List.length_cons, List.length_nil, List.take_succ_cons, List.take_zero, List.drop_succ_cons, List.drop_zero, List.reverse_cons, List.reverse_nil, List.nil_append, List.cons_append, List.append_nil, List.map_cons, List.map_nil, List.sum_cons, List.sum_nil, Bool.false_eq_true, if_false, if_true, Bool.and_true, Bool.true_and, Bool.and_self, Bool.or_true, Bool.true_or, Bool.or_false, Bool.false_or, Bool.or_self, decide_eq_true_eq, decide_true, decide_false, beq_self_eq_true, Option.map_some, reduceCtorEq, true_or, or_true, or_false, false_or, or_self, true_and, and_true, and_self, false_and, and_false, Option.some.injEq, exists_eq_left', ne_eq, not_true_eq_false, not_false_eq_true, eq_self, e_pk, e_pr, e_pn, e_ps, e_pd1, e_pd2, e_us, e_un, e_ifp, e_ifn, e_sk, e_sr, e_sn, e_ss, e_sd1, e_sd2, e_sp, hk0]
  repeat' first
    | (refine gp_at [32] (by rfl) (by decide) ?_; simp (disch := omega) only [e_wi, e_isr, e_isc, e_stp, e_rt, e_load, e_bin, e_binL, e_ld, e_s1, e_s2, e_n0, e_ok, e_cmp, e_ex, e_gif, e_id32, e_id64, e_v0, e_v1, e_v2, e_v3, e_dt, e_c1, e_sw, e_inv, e_cat, e_rcv, Fin.val_zero, Fin.val_one, Int.toNat_add, Int.toNat_mul, Int.toNat_natCast, Int.reduceToNat, Int.reduceMul, Int.reduceAdd, Int.reduceNeg, Nat.reduceAdd, Nat.reduceSub, Nat.reduceEqDiff, Nat.reduceLT, Nat.reduceLeDiff, List.getElem?_cons_zero, List.getElem?_cons_succ, List.length_cons, List.length_nil, List.take_succ_cons, List.take_zero, List.drop_succ_cons, List.drop_zero, List.reverse_cons, List.reverse_nil, List.nil_append, List.cons_append, List.append_nil, List.map_cons, List.map_nil, List.sum_cons, List.sum_nil, Bool.false_eq_true, if_false, if_true, Bool.and_true, Bool.true_and, Bool.and_self, Bool.or_true, Bool.true_or, Bool.or_false, Bool.false_or, Bool.or_self, decide_eq_true_eq, decide_true, decide_false, beq_self_eq_true, Option.map_some, reduceCtorEq, true_or, or_true, or_false, false_or, or_self, true_and, and_true, and_self, false_and, and_false, Option.some.injEq, exists_eq_left', ne_eq, not_true_eq_false, not_false_eq_true, eq_self, e_pk, e_pr, e_pn, e_ps, e_pd1, e_pd2, e_us, e_un, e_ifp, e_ifn, e_sk, e_sr, e_sn, e_ss, e_sd1, e_sd2, e_sp, hk0])
    | (refine And.intro (fun hc => ?_) (fun hc => ?_) <;> try (exfalso; omega))
  exact c_leaderOf_2 (k := k - 1) hk0 hn8 hF hQ 8 w w 0 (by omega) (by omega) hwl hwl (Nat.le_refl _) (by omega)
set_option maxRecDepth 8000 in
set_option maxHeartbeats 1000000 in
theorem c_leads {k : Nat} {l n s : Nat} {S : Nat → Int} {σ : eH} {Q : Option eV → eH → Prop} (hk : 1 ≤ k)  (hk0 : LdK σ l) (hv : LdV σ l S n) (hs : s < n) (hn8 : n ≤ 8) (hl : ldL (fun i => S (19 + i)) s < 8) (hQ : Q (some (.inl (if ldL (fun i => S (19 + i)) s = s then 1 else 0))) σ) : e_Wp k 89 [.inr (.inr (l + 2)), .inl (s : Int)] σ Q := by
  refine wp_in (nL := 2) (cd := e_k89) (by omega) (by rfl) (Nat.le_of_ble_eq_true rfl) ?_
  dsimp only [e_ent, Nat.reduceSub, List.replicate]
  have h1 := hv.1 s hs
  refine gp_of (by rfl) ?_
  simp (disch := omega) only [e_wi, e_isr, e_isc, e_stp, e_rt, e_load, e_bin, e_binL, e_ld, e_s1, e_s2, e_n0, e_ok, e_cmp, e_ex, e_gif, e_id32, e_id64, e_v0, e_v1, e_v2, e_v3, e_dt, e_c1, e_sw, e_inv, e_cat, e_rcv, Fin.val_zero, Fin.val_one, Int.toNat_add, Int.toNat_mul, Int.toNat_natCast, Int.reduceToNat, Int.reduceMul, Int.reduceAdd, Int.reduceNeg, Nat.reduceAdd, Nat.reduceSub, Nat.reduceEqDiff, Nat.reduceLT, Nat.reduceLeDiff, List.getElem?_cons_zero, List.getElem?_cons_succ, List.length_cons, List.length_nil, List.take_succ_cons, List.take_zero, List.drop_succ_cons, List.drop_zero, List.reverse_cons, List.reverse_nil, List.nil_append, List.cons_append, List.append_nil, List.map_cons, List.map_nil, List.sum_cons, List.sum_nil, Bool.false_eq_true, if_false, if_true, Bool.and_true, Bool.true_and, Bool.and_self, Bool.or_true, Bool.true_or, Bool.or_false, Bool.false_or, Bool.or_self, decide_eq_true_eq, decide_true, decide_false, beq_self_eq_true, Option.map_some, reduceCtorEq, true_or, or_true, or_false, false_or, or_self, true_and, and_true, and_self, false_and, and_false, Option.some.injEq, exists_eq_left', ne_eq, not_true_eq_false, not_false_eq_true, eq_self, e_pk, e_pr, e_pn, e_ps, e_pd1, e_pd2, e_us, e_un, e_ifp, e_ifn, e_sk, e_sr, e_sn, e_ss, e_sd1, e_sd2, e_sp, lk0 hk0, lk1 hk0, lk2 hk0, lk3 hk0, lr0 hk0, lr1 hk0, lr2 hk0, h1]
  repeat' first
    | (refine gp_at [] (by rfl) (by decide) ?_; simp (disch := omega) only [e_wi, e_isr, e_isc, e_stp, e_rt, e_load, e_bin, e_binL, e_ld, e_s1, e_s2, e_n0, e_ok, e_cmp, e_ex, e_gif, e_id32, e_id64, e_v0, e_v1, e_v2, e_v3, e_dt, e_c1, e_sw, e_inv, e_cat, e_rcv, Fin.val_zero, Fin.val_one, Int.toNat_add, Int.toNat_mul, Int.toNat_natCast, Int.reduceToNat, Int.reduceMul, Int.reduceAdd, Int.reduceNeg, Nat.reduceAdd, Nat.reduceSub, Nat.reduceEqDiff, Nat.reduceLT, Nat.reduceLeDiff, List.getElem?_cons_zero, List.getElem?_cons_succ, List.length_cons, List.length_nil, List.take_succ_cons, List.take_zero, List.drop_succ_cons, List.drop_zero, List.reverse_cons, List.reverse_nil, List.nil_append, List.cons_append, List.append_nil, List.map_cons, List.map_nil, List.sum_cons, List.sum_nil, Bool.false_eq_true, if_false, if_true, Bool.and_true, Bool.true_and, Bool.and_self, Bool.or_true, Bool.true_or, Bool.or_false, Bool.false_or, Bool.or_self, decide_eq_true_eq, decide_true, decide_false, beq_self_eq_true, Option.map_some, reduceCtorEq, true_or, or_true, or_false, false_or, or_self, true_and, and_true, and_self, false_and, and_false, Option.some.injEq, exists_eq_left', ne_eq, not_true_eq_false, not_false_eq_true, eq_self, e_pk, e_pr, e_pn, e_ps, e_pd1, e_pd2, e_us, e_un, e_ifp, e_ifn, e_sk, e_sr, e_sn, e_ss, e_sd1, e_sd2, e_sp, lk0 hk0, lk1 hk0, lk2 hk0, lk3 hk0, lr0 hk0, lr1 hk0, lr2 hk0, h1])
    | (refine And.intro (fun hc => ?_) (fun hc => ?_) <;> try (exfalso; omega))
  all_goals first | (exfalso; omega) | (rw [if_pos (by omega)] at hQ; exact hQ) | (rw [if_neg (by omega)] at hQ; exact hQ)
set_option maxRecDepth 8000 in
set_option maxHeartbeats 2000000 in
theorem c_find_l {k : Nat} {l h a n q Y : Nat} {S : Nat → Int} {σ : eH} {Q : Option eV → eH → Prop}  (hk : 1 ≤ k) (hkl : LdK σ l) (hkh : HlK σ h) (hka : StK σ a) (hd : (l + 4 ≤ h ∨ h + 17 ≤ l) ∧ (l + 4 ≤ a ∨ a + 13 ≤ l)) (hok : Ok S n q Y) (hh3 : σ.2.2.2.1 h 3 = (n : Int)) (hhw : ∀ i, i < n → σ.2.2.2.1 (h + 1) i = S (63 + i)) (hsf : ∀ i, i < n → σ.2.2.2.1 (a + 2) i = S (19 + i)) (hQ : ∀ τ, Sn (fun c => l < c ∧ c < l + 4) σ τ → LdV τ l S n → Q none τ) : ∀ (j t : Nat) (z : Int) (τ : eH) (x : Option eV), Sn (fun c => l < c ∧ c < l + 4) σ τ → (∀ i, i < t → τ.2.2.2.1 (l + 1) i = ((ldL (fun i => S (19 + i)) i : Nat) : Int)) → (∀ s, s < 8 → τ.2.2.2.1 (l + 2) s = ls_ld S t s) → (∀ s, s < 8 → τ.2.2.2.1 (l + 3) s = bW (fun i => decide (((ldL (fun i => S (19 + i)) i : Nat) : Int) = (s : Int))) (fun i => S (63 + i)) t) → z = (t : Int) → t + j = n → e_Gp k e_k75 18 [some (.inr (.inr (l + 2))), some (.inr (.inr (h + 2))), some (.inr (.inr (a + 2))), some (.inl z), x] [] τ Q
  | 0, t, z, τ, x, hs1, h1, h2, h3, hz, ht => by
    subst hz
    have hkl1 := hs1.ldk hkl
    have hkh1 := hs1.hlk hkh
    have hka1 := hs1.stk hka
    have hn8 := hok.n8
    have g3 : τ.2.2.2.1 h 3 = (n : Int) := by rw [hs1.at _ (by omega)]; exact hh3
    obtain rfl : n = t := by omega
    refine gp_of (by rfl) ?_
    simp (disch := omega) only [e_wi, e_isr, e_isc, e_stp, e_rt, e_load, e_bin, e_binL, e_ld, e_s1, e_s2, e_n0, e_ok, e_cmp, e_ex, e_gif, e_id32, e_id64, e_v0, e_v1, e_v2, e_v3, e_dt, e_c1, e_sw, e_inv, e_cat, e_rcv, Fin.val_zero, Fin.val_one, Int.toNat_add, Int.toNat_mul, Int.toNat_natCast, Int.reduceToNat, Int.reduceMul, Int.reduceAdd, Int.reduceNeg, Nat.reduceAdd, Nat.reduceSub, Nat.reduceEqDiff, Nat.reduceLT, Nat.reduceLeDiff, List.getElem?_cons_zero, List.getElem?_cons_succ, List.length_cons, List.length_nil, List.take_succ_cons, List.take_zero, List.drop_succ_cons, List.drop_zero, List.reverse_cons, List.reverse_nil, List.nil_append, List.cons_append, List.append_nil, List.map_cons, List.map_nil, List.sum_cons, List.sum_nil, Bool.false_eq_true, if_false, if_true, Bool.and_true, Bool.true_and, Bool.and_self, Bool.or_true, Bool.true_or, Bool.or_false, Bool.false_or, Bool.or_self, decide_eq_true_eq, decide_true, decide_false, beq_self_eq_true, Option.map_some, reduceCtorEq, true_or, or_true, or_false, false_or, or_self, true_and, and_true, and_self, false_and, and_false, Option.some.injEq, exists_eq_left', ne_eq, not_true_eq_false, not_false_eq_true, eq_self, e_pk, e_pr, e_pn, e_ps, e_pd1, e_pd2, e_us, e_un, e_ifp, e_ifn, e_sk, e_sr, e_sn, e_ss, e_sd1, e_sd2, e_sp, lk0 hkl1, lk1 hkl1, lk2 hkl1, lk3 hkl1, lr0 hkl1, lr1 hkl1, lr2 hkl1, hk0 hkh1, hk1 hkh1, hk2 hkh1, hk3 hkh1, hr5 hkh1, hr6 hkh1, hr7 hkh1, hr8 hkh1, sk0 hka1, sk1 hka1, sk2 hka1, sk3 hka1, sk12 hka1, sr0 hka1, sr1 hka1, sr2 hka1, sr3 hka1, g3]
    repeat' first
      | (refine gp_at [18] (by rfl) (by decide) ?_; simp (disch := omega) only [e_wi, e_isr, e_isc, e_stp, e_rt, e_load, e_bin, e_binL, e_ld, e_s1, e_s2, e_n0, e_ok, e_cmp, e_ex, e_gif, e_id32, e_id64, e_v0, e_v1, e_v2, e_v3, e_dt, e_c1, e_sw, e_inv, e_cat, e_rcv, Fin.val_zero, Fin.val_one, Int.toNat_add, Int.toNat_mul, Int.toNat_natCast, Int.reduceToNat, Int.reduceMul, Int.reduceAdd, Int.reduceNeg, Nat.reduceAdd, Nat.reduceSub, Nat.reduceEqDiff, Nat.reduceLT, Nat.reduceLeDiff, List.getElem?_cons_zero, List.getElem?_cons_succ, List.length_cons, List.length_nil, List.take_succ_cons, List.take_zero, List.drop_succ_cons, List.drop_zero, List.reverse_cons, List.reverse_nil, List.nil_append, List.cons_append, List.append_nil, List.map_cons, List.map_nil, List.sum_cons, List.sum_nil, Bool.false_eq_true, if_false, if_true, Bool.and_true, Bool.true_and, Bool.and_self, Bool.or_true, Bool.true_or, Bool.or_false, Bool.false_or, Bool.or_self, decide_eq_true_eq, decide_true, decide_false, beq_self_eq_true, Option.map_some, reduceCtorEq, true_or, or_true, or_false, false_or, or_self, true_and, and_true, and_self, false_and, and_false, Option.some.injEq, exists_eq_left', ne_eq, not_true_eq_false, not_false_eq_true, eq_self, e_pk, e_pr, e_pn, e_ps, e_pd1, e_pd2, e_us, e_un, e_ifp, e_ifn, e_sk, e_sr, e_sn, e_ss, e_sd1, e_sd2, e_sp, lk0 hkl1, lk1 hkl1, lk2 hkl1, lk3 hkl1, lr0 hkl1, lr1 hkl1, lr2 hkl1, hk0 hkh1, hk1 hkh1, hk2 hkh1, hk3 hkh1, hr5 hkh1, hr6 hkh1, hr7 hkh1, hr8 hkh1, sk0 hka1, sk1 hka1, sk2 hka1, sk3 hka1, sk12 hka1, sr0 hka1, sr1 hka1, sr2 hka1, sr3 hka1, g3])
      | (refine And.intro (fun hc => ?_) (fun hc => ?_) <;> try (exfalso; omega))
    all_goals first | exact hQ τ hs1 ⟨h1, h2, h3⟩ | (exfalso; omega)
  | j + 1, t, z, τ, x, hs1, h1, h2, h3, hz, ht => by
    subst hz
    have hkl1 := hs1.ldk hkl
    have hkh1 := hs1.hlk hkh
    have hka1 := hs1.stk hka
    have hn8 := hok.n8
    have g3 : τ.2.2.2.1 h 3 = (n : Int) := by rw [hs1.at _ (by omega)]; exact hh3
    have hld := hok.ld (s := t) (by omega)
    have gw : τ.2.2.2.1 (h + 1) t = S (63 + t) := by rw [hs1.at _ (by omega)]; exact hhw t (by omega)
    have gf : ∀ i, i < n → τ.2.2.2.1 (a + 2) i = S (19 + i) ∧ -1 ≤ S (19 + i) ∧ S (19 + i) < n := fun i hi => ⟨by rw [hs1.at _ (by omega)]; exact hsf i hi, hok.fo i hi⟩
    have hwo := hok.wo t (by omega)
    have ih := fun τ2 x hs2 h1 h2 h3 => c_find_l hk hkl hkh hka hd hok hh3 hhw hsf hQ j (t + 1) ((t : Int) + 1) τ2 x hs2 h1 h2 h3 (by omega) (by omega)
    have r2 := fun s : Nat => ls_ld_rg (S := S) (n := t) (s := s)
    have r3 := fun s : Nat => bW_rg (p := (fun i => decide (((ldL (fun i => S (19 + i)) i : Nat) : Int) = (s : Int)))) (f := fun i => S (63 + i)) (b := 9) (by omega) t (fun i hi => hok.wo i (by omega))
    generalize hLd : ldL (fun i => S (19 + i)) t = d at *
    have d2 := h2 d (by omega)
    have d3 := h3 d (by omega)
    have r2 := r2 d
    have r3 := r3 d
    refine gp_of (by rfl) ?_
    simp (disch := omega) only [e_wi, e_isr, e_isc, e_stp, e_rt, e_load, e_bin, e_binL, e_ld, e_s1, e_s2, e_n0, e_ok, e_cmp, e_ex, e_gif, e_id32, e_id64, e_v0, e_v1, e_v2, e_v3, e_dt, e_c1, e_sw, e_inv, e_cat, e_rcv, Fin.val_zero, Fin.val_one, Int.toNat_add, Int.toNat_mul, Int.toNat_natCast, Int.reduceToNat, Int.reduceMul, Int.reduceAdd, Int.reduceNeg, Nat.reduceAdd, Nat.reduceSub, Nat.reduceEqDiff, Nat.reduceLT, Nat.reduceLeDiff, List.getElem?_cons_zero, List.getElem?_cons_succ, List.length_cons, List.length_nil, List.take_succ_cons, List.take_zero, List.drop_succ_cons, List.drop_zero, List.reverse_cons, List.reverse_nil, List.nil_append, List.cons_append, List.append_nil, List.map_cons, List.map_nil, List.sum_cons, List.sum_nil, Bool.false_eq_true, if_false, if_true, Bool.and_true, Bool.true_and, Bool.and_self, Bool.or_true, Bool.true_or, Bool.or_false, Bool.false_or, Bool.or_self, decide_eq_true_eq, decide_true, decide_false, beq_self_eq_true, Option.map_some, reduceCtorEq, true_or, or_true, or_false, false_or, or_self, true_and, and_true, and_self, false_and, and_false, Option.some.injEq, exists_eq_left', ne_eq, not_true_eq_false, not_false_eq_true, eq_self, e_pk, e_pr, e_pn, e_ps, e_pd1, e_pd2, e_us, e_un, e_ifp, e_ifn, e_sk, e_sr, e_sn, e_ss, e_sd1, e_sd2, e_sp, lk0 hkl1, lk1 hkl1, lk2 hkl1, lk3 hkl1, lr0 hkl1, lr1 hkl1, lr2 hkl1, hk0 hkh1, hk1 hkh1, hk2 hkh1, hk3 hkh1, hr5 hkh1, hr6 hkh1, hr7 hkh1, hr8 hkh1, sk0 hka1, sk1 hka1, sk2 hka1, sk3 hka1, sk12 hka1, sr0 hka1, sr1 hka1, sr2 hka1, sr3 hka1, g3, gw, d2, d3]
    repeat' first
      | (refine gp_at [18] (by rfl) (by decide) ?_; simp (disch := omega) only [e_wi, e_isr, e_isc, e_stp, e_rt, e_load, e_bin, e_binL, e_ld, e_s1, e_s2, e_n0, e_ok, e_cmp, e_ex, e_gif, e_id32, e_id64, e_v0, e_v1, e_v2, e_v3, e_dt, e_c1, e_sw, e_inv, e_cat, e_rcv, Fin.val_zero, Fin.val_one, Int.toNat_add, Int.toNat_mul, Int.toNat_natCast, Int.reduceToNat, Int.reduceMul, Int.reduceAdd, Int.reduceNeg, Nat.reduceAdd, Nat.reduceSub, Nat.reduceEqDiff, Nat.reduceLT, Nat.reduceLeDiff, List.getElem?_cons_zero, List.getElem?_cons_succ, List.length_cons, List.length_nil, List.take_succ_cons, List.take_zero, List.drop_succ_cons, List.drop_zero, List.reverse_cons, List.reverse_nil, List.nil_append, List.cons_append, List.append_nil, List.map_cons, List.map_nil, List.sum_cons, List.sum_nil, Bool.false_eq_true, if_false, if_true, Bool.and_true, Bool.true_and, Bool.and_self, Bool.or_true, Bool.true_or, Bool.or_false, Bool.false_or, Bool.or_self, decide_eq_true_eq, decide_true, decide_false, beq_self_eq_true, Option.map_some, reduceCtorEq, true_or, or_true, or_false, false_or, or_self, true_and, and_true, and_self, false_and, and_false, Option.some.injEq, exists_eq_left', ne_eq, not_true_eq_false, not_false_eq_true, eq_self, e_pk, e_pr, e_pn, e_ps, e_pd1, e_pd2, e_us, e_un, e_ifp, e_ifn, e_sk, e_sr, e_sn, e_ss, e_sd1, e_sd2, e_sp, lk0 hkl1, lk1 hkl1, lk2 hkl1, lk3 hkl1, lr0 hkl1, lr1 hkl1, lr2 hkl1, hk0 hkh1, hk1 hkh1, hk2 hkh1, hk3 hkh1, hr5 hkh1, hr6 hkh1, hr7 hkh1, hr8 hkh1, sk0 hka1, sk1 hka1, sk2 hka1, sk3 hka1, sk12 hka1, sr0 hka1, sr1 hka1, sr2 hka1, sr3 hka1, g3, gw, d2, d3])
      | (refine And.intro (fun hc => ?_) (fun hc => ?_) <;> try (exfalso; omega))
      | ((refine c_leaderOf (by omega) (sk2 hka1) hn8 gf (by omega) ?_; rw [hLd]); dsimp only [Option.toList, List.cons_append, List.nil_append, Nat.reduceAdd])
    all_goals first | (exfalso; omega) | skip
    refine ih _ _ (((hs1.put ⟨by omega, by omega⟩).put ⟨by omega, by omega⟩).put ⟨by omega, by omega⟩) ?_ ?_ ?_
    · intro i hi
      rw [e_pd2 _ (by omega), e_pd2 _ (by omega), e_pd1]
      by_cases e : i = t
      · subst e
        rw [e_us, hLd]
      · rw [e_un _ e]
        exact h1 i (by omega)
    · intro s hs
      rw [e_pd2 _ (by omega), e_pd1]
      have hsu : ls_ld S (t + 1) s = ls_ld S t s + if d = s then 1 else 0 := by
        unfold ls_ld
        conv => lhs; unfold bC
        rw [hLd]
        by_cases e : d = s
        · subst e
          simp
        · have e2 : ¬ ((d : Int) = (s : Int)) := by omega
          simp [e, e2]
      by_cases e : s = d
      · subst e
        rw [e_us, hsu, if_pos rfl]
      · rw [e_un _ e, e_pd2 _ (by omega), hsu, if_neg (fun h => e h.symm), Int.add_zero]
        exact h2 s hs
    · intro s hs
      rw [e_pd1]
      have hsu : bW (fun i => decide (((ldL (fun i => S (19 + i)) i : Nat) : Int) = (s : Int))) (fun i => S (63 + i)) (t + 1) = bW (fun i => decide (((ldL (fun i => S (19 + i)) i : Nat) : Int) = (s : Int))) (fun i => S (63 + i)) t + if d = s then S (63 + t) else 0 := by
        conv => lhs; unfold bW
        rw [hLd]
        by_cases e : d = s
        · subst e
          simp
        · have e2 : ¬ ((d : Int) = (s : Int)) := by omega
          simp [e, e2]
      by_cases e : s = d
      · subst e
        rw [e_us, hsu, if_pos rfl]
      · rw [e_un _ e, e_pd2 _ (by omega), e_pd2 _ (by omega), hsu, if_neg (fun h => e h.symm), Int.add_zero]
        exact h3 s hs
set_option maxRecDepth 8000 in
set_option maxHeartbeats 1000000 in
theorem c_find {k : Nat} {l h a n q Y : Nat} {S : Nat → Int} {σ : eH} {Q : Option eV → eH → Prop} (hk : 3 ≤ k)  (hkl : LdK σ l) (hkh : HlK σ h) (hka : StK σ a) (hd : (l + 4 ≤ h ∨ h + 17 ≤ l) ∧ (l + 4 ≤ a ∨ a + 13 ≤ l)) (hok : Ok S n q Y) (hh3 : σ.2.2.2.1 h 3 = (n : Int)) (hhw : ∀ i, i < n → σ.2.2.2.1 (h + 1) i = S (63 + i)) (hsf : ∀ i, i < n → σ.2.2.2.1 (a + 2) i = S (19 + i)) (hQ : ∀ τ, Sn (fun c => l < c ∧ c < l + 4) σ τ → LdV τ l S n → Q none τ) : e_Wp k 75 [.inr (.inr (l + 2)), .inr (.inr (h + 2)), .inr (.inr (a + 2))] σ Q := by
  refine wp_in (nL := 5) (cd := e_k75) (by omega) (by rfl) (Nat.le_of_ble_eq_true rfl) ?_
  dsimp only [e_ent, Nat.reduceSub, List.replicate]
  refine gp_of (by rfl) ?_
  simp (disch := omega) only [e_wi, e_isr, e_isc, e_stp, e_rt, e_load, e_bin, e_binL, e_ld, e_s1, e_s2, e_n0, e_ok, e_cmp, e_ex, e_gif, e_id32, e_id64, e_v0, e_v1, e_v2, e_v3, e_dt, e_c1, e_sw, e_inv, e_cat, e_rcv, Fin.val_zero, Fin.val_one, Int.toNat_add, Int.toNat_mul, Int.toNat_natCast, Int.reduceToNat, Int.reduceMul, Int.reduceAdd, Int.reduceNeg, Nat.reduceAdd, Nat.reduceSub, Nat.reduceEqDiff, Nat.reduceLT, Nat.reduceLeDiff, List.getElem?_cons_zero, List.getElem?_cons_succ, List.length_cons, List.length_nil, List.take_succ_cons, List.take_zero, List.drop_succ_cons, List.drop_zero, List.reverse_cons, List.reverse_nil, List.nil_append, List.cons_append, List.append_nil, List.map_cons, List.map_nil, List.sum_cons, List.sum_nil, Bool.false_eq_true, if_false, if_true, Bool.and_true, Bool.true_and, Bool.and_self, Bool.or_true, Bool.true_or, Bool.or_false, Bool.false_or, Bool.or_self, decide_eq_true_eq, decide_true, decide_false, beq_self_eq_true, Option.map_some, reduceCtorEq, true_or, or_true, or_false, false_or, or_self, true_and, and_true, and_self, false_and, and_false, Option.some.injEq, exists_eq_left', ne_eq, not_true_eq_false, not_false_eq_true, eq_self, e_pk, e_pr, e_pn, e_ps, e_pd1, e_pd2, e_us, e_un, e_ifp, e_ifn, e_sk, e_sr, e_sn, e_ss, e_sd1, e_sd2, e_sp, lk0 hkl, lk1 hkl, lk2 hkl, lk3 hkl, lr0 hkl, lr1 hkl, lr2 hkl]
  repeat' first
    | (refine gp_at [8] (by rfl) (by decide) ?_; simp (disch := omega) only [e_wi, e_isr, e_isc, e_stp, e_rt, e_load, e_bin, e_binL, e_ld, e_s1, e_s2, e_n0, e_ok, e_cmp, e_ex, e_gif, e_id32, e_id64, e_v0, e_v1, e_v2, e_v3, e_dt, e_c1, e_sw, e_inv, e_cat, e_rcv, Fin.val_zero, Fin.val_one, Int.toNat_add, Int.toNat_mul, Int.toNat_natCast, Int.reduceToNat, Int.reduceMul, Int.reduceAdd, Int.reduceNeg, Nat.reduceAdd, Nat.reduceSub, Nat.reduceEqDiff, Nat.reduceLT, Nat.reduceLeDiff, List.getElem?_cons_zero, List.getElem?_cons_succ, List.length_cons, List.length_nil, List.take_succ_cons, List.take_zero, List.drop_succ_cons, List.drop_zero, List.reverse_cons, List.reverse_nil, List.nil_append, List.cons_append, List.append_nil, List.map_cons, List.map_nil, List.sum_cons, List.sum_nil, Bool.false_eq_true, if_false, if_true, Bool.and_true, Bool.true_and, Bool.and_self, Bool.or_true, Bool.true_or, Bool.or_false, Bool.false_or, Bool.or_self, decide_eq_true_eq, decide_true, decide_false, beq_self_eq_true, Option.map_some, reduceCtorEq, true_or, or_true, or_false, false_or, or_self, true_and, and_true, and_self, false_and, and_false, Option.some.injEq, exists_eq_left', ne_eq, not_true_eq_false, not_false_eq_true, eq_self, e_pk, e_pr, e_pn, e_ps, e_pd1, e_pd2, e_us, e_un, e_ifp, e_ifn, e_sk, e_sr, e_sn, e_ss, e_sd1, e_sd2, e_sp, lk0 hkl, lk1 hkl, lk2 hkl, lk3 hkl, lr0 hkl, lr1 hkl, lr2 hkl])
    | (refine And.intro (fun hc => ?_) (fun hc => ?_) <;> try (exfalso; omega))
    | ((refine c_fill (c := l + 2) (len := 8) (by omega) (lk2 hkl) (by omega) (fun τ2 hs2 hv2 => ?_)); dsimp only [Option.toList, List.cons_append, List.nil_append, Nat.reduceAdd])
  have hkl2 := hs2.ldk hkl
  refine gp_of (by rfl) ?_
  simp (disch := omega) only [e_wi, e_isr, e_isc, e_stp, e_rt, e_load, e_bin, e_binL, e_ld, e_s1, e_s2, e_n0, e_ok, e_cmp, e_ex, e_gif, e_id32, e_id64, e_v0, e_v1, e_v2, e_v3, e_dt, e_c1, e_sw, e_inv, e_cat, e_rcv, Fin.val_zero, Fin.val_one, Int.toNat_add, Int.toNat_mul, Int.toNat_natCast, Int.reduceToNat, Int.reduceMul, Int.reduceAdd, Int.reduceNeg, Nat.reduceAdd, Nat.reduceSub, Nat.reduceEqDiff, Nat.reduceLT, Nat.reduceLeDiff, List.getElem?_cons_zero, List.getElem?_cons_succ, List.length_cons, List.length_nil, List.take_succ_cons, List.take_zero, List.drop_succ_cons, List.drop_zero, List.reverse_cons, List.reverse_nil, List.nil_append, List.cons_append, List.append_nil, List.map_cons, List.map_nil, List.sum_cons, List.sum_nil, Bool.false_eq_true, if_false, if_true, Bool.and_true, Bool.true_and, Bool.and_self, Bool.or_true, Bool.true_or, Bool.or_false, Bool.false_or, Bool.or_self, decide_eq_true_eq, decide_true, decide_false, beq_self_eq_true, Option.map_some, reduceCtorEq, true_or, or_true, or_false, false_or, or_self, true_and, and_true, and_self, false_and, and_false, Option.some.injEq, exists_eq_left', ne_eq, not_true_eq_false, not_false_eq_true, eq_self, e_pk, e_pr, e_pn, e_ps, e_pd1, e_pd2, e_us, e_un, e_ifp, e_ifn, e_sk, e_sr, e_sn, e_ss, e_sd1, e_sd2, e_sp, lk0 hkl2, lk1 hkl2, lk2 hkl2, lk3 hkl2, lr0 hkl2, lr1 hkl2, lr2 hkl2]
  repeat' first
    | (refine gp_at [16] (by rfl) (by decide) ?_; simp (disch := omega) only [e_wi, e_isr, e_isc, e_stp, e_rt, e_load, e_bin, e_binL, e_ld, e_s1, e_s2, e_n0, e_ok, e_cmp, e_ex, e_gif, e_id32, e_id64, e_v0, e_v1, e_v2, e_v3, e_dt, e_c1, e_sw, e_inv, e_cat, e_rcv, Fin.val_zero, Fin.val_one, Int.toNat_add, Int.toNat_mul, Int.toNat_natCast, Int.reduceToNat, Int.reduceMul, Int.reduceAdd, Int.reduceNeg, Nat.reduceAdd, Nat.reduceSub, Nat.reduceEqDiff, Nat.reduceLT, Nat.reduceLeDiff, List.getElem?_cons_zero, List.getElem?_cons_succ, List.length_cons, List.length_nil, List.take_succ_cons, List.take_zero, List.drop_succ_cons, List.drop_zero, List.reverse_cons, List.reverse_nil, List.nil_append, List.cons_append, List.append_nil, List.map_cons, List.map_nil, List.sum_cons, List.sum_nil, Bool.false_eq_true, if_false, if_true, Bool.and_true, Bool.true_and, Bool.and_self, Bool.or_true, Bool.true_or, Bool.or_false, Bool.false_or, Bool.or_self, decide_eq_true_eq, decide_true, decide_false, beq_self_eq_true, Option.map_some, reduceCtorEq, true_or, or_true, or_false, false_or, or_self, true_and, and_true, and_self, false_and, and_false, Option.some.injEq, exists_eq_left', ne_eq, not_true_eq_false, not_false_eq_true, eq_self, e_pk, e_pr, e_pn, e_ps, e_pd1, e_pd2, e_us, e_un, e_ifp, e_ifn, e_sk, e_sr, e_sn, e_ss, e_sd1, e_sd2, e_sp, lk0 hkl2, lk1 hkl2, lk2 hkl2, lk3 hkl2, lr0 hkl2, lr1 hkl2, lr2 hkl2])
    | (refine And.intro (fun hc => ?_) (fun hc => ?_) <;> try (exfalso; omega))
    | ((refine c_fill (c := l + 3) (len := 8) (by omega) (lk3 hkl2) (by omega) (fun τ3 hs3 hv3 => ?_)); dsimp only [Option.toList, List.cons_append, List.nil_append, Nat.reduceAdd])
  have hkl3 := hs3.ldk hkl2
  refine gp_of (by rfl) ?_
  simp (disch := omega) only [e_wi, e_isr, e_isc, e_stp, e_rt, e_load, e_bin, e_binL, e_ld, e_s1, e_s2, e_n0, e_ok, e_cmp, e_ex, e_gif, e_id32, e_id64, e_v0, e_v1, e_v2, e_v3, e_dt, e_c1, e_sw, e_inv, e_cat, e_rcv, Fin.val_zero, Fin.val_one, Int.toNat_add, Int.toNat_mul, Int.toNat_natCast, Int.reduceToNat, Int.reduceMul, Int.reduceAdd, Int.reduceNeg, Nat.reduceAdd, Nat.reduceSub, Nat.reduceEqDiff, Nat.reduceLT, Nat.reduceLeDiff, List.getElem?_cons_zero, List.getElem?_cons_succ, List.length_cons, List.length_nil, List.take_succ_cons, List.take_zero, List.drop_succ_cons, List.drop_zero, List.reverse_cons, List.reverse_nil, List.nil_append, List.cons_append, List.append_nil, List.map_cons, List.map_nil, List.sum_cons, List.sum_nil, Bool.false_eq_true, if_false, if_true, Bool.and_true, Bool.true_and, Bool.and_self, Bool.or_true, Bool.true_or, Bool.or_false, Bool.false_or, Bool.or_self, decide_eq_true_eq, decide_true, decide_false, beq_self_eq_true, Option.map_some, reduceCtorEq, true_or, or_true, or_false, false_or, or_self, true_and, and_true, and_self, false_and, and_false, Option.some.injEq, exists_eq_left', ne_eq, not_true_eq_false, not_false_eq_true, eq_self, e_pk, e_pr, e_pn, e_ps, e_pd1, e_pd2, e_us, e_un, e_ifp, e_ifn, e_sk, e_sr, e_sn, e_ss, e_sd1, e_sd2, e_sp, lk0 hkl3, lk1 hkl3, lk2 hkl3, lk3 hkl3, lr0 hkl3, lr1 hkl3, lr2 hkl3]
  repeat' first
    | (refine gp_at [18] (by rfl) (by decide) ?_; simp (disch := omega) only [e_wi, e_isr, e_isc, e_stp, e_rt, e_load, e_bin, e_binL, e_ld, e_s1, e_s2, e_n0, e_ok, e_cmp, e_ex, e_gif, e_id32, e_id64, e_v0, e_v1, e_v2, e_v3, e_dt, e_c1, e_sw, e_inv, e_cat, e_rcv, Fin.val_zero, Fin.val_one, Int.toNat_add, Int.toNat_mul, Int.toNat_natCast, Int.reduceToNat, Int.reduceMul, Int.reduceAdd, Int.reduceNeg, Nat.reduceAdd, Nat.reduceSub, Nat.reduceEqDiff, Nat.reduceLT, Nat.reduceLeDiff, List.getElem?_cons_zero, List.getElem?_cons_succ, List.length_cons, List.length_nil, List.take_succ_cons, List.take_zero, List.drop_succ_cons, List.drop_zero, List.reverse_cons, List.reverse_nil, List.nil_append, List.cons_append, List.append_nil, List.map_cons, List.map_nil, List.sum_cons, List.sum_nil, Bool.false_eq_true, if_false, if_true, Bool.and_true, Bool.true_and, Bool.and_self, Bool.or_true, Bool.true_or, Bool.or_false, Bool.false_or, Bool.or_self, decide_eq_true_eq, decide_true, decide_false, beq_self_eq_true, Option.map_some, reduceCtorEq, true_or, or_true, or_false, false_or, or_self, true_and, and_true, and_self, false_and, and_false, Option.some.injEq, exists_eq_left', ne_eq, not_true_eq_false, not_false_eq_true, eq_self, e_pk, e_pr, e_pn, e_ps, e_pd1, e_pd2, e_us, e_un, e_ifp, e_ifn, e_sk, e_sr, e_sn, e_ss, e_sd1, e_sd2, e_sp, lk0 hkl3, lk1 hkl3, lk2 hkl3, lk3 hkl3, lr0 hkl3, lr1 hkl3, lr2 hkl3])
    | (refine And.intro (fun hc => ?_) (fun hc => ?_) <;> try (exfalso; omega))
  refine c_find_l (k := k - 1) (by omega) hkl hkh hka hd hok hh3 hhw hsf hQ n 0 0 τ3 _ ((hs2.mn (fun c hc => ⟨by omega, by omega⟩)).tr (hs3.mn (fun c hc => ⟨by omega, by omega⟩))) (fun i hi => by omega) ?_ ?_ rfl (by omega)
  · intro s hs
    rw [hs3.at _ (by omega), hv2 s hs]
    rfl
  · intro s hs
    rw [hv3 s hs]
    rfl
