theorem b_a255 (x : Int) : (Int32.ofInt x &&& Int32.ofInt 255).toInt = x % 256 := by
  have h : Int32.ofInt x = Int32.ofInt (((x % 4294967296).toNat : Nat) : Int) := by
    rw [e_eq32, Int.toNat_of_nonneg (by omega)]
    show x.bmod 4294967296 = (x % ((4294967296 : Nat) : Int)).bmod 4294967296
    rw [Int.emod_bmod]
  rw [h, show Int32.ofInt 255 = Int32.ofInt ((255 : Nat) : Int) from rfl, Int32.and_comm, b_andI (by omega), Nat.and_comm, show (255 : Nat) = 2 ^ 8 - 1 from rfl, Nat.and_two_pow_sub_one_eq_mod]
  omega
theorem b_or8 {x y : Int} (hx : 0 ≤ x) (hx2 : x < 36028797018963968) (hy : 0 ≤ y) (hy2 : y < 256) : (Int64.ofInt (x * 2 ^ 8) ||| Int64.ofInt y).toInt = 256 * x + y := by
  obtain ⟨a, rfl⟩ : ∃ z : Nat, x = (z : Int) := ⟨x.toNat, by omega⟩
  obtain ⟨b, rfl⟩ : ∃ z : Nat, y = (z : Int) := ⟨y.toNat, by omega⟩
  have e : Int64.ofInt ((a : Int) * 2 ^ 8) ||| Int64.ofInt (b : Int) = Int64.ofInt ((256 * a + b : Nat) : Int) := by
    apply Int64.toBitVec_inj.mp
    show BitVec.ofInt 64 ((a : Int) * 2 ^ 8) ||| BitVec.ofInt 64 (b : Int) = BitVec.ofInt 64 ((256 * a + b : Nat) : Int)
    rw [show (a : Int) * 2 ^ 8 = ((a * 2 ^ 8 : Nat) : Int) from rfl, BitVec.ofInt_natCast, BitVec.ofInt_natCast, BitVec.ofInt_natCast, ← BitVec.ofNat_or, ← Nat.shiftLeft_eq, ← Nat.shiftLeft_add_eq_or_of_lt (by omega), Nat.shiftLeft_eq]
    congr 1
    omega
  rw [e, e_o64, e_id64 (by omega) (by omega)]
  omega
/-- the String of words, as it is given -/
def Tx (σ : eH) : Prop := σ.2.2.1 1 = (13, 2) ∧ σ.2.2.1 2 = (29, 94) ∧ σ.2.2.2.2 1 0 = 4 ∧ σ.2.2.2.1 1 1 = 0 ∧ ∀ j, σ.2.2.2.1 2 j = ((e_bs.getD j 0 : Nat) : Int)
def k_W (j : Nat) : Int := ((e_bs.getD j 0 : Nat) : Int)
theorem k_W_b (j : Nat) : 0 ≤ k_W j ∧ k_W j < 128 := by
  have h : ∀ x, x ∈ e_bs → x < 128 := by decide
  unfold k_W
  rw [List.getD_eq_getElem?_getD]
  cases e : e_bs[j]? with
  | none => exact ⟨by decide, by decide⟩
  | some y =>
    have := h y (List.mem_of_getElem? e)
    show (0 : Int) ≤ (y : Int) ∧ (y : Int) < 128
    omega
set_option maxRecDepth 8000 in
set_option maxHeartbeats 1000000 in
theorem c_coder {k : Nat} {σ : eH} {Q : Option eV → eH → Prop} (hk : 1 ≤ k) (ht : Tx σ) (hQ : Q (some (.inl 0)) σ) : e_Wp k 26 [.inr (.inr 3)] σ Q := by
  refine wp_in (nL := 1) (cd := e_k26) (by omega) (by rfl) (Nat.le_of_ble_eq_true rfl) ?_
  dsimp only [e_ent, Nat.reduceSub, List.replicate]
  refine gp_of (by rfl) ?_
  simp (disch := omega) only [e_wi, e_isr, e_isc, e_stp, e_rt, e_load, e_bin, e_binL, e_ld, e_s1, e_s2, e_n0, e_ok, e_cmp, e_ex, e_gif, e_id32, e_id64, e_v0, e_v1, e_v2, e_v3, e_dt, e_c1, e_sw, e_inv, e_cat, e_rcv, Fin.val_zero, Fin.val_one, Int.toNat_add, Int.toNat_mul, Int.toNat_natCast, Int.reduceToNat, Int.reduceMul, Int.reduceAdd, Int.reduceNeg, Nat.reduceAdd, Nat.reduceSub, Nat.reduceEqDiff, Nat.reduceLT, Nat.reduceLeDiff, List.getElem?_cons_zero, List.getElem?_cons_succ, List.length_cons, List.length_nil, List.take_succ_cons, List.take_zero, List.drop_succ_cons, List.drop_zero, List.reverse_cons, List.reverse_nil, List.nil_append, List.cons_append, List.append_nil, List.map_cons, List.map_nil, List.sum_cons, List.sum_nil, Bool.false_eq_true, if_false, if_true, Bool.and_true, Bool.true_and, Bool.and_self, Bool.or_true, Bool.true_or, Bool.or_false, Bool.false_or, Bool.or_self, decide_eq_true_eq, decide_true, decide_false, beq_self_eq_true, Option.map_some, reduceCtorEq, true_or, or_true, or_false, false_or, or_self, true_and, and_true, and_self, false_and, and_false, Option.some.injEq, exists_eq_left', ne_eq, not_true_eq_false, not_false_eq_true, eq_self, e_pk, e_pr, e_pn, e_ps, e_pd1, e_pd2, e_us, e_un, e_ifp, e_ifn, e_sk, e_sr, e_sn, e_ss, e_sd1, e_sd2, e_sp, ht.1, ht.2.1, ht.2.2.1, ht.2.2.2.1]
  repeat' first
    | (refine gp_at [] (by rfl) (by decide) ?_; simp (disch := omega) only [e_wi, e_isr, e_isc, e_stp, e_rt, e_load, e_bin, e_binL, e_ld, e_s1, e_s2, e_n0, e_ok, e_cmp, e_ex, e_gif, e_id32, e_id64, e_v0, e_v1, e_v2, e_v3, e_dt, e_c1, e_sw, e_inv, e_cat, e_rcv, Fin.val_zero, Fin.val_one, Int.toNat_add, Int.toNat_mul, Int.toNat_natCast, Int.reduceToNat, Int.reduceMul, Int.reduceAdd, Int.reduceNeg, Nat.reduceAdd, Nat.reduceSub, Nat.reduceEqDiff, Nat.reduceLT, Nat.reduceLeDiff, List.getElem?_cons_zero, List.getElem?_cons_succ, List.length_cons, List.length_nil, List.take_succ_cons, List.take_zero, List.drop_succ_cons, List.drop_zero, List.reverse_cons, List.reverse_nil, List.nil_append, List.cons_append, List.append_nil, List.map_cons, List.map_nil, List.sum_cons, List.sum_nil, Bool.false_eq_true, if_false, if_true, Bool.and_true, Bool.true_and, Bool.and_self, Bool.or_true, Bool.true_or, Bool.or_false, Bool.false_or, Bool.or_self, decide_eq_true_eq, decide_true, decide_false, beq_self_eq_true, Option.map_some, reduceCtorEq, true_or, or_true, or_false, false_or, or_self, true_and, and_true, and_self, false_and, and_false, Option.some.injEq, exists_eq_left', ne_eq, not_true_eq_false, not_false_eq_true, eq_self, e_pk, e_pr, e_pn, e_ps, e_pd1, e_pd2, e_us, e_un, e_ifp, e_ifn, e_sk, e_sr, e_sn, e_ss, e_sd1, e_sd2, e_sp, ht.1, ht.2.1, ht.2.2.1, ht.2.2.2.1])
    | (refine And.intro (fun hc => ?_) (fun hc => ?_) <;> try (exfalso; omega))
  all_goals first | exact hQ | (exfalso; omega) | skip
set_option maxRecDepth 8000 in
set_option maxHeartbeats 1000000 in
theorem c_slen {k : Nat} {σ : eH} {Q : Option eV → eH → Prop} (hk : 2 ≤ k) (ht : Tx σ) (hQ : Q (some (.inl 94)) σ) : e_Wp k 25 [.inr (.inr 3)] σ Q := by
  refine wp_in (nL := 1) (cd := e_k25) (by omega) (by rfl) (Nat.le_of_ble_eq_true rfl) ?_
  dsimp only [e_ent, Nat.reduceSub, List.replicate]
  refine gp_of (by rfl) ?_
  simp (disch := omega) only [e_wi, e_isr, e_isc, e_stp, e_rt, e_load, e_bin, e_binL, e_ld, e_s1, e_s2, e_n0, e_ok, e_cmp, e_ex, e_gif, e_id32, e_id64, e_v0, e_v1, e_v2, e_v3, e_dt, e_c1, e_sw, e_inv, e_cat, e_rcv, Fin.val_zero, Fin.val_one, Int.toNat_add, Int.toNat_mul, Int.toNat_natCast, Int.reduceToNat, Int.reduceMul, Int.reduceAdd, Int.reduceNeg, Nat.reduceAdd, Nat.reduceSub, Nat.reduceEqDiff, Nat.reduceLT, Nat.reduceLeDiff, List.getElem?_cons_zero, List.getElem?_cons_succ, List.length_cons, List.length_nil, List.take_succ_cons, List.take_zero, List.drop_succ_cons, List.drop_zero, List.reverse_cons, List.reverse_nil, List.nil_append, List.cons_append, List.append_nil, List.map_cons, List.map_nil, List.sum_cons, List.sum_nil, Bool.false_eq_true, if_false, if_true, Bool.and_true, Bool.true_and, Bool.and_self, Bool.or_true, Bool.true_or, Bool.or_false, Bool.false_or, Bool.or_self, decide_eq_true_eq, decide_true, decide_false, beq_self_eq_true, Option.map_some, reduceCtorEq, true_or, or_true, or_false, false_or, or_self, true_and, and_true, and_self, false_and, and_false, Option.some.injEq, exists_eq_left', ne_eq, not_true_eq_false, not_false_eq_true, eq_self, e_pk, e_pr, e_pn, e_ps, e_pd1, e_pd2, e_us, e_un, e_ifp, e_ifn, e_sk, e_sr, e_sn, e_ss, e_sd1, e_sd2, e_sp, ht.1, ht.2.1, ht.2.2.1, ht.2.2.2.1]
  repeat' first
    | (refine gp_at [] (by rfl) (by decide) ?_; simp (disch := omega) only [e_wi, e_isr, e_isc, e_stp, e_rt, e_load, e_bin, e_binL, e_ld, e_s1, e_s2, e_n0, e_ok, e_cmp, e_ex, e_gif, e_id32, e_id64, e_v0, e_v1, e_v2, e_v3, e_dt, e_c1, e_sw, e_inv, e_cat, e_rcv, Fin.val_zero, Fin.val_one, Int.toNat_add, Int.toNat_mul, Int.toNat_natCast, Int.reduceToNat, Int.reduceMul, Int.reduceAdd, Int.reduceNeg, Nat.reduceAdd, Nat.reduceSub, Nat.reduceEqDiff, Nat.reduceLT, Nat.reduceLeDiff, List.getElem?_cons_zero, List.getElem?_cons_succ, List.length_cons, List.length_nil, List.take_succ_cons, List.take_zero, List.drop_succ_cons, List.drop_zero, List.reverse_cons, List.reverse_nil, List.nil_append, List.cons_append, List.append_nil, List.map_cons, List.map_nil, List.sum_cons, List.sum_nil, Bool.false_eq_true, if_false, if_true, Bool.and_true, Bool.true_and, Bool.and_self, Bool.or_true, Bool.true_or, Bool.or_false, Bool.false_or, Bool.or_self, decide_eq_true_eq, decide_true, decide_false, beq_self_eq_true, Option.map_some, reduceCtorEq, true_or, or_true, or_false, false_or, or_self, true_and, and_true, and_self, false_and, and_false, Option.some.injEq, exists_eq_left', ne_eq, not_true_eq_false, not_false_eq_true, eq_self, e_pk, e_pr, e_pn, e_ps, e_pd1, e_pd2, e_us, e_un, e_ifp, e_ifn, e_sk, e_sr, e_sn, e_ss, e_sd1, e_sd2, e_sp, ht.1, ht.2.1, ht.2.2.1, ht.2.2.2.1])
    | (refine And.intro (fun hc => ?_) (fun hc => ?_) <;> try (exfalso; omega))
    | ((refine c_coder (by omega) ht ?_); dsimp only [Option.toList, List.cons_append, List.nil_append, Nat.reduceAdd])
  all_goals first | exact hQ | (exfalso; omega) | skip
set_option maxRecDepth 8000 in
set_option maxHeartbeats 1000000 in
theorem c_latin1 {k : Nat} {σ : eH} {Q : Option eV → eH → Prop} (hk : 1 ≤ k) (ht : Tx σ) (hQ : Q (some (.inl 1)) σ) : e_Wp k 28 [.inr (.inr 3)] σ Q := by
  refine wp_in (nL := 1) (cd := e_k28) (by omega) (by rfl) (Nat.le_of_ble_eq_true rfl) ?_
  dsimp only [e_ent, Nat.reduceSub, List.replicate]
  refine gp_of (by rfl) ?_
  simp (disch := omega) only [e_wi, e_isr, e_isc, e_stp, e_rt, e_load, e_bin, e_binL, e_ld, e_s1, e_s2, e_n0, e_ok, e_cmp, e_ex, e_gif, e_id32, e_id64, e_v0, e_v1, e_v2, e_v3, e_dt, e_c1, e_sw, e_inv, e_cat, e_rcv, Fin.val_zero, Fin.val_one, Int.toNat_add, Int.toNat_mul, Int.toNat_natCast, Int.reduceToNat, Int.reduceMul, Int.reduceAdd, Int.reduceNeg, Nat.reduceAdd, Nat.reduceSub, Nat.reduceEqDiff, Nat.reduceLT, Nat.reduceLeDiff, List.getElem?_cons_zero, List.getElem?_cons_succ, List.length_cons, List.length_nil, List.take_succ_cons, List.take_zero, List.drop_succ_cons, List.drop_zero, List.reverse_cons, List.reverse_nil, List.nil_append, List.cons_append, List.append_nil, List.map_cons, List.map_nil, List.sum_cons, List.sum_nil, Bool.false_eq_true, if_false, if_true, Bool.and_true, Bool.true_and, Bool.and_self, Bool.or_true, Bool.true_or, Bool.or_false, Bool.false_or, Bool.or_self, decide_eq_true_eq, decide_true, decide_false, beq_self_eq_true, Option.map_some, reduceCtorEq, true_or, or_true, or_false, false_or, or_self, true_and, and_true, and_self, false_and, and_false, Option.some.injEq, exists_eq_left', ne_eq, not_true_eq_false, not_false_eq_true, eq_self, e_pk, e_pr, e_pn, e_ps, e_pd1, e_pd2, e_us, e_un, e_ifp, e_ifn, e_sk, e_sr, e_sn, e_ss, e_sd1, e_sd2, e_sp, ht.1, ht.2.1, ht.2.2.1, ht.2.2.2.1]
  repeat' first
    | (refine gp_at [] (by rfl) (by decide) ?_; simp (disch := omega) only [e_wi, e_isr, e_isc, e_stp, e_rt, e_load, e_bin, e_binL, e_ld, e_s1, e_s2, e_n0, e_ok, e_cmp, e_ex, e_gif, e_id32, e_id64, e_v0, e_v1, e_v2, e_v3, e_dt, e_c1, e_sw, e_inv, e_cat, e_rcv, Fin.val_zero, Fin.val_one, Int.toNat_add, Int.toNat_mul, Int.toNat_natCast, Int.reduceToNat, Int.reduceMul, Int.reduceAdd, Int.reduceNeg, Nat.reduceAdd, Nat.reduceSub, Nat.reduceEqDiff, Nat.reduceLT, Nat.reduceLeDiff, List.getElem?_cons_zero, List.getElem?_cons_succ, List.length_cons, List.length_nil, List.take_succ_cons, List.take_zero, List.drop_succ_cons, List.drop_zero, List.reverse_cons, List.reverse_nil, List.nil_append, List.cons_append, List.append_nil, List.map_cons, List.map_nil, List.sum_cons, List.sum_nil, Bool.false_eq_true, if_false, if_true, Bool.and_true, Bool.true_and, Bool.and_self, Bool.or_true, Bool.true_or, Bool.or_false, Bool.false_or, Bool.or_self, decide_eq_true_eq, decide_true, decide_false, beq_self_eq_true, Option.map_some, reduceCtorEq, true_or, or_true, or_false, false_or, or_self, true_and, and_true, and_self, false_and, and_false, Option.some.injEq, exists_eq_left', ne_eq, not_true_eq_false, not_false_eq_true, eq_self, e_pk, e_pr, e_pn, e_ps, e_pd1, e_pd2, e_us, e_un, e_ifp, e_ifn, e_sk, e_sr, e_sn, e_ss, e_sd1, e_sd2, e_sp, ht.1, ht.2.1, ht.2.2.1, ht.2.2.2.1])
    | (refine And.intro (fun hc => ?_) (fun hc => ?_) <;> try (exfalso; omega))
  all_goals first | exact hQ | (exfalso; omega) | skip
set_option maxRecDepth 8000 in
set_option maxHeartbeats 1000000 in
theorem c_prei {k : Nat} {j : Int} {x : Nat} {σ : eH} {Q : Option eV → eH → Prop} (hk : 1 ≤ k) (h0 : 0 ≤ j) (h1 : j < 94) (hQ : Q (some (.inl j)) σ) : e_Wp k 31 [.inl j, .inl 94, .inr (.inr x)] σ Q := by
  refine wp_in (nL := 3) (cd := e_k31) (by omega) (by rfl) (Nat.le_of_ble_eq_true rfl) ?_
  dsimp only [e_ent, Nat.reduceSub, List.replicate]
  refine gp_of (by rfl) ?_
  simp (disch := omega) only [e_wi, e_isr, e_isc, e_stp, e_rt, e_load, e_bin, e_binL, e_ld, e_s1, e_s2, e_n0, e_ok, e_cmp, e_ex, e_gif, e_id32, e_id64, e_v0, e_v1, e_v2, e_v3, e_dt, e_c1, e_sw, e_inv, e_cat, e_rcv, Fin.val_zero, Fin.val_one, Int.toNat_add, Int.toNat_mul, Int.toNat_natCast, Int.reduceToNat, Int.reduceMul, Int.reduceAdd, Int.reduceNeg, Nat.reduceAdd, Nat.reduceSub, Nat.reduceEqDiff, Nat.reduceLT, Nat.reduceLeDiff, List.getElem?_cons_zero, List.getElem?_cons_succ, List.length_cons, List.length_nil, List.take_succ_cons, List.take_zero, List.drop_succ_cons, List.drop_zero, List.reverse_cons, List.reverse_nil, List.nil_append, List.cons_append, List.append_nil, List.map_cons, List.map_nil, List.sum_cons, List.sum_nil, Bool.false_eq_true, if_false, if_true, Bool.and_true, Bool.true_and, Bool.and_self, Bool.or_true, Bool.true_or, Bool.or_false, Bool.false_or, Bool.or_self, decide_eq_true_eq, decide_true, decide_false, beq_self_eq_true, Option.map_some, reduceCtorEq, true_or, or_true, or_false, false_or, or_self, true_and, and_true, and_self, false_and, and_false, Option.some.injEq, exists_eq_left', ne_eq, not_true_eq_false, not_false_eq_true, eq_self, e_pk, e_pr, e_pn, e_ps, e_pd1, e_pd2, e_us, e_un, e_ifp, e_ifn, e_sk, e_sr, e_sn, e_ss, e_sd1, e_sd2, e_sp]
  repeat' first
    | (refine gp_at [] (by rfl) (by decide) ?_; simp (disch := omega) only [e_wi, e_isr, e_isc, e_stp, e_rt, e_load, e_bin, e_binL, e_ld, e_s1, e_s2, e_n0, e_ok, e_cmp, e_ex, e_gif, e_id32, e_id64, e_v0, e_v1, e_v2, e_v3, e_dt, e_c1, e_sw, e_inv, e_cat, e_rcv, Fin.val_zero, Fin.val_one, Int.toNat_add, Int.toNat_mul, Int.toNat_natCast, Int.reduceToNat, Int.reduceMul, Int.reduceAdd, Int.reduceNeg, Nat.reduceAdd, Nat.reduceSub, Nat.reduceEqDiff, Nat.reduceLT, Nat.reduceLeDiff, List.getElem?_cons_zero, List.getElem?_cons_succ, List.length_cons, List.length_nil, List.take_succ_cons, List.take_zero, List.drop_succ_cons, List.drop_zero, List.reverse_cons, List.reverse_nil, List.nil_append, List.cons_append, List.append_nil, List.map_cons, List.map_nil, List.sum_cons, List.sum_nil, Bool.false_eq_true, if_false, if_true, Bool.and_true, Bool.true_and, Bool.and_self, Bool.or_true, Bool.true_or, Bool.or_false, Bool.false_or, Bool.or_self, decide_eq_true_eq, decide_true, decide_false, beq_self_eq_true, Option.map_some, reduceCtorEq, true_or, or_true, or_false, false_or, or_self, true_and, and_true, and_self, false_and, and_false, Option.some.injEq, exists_eq_left', ne_eq, not_true_eq_false, not_false_eq_true, eq_self, e_pk, e_pr, e_pn, e_ps, e_pd1, e_pd2, e_us, e_un, e_ifp, e_ifn, e_sk, e_sr, e_sn, e_ss, e_sd1, e_sd2, e_sp])
    | (refine And.intro (fun hc => ?_) (fun hc => ?_) <;> try (exfalso; omega))
  all_goals first | exact hQ | (exfalso; omega) | skip
set_option maxRecDepth 8000 in
set_option maxHeartbeats 1000000 in
theorem c_chk {k : Nat} {j : Int} {σ : eH} {Q : Option eV → eH → Prop} (hk : 2 ≤ k) (h0 : 0 ≤ j) (h1 : j < 94) (hQ : Q none σ) : e_Wp k 30 [.inl j, .inl 94] σ Q := by
  refine wp_in (nL := 2) (cd := e_k30) (by omega) (by rfl) (Nat.le_of_ble_eq_true rfl) ?_
  dsimp only [e_ent, Nat.reduceSub, List.replicate]
  refine gp_of (by rfl) ?_
  simp (disch := omega) only [e_wi, e_isr, e_isc, e_stp, e_rt, e_load, e_bin, e_binL, e_ld, e_s1, e_s2, e_n0, e_ok, e_cmp, e_ex, e_gif, e_id32, e_id64, e_v0, e_v1, e_v2, e_v3, e_dt, e_c1, e_sw, e_inv, e_cat, e_rcv, Fin.val_zero, Fin.val_one, Int.toNat_add, Int.toNat_mul, Int.toNat_natCast, Int.reduceToNat, Int.reduceMul, Int.reduceAdd, Int.reduceNeg, Nat.reduceAdd, Nat.reduceSub, Nat.reduceEqDiff, Nat.reduceLT, Nat.reduceLeDiff, List.getElem?_cons_zero, List.getElem?_cons_succ, List.length_cons, List.length_nil, List.take_succ_cons, List.take_zero, List.drop_succ_cons, List.drop_zero, List.reverse_cons, List.reverse_nil, List.nil_append, List.cons_append, List.append_nil, List.map_cons, List.map_nil, List.sum_cons, List.sum_nil, Bool.false_eq_true, if_false, if_true, Bool.and_true, Bool.true_and, Bool.and_self, Bool.or_true, Bool.true_or, Bool.or_false, Bool.false_or, Bool.or_self, decide_eq_true_eq, decide_true, decide_false, beq_self_eq_true, Option.map_some, reduceCtorEq, true_or, or_true, or_false, false_or, or_self, true_and, and_true, and_self, false_and, and_false, Option.some.injEq, exists_eq_left', ne_eq, not_true_eq_false, not_false_eq_true, eq_self, e_pk, e_pr, e_pn, e_ps, e_pd1, e_pd2, e_us, e_un, e_ifp, e_ifn, e_sk, e_sr, e_sn, e_ss, e_sd1, e_sd2, e_sp]
  repeat' first
    | (refine gp_at [] (by rfl) (by decide) ?_; simp (disch := omega) only [e_wi, e_isr, e_isc, e_stp, e_rt, e_load, e_bin, e_binL, e_ld, e_s1, e_s2, e_n0, e_ok, e_cmp, e_ex, e_gif, e_id32, e_id64, e_v0, e_v1, e_v2, e_v3, e_dt, e_c1, e_sw, e_inv, e_cat, e_rcv, Fin.val_zero, Fin.val_one, Int.toNat_add, Int.toNat_mul, Int.toNat_natCast, Int.reduceToNat, Int.reduceMul, Int.reduceAdd, Int.reduceNeg, Nat.reduceAdd, Nat.reduceSub, Nat.reduceEqDiff, Nat.reduceLT, Nat.reduceLeDiff, List.getElem?_cons_zero, List.getElem?_cons_succ, List.length_cons, List.length_nil, List.take_succ_cons, List.take_zero, List.drop_succ_cons, List.drop_zero, List.reverse_cons, List.reverse_nil, List.nil_append, List.cons_append, List.append_nil, List.map_cons, List.map_nil, List.sum_cons, List.sum_nil, Bool.false_eq_true, if_false, if_true, Bool.and_true, Bool.true_and, Bool.and_self, Bool.or_true, Bool.true_or, Bool.or_false, Bool.false_or, Bool.or_self, decide_eq_true_eq, decide_true, decide_false, beq_self_eq_true, Option.map_some, reduceCtorEq, true_or, or_true, or_false, false_or, or_self, true_and, and_true, and_self, false_and, and_false, Option.some.injEq, exists_eq_left', ne_eq, not_true_eq_false, not_false_eq_true, eq_self, e_pk, e_pr, e_pn, e_ps, e_pd1, e_pd2, e_us, e_un, e_ifp, e_ifn, e_sk, e_sr, e_sn, e_ss, e_sd1, e_sd2, e_sp])
    | (refine And.intro (fun hc => ?_) (fun hc => ?_) <;> try (exfalso; omega))
    | ((refine c_prei (by omega) h0 h1 ?_); dsimp only [Option.toList, List.cons_append, List.nil_append, Nat.reduceAdd])
  all_goals first | exact hQ | (exfalso; omega) | skip
set_option maxRecDepth 8000 in
set_option maxHeartbeats 1000000 in
theorem c_l1At {k : Nat} {j : Nat} {σ : eH} {Q : Option eV → eH → Prop} (hk : 3 ≤ k) (ht : Tx σ) (h1 : j < 94) (hQ : Q (some (.inl (k_W j))) σ) : e_Wp k 29 [.inr (.inr 4), .inl (j : Int)] σ Q := by
  refine wp_in (nL := 2) (cd := e_k29) (by omega) (by rfl) (Nat.le_of_ble_eq_true rfl) ?_
  dsimp only [e_ent, Nat.reduceSub, List.replicate]
  have hw : σ.2.2.2.1 2 j = k_W j := ht.2.2.2.2 j
  have hb := k_W_b j
  have e9 : k_W j % 256 % 65536 = k_W j := by omega
  refine gp_of (by rfl) ?_
  simp (disch := omega) only [e_wi, e_isr, e_isc, e_stp, e_rt, e_load, e_bin, e_binL, e_ld, e_s1, e_s2, e_n0, e_ok, e_cmp, e_ex, e_gif, e_id32, e_id64, e_v0, e_v1, e_v2, e_v3, e_dt, e_c1, e_sw, e_inv, e_cat, e_rcv, Fin.val_zero, Fin.val_one, Int.toNat_add, Int.toNat_mul, Int.toNat_natCast, Int.reduceToNat, Int.reduceMul, Int.reduceAdd, Int.reduceNeg, Nat.reduceAdd, Nat.reduceSub, Nat.reduceEqDiff, Nat.reduceLT, Nat.reduceLeDiff, List.getElem?_cons_zero, List.getElem?_cons_succ, List.length_cons, List.length_nil, List.take_succ_cons, List.take_zero, List.drop_succ_cons, List.drop_zero, List.reverse_cons, List.reverse_nil, List.nil_append, List.cons_append, List.append_nil, List.map_cons, List.map_nil, List.sum_cons, List.sum_nil, Bool.false_eq_true, if_false, if_true, Bool.and_true, Bool.true_and, Bool.and_self, Bool.or_true, Bool.true_or, Bool.or_false, Bool.false_or, Bool.or_self, decide_eq_true_eq, decide_true, decide_false, beq_self_eq_true, Option.map_some, reduceCtorEq, true_or, or_true, or_false, false_or, or_self, true_and, and_true, and_self, false_and, and_false, Option.some.injEq, exists_eq_left', ne_eq, not_true_eq_false, not_false_eq_true, eq_self, e_pk, e_pr, e_pn, e_ps, e_pd1, e_pd2, e_us, e_un, e_ifp, e_ifn, e_sk, e_sr, e_sn, e_ss, e_sd1, e_sd2, e_sp, ht.1, ht.2.1, ht.2.2.1, ht.2.2.2.1, hw, b_a255, e9, hb]
  repeat' first
    | (refine gp_at [] (by rfl) (by decide) ?_; simp (disch := omega) only [e_wi, e_isr, e_isc, e_stp, e_rt, e_load, e_bin, e_binL, e_ld, e_s1, e_s2, e_n0, e_ok, e_cmp, e_ex, e_gif, e_id32, e_id64, e_v0, e_v1, e_v2, e_v3, e_dt, e_c1, e_sw, e_inv, e_cat, e_rcv, Fin.val_zero, Fin.val_one, Int.toNat_add, Int.toNat_mul, Int.toNat_natCast, Int.reduceToNat, Int.reduceMul, Int.reduceAdd, Int.reduceNeg, Nat.reduceAdd, Nat.reduceSub, Nat.reduceEqDiff, Nat.reduceLT, Nat.reduceLeDiff, List.getElem?_cons_zero, List.getElem?_cons_succ, List.length_cons, List.length_nil, List.take_succ_cons, List.take_zero, List.drop_succ_cons, List.drop_zero, List.reverse_cons, List.reverse_nil, List.nil_append, List.cons_append, List.append_nil, List.map_cons, List.map_nil, List.sum_cons, List.sum_nil, Bool.false_eq_true, if_false, if_true, Bool.and_true, Bool.true_and, Bool.and_self, Bool.or_true, Bool.true_or, Bool.or_false, Bool.false_or, Bool.or_self, decide_eq_true_eq, decide_true, decide_false, beq_self_eq_true, Option.map_some, reduceCtorEq, true_or, or_true, or_false, false_or, or_self, true_and, and_true, and_self, false_and, and_false, Option.some.injEq, exists_eq_left', ne_eq, not_true_eq_false, not_false_eq_true, eq_self, e_pk, e_pr, e_pn, e_ps, e_pd1, e_pd2, e_us, e_un, e_ifp, e_ifn, e_sk, e_sr, e_sn, e_ss, e_sd1, e_sd2, e_sp, ht.1, ht.2.1, ht.2.2.1, ht.2.2.2.1, hw, b_a255, e9, hb])
    | (refine And.intro (fun hc => ?_) (fun hc => ?_) <;> try (exfalso; omega))
    | ((refine c_chk (by omega) (by omega) (by omega) ?_); dsimp only [Option.toList, List.cons_append, List.nil_append, Nat.reduceAdd])
  all_goals first | exact hQ | (exfalso; omega) | skip
set_option maxRecDepth 8000 in
set_option maxHeartbeats 1000000 in
theorem c_charAt {k : Nat} {j : Nat} {σ : eH} {Q : Option eV → eH → Prop} (hk : 4 ≤ k) (ht : Tx σ) (h1 : j < 94) (hQ : Q (some (.inl (k_W j))) σ) : e_Wp k 27 [.inr (.inr 3), .inl (j : Int)] σ Q := by
  refine wp_in (nL := 2) (cd := e_k27) (by omega) (by rfl) (Nat.le_of_ble_eq_true rfl) ?_
  dsimp only [e_ent, Nat.reduceSub, List.replicate]
  have hb := k_W_b j
  refine gp_of (by rfl) ?_
  simp (disch := omega) only [e_wi, e_isr, e_isc, e_stp, e_rt, e_load, e_bin, e_binL, e_ld, e_s1, e_s2, e_n0, e_ok, e_cmp, e_ex, e_gif, e_id32, e_id64, e_v0, e_v1, e_v2, e_v3, e_dt, e_c1, e_sw, e_inv, e_cat, e_rcv, Fin.val_zero, Fin.val_one, Int.toNat_add, Int.toNat_mul, Int.toNat_natCast, Int.reduceToNat, Int.reduceMul, Int.reduceAdd, Int.reduceNeg, Nat.reduceAdd, Nat.reduceSub, Nat.reduceEqDiff, Nat.reduceLT, Nat.reduceLeDiff, List.getElem?_cons_zero, List.getElem?_cons_succ, List.length_cons, List.length_nil, List.take_succ_cons, List.take_zero, List.drop_succ_cons, List.drop_zero, List.reverse_cons, List.reverse_nil, List.nil_append, List.cons_append, List.append_nil, List.map_cons, List.map_nil, List.sum_cons, List.sum_nil, Bool.false_eq_true, if_false, if_true, Bool.and_true, Bool.true_and, Bool.and_self, Bool.or_true, Bool.true_or, Bool.or_false, Bool.false_or, Bool.or_self, decide_eq_true_eq, decide_true, decide_false, beq_self_eq_true, Option.map_some, reduceCtorEq, true_or, or_true, or_false, false_or, or_self, true_and, and_true, and_self, false_and, and_false, Option.some.injEq, exists_eq_left', ne_eq, not_true_eq_false, not_false_eq_true, eq_self, e_pk, e_pr, e_pn, e_ps, e_pd1, e_pd2, e_us, e_un, e_ifp, e_ifn, e_sk, e_sr, e_sn, e_ss, e_sd1, e_sd2, e_sp, ht.1, ht.2.1, ht.2.2.1, ht.2.2.2.1, hb]
  repeat' first
    | (refine gp_at [] (by rfl) (by decide) ?_; simp (disch := omega) only [e_wi, e_isr, e_isc, e_stp, e_rt, e_load, e_bin, e_binL, e_ld, e_s1, e_s2, e_n0, e_ok, e_cmp, e_ex, e_gif, e_id32, e_id64, e_v0, e_v1, e_v2, e_v3, e_dt, e_c1, e_sw, e_inv, e_cat, e_rcv, Fin.val_zero, Fin.val_one, Int.toNat_add, Int.toNat_mul, Int.toNat_natCast, Int.reduceToNat, Int.reduceMul, Int.reduceAdd, Int.reduceNeg, Nat.reduceAdd, Nat.reduceSub, Nat.reduceEqDiff, Nat.reduceLT, Nat.reduceLeDiff, List.getElem?_cons_zero, List.getElem?_cons_succ, List.length_cons, List.length_nil, List.take_succ_cons, List.take_zero, List.drop_succ_cons, List.drop_zero, List.reverse_cons, List.reverse_nil, List.nil_append, List.cons_append, List.append_nil, List.map_cons, List.map_nil, List.sum_cons, List.sum_nil, Bool.false_eq_true, if_false, if_true, Bool.and_true, Bool.true_and, Bool.and_self, Bool.or_true, Bool.true_or, Bool.or_false, Bool.false_or, Bool.or_self, decide_eq_true_eq, decide_true, decide_false, beq_self_eq_true, Option.map_some, reduceCtorEq, true_or, or_true, or_false, false_or, or_self, true_and, and_true, and_self, false_and, and_false, Option.some.injEq, exists_eq_left', ne_eq, not_true_eq_false, not_false_eq_true, eq_self, e_pk, e_pr, e_pn, e_ps, e_pd1, e_pd2, e_us, e_un, e_ifp, e_ifn, e_sk, e_sr, e_sn, e_ss, e_sd1, e_sd2, e_sp, ht.1, ht.2.1, ht.2.2.1, ht.2.2.2.1, hb])
    | (refine And.intro (fun hc => ?_) (fun hc => ?_) <;> try (exfalso; omega))
    | ((refine c_latin1 (by omega) ht ?_); dsimp only [Option.toList, List.cons_append, List.nil_append, Nat.reduceAdd])
    | ((refine c_l1At (by omega) ht h1 ?_); dsimp only [Option.toList, List.cons_append, List.nil_append, Nat.reduceAdd])
  all_goals first | exact hQ | (exfalso; omega) | skip
set_option maxRecDepth 8000 in
set_option maxHeartbeats 1000000 in
theorem c_isLetter {k : Nat} {x : Int} {σ : eH} {Q : Option eV → eH → Prop} (hk : 1 ≤ k) (h1 : e_w32 x = x) (hQ : Q (some (.inl (if 97 ≤ x ∧ x ≤ 122 then 1 else 0))) σ) : e_Wp k 22 [.inl x] σ Q := by
  refine wp_in (nL := 1) (cd := e_k22) (by omega) (by rfl) (Nat.le_of_ble_eq_true rfl) ?_
  dsimp only [e_ent, Nat.reduceSub, List.replicate]
  have r1 := e_r32 x
  rw [h1] at r1
  refine gp_of (by rfl) ?_
  simp (disch := omega) only [e_wi, e_isr, e_isc, e_stp, e_rt, e_load, e_bin, e_binL, e_ld, e_s1, e_s2, e_n0, e_ok, e_cmp, e_ex, e_gif, e_id32, e_id64, e_v0, e_v1, e_v2, e_v3, e_dt, e_c1, e_sw, e_inv, e_cat, e_rcv, Fin.val_zero, Fin.val_one, Int.toNat_add, Int.toNat_mul, Int.toNat_natCast, Int.reduceToNat, Int.reduceMul, Int.reduceAdd, Int.reduceNeg, Nat.reduceAdd, Nat.reduceSub, Nat.reduceEqDiff, Nat.reduceLT, Nat.reduceLeDiff, List.getElem?_cons_zero, List.getElem?_cons_succ, List.length_cons, List.length_nil, List.take_succ_cons, List.take_zero, List.drop_succ_cons, List.drop_zero, List.reverse_cons, List.reverse_nil, List.nil_append, List.cons_append, List.append_nil, List.map_cons, List.map_nil, List.sum_cons, List.sum_nil, Bool.false_eq_true, if_false, if_true, Bool.and_true, Bool.true_and, Bool.and_self, Bool.or_true, Bool.true_or, Bool.or_false, Bool.false_or, Bool.or_self, decide_eq_true_eq, decide_true, decide_false, beq_self_eq_true, Option.map_some, reduceCtorEq, true_or, or_true, or_false, false_or, or_self, true_and, and_true, and_self, false_and, and_false, Option.some.injEq, exists_eq_left', ne_eq, not_true_eq_false, not_false_eq_true, eq_self, e_pk, e_pr, e_pn, e_ps, e_pd1, e_pd2, e_us, e_un, e_ifp, e_ifn, e_sk, e_sr, e_sn, e_ss, e_sd1, e_sd2, e_sp]
  repeat' first
    | (refine gp_at [] (by rfl) (by decide) ?_; simp (disch := omega) only [e_wi, e_isr, e_isc, e_stp, e_rt, e_load, e_bin, e_binL, e_ld, e_s1, e_s2, e_n0, e_ok, e_cmp, e_ex, e_gif, e_id32, e_id64, e_v0, e_v1, e_v2, e_v3, e_dt, e_c1, e_sw, e_inv, e_cat, e_rcv, Fin.val_zero, Fin.val_one, Int.toNat_add, Int.toNat_mul, Int.toNat_natCast, Int.reduceToNat, Int.reduceMul, Int.reduceAdd, Int.reduceNeg, Nat.reduceAdd, Nat.reduceSub, Nat.reduceEqDiff, Nat.reduceLT, Nat.reduceLeDiff, List.getElem?_cons_zero, List.getElem?_cons_succ, List.length_cons, List.length_nil, List.take_succ_cons, List.take_zero, List.drop_succ_cons, List.drop_zero, List.reverse_cons, List.reverse_nil, List.nil_append, List.cons_append, List.append_nil, List.map_cons, List.map_nil, List.sum_cons, List.sum_nil, Bool.false_eq_true, if_false, if_true, Bool.and_true, Bool.true_and, Bool.and_self, Bool.or_true, Bool.true_or, Bool.or_false, Bool.false_or, Bool.or_self, decide_eq_true_eq, decide_true, decide_false, beq_self_eq_true, Option.map_some, reduceCtorEq, true_or, or_true, or_false, false_or, or_self, true_and, and_true, and_self, false_and, and_false, Option.some.injEq, exists_eq_left', ne_eq, not_true_eq_false, not_false_eq_true, eq_self, e_pk, e_pr, e_pn, e_ps, e_pd1, e_pd2, e_us, e_un, e_ifp, e_ifn, e_sk, e_sr, e_sn, e_ss, e_sd1, e_sd2, e_sp])
    | (refine And.intro (fun hc => ?_) (fun hc => ?_) <;> try (exfalso; omega))
  all_goals first
    | (exfalso; omega)
    | (rw [if_pos (by omega)] at hQ; exact hQ)
    | (rw [if_neg (by omega)] at hQ; exact hQ)
set_option maxRecDepth 8000 in
set_option maxHeartbeats 1000000 in
theorem c_isDigit {k : Nat} {x : Int} {σ : eH} {Q : Option eV → eH → Prop} (hk : 1 ≤ k) (h1 : e_w32 x = x) (hQ : Q (some (.inl (if 48 ≤ x ∧ x ≤ 57 then 1 else 0))) σ) : e_Wp k 37 [.inl x] σ Q := by
  refine wp_in (nL := 1) (cd := e_k37) (by omega) (by rfl) (Nat.le_of_ble_eq_true rfl) ?_
  dsimp only [e_ent, Nat.reduceSub, List.replicate]
  have r1 := e_r32 x
  rw [h1] at r1
  refine gp_of (by rfl) ?_
  simp (disch := omega) only [e_wi, e_isr, e_isc, e_stp, e_rt, e_load, e_bin, e_binL, e_ld, e_s1, e_s2, e_n0, e_ok, e_cmp, e_ex, e_gif, e_id32, e_id64, e_v0, e_v1, e_v2, e_v3, e_dt, e_c1, e_sw, e_inv, e_cat, e_rcv, Fin.val_zero, Fin.val_one, Int.toNat_add, Int.toNat_mul, Int.toNat_natCast, Int.reduceToNat, Int.reduceMul, Int.reduceAdd, Int.reduceNeg, Nat.reduceAdd, Nat.reduceSub, Nat.reduceEqDiff, Nat.reduceLT, Nat.reduceLeDiff, List.getElem?_cons_zero, List.getElem?_cons_succ, List.length_cons, List.length_nil, List.take_succ_cons, List.take_zero, List.drop_succ_cons, List.drop_zero, List.reverse_cons, List.reverse_nil, List.nil_append, List.cons_append, List.append_nil, List.map_cons, List.map_nil, List.sum_cons, List.sum_nil, Bool.false_eq_true, if_false, if_true, Bool.and_true, Bool.true_and, Bool.and_self, Bool.or_true, Bool.true_or, Bool.or_false, Bool.false_or, Bool.or_self, decide_eq_true_eq, decide_true, decide_false, beq_self_eq_true, Option.map_some, reduceCtorEq, true_or, or_true, or_false, false_or, or_self, true_and, and_true, and_self, false_and, and_false, Option.some.injEq, exists_eq_left', ne_eq, not_true_eq_false, not_false_eq_true, eq_self, e_pk, e_pr, e_pn, e_ps, e_pd1, e_pd2, e_us, e_un, e_ifp, e_ifn, e_sk, e_sr, e_sn, e_ss, e_sd1, e_sd2, e_sp]
  repeat' first
    | (refine gp_at [] (by rfl) (by decide) ?_; simp (disch := omega) only [e_wi, e_isr, e_isc, e_stp, e_rt, e_load, e_bin, e_binL, e_ld, e_s1, e_s2, e_n0, e_ok, e_cmp, e_ex, e_gif, e_id32, e_id64, e_v0, e_v1, e_v2, e_v3, e_dt, e_c1, e_sw, e_inv, e_cat, e_rcv, Fin.val_zero, Fin.val_one, Int.toNat_add, Int.toNat_mul, Int.toNat_natCast, Int.reduceToNat, Int.reduceMul, Int.reduceAdd, Int.reduceNeg, Nat.reduceAdd, Nat.reduceSub, Nat.reduceEqDiff, Nat.reduceLT, Nat.reduceLeDiff, List.getElem?_cons_zero, List.getElem?_cons_succ, List.length_cons, List.length_nil, List.take_succ_cons, List.take_zero, List.drop_succ_cons, List.drop_zero, List.reverse_cons, List.reverse_nil, List.nil_append, List.cons_append, List.append_nil, List.map_cons, List.map_nil, List.sum_cons, List.sum_nil, Bool.false_eq_true, if_false, if_true, Bool.and_true, Bool.true_and, Bool.and_self, Bool.or_true, Bool.true_or, Bool.or_false, Bool.false_or, Bool.or_self, decide_eq_true_eq, decide_true, decide_false, beq_self_eq_true, Option.map_some, reduceCtorEq, true_or, or_true, or_false, false_or, or_self, true_and, and_true, and_self, false_and, and_false, Option.some.injEq, exists_eq_left', ne_eq, not_true_eq_false, not_false_eq_true, eq_self, e_pk, e_pr, e_pn, e_ps, e_pd1, e_pd2, e_us, e_un, e_ifp, e_ifn, e_sk, e_sr, e_sn, e_ss, e_sd1, e_sd2, e_sp])
    | (refine And.intro (fun hc => ?_) (fun hc => ?_) <;> try (exfalso; omega))
  all_goals first
    | (exfalso; omega)
    | (rw [if_pos (by omega)] at hQ; exact hQ)
    | (rw [if_neg (by omega)] at hQ; exact hQ)
/-- a token kept -/
def k_kt (σ : eH) (m : Nat) (d p u : Int) : eH := e_put (e_put (e_put (e_put σ 6 m d) 7 m p) 8 m u) 4 6 ((m : Int) + 1)
set_option maxRecDepth 8000 in
set_option maxHeartbeats 1000000 in
theorem c_keepToken {k : Nat} {m : Nat} {d p u : Int} {σ : eH} {Q : Option eV → eH → Prop} (hk : 1 ≤ k) (hck : Ck σ) (h6 : σ.2.2.2.1 4 6 = (m : Int)) (hm : m ≤ 400) (hQ : Q none (k_kt σ m d p u)) : e_Wp k 36 [.inr (.inr 6), .inl d, .inl p, .inl u] σ Q := by
  refine wp_in (nL := 4) (cd := e_k36) (by omega) (by rfl) (Nat.le_of_ble_eq_true rfl) ?_
  dsimp only [e_ent, Nat.reduceSub, List.replicate]
  refine gp_of (by rfl) ?_
  simp (disch := omega) only [e_wi, e_isr, e_isc, e_stp, e_rt, e_load, e_bin, e_binL, e_ld, e_s1, e_s2, e_n0, e_ok, e_cmp, e_ex, e_gif, e_id32, e_id64, e_v0, e_v1, e_v2, e_v3, e_dt, e_c1, e_sw, e_inv, e_cat, e_rcv, Fin.val_zero, Fin.val_one, Int.toNat_add, Int.toNat_mul, Int.toNat_natCast, Int.reduceToNat, Int.reduceMul, Int.reduceAdd, Int.reduceNeg, Nat.reduceAdd, Nat.reduceSub, Nat.reduceEqDiff, Nat.reduceLT, Nat.reduceLeDiff, List.getElem?_cons_zero, List.getElem?_cons_succ, List.length_cons, List.length_nil, List.take_succ_cons, List.take_zero, List.drop_succ_cons, List.drop_zero, List.reverse_cons, List.reverse_nil, List.nil_append, List.cons_append, List.append_nil, List.map_cons, List.map_nil, List.sum_cons, List.sum_nil, Bool.false_eq_true, if_false, if_true, Bool.and_true, Bool.true_and, Bool.and_self, Bool.or_true, Bool.true_or, Bool.or_false, Bool.false_or, Bool.or_self, decide_eq_true_eq, decide_true, decide_false, beq_self_eq_true, Option.map_some, reduceCtorEq, true_or, or_true, or_false, false_or, or_self, true_and, and_true, and_self, false_and, and_false, Option.some.injEq, exists_eq_left', ne_eq, not_true_eq_false, not_false_eq_true, eq_self, e_pk, e_pr, e_pn, e_ps, e_pd1, e_pd2, e_us, e_un, e_ifp, e_ifn, e_sk, e_sr, e_sn, e_ss, e_sd1, e_sd2, e_sp, ck4 hck, ck5 hck, ck6 hck, ck7 hck, ck8 hck, cr4_2 hck, cr4_3 hck, cr4_4 hck, cr4_5 hck, h6]
  repeat' first
    | (refine gp_at [] (by rfl) (by decide) ?_; simp (disch := omega) only [e_wi, e_isr, e_isc, e_stp, e_rt, e_load, e_bin, e_binL, e_ld, e_s1, e_s2, e_n0, e_ok, e_cmp, e_ex, e_gif, e_id32, e_id64, e_v0, e_v1, e_v2, e_v3, e_dt, e_c1, e_sw, e_inv, e_cat, e_rcv, Fin.val_zero, Fin.val_one, Int.toNat_add, Int.toNat_mul, Int.toNat_natCast, Int.reduceToNat, Int.reduceMul, Int.reduceAdd, Int.reduceNeg, Nat.reduceAdd, Nat.reduceSub, Nat.reduceEqDiff, Nat.reduceLT, Nat.reduceLeDiff, List.getElem?_cons_zero, List.getElem?_cons_succ, List.length_cons, List.length_nil, List.take_succ_cons, List.take_zero, List.drop_succ_cons, List.drop_zero, List.reverse_cons, List.reverse_nil, List.nil_append, List.cons_append, List.append_nil, List.map_cons, List.map_nil, List.sum_cons, List.sum_nil, Bool.false_eq_true, if_false, if_true, Bool.and_true, Bool.true_and, Bool.and_self, Bool.or_true, Bool.true_or, Bool.or_false, Bool.false_or, Bool.or_self, decide_eq_true_eq, decide_true, decide_false, beq_self_eq_true, Option.map_some, reduceCtorEq, true_or, or_true, or_false, false_or, or_self, true_and, and_true, and_self, false_and, and_false, Option.some.injEq, exists_eq_left', ne_eq, not_true_eq_false, not_false_eq_true, eq_self, e_pk, e_pr, e_pn, e_ps, e_pd1, e_pd2, e_us, e_un, e_ifp, e_ifn, e_sk, e_sr, e_sn, e_ss, e_sd1, e_sd2, e_sp, ck4 hck, ck5 hck, ck6 hck, ck7 hck, ck8 hck, cr4_2 hck, cr4_3 hck, cr4_4 hck, cr4_5 hck, h6])
    | (refine And.intro (fun hc => ?_) (fun hc => ?_) <;> try (exfalso; omega))
  all_goals first | exact hQ | (exfalso; omega) | skip
set_option maxRecDepth 8000 in
set_option maxHeartbeats 2000000 in
theorem c_wk_a {k : Nat} {fr sz s m : Nat} {σ : eH} {Q : Option eV → eH → Prop} (hk : 5 ≤ k) (hck : Ck σ) (ht : Tx σ) (hfs : fr + sz ≤ 400) (hB : ∀ i, -128 ≤ σ.2.2.2.1 5 i ∧ σ.2.2.2.1 5 i < 128) (hsm : s + m < 94) (hW : ∀ x, x < m → k_W (s + x) ≠ 32) {kd : Int} (hN : ∀ (b : Int) (x7 : Option eV), (b = if m ≤ sz ∧ ∀ x, x < m → σ.2.2.2.1 5 (fr + x) = k_W (s + x) then 1 else 0) → e_Gp k e_k24 13 [some (.inr (.inr 6)), some (.inl (fr : Int)), some (.inl (sz : Int)), some (.inl kd), some (.inl (s : Int)), some (.inl b), some (.inl ((s + m : Nat) : Int)), x7] [] σ Q) : ∀ (j y : Nat) (b z : Int) (x7 : Option eV), z = ((s + y : Nat) : Int) → y + j = m → (b = if y ≤ sz ∧ ∀ x, x < y → σ.2.2.2.1 5 (fr + x) = k_W (s + x) then 1 else 0) → e_Gp k e_k24 13 [some (.inr (.inr 6)), some (.inl (fr : Int)), some (.inl (sz : Int)), some (.inl kd), some (.inl (s : Int)), some (.inl b), some (.inl z), x7] [] σ Q
  | 0, y, b, z, x7, hz, hy, hb => by
    subst hz
    obtain rfl : y = m := by omega
    exact hN b x7 hb
  | j + 1, y, b, z, x7, hz, hy, hb => by
    subst hz
    have ih := fun b z x7 h1 h2 => c_wk_a hk hck ht hfs hB hsm hW hN j (y + 1) b z x7 h1 (by omega) h2
    have hW1 := hW y (by omega)
    have hWb := k_W_b (s + y)
    have e1 : ((s + y : Nat) : Int) - (s : Int) = (y : Int) := by omega
    by_cases h1 : y ≤ sz ∧ ∀ x, x < y → σ.2.2.2.1 5 (fr + x) = k_W (s + x)
    · rw [if_pos h1] at hb
      subst hb
      by_cases h2 : y < sz
      · have hBy := hB (fr + y)
        have e2 : (fr : Int) + (y : Int) = ((fr + y : Nat) : Int) := by omega
        by_cases h3 : σ.2.2.2.1 5 (fr + y) = k_W (s + y)
        · have ih := fun x7 => ih 1 ((s + y : Nat) + 1 : Int) x7 (by omega) (by
            rw [if_pos]
            refine ⟨by omega, fun x hx => ?_⟩
            by_cases e : x = y
            · rw [e]; exact h3
            · exact h1.2 x (by omega))
          refine gp_of (by rfl) ?_
          simp (disch := omega) only [e_wi, e_isr, e_isc, e_stp, e_rt, e_load, e_bin, e_binL, e_ld, e_s1, e_s2, e_n0, e_ok, e_cmp, e_ex, e_gif, e_id32, e_id64, e_v0, e_v1, e_v2, e_v3, e_dt, e_c1, e_sw, e_inv, e_cat, e_rcv, Fin.val_zero, Fin.val_one, Int.toNat_add, Int.toNat_mul, Int.toNat_natCast, Int.reduceToNat, Int.reduceMul, Int.reduceAdd, Int.reduceNeg, Nat.reduceAdd, Nat.reduceSub, Nat.reduceEqDiff, Nat.reduceLT, Nat.reduceLeDiff, List.getElem?_cons_zero, List.getElem?_cons_succ, List.length_cons, List.length_nil, List.take_succ_cons, List.take_zero, List.drop_succ_cons, List.drop_zero, List.reverse_cons, List.reverse_nil, List.nil_append, List.cons_append, List.append_nil, List.map_cons, List.map_nil, List.sum_cons, List.sum_nil, Bool.false_eq_true, if_false, if_true, Bool.and_true, Bool.true_and, Bool.and_self, Bool.or_true, Bool.true_or, Bool.or_false, Bool.false_or, Bool.or_self, decide_eq_true_eq, decide_true, decide_false, beq_self_eq_true, Option.map_some, reduceCtorEq, true_or, or_true, or_false, false_or, or_self, true_and, and_true, and_self, false_and, and_false, Option.some.injEq, exists_eq_left', ne_eq, not_true_eq_false, not_false_eq_true, eq_self, e_pk, e_pr, e_pn, e_ps, e_pd1, e_pd2, e_us, e_un, e_ifp, e_ifn, e_sk, e_sr, e_sn, e_ss, e_sd1, e_sd2, e_sp, ck4 hck, ck5 hck, ck6 hck, ck7 hck, ck8 hck, cr4_2 hck, cr4_3 hck, cr4_4 hck, cr4_5 hck, ht.1, e1, e2]
          repeat' first
            | (refine gp_at [13] (by rfl) (by decide) ?_; simp (disch := omega) only [e_wi, e_isr, e_isc, e_stp, e_rt, e_load, e_bin, e_binL, e_ld, e_s1, e_s2, e_n0, e_ok, e_cmp, e_ex, e_gif, e_id32, e_id64, e_v0, e_v1, e_v2, e_v3, e_dt, e_c1, e_sw, e_inv, e_cat, e_rcv, Fin.val_zero, Fin.val_one, Int.toNat_add, Int.toNat_mul, Int.toNat_natCast, Int.reduceToNat, Int.reduceMul, Int.reduceAdd, Int.reduceNeg, Nat.reduceAdd, Nat.reduceSub, Nat.reduceEqDiff, Nat.reduceLT, Nat.reduceLeDiff, List.getElem?_cons_zero, List.getElem?_cons_succ, List.length_cons, List.length_nil, List.take_succ_cons, List.take_zero, List.drop_succ_cons, List.drop_zero, List.reverse_cons, List.reverse_nil, List.nil_append, List.cons_append, List.append_nil, List.map_cons, List.map_nil, List.sum_cons, List.sum_nil, Bool.false_eq_true, if_false, if_true, Bool.and_true, Bool.true_and, Bool.and_self, Bool.or_true, Bool.true_or, Bool.or_false, Bool.false_or, Bool.or_self, decide_eq_true_eq, decide_true, decide_false, beq_self_eq_true, Option.map_some, reduceCtorEq, true_or, or_true, or_false, false_or, or_self, true_and, and_true, and_self, false_and, and_false, Option.some.injEq, exists_eq_left', ne_eq, not_true_eq_false, not_false_eq_true, eq_self, e_pk, e_pr, e_pn, e_ps, e_pd1, e_pd2, e_us, e_un, e_ifp, e_ifn, e_sk, e_sr, e_sn, e_ss, e_sd1, e_sd2, e_sp, ck4 hck, ck5 hck, ck6 hck, ck7 hck, ck8 hck, cr4_2 hck, cr4_3 hck, cr4_4 hck, cr4_5 hck, ht.1, e1, e2])
            | (refine And.intro (fun hc => ?_) (fun hc => ?_) <;> try (exfalso; omega))
            | ((refine c_slen (by omega) ht ?_); dsimp only [Option.toList, List.cons_append, List.nil_append, Nat.reduceAdd])
            | ((refine c_charAt (by omega) ht (by omega) ?_); dsimp only [Option.toList, List.cons_append, List.nil_append, Nat.reduceAdd])
          all_goals first | exact ih _ | (exfalso; omega) | skip
        · have ih := fun x7 => ih 0 ((s + y : Nat) + 1 : Int) x7 (by omega) (by
            rw [if_neg]
            exact fun q => h3 (q.2 y (by omega)))
          refine gp_of (by rfl) ?_
          simp (disch := omega) only [e_wi, e_isr, e_isc, e_stp, e_rt, e_load, e_bin, e_binL, e_ld, e_s1, e_s2, e_n0, e_ok, e_cmp, e_ex, e_gif, e_id32, e_id64, e_v0, e_v1, e_v2, e_v3, e_dt, e_c1, e_sw, e_inv, e_cat, e_rcv, Fin.val_zero, Fin.val_one, Int.toNat_add, Int.toNat_mul, Int.toNat_natCast, Int.reduceToNat, Int.reduceMul, Int.reduceAdd, Int.reduceNeg, Nat.reduceAdd, Nat.reduceSub, Nat.reduceEqDiff, Nat.reduceLT, Nat.reduceLeDiff, List.getElem?_cons_zero, List.getElem?_cons_succ, List.length_cons, List.length_nil, List.take_succ_cons, List.take_zero, List.drop_succ_cons, List.drop_zero, List.reverse_cons, List.reverse_nil, List.nil_append, List.cons_append, List.append_nil, List.map_cons, List.map_nil, List.sum_cons, List.sum_nil, Bool.false_eq_true, if_false, if_true, Bool.and_true, Bool.true_and, Bool.and_self, Bool.or_true, Bool.true_or, Bool.or_false, Bool.false_or, Bool.or_self, decide_eq_true_eq, decide_true, decide_false, beq_self_eq_true, Option.map_some, reduceCtorEq, true_or, or_true, or_false, false_or, or_self, true_and, and_true, and_self, false_and, and_false, Option.some.injEq, exists_eq_left', ne_eq, not_true_eq_false, not_false_eq_true, eq_self, e_pk, e_pr, e_pn, e_ps, e_pd1, e_pd2, e_us, e_un, e_ifp, e_ifn, e_sk, e_sr, e_sn, e_ss, e_sd1, e_sd2, e_sp, ck4 hck, ck5 hck, ck6 hck, ck7 hck, ck8 hck, cr4_2 hck, cr4_3 hck, cr4_4 hck, cr4_5 hck, ht.1, e1, e2]
          repeat' first
            | (refine gp_at [13] (by rfl) (by decide) ?_; simp (disch := omega) only [e_wi, e_isr, e_isc, e_stp, e_rt, e_load, e_bin, e_binL, e_ld, e_s1, e_s2, e_n0, e_ok, e_cmp, e_ex, e_gif, e_id32, e_id64, e_v0, e_v1, e_v2, e_v3, e_dt, e_c1, e_sw, e_inv, e_cat, e_rcv, Fin.val_zero, Fin.val_one, Int.toNat_add, Int.toNat_mul, Int.toNat_natCast, Int.reduceToNat, Int.reduceMul, Int.reduceAdd, Int.reduceNeg, Nat.reduceAdd, Nat.reduceSub, Nat.reduceEqDiff, Nat.reduceLT, Nat.reduceLeDiff, List.getElem?_cons_zero, List.getElem?_cons_succ, List.length_cons, List.length_nil, List.take_succ_cons, List.take_zero, List.drop_succ_cons, List.drop_zero, List.reverse_cons, List.reverse_nil, List.nil_append, List.cons_append, List.append_nil, List.map_cons, List.map_nil, List.sum_cons, List.sum_nil, Bool.false_eq_true, if_false, if_true, Bool.and_true, Bool.true_and, Bool.and_self, Bool.or_true, Bool.true_or, Bool.or_false, Bool.false_or, Bool.or_self, decide_eq_true_eq, decide_true, decide_false, beq_self_eq_true, Option.map_some, reduceCtorEq, true_or, or_true, or_false, false_or, or_self, true_and, and_true, and_self, false_and, and_false, Option.some.injEq, exists_eq_left', ne_eq, not_true_eq_false, not_false_eq_true, eq_self, e_pk, e_pr, e_pn, e_ps, e_pd1, e_pd2, e_us, e_un, e_ifp, e_ifn, e_sk, e_sr, e_sn, e_ss, e_sd1, e_sd2, e_sp, ck4 hck, ck5 hck, ck6 hck, ck7 hck, ck8 hck, cr4_2 hck, cr4_3 hck, cr4_4 hck, cr4_5 hck, ht.1, e1, e2])
            | (refine And.intro (fun hc => ?_) (fun hc => ?_) <;> try (exfalso; omega))
            | ((refine c_slen (by omega) ht ?_); dsimp only [Option.toList, List.cons_append, List.nil_append, Nat.reduceAdd])
            | ((refine c_charAt (by omega) ht (by omega) ?_); dsimp only [Option.toList, List.cons_append, List.nil_append, Nat.reduceAdd])
          all_goals first | exact ih _ | (exfalso; omega) | skip
      · have ih := fun x7 => ih 0 ((s + y : Nat) + 1 : Int) x7 (by omega) (by
          rw [if_neg]
          exact fun q => by omega)
        refine gp_of (by rfl) ?_
        simp (disch := omega) only [e_wi, e_isr, e_isc, e_stp, e_rt, e_load, e_bin, e_binL, e_ld, e_s1, e_s2, e_n0, e_ok, e_cmp, e_ex, e_gif, e_id32, e_id64, e_v0, e_v1, e_v2, e_v3, e_dt, e_c1, e_sw, e_inv, e_cat, e_rcv, Fin.val_zero, Fin.val_one, Int.toNat_add, Int.toNat_mul, Int.toNat_natCast, Int.reduceToNat, Int.reduceMul, Int.reduceAdd, Int.reduceNeg, Nat.reduceAdd, Nat.reduceSub, Nat.reduceEqDiff, Nat.reduceLT, Nat.reduceLeDiff, List.getElem?_cons_zero, List.getElem?_cons_succ, List.length_cons, List.length_nil, List.take_succ_cons, List.take_zero, List.drop_succ_cons, List.drop_zero, List.reverse_cons, List.reverse_nil, List.nil_append, List.cons_append, List.append_nil, List.map_cons, List.map_nil, List.sum_cons, List.sum_nil, Bool.false_eq_true, if_false, if_true, Bool.and_true, Bool.true_and, Bool.and_self, Bool.or_true, Bool.true_or, Bool.or_false, Bool.false_or, Bool.or_self, decide_eq_true_eq, decide_true, decide_false, beq_self_eq_true, Option.map_some, reduceCtorEq, true_or, or_true, or_false, false_or, or_self, true_and, and_true, and_self, false_and, and_false, Option.some.injEq, exists_eq_left', ne_eq, not_true_eq_false, not_false_eq_true, eq_self, e_pk, e_pr, e_pn, e_ps, e_pd1, e_pd2, e_us, e_un, e_ifp, e_ifn, e_sk, e_sr, e_sn, e_ss, e_sd1, e_sd2, e_sp, ck4 hck, ck5 hck, ck6 hck, ck7 hck, ck8 hck, cr4_2 hck, cr4_3 hck, cr4_4 hck, cr4_5 hck, ht.1, e1]
        repeat' first
          | (refine gp_at [13] (by rfl) (by decide) ?_; simp (disch := omega) only [e_wi, e_isr, e_isc, e_stp, e_rt, e_load, e_bin, e_binL, e_ld, e_s1, e_s2, e_n0, e_ok, e_cmp, e_ex, e_gif, e_id32, e_id64, e_v0, e_v1, e_v2, e_v3, e_dt, e_c1, e_sw, e_inv, e_cat, e_rcv, Fin.val_zero, Fin.val_one, Int.toNat_add, Int.toNat_mul, Int.toNat_natCast, Int.reduceToNat, Int.reduceMul, Int.reduceAdd, Int.reduceNeg, Nat.reduceAdd, Nat.reduceSub, Nat.reduceEqDiff, Nat.reduceLT, Nat.reduceLeDiff, List.getElem?_cons_zero, List.getElem?_cons_succ, List.length_cons, List.length_nil, List.take_succ_cons, List.take_zero, List.drop_succ_cons, List.drop_zero, List.reverse_cons, List.reverse_nil, List.nil_append, List.cons_append, List.append_nil, List.map_cons, List.map_nil, List.sum_cons, List.sum_nil, Bool.false_eq_true, if_false, if_true, Bool.and_true, Bool.true_and, Bool.and_self, Bool.or_true, Bool.true_or, Bool.or_false, Bool.false_or, Bool.or_self, decide_eq_true_eq, decide_true, decide_false, beq_self_eq_true, Option.map_some, reduceCtorEq, true_or, or_true, or_false, false_or, or_self, true_and, and_true, and_self, false_and, and_false, Option.some.injEq, exists_eq_left', ne_eq, not_true_eq_false, not_false_eq_true, eq_self, e_pk, e_pr, e_pn, e_ps, e_pd1, e_pd2, e_us, e_un, e_ifp, e_ifn, e_sk, e_sr, e_sn, e_ss, e_sd1, e_sd2, e_sp, ck4 hck, ck5 hck, ck6 hck, ck7 hck, ck8 hck, cr4_2 hck, cr4_3 hck, cr4_4 hck, cr4_5 hck, ht.1, e1])
          | (refine And.intro (fun hc => ?_) (fun hc => ?_) <;> try (exfalso; omega))
          | ((refine c_slen (by omega) ht ?_); dsimp only [Option.toList, List.cons_append, List.nil_append, Nat.reduceAdd])
          | ((refine c_charAt (by omega) ht (by omega) ?_); dsimp only [Option.toList, List.cons_append, List.nil_append, Nat.reduceAdd])
        all_goals first | exact ih _ | (exfalso; omega) | skip
    · rw [if_neg h1] at hb
      subst hb
      have ih := fun x7 => ih 0 ((s + y : Nat) + 1 : Int) x7 (by omega) (by
        rw [if_neg]
        exact fun q => h1 ⟨by omega, fun x hx => q.2 x (by omega)⟩)
      refine gp_of (by rfl) ?_
      simp (disch := omega) only [e_wi, e_isr, e_isc, e_stp, e_rt, e_load, e_bin, e_binL, e_ld, e_s1, e_s2, e_n0, e_ok, e_cmp, e_ex, e_gif, e_id32, e_id64, e_v0, e_v1, e_v2, e_v3, e_dt, e_c1, e_sw, e_inv, e_cat, e_rcv, Fin.val_zero, Fin.val_one, Int.toNat_add, Int.toNat_mul, Int.toNat_natCast, Int.reduceToNat, Int.reduceMul, Int.reduceAdd, Int.reduceNeg, Nat.reduceAdd, Nat.reduceSub, Nat.reduceEqDiff, Nat.reduceLT, Nat.reduceLeDiff, List.getElem?_cons_zero, List.getElem?_cons_succ, List.length_cons, List.length_nil, List.take_succ_cons, List.take_zero, List.drop_succ_cons, List.drop_zero, List.reverse_cons, List.reverse_nil, List.nil_append, List.cons_append, List.append_nil, List.map_cons, List.map_nil, List.sum_cons, List.sum_nil, Bool.false_eq_true, if_false, if_true, Bool.and_true, Bool.true_and, Bool.and_self, Bool.or_true, Bool.true_or, Bool.or_false, Bool.false_or, Bool.or_self, decide_eq_true_eq, decide_true, decide_false, beq_self_eq_true, Option.map_some, reduceCtorEq, true_or, or_true, or_false, false_or, or_self, true_and, and_true, and_self, false_and, and_false, Option.some.injEq, exists_eq_left', ne_eq, not_true_eq_false, not_false_eq_true, eq_self, e_pk, e_pr, e_pn, e_ps, e_pd1, e_pd2, e_us, e_un, e_ifp, e_ifn, e_sk, e_sr, e_sn, e_ss, e_sd1, e_sd2, e_sp, ck4 hck, ck5 hck, ck6 hck, ck7 hck, ck8 hck, cr4_2 hck, cr4_3 hck, cr4_4 hck, cr4_5 hck, ht.1, e1]
      repeat' first
        | (refine gp_at [13] (by rfl) (by decide) ?_; simp (disch := omega) only [e_wi, e_isr, e_isc, e_stp, e_rt, e_load, e_bin, e_binL, e_ld, e_s1, e_s2, e_n0, e_ok, e_cmp, e_ex, e_gif, e_id32, e_id64, e_v0, e_v1, e_v2, e_v3, e_dt, e_c1, e_sw, e_inv, e_cat, e_rcv, Fin.val_zero, Fin.val_one, Int.toNat_add, Int.toNat_mul, Int.toNat_natCast, Int.reduceToNat, Int.reduceMul, Int.reduceAdd, Int.reduceNeg, Nat.reduceAdd, Nat.reduceSub, Nat.reduceEqDiff, Nat.reduceLT, Nat.reduceLeDiff, List.getElem?_cons_zero, List.getElem?_cons_succ, List.length_cons, List.length_nil, List.take_succ_cons, List.take_zero, List.drop_succ_cons, List.drop_zero, List.reverse_cons, List.reverse_nil, List.nil_append, List.cons_append, List.append_nil, List.map_cons, List.map_nil, List.sum_cons, List.sum_nil, Bool.false_eq_true, if_false, if_true, Bool.and_true, Bool.true_and, Bool.and_self, Bool.or_true, Bool.true_or, Bool.or_false, Bool.false_or, Bool.or_self, decide_eq_true_eq, decide_true, decide_false, beq_self_eq_true, Option.map_some, reduceCtorEq, true_or, or_true, or_false, false_or, or_self, true_and, and_true, and_self, false_and, and_false, Option.some.injEq, exists_eq_left', ne_eq, not_true_eq_false, not_false_eq_true, eq_self, e_pk, e_pr, e_pn, e_ps, e_pd1, e_pd2, e_us, e_un, e_ifp, e_ifn, e_sk, e_sr, e_sn, e_ss, e_sd1, e_sd2, e_sp, ck4 hck, ck5 hck, ck6 hck, ck7 hck, ck8 hck, cr4_2 hck, cr4_3 hck, cr4_4 hck, cr4_5 hck, ht.1, e1])
        | (refine And.intro (fun hc => ?_) (fun hc => ?_) <;> try (exfalso; omega))
        | ((refine c_slen (by omega) ht ?_); dsimp only [Option.toList, List.cons_append, List.nil_append, Nat.reduceAdd])
        | ((refine c_charAt (by omega) ht (by omega) ?_); dsimp only [Option.toList, List.cons_append, List.nil_append, Nat.reduceAdd])
      all_goals first | exact ih _ | (exfalso; omega) | skip
/-- the word of m bytes from s on -/
def k_mt (B : Nat → Int) (fr sz s m : Nat) : Prop := sz = m ∧ ∀ x, x < m → B (fr + x) = k_W (s + x)
set_option maxRecDepth 8000 in
set_option maxHeartbeats 2000000 in
theorem c_wk_w {k : Nat} {fr sz s m : Nat} {σ : eH} {Q : Option eV → eH → Prop} (hk : 5 ≤ k) (hck : Ck σ) (ht : Tx σ) (hfs : fr + sz ≤ 400) (hB : ∀ i, -128 ≤ σ.2.2.2.1 5 i ∧ σ.2.2.2.1 5 i < 128) (hsm : s + m < 94) (hW : ∀ x, x < m → k_W (s + x) ≠ 32) (hW2 : k_W (s + m) = 32) {kd : Int} {x7 : Option eV} (hQ : k_mt (σ.2.2.2.1 5) fr sz s m → Q (some (.inl kd)) σ) (hN : ¬ k_mt (σ.2.2.2.1 5) fr sz s m → ∀ x7, e_Gp k e_k24 13 [some (.inr (.inr 6)), some (.inl (fr : Int)), some (.inl (sz : Int)), some (.inl (kd + 1)), some (.inl ((s + m + 1 : Nat) : Int)), some (.inl 1), some (.inl ((s + m + 1 : Nat) : Int)), x7] [] σ Q) : e_Gp k e_k24 13 [some (.inr (.inr 6)), some (.inl (fr : Int)), some (.inl (sz : Int)), some (.inl kd), some (.inl (s : Int)), some (.inl 1), some (.inl (s : Int)), x7] [] σ Q := by
  refine c_wk_a hk hck ht hfs hB hsm hW (fun b x7 hb => ?_) m 0 1 _ x7 (by omega) (by omega) (by rw [if_pos ⟨by omega, fun x hx => by omega⟩])
  have e1 : ((s + m : Nat) : Int) - (s : Int) = (m : Int) := by omega
  have e3 : ((s + m : Nat) : Int) + 1 = ((s + m + 1 : Nat) : Int) := by omega
  by_cases h1 : m ≤ sz ∧ ∀ x, x < m → σ.2.2.2.1 5 (fr + x) = k_W (s + x)
  · rw [if_pos h1] at hb
    subst hb
    by_cases h2 : m = sz
    · have hQ := hQ ⟨h2.symm, h1.2⟩
      refine gp_of (by rfl) ?_
      simp (disch := omega) only [e_wi, e_isr, e_isc, e_stp, e_rt, e_load, e_bin, e_binL, e_ld, e_s1, e_s2, e_n0, e_ok, e_cmp, e_ex, e_gif, e_id32, e_id64, e_v0, e_v1, e_v2, e_v3, e_dt, e_c1, e_sw, e_inv, e_cat, e_rcv, Fin.val_zero, Fin.val_one, Int.toNat_add, Int.toNat_mul, Int.toNat_natCast, Int.reduceToNat, Int.reduceMul, Int.reduceAdd, Int.reduceNeg, Nat.reduceAdd, Nat.reduceSub, Nat.reduceEqDiff, Nat.reduceLT, Nat.reduceLeDiff, List.getElem?_cons_zero, List.getElem?_cons_succ, List.length_cons, List.length_nil, List.take_succ_cons, List.take_zero, List.drop_succ_cons, List.drop_zero, List.reverse_cons, List.reverse_nil, List.nil_append, List.cons_append, List.append_nil, List.map_cons, List.map_nil, List.sum_cons, List.sum_nil, Bool.false_eq_true, if_false, if_true, Bool.and_true, Bool.true_and, Bool.and_self, Bool.or_true, Bool.true_or, Bool.or_false, Bool.false_or, Bool.or_self, decide_eq_true_eq, decide_true, decide_false, beq_self_eq_true, Option.map_some, reduceCtorEq, true_or, or_true, or_false, false_or, or_self, true_and, and_true, and_self, false_and, and_false, Option.some.injEq, exists_eq_left', ne_eq, not_true_eq_false, not_false_eq_true, eq_self, e_pk, e_pr, e_pn, e_ps, e_pd1, e_pd2, e_us, e_un, e_ifp, e_ifn, e_sk, e_sr, e_sn, e_ss, e_sd1, e_sd2, e_sp, ck4 hck, ck5 hck, ck6 hck, ck7 hck, ck8 hck, cr4_2 hck, cr4_3 hck, cr4_4 hck, cr4_5 hck, ht.1, e1, e3, hW2]
      repeat' first
        | (refine gp_at [13] (by rfl) (by decide) ?_; simp (disch := omega) only [e_wi, e_isr, e_isc, e_stp, e_rt, e_load, e_bin, e_binL, e_ld, e_s1, e_s2, e_n0, e_ok, e_cmp, e_ex, e_gif, e_id32, e_id64, e_v0, e_v1, e_v2, e_v3, e_dt, e_c1, e_sw, e_inv, e_cat, e_rcv, Fin.val_zero, Fin.val_one, Int.toNat_add, Int.toNat_mul, Int.toNat_natCast, Int.reduceToNat, Int.reduceMul, Int.reduceAdd, Int.reduceNeg, Nat.reduceAdd, Nat.reduceSub, Nat.reduceEqDiff, Nat.reduceLT, Nat.reduceLeDiff, List.getElem?_cons_zero, List.getElem?_cons_succ, List.length_cons, List.length_nil, List.take_succ_cons, List.take_zero, List.drop_succ_cons, List.drop_zero, List.reverse_cons, List.reverse_nil, List.nil_append, List.cons_append, List.append_nil, List.map_cons, List.map_nil, List.sum_cons, List.sum_nil, Bool.false_eq_true, if_false, if_true, Bool.and_true, Bool.true_and, Bool.and_self, Bool.or_true, Bool.true_or, Bool.or_false, Bool.false_or, Bool.or_self, decide_eq_true_eq, decide_true, decide_false, beq_self_eq_true, Option.map_some, reduceCtorEq, true_or, or_true, or_false, false_or, or_self, true_and, and_true, and_self, false_and, and_false, Option.some.injEq, exists_eq_left', ne_eq, not_true_eq_false, not_false_eq_true, eq_self, e_pk, e_pr, e_pn, e_ps, e_pd1, e_pd2, e_us, e_un, e_ifp, e_ifn, e_sk, e_sr, e_sn, e_ss, e_sd1, e_sd2, e_sp, ck4 hck, ck5 hck, ck6 hck, ck7 hck, ck8 hck, cr4_2 hck, cr4_3 hck, cr4_4 hck, cr4_5 hck, ht.1, e1, e3, hW2])
        | (refine And.intro (fun hc => ?_) (fun hc => ?_) <;> try (exfalso; omega))
        | ((refine c_slen (by omega) ht ?_); dsimp only [Option.toList, List.cons_append, List.nil_append, Nat.reduceAdd])
        | ((refine c_charAt (by omega) ht (by omega) ?_); dsimp only [Option.toList, List.cons_append, List.nil_append, Nat.reduceAdd])
      all_goals first | exact hQ | (exfalso; omega)
    · have hN := hN (fun q => h2 q.1.symm)
      refine gp_of (by rfl) ?_
      simp (disch := omega) only [e_wi, e_isr, e_isc, e_stp, e_rt, e_load, e_bin, e_binL, e_ld, e_s1, e_s2, e_n0, e_ok, e_cmp, e_ex, e_gif, e_id32, e_id64, e_v0, e_v1, e_v2, e_v3, e_dt, e_c1, e_sw, e_inv, e_cat, e_rcv, Fin.val_zero, Fin.val_one, Int.toNat_add, Int.toNat_mul, Int.toNat_natCast, Int.reduceToNat, Int.reduceMul, Int.reduceAdd, Int.reduceNeg, Nat.reduceAdd, Nat.reduceSub, Nat.reduceEqDiff, Nat.reduceLT, Nat.reduceLeDiff, List.getElem?_cons_zero, List.getElem?_cons_succ, List.length_cons, List.length_nil, List.take_succ_cons, List.take_zero, List.drop_succ_cons, List.drop_zero, List.reverse_cons, List.reverse_nil, List.nil_append, List.cons_append, List.append_nil, List.map_cons, List.map_nil, List.sum_cons, List.sum_nil, Bool.false_eq_true, if_false, if_true, Bool.and_true, Bool.true_and, Bool.and_self, Bool.or_true, Bool.true_or, Bool.or_false, Bool.false_or, Bool.or_self, decide_eq_true_eq, decide_true, decide_false, beq_self_eq_true, Option.map_some, reduceCtorEq, true_or, or_true, or_false, false_or, or_self, true_and, and_true, and_self, false_and, and_false, Option.some.injEq, exists_eq_left', ne_eq, not_true_eq_false, not_false_eq_true, eq_self, e_pk, e_pr, e_pn, e_ps, e_pd1, e_pd2, e_us, e_un, e_ifp, e_ifn, e_sk, e_sr, e_sn, e_ss, e_sd1, e_sd2, e_sp, ck4 hck, ck5 hck, ck6 hck, ck7 hck, ck8 hck, cr4_2 hck, cr4_3 hck, cr4_4 hck, cr4_5 hck, ht.1, e1, e3, hW2]
      repeat' first
        | (refine gp_at [13] (by rfl) (by decide) ?_; simp (disch := omega) only [e_wi, e_isr, e_isc, e_stp, e_rt, e_load, e_bin, e_binL, e_ld, e_s1, e_s2, e_n0, e_ok, e_cmp, e_ex, e_gif, e_id32, e_id64, e_v0, e_v1, e_v2, e_v3, e_dt, e_c1, e_sw, e_inv, e_cat, e_rcv, Fin.val_zero, Fin.val_one, Int.toNat_add, Int.toNat_mul, Int.toNat_natCast, Int.reduceToNat, Int.reduceMul, Int.reduceAdd, Int.reduceNeg, Nat.reduceAdd, Nat.reduceSub, Nat.reduceEqDiff, Nat.reduceLT, Nat.reduceLeDiff, List.getElem?_cons_zero, List.getElem?_cons_succ, List.length_cons, List.length_nil, List.take_succ_cons, List.take_zero, List.drop_succ_cons, List.drop_zero, List.reverse_cons, List.reverse_nil, List.nil_append, List.cons_append, List.append_nil, List.map_cons, List.map_nil, List.sum_cons, List.sum_nil, Bool.false_eq_true, if_false, if_true, Bool.and_true, Bool.true_and, Bool.and_self, Bool.or_true, Bool.true_or, Bool.or_false, Bool.false_or, Bool.or_self, decide_eq_true_eq, decide_true, decide_false, beq_self_eq_true, Option.map_some, reduceCtorEq, true_or, or_true, or_false, false_or, or_self, true_and, and_true, and_self, false_and, and_false, Option.some.injEq, exists_eq_left', ne_eq, not_true_eq_false, not_false_eq_true, eq_self, e_pk, e_pr, e_pn, e_ps, e_pd1, e_pd2, e_us, e_un, e_ifp, e_ifn, e_sk, e_sr, e_sn, e_ss, e_sd1, e_sd2, e_sp, ck4 hck, ck5 hck, ck6 hck, ck7 hck, ck8 hck, cr4_2 hck, cr4_3 hck, cr4_4 hck, cr4_5 hck, ht.1, e1, e3, hW2])
        | (refine And.intro (fun hc => ?_) (fun hc => ?_) <;> try (exfalso; omega))
        | ((refine c_slen (by omega) ht ?_); dsimp only [Option.toList, List.cons_append, List.nil_append, Nat.reduceAdd])
        | ((refine c_charAt (by omega) ht (by omega) ?_); dsimp only [Option.toList, List.cons_append, List.nil_append, Nat.reduceAdd])
      all_goals first | exact hN _ | (exfalso; omega)
  · rw [if_neg h1] at hb
    subst hb
    have hN := hN (fun q => h1 ⟨by have := q.1; omega, q.2⟩)
    refine gp_of (by rfl) ?_
    simp (disch := omega) only [e_wi, e_isr, e_isc, e_stp, e_rt, e_load, e_bin, e_binL, e_ld, e_s1, e_s2, e_n0, e_ok, e_cmp, e_ex, e_gif, e_id32, e_id64, e_v0, e_v1, e_v2, e_v3, e_dt, e_c1, e_sw, e_inv, e_cat, e_rcv, Fin.val_zero, Fin.val_one, Int.toNat_add, Int.toNat_mul, Int.toNat_natCast, Int.reduceToNat, Int.reduceMul, Int.reduceAdd, Int.reduceNeg, Nat.reduceAdd, Nat.reduceSub, Nat.reduceEqDiff, Nat.reduceLT, Nat.reduceLeDiff, List.getElem?_cons_zero, List.getElem?_cons_succ, List.length_cons, List.length_nil, List.take_succ_cons, List.take_zero, List.drop_succ_cons, List.drop_zero, List.reverse_cons, List.reverse_nil, List.nil_append, List.cons_append, List.append_nil, List.map_cons, List.map_nil, List.sum_cons, List.sum_nil, Bool.false_eq_true, if_false, if_true, Bool.and_true, Bool.true_and, Bool.and_self, Bool.or_true, Bool.true_or, Bool.or_false, Bool.false_or, Bool.or_self, decide_eq_true_eq, decide_true, decide_false, beq_self_eq_true, Option.map_some, reduceCtorEq, true_or, or_true, or_false, false_or, or_self, true_and, and_true, and_self, false_and, and_false, Option.some.injEq, exists_eq_left', ne_eq, not_true_eq_false, not_false_eq_true, eq_self, e_pk, e_pr, e_pn, e_ps, e_pd1, e_pd2, e_us, e_un, e_ifp, e_ifn, e_sk, e_sr, e_sn, e_ss, e_sd1, e_sd2, e_sp, ck4 hck, ck5 hck, ck6 hck, ck7 hck, ck8 hck, cr4_2 hck, cr4_3 hck, cr4_4 hck, cr4_5 hck, ht.1, e1, e3, hW2]
    repeat' first
      | (refine gp_at [13] (by rfl) (by decide) ?_; simp (disch := omega) only [e_wi, e_isr, e_isc, e_stp, e_rt, e_load, e_bin, e_binL, e_ld, e_s1, e_s2, e_n0, e_ok, e_cmp, e_ex, e_gif, e_id32, e_id64, e_v0, e_v1, e_v2, e_v3, e_dt, e_c1, e_sw, e_inv, e_cat, e_rcv, Fin.val_zero, Fin.val_one, Int.toNat_add, Int.toNat_mul, Int.toNat_natCast, Int.reduceToNat, Int.reduceMul, Int.reduceAdd, Int.reduceNeg, Nat.reduceAdd, Nat.reduceSub, Nat.reduceEqDiff, Nat.reduceLT, Nat.reduceLeDiff, List.getElem?_cons_zero, List.getElem?_cons_succ, List.length_cons, List.length_nil, List.take_succ_cons, List.take_zero, List.drop_succ_cons, List.drop_zero, List.reverse_cons, List.reverse_nil, List.nil_append, List.cons_append, List.append_nil, List.map_cons, List.map_nil, List.sum_cons, List.sum_nil, Bool.false_eq_true, if_false, if_true, Bool.and_true, Bool.true_and, Bool.and_self, Bool.or_true, Bool.true_or, Bool.or_false, Bool.false_or, Bool.or_self, decide_eq_true_eq, decide_true, decide_false, beq_self_eq_true, Option.map_some, reduceCtorEq, true_or, or_true, or_false, false_or, or_self, true_and, and_true, and_self, false_and, and_false, Option.some.injEq, exists_eq_left', ne_eq, not_true_eq_false, not_false_eq_true, eq_self, e_pk, e_pr, e_pn, e_ps, e_pd1, e_pd2, e_us, e_un, e_ifp, e_ifn, e_sk, e_sr, e_sn, e_ss, e_sd1, e_sd2, e_sp, ck4 hck, ck5 hck, ck6 hck, ck7 hck, ck8 hck, cr4_2 hck, cr4_3 hck, cr4_4 hck, cr4_5 hck, ht.1, e1, e3, hW2])
      | (refine And.intro (fun hc => ?_) (fun hc => ?_) <;> try (exfalso; omega))
      | ((refine c_slen (by omega) ht ?_); dsimp only [Option.toList, List.cons_append, List.nil_append, Nat.reduceAdd])
      | ((refine c_charAt (by omega) ht (by omega) ?_); dsimp only [Option.toList, List.cons_append, List.nil_append, Nat.reduceAdd])
    all_goals first | exact hN _ | (exfalso; omega)
theorem k_vv_b {B : Nat → Int} {p : Nat} : ∀ n, (∀ i, i < n → 1 ≤ B (p + i) ∧ B (p + i) < 256) → 0 ≤ k_vv B p n ∧ (0 < n → 1 ≤ k_vv B p n)
  | 0, _ => ⟨by show (0 : Int) ≤ 0; omega, fun h => by omega⟩
  | n + 1, h => by
    have ih := k_vv_b n (fun i hi => h i (by omega))
    have h1 := h n (by omega)
    show 0 ≤ 256 * k_vv B p n + B (p + n) ∧ (_ → 1 ≤ 256 * k_vv B p n + B (p + n))
    omega
theorem k_vv_i {B C : Nat → Int} {p q : Nat} : ∀ n m, (∀ i, i < n → 1 ≤ B (p + i) ∧ B (p + i) < 256) → (∀ i, i < m → 1 ≤ C (q + i) ∧ C (q + i) < 256) → k_vv B p n = k_vv C q m → n = m ∧ ∀ i, i < n → B (p + i) = C (q + i)
  | 0, 0, _, _, _ => ⟨rfl, fun i hi => by omega⟩
  | 0, m + 1, _, h2, e => by
    have := (k_vv_b (m + 1) h2).2 (by omega)
    have e : (0 : Int) = k_vv C q (m + 1) := e
    omega
  | n + 1, 0, h1, _, e => by
    have := (k_vv_b (n + 1) h1).2 (by omega)
    have e : k_vv B p (n + 1) = 0 := e
    omega
  | n + 1, m + 1, h1, h2, e => by
    have e : 256 * k_vv B p n + B (p + n) = 256 * k_vv C q m + C (q + m) := e
    have a1 := h1 n (by omega)
    have a2 := h2 m (by omega)
    have ih := k_vv_i n m (fun i hi => h1 i (by omega)) (fun i hi => h2 i (by omega)) (by omega)
    obtain ⟨rfl, ih2⟩ := ih
    refine ⟨rfl, fun i hi => ?_⟩
    by_cases e2 : i = n
    · subst e2
      omega
    · exact ih2 i (by omega)
theorem k_vv_c {B C : Nat → Int} {p q : Nat} : ∀ n, (∀ i, i < n → B (p + i) = C (q + i)) → k_vv B p n = k_vv C q n
  | 0, _ => rfl
  | n + 1, h => by
    show 256 * k_vv B p n + B (p + n) = 256 * k_vv C q n + C (q + n)
    rw [k_vv_c n (fun i hi => h i (by omega)), h n (by omega)]
theorem k_mt_v {B : Nat → Int} {t p s m : Nat} (hp : p < t) (hm : m < 8) (hW : ∀ x, x < m → 1 ≤ k_W (s + x) ∧ k_W (s + x) < 256) (hV : 0 < k_vv k_W s m) : k_mt B p (k_ln B t p) s m ↔ k_wv B t p = k_vv k_W s m := by
  have hl : ∀ i, i < k_ln B t p → 1 ≤ B (p + i) ∧ B (p + i) < 256 := fun i hi => by
    have h := k_go_in (P := k_lt B) (t := t) (p := p) (i := p + i) (by omega) (by unfold k_ln at hi; omega)
    have h := of_decide_eq_true h
    omega
  constructor
  · intro h
    unfold k_wv
    rw [h.1, if_pos hm]
    exact k_vv_c m h.2
  · intro h
    unfold k_wv at h
    split at h
    · have := k_vv_i _ _ hl hW h
      exact ⟨this.1, fun x hx => this.2 x (by omega)⟩
    · omega
set_option maxRecDepth 8000 in
set_option maxHeartbeats 4000000 in
theorem c_wordKind {k : Nat} {B : Nat → Int} {t p : Nat} {σ : eH} {Q : Option eV → eH → Prop} (hk : 6 ≤ k) (hck : Ck σ) (ht : Tx σ) (hp : p < t) (ht4 : t ≤ 400) (hBe : σ.2.2.2.1 5 = B) (hB : ∀ i, -128 ≤ σ.2.2.2.1 5 i ∧ σ.2.2.2.1 5 i < 128) (hQ : Q (some (.inl (k_wk (k_wv B t p)))) σ) : e_Wp k 24 [.inr (.inr 6), .inl (p : Int), .inl ((k_ln B t p : Nat) : Int)] σ Q := by
  refine wp_in (nL := 8) (cd := e_k24) (by omega) (by rfl) (Nat.le_of_ble_eq_true rfl) ?_
  dsimp only [e_ent, Nat.reduceSub, List.replicate]
  have hl1 : p + k_ln B t p ≤ 400 := by
    have := k_go_lt (P := k_lt B) (t := t) (p := p) (by omega)
    have := k_go_le (k_lt B) t p
    unfold k_ln
    omega
  subst hBe
  refine gp_of (by rfl) ?_
  simp (disch := omega) only [e_wi, e_isr, e_isc, e_stp, e_rt, e_load, e_bin, e_binL, e_ld, e_s1, e_s2, e_n0, e_ok, e_cmp, e_ex, e_gif, e_id32, e_id64, e_v0, e_v1, e_v2, e_v3, e_dt, e_c1, e_sw, e_inv, e_cat, e_rcv, Fin.val_zero, Fin.val_one, Int.toNat_add, Int.toNat_mul, Int.toNat_natCast, Int.reduceToNat, Int.reduceMul, Int.reduceAdd, Int.reduceNeg, Nat.reduceAdd, Nat.reduceSub, Nat.reduceEqDiff, Nat.reduceLT, Nat.reduceLeDiff, List.getElem?_cons_zero, List.getElem?_cons_succ, List.length_cons, List.length_nil, List.take_succ_cons, List.take_zero, List.drop_succ_cons, List.drop_zero, List.reverse_cons, List.reverse_nil, List.nil_append, List.cons_append, List.append_nil, List.map_cons, List.map_nil, List.sum_cons, List.sum_nil, Bool.false_eq_true, if_false, if_true, Bool.and_true, Bool.true_and, Bool.and_self, Bool.or_true, Bool.true_or, Bool.or_false, Bool.false_or, Bool.or_self, decide_eq_true_eq, decide_true, decide_false, beq_self_eq_true, Option.map_some, reduceCtorEq, true_or, or_true, or_false, false_or, or_self, true_and, and_true, and_self, false_and, and_false, Option.some.injEq, exists_eq_left', ne_eq, not_true_eq_false, not_false_eq_true, eq_self, e_pk, e_pr, e_pn, e_ps, e_pd1, e_pd2, e_us, e_un, e_ifp, e_ifn, e_sk, e_sr, e_sn, e_ss, e_sd1, e_sd2, e_sp, ck4 hck, ck5 hck, ck6 hck, ck7 hck, ck8 hck, cr4_2 hck, cr4_3 hck, cr4_4 hck, cr4_5 hck, ht.1]
  repeat' first
    | (refine gp_at [13] (by rfl) (by decide) ?_; simp (disch := omega) only [e_wi, e_isr, e_isc, e_stp, e_rt, e_load, e_bin, e_binL, e_ld, e_s1, e_s2, e_n0, e_ok, e_cmp, e_ex, e_gif, e_id32, e_id64, e_v0, e_v1, e_v2, e_v3, e_dt, e_c1, e_sw, e_inv, e_cat, e_rcv, Fin.val_zero, Fin.val_one, Int.toNat_add, Int.toNat_mul, Int.toNat_natCast, Int.reduceToNat, Int.reduceMul, Int.reduceAdd, Int.reduceNeg, Nat.reduceAdd, Nat.reduceSub, Nat.reduceEqDiff, Nat.reduceLT, Nat.reduceLeDiff, List.getElem?_cons_zero, List.getElem?_cons_succ, List.length_cons, List.length_nil, List.take_succ_cons, List.take_zero, List.drop_succ_cons, List.drop_zero, List.reverse_cons, List.reverse_nil, List.nil_append, List.cons_append, List.append_nil, List.map_cons, List.map_nil, List.sum_cons, List.sum_nil, Bool.false_eq_true, if_false, if_true, Bool.and_true, Bool.true_and, Bool.and_self, Bool.or_true, Bool.true_or, Bool.or_false, Bool.false_or, Bool.or_self, decide_eq_true_eq, decide_true, decide_false, beq_self_eq_true, Option.map_some, reduceCtorEq, true_or, or_true, or_false, false_or, or_self, true_and, and_true, and_self, false_and, and_false, Option.some.injEq, exists_eq_left', ne_eq, not_true_eq_false, not_false_eq_true, eq_self, e_pk, e_pr, e_pn, e_ps, e_pd1, e_pd2, e_us, e_un, e_ifp, e_ifn, e_sk, e_sr, e_sn, e_ss, e_sd1, e_sd2, e_sp, ck4 hck, ck5 hck, ck6 hck, ck7 hck, ck8 hck, cr4_2 hck, cr4_3 hck, cr4_4 hck, cr4_5 hck, ht.1])
    | (refine And.intro (fun hc => ?_) (fun hc => ?_) <;> try (exfalso; omega))
    | ((refine c_slen (by omega) ht ?_); dsimp only [Option.toList, List.cons_append, List.nil_append, Nat.reduceAdd])
    | ((refine c_charAt (by omega) ht (by omega) ?_); dsimp only [Option.toList, List.cons_append, List.nil_append, Nat.reduceAdd])
  have v0 := k_mt_v (B := σ.2.2.2.1 5) (s := 0) (m := 5) hp (by omega) (by decide) (by decide)
  rw [show k_vv k_W 0 5 = 0x7368656570 by decide] at v0
  refine c_wk_w (s := 0) (m := 5) (by omega) hck ht hl1 hB (by omega) (by decide) (by decide) (fun hy => ?_) (fun hn => ?_)
  · rw [v0] at hy
    rw [show k_wk (k_wv (σ.2.2.2.1 5) t p) = 256 by rw [hy]; decide] at hQ
    exact hQ
  rw [v0] at hn
  have hn0 := hn
  intro x0
  dsimp only [Nat.reduceAdd, Int.reduceAdd]
  have v1 := k_mt_v (B := σ.2.2.2.1 5) (s := 6) (m := 3) hp (by omega) (by decide) (by decide)
  rw [show k_vv k_W 6 3 = 0x6d616e by decide] at v1
  refine c_wk_w (s := 6) (m := 3) (by omega) hck ht hl1 hB (by omega) (by decide) (by decide) (fun hy => ?_) (fun hn => ?_)
  · rw [v1] at hy
    rw [show k_wk (k_wv (σ.2.2.2.1 5) t p) = 257 by rw [hy]; decide] at hQ
    exact hQ
  rw [v1] at hn
  have hn1 := hn
  intro x1
  dsimp only [Nat.reduceAdd, Int.reduceAdd]
  have v2 := k_mt_v (B := σ.2.2.2.1 5) (s := 10) (m := 5) hp (by omega) (by decide) (by decide)
  rw [show k_vv k_W 10 5 = 0x6c696b6573 by decide] at v2
  refine c_wk_w (s := 10) (m := 5) (by omega) hck ht hl1 hB (by omega) (by decide) (by decide) (fun hy => ?_) (fun hn => ?_)
  · rw [v2] at hy
    rw [show k_wk (k_wv (σ.2.2.2.1 5) t p) = 258 by rw [hy]; decide] at hQ
    exact hQ
  rw [v2] at hn
  have hn2 := hn
  intro x2
  dsimp only [Nat.reduceAdd, Int.reduceAdd]
  have v3 := k_mt_v (B := σ.2.2.2.1 5) (s := 16) (m := 4) hp (by omega) (by decide) (by decide)
  rw [show k_vv k_W 16 4 = 0x73616c74 by decide] at v3
  refine c_wk_w (s := 16) (m := 4) (by omega) hck ht hl1 hB (by omega) (by decide) (by decide) (fun hy => ?_) (fun hn => ?_)
  · rw [v3] at hy
    rw [show k_wk (k_wv (σ.2.2.2.1 5) t p) = 259 by rw [hy]; decide] at hQ
    exact hQ
  rw [v3] at hn
  have hn3 := hn
  intro x3
  dsimp only [Nat.reduceAdd, Int.reduceAdd]
  have v4 := k_mt_v (B := σ.2.2.2.1 5) (s := 21) (m := 5) hp (by omega) (by decide) (by decide)
  rw [show k_vv k_W 21 5 = 0x68616e6473 by decide] at v4
  refine c_wk_w (s := 21) (m := 5) (by omega) hck ht hl1 hB (by omega) (by decide) (by decide) (fun hy => ?_) (fun hn => ?_)
  · rw [v4] at hy
    rw [show k_wk (k_wv (σ.2.2.2.1 5) t p) = 260 by rw [hy]; decide] at hQ
    exact hQ
  rw [v4] at hn
  have hn4 := hn
  intro x4
  dsimp only [Nat.reduceAdd, Int.reduceAdd]
  have v5 := k_mt_v (B := σ.2.2.2.1 5) (s := 27) (m := 5) hp (by omega) (by decide) (by decide)
  rw [show k_vv k_W 27 5 = 0x666c6f636b by decide] at v5
  refine c_wk_w (s := 27) (m := 5) (by omega) hck ht hl1 hB (by omega) (by decide) (by decide) (fun hy => ?_) (fun hn => ?_)
  · rw [v5] at hy
    rw [show k_wk (k_wv (σ.2.2.2.1 5) t p) = 261 by rw [hy]; decide] at hQ
    exact hQ
  rw [v5] at hn
  have hn5 := hn
  intro x5
  dsimp only [Nat.reduceAdd, Int.reduceAdd]
  have v6 := k_mt_v (B := σ.2.2.2.1 5) (s := 33) (m := 4) hp (by omega) (by decide) (by decide)
  rw [show k_vv k_W 33 4 = 0x6d696e65 by decide] at v6
  refine c_wk_w (s := 33) (m := 4) (by omega) hck ht hl1 hB (by omega) (by decide) (by decide) (fun hy => ?_) (fun hn => ?_)
  · rw [v6] at hy
    rw [show k_wk (k_wv (σ.2.2.2.1 5) t p) = 262 by rw [hy]; decide] at hQ
    exact hQ
  rw [v6] at hn
  have hn6 := hn
  intro x6
  dsimp only [Nat.reduceAdd, Int.reduceAdd]
  have v7 := k_mt_v (B := σ.2.2.2.1 5) (s := 38) (m := 3) hp (by omega) (by decide) (by decide)
  rw [show k_vv k_W 38 3 = 0x6c6564 by decide] at v7
  refine c_wk_w (s := 38) (m := 3) (by omega) hck ht hl1 hB (by omega) (by decide) (by decide) (fun hy => ?_) (fun hn => ?_)
  · rw [v7] at hy
    rw [show k_wk (k_wv (σ.2.2.2.1 5) t p) = 263 by rw [hy]; decide] at hQ
    exact hQ
  rw [v7] at hn
  have hn7 := hn
  intro x7
  dsimp only [Nat.reduceAdd, Int.reduceAdd]
  have v8 := k_mt_v (B := σ.2.2.2.1 5) (s := 42) (m := 4) hp (by omega) (by decide) (by decide)
  rw [show k_vv k_W 42 4 = 0x776f6f6c by decide] at v8
  refine c_wk_w (s := 42) (m := 4) (by omega) hck ht hl1 hB (by omega) (by decide) (by decide) (fun hy => ?_) (fun hn => ?_)
  · rw [v8] at hy
    rw [show k_wk (k_wv (σ.2.2.2.1 5) t p) = 264 by rw [hy]; decide] at hQ
    exact hQ
  rw [v8] at hn
  have hn8 := hn
  intro x8
  dsimp only [Nat.reduceAdd, Int.reduceAdd]
  have v9 := k_mt_v (B := σ.2.2.2.1 5) (s := 47) (m := 5) hp (by omega) (by decide) (by decide)
  rw [show k_vv k_W 47 5 = 0x636f696e73 by decide] at v9
  refine c_wk_w (s := 47) (m := 5) (by omega) hck ht hl1 hB (by omega) (by decide) (by decide) (fun hy => ?_) (fun hn => ?_)
  · rw [v9] at hy
    rw [show k_wk (k_wv (σ.2.2.2.1 5) t p) = 265 by rw [hy]; decide] at hQ
    exact hQ
  rw [v9] at hn
  have hn9 := hn
  intro x9
  dsimp only [Nat.reduceAdd, Int.reduceAdd]
  have v10 := k_mt_v (B := σ.2.2.2.1 5) (s := 53) (m := 5) hp (by omega) (by decide) (by decide)
  rw [show k_vv k_W 53 5 = 0x6772617373 by decide] at v10
  refine c_wk_w (s := 53) (m := 5) (by omega) hck ht hl1 hB (by omega) (by decide) (by decide) (fun hy => ?_) (fun hn => ?_)
  · rw [v10] at hy
    rw [show k_wk (k_wv (σ.2.2.2.1 5) t p) = 266 by rw [hy]; decide] at hQ
    exact hQ
  rw [v10] at hn
  have hn10 := hn
  intro x10
  dsimp only [Nat.reduceAdd, Int.reduceAdd]
  have v11 := k_mt_v (B := σ.2.2.2.1 5) (s := 59) (m := 4) hp (by omega) (by decide) (by decide)
  rw [show k_vv k_W 59 4 = 0x79656172 by decide] at v11
  refine c_wk_w (s := 59) (m := 4) (by omega) hck ht hl1 hB (by omega) (by decide) (by decide) (fun hy => ?_) (fun hn => ?_)
  · rw [v11] at hy
    rw [show k_wk (k_wv (σ.2.2.2.1 5) t p) = 267 by rw [hy]; decide] at hQ
    exact hQ
  rw [v11] at hn
  have hn11 := hn
  intro x11
  dsimp only [Nat.reduceAdd, Int.reduceAdd]
  have v12 := k_mt_v (B := σ.2.2.2.1 5) (s := 64) (m := 4) hp (by omega) (by decide) (by decide)
  rw [show k_vv k_W 64 4 = 0x68696c6c by decide] at v12
  refine c_wk_w (s := 64) (m := 4) (by omega) hck ht hl1 hB (by omega) (by decide) (by decide) (fun hy => ?_) (fun hn => ?_)
  · rw [v12] at hy
    rw [show k_wk (k_wv (σ.2.2.2.1 5) t p) = 268 by rw [hy]; decide] at hQ
    exact hQ
  rw [v12] at hn
  have hn12 := hn
  intro x12
  dsimp only [Nat.reduceAdd, Int.reduceAdd]
  have v13 := k_mt_v (B := σ.2.2.2.1 5) (s := 69) (m := 7) hp (by omega) (by decide) (by decide)
  rw [show k_vv k_W 69 7 = 0x666f6c6c6f7773 by decide] at v13
  refine c_wk_w (s := 69) (m := 7) (by omega) hck ht hl1 hB (by omega) (by decide) (by decide) (fun hy => ?_) (fun hn => ?_)
  · rw [v13] at hy
    rw [show k_wk (k_wv (σ.2.2.2.1 5) t p) = 269 by rw [hy]; decide] at hQ
    exact hQ
  rw [v13] at hn
  have hn13 := hn
  intro x13
  dsimp only [Nat.reduceAdd, Int.reduceAdd]
  have v14 := k_mt_v (B := σ.2.2.2.1 5) (s := 77) (m := 2) hp (by omega) (by decide) (by decide)
  rw [show k_vv k_W 77 2 = 0x676f by decide] at v14
  refine c_wk_w (s := 77) (m := 2) (by omega) hck ht hl1 hB (by omega) (by decide) (by decide) (fun hy => ?_) (fun hn => ?_)
  · rw [v14] at hy
    rw [show k_wk (k_wv (σ.2.2.2.1 5) t p) = 270 by rw [hy]; decide] at hQ
    exact hQ
  rw [v14] at hn
  have hn14 := hn
  intro x14
  dsimp only [Nat.reduceAdd, Int.reduceAdd]
  have v15 := k_mt_v (B := σ.2.2.2.1 5) (s := 80) (m := 2) hp (by omega) (by decide) (by decide)
  rw [show k_vv k_W 80 2 = 0x6966 by decide] at v15
  refine c_wk_w (s := 80) (m := 2) (by omega) hck ht hl1 hB (by omega) (by decide) (by decide) (fun hy => ?_) (fun hn => ?_)
  · rw [v15] at hy
    rw [show k_wk (k_wv (σ.2.2.2.1 5) t p) = 271 by rw [hy]; decide] at hQ
    exact hQ
  rw [v15] at hn
  have hn15 := hn
  intro x15
  dsimp only [Nat.reduceAdd, Int.reduceAdd]
  have v16 := k_mt_v (B := σ.2.2.2.1 5) (s := 83) (m := 2) hp (by omega) (by decide) (by decide)
  rw [show k_vv k_W 83 2 = 0x6f72 by decide] at v16
  refine c_wk_w (s := 83) (m := 2) (by omega) hck ht hl1 hB (by omega) (by decide) (by decide) (fun hy => ?_) (fun hn => ?_)
  · rw [v16] at hy
    rw [show k_wk (k_wv (σ.2.2.2.1 5) t p) = 272 by rw [hy]; decide] at hQ
    exact hQ
  rw [v16] at hn
  have hn16 := hn
  intro x16
  dsimp only [Nat.reduceAdd, Int.reduceAdd]
  have v17 := k_mt_v (B := σ.2.2.2.1 5) (s := 86) (m := 3) hp (by omega) (by decide) (by decide)
  rw [show k_vv k_W 86 3 = 0x616e64 by decide] at v17
  refine c_wk_w (s := 86) (m := 3) (by omega) hck ht hl1 hB (by omega) (by decide) (by decide) (fun hy => ?_) (fun hn => ?_)
  · rw [v17] at hy
    rw [show k_wk (k_wv (σ.2.2.2.1 5) t p) = 273 by rw [hy]; decide] at hQ
    exact hQ
  rw [v17] at hn
  have hn17 := hn
  intro x17
  dsimp only [Nat.reduceAdd, Int.reduceAdd]
  have v18 := k_mt_v (B := σ.2.2.2.1 5) (s := 90) (m := 3) hp (by omega) (by decide) (by decide)
  rw [show k_vv k_W 90 3 = 0x6e6f74 by decide] at v18
  refine c_wk_w (s := 90) (m := 3) (by omega) hck ht hl1 hB (by omega) (by decide) (by decide) (fun hy => ?_) (fun hn => ?_)
  · rw [v18] at hy
    rw [show k_wk (k_wv (σ.2.2.2.1 5) t p) = 274 by rw [hy]; decide] at hQ
    exact hQ
  rw [v18] at hn
  have hn18 := hn
  intro x18
  dsimp only [Nat.reduceAdd, Int.reduceAdd]
  have e9 : k_wk (k_wv (σ.2.2.2.1 5) t p) = 275 := by
    unfold k_wk
    rw [if_neg hn0, if_neg hn1, if_neg hn2, if_neg hn3, if_neg hn4, if_neg hn5, if_neg hn6, if_neg hn7, if_neg hn8, if_neg hn9, if_neg hn10, if_neg hn11, if_neg hn12, if_neg hn13, if_neg hn14, if_neg hn15, if_neg hn16, if_neg hn17, if_neg hn18]
  rw [e9] at hQ
  refine gp_of (by rfl) ?_
  simp (disch := omega) only [e_wi, e_isr, e_isc, e_stp, e_rt, e_load, e_bin, e_binL, e_ld, e_s1, e_s2, e_n0, e_ok, e_cmp, e_ex, e_gif, e_id32, e_id64, e_v0, e_v1, e_v2, e_v3, e_dt, e_c1, e_sw, e_inv, e_cat, e_rcv, Fin.val_zero, Fin.val_one, Int.toNat_add, Int.toNat_mul, Int.toNat_natCast, Int.reduceToNat, Int.reduceMul, Int.reduceAdd, Int.reduceNeg, Nat.reduceAdd, Nat.reduceSub, Nat.reduceEqDiff, Nat.reduceLT, Nat.reduceLeDiff, List.getElem?_cons_zero, List.getElem?_cons_succ, List.length_cons, List.length_nil, List.take_succ_cons, List.take_zero, List.drop_succ_cons, List.drop_zero, List.reverse_cons, List.reverse_nil, List.nil_append, List.cons_append, List.append_nil, List.map_cons, List.map_nil, List.sum_cons, List.sum_nil, Bool.false_eq_true, if_false, if_true, Bool.and_true, Bool.true_and, Bool.and_self, Bool.or_true, Bool.true_or, Bool.or_false, Bool.false_or, Bool.or_self, decide_eq_true_eq, decide_true, decide_false, beq_self_eq_true, Option.map_some, reduceCtorEq, true_or, or_true, or_false, false_or, or_self, true_and, and_true, and_self, false_and, and_false, Option.some.injEq, exists_eq_left', ne_eq, not_true_eq_false, not_false_eq_true, eq_self, e_pk, e_pr, e_pn, e_ps, e_pd1, e_pd2, e_us, e_un, e_ifp, e_ifn, e_sk, e_sr, e_sn, e_ss, e_sd1, e_sd2, e_sp, ck4 hck, ck5 hck, ck6 hck, ck7 hck, ck8 hck, cr4_2 hck, cr4_3 hck, cr4_4 hck, cr4_5 hck, ht.1]
  repeat' first
    | (refine gp_at [] (by rfl) (by decide) ?_; simp (disch := omega) only [e_wi, e_isr, e_isc, e_stp, e_rt, e_load, e_bin, e_binL, e_ld, e_s1, e_s2, e_n0, e_ok, e_cmp, e_ex, e_gif, e_id32, e_id64, e_v0, e_v1, e_v2, e_v3, e_dt, e_c1, e_sw, e_inv, e_cat, e_rcv, Fin.val_zero, Fin.val_one, Int.toNat_add, Int.toNat_mul, Int.toNat_natCast, Int.reduceToNat, Int.reduceMul, Int.reduceAdd, Int.reduceNeg, Nat.reduceAdd, Nat.reduceSub, Nat.reduceEqDiff, Nat.reduceLT, Nat.reduceLeDiff, List.getElem?_cons_zero, List.getElem?_cons_succ, List.length_cons, List.length_nil, List.take_succ_cons, List.take_zero, List.drop_succ_cons, List.drop_zero, List.reverse_cons, List.reverse_nil, List.nil_append, List.cons_append, List.append_nil, List.map_cons, List.map_nil, List.sum_cons, List.sum_nil, Bool.false_eq_true, if_false, if_true, Bool.and_true, Bool.true_and, Bool.and_self, Bool.or_true, Bool.true_or, Bool.or_false, Bool.false_or, Bool.or_self, decide_eq_true_eq, decide_true, decide_false, beq_self_eq_true, Option.map_some, reduceCtorEq, true_or, or_true, or_false, false_or, or_self, true_and, and_true, and_self, false_and, and_false, Option.some.injEq, exists_eq_left', ne_eq, not_true_eq_false, not_false_eq_true, eq_self, e_pk, e_pr, e_pn, e_ps, e_pd1, e_pd2, e_us, e_un, e_ifp, e_ifn, e_sk, e_sr, e_sn, e_ss, e_sd1, e_sd2, e_sp, ck4 hck, ck5 hck, ck6 hck, ck7 hck, ck8 hck, cr4_2 hck, cr4_3 hck, cr4_4 hck, cr4_5 hck, ht.1])
    | (refine And.intro (fun hc => ?_) (fun hc => ?_) <;> try (exfalso; omega))
    | ((refine c_slen (by omega) ht ?_); dsimp only [Option.toList, List.cons_append, List.nil_append, Nat.reduceAdd])
    | ((refine c_charAt (by omega) ht (by omega) ?_); dsimp only [Option.toList, List.cons_append, List.nil_append, Nat.reduceAdd])
  all_goals first | exact hQ | (exfalso; omega) | skip
