theorem z_nk (σ : eH) (kd len : Nat) : (e_new σ kd len).2.2.1 = va_up σ.2.2.1 σ.1 (kd, len) := rfl
theorem z_nd (σ : eH) (kd len : Nat) : (e_new σ kd len).2.2.2.1 = va_up σ.2.2.2.1 σ.1 (fun _ => 0) := rfl
theorem z_nr (σ : eH) (kd len : Nat) : (e_new σ kd len).2.2.2.2 = va_up σ.2.2.2.2 σ.1 (fun _ => 0) := rfl
theorem z_nn (σ : eH) (kd len : Nat) : (e_new σ kd len).1 = σ.1 + 1 := rfl
theorem z_ns (σ : eH) (kd len : Nat) : (e_new σ kd len).2.1 = σ.2.1 + len := rfl
theorem z_qr (σ : eH) (a i r : Nat) : (e_puR σ a i r).2.2.2.2 = va_up σ.2.2.2.2 a (va_up (σ.2.2.2.2 a) i r) := rfl
theorem z_pd (σ : eH) (a i : Nat) (x : Int) : (e_put σ a i x).2.2.2.1 = va_up σ.2.2.2.1 a (va_up (σ.2.2.2.1 a) i x) := rfl
theorem z_mn (σ : eH) (N K : Nat) : (e_mna σ N K).1 = σ.1 + 1 + N := rfl
theorem z_ms (σ : eH) (N K : Nat) : (e_mna σ N K).2.1 = σ.2.1 + N + N * K := rfl
theorem z_mk0 {σ : eH} {N K a : Nat} (h : a < σ.1) : (e_mna σ N K).2.2.1 a = σ.2.2.1 a := by
  show (if a = σ.1 then (27, N) else if σ.1 < a ∧ a < σ.1 + 1 + N then (20, K) else σ.2.2.1 a) = _
  rw [if_neg (by omega), if_neg (by omega)]
theorem z_mk1 {σ : eH} {N K a : Nat} (h : a = σ.1) : (e_mna σ N K).2.2.1 a = (27, N) := by
  show (if a = σ.1 then (27, N) else if σ.1 < a ∧ a < σ.1 + 1 + N then (20, K) else σ.2.2.1 a) = _
  rw [if_pos h]
theorem z_mk2 {σ : eH} {N K a : Nat} (h : σ.1 < a) (h2 : a < σ.1 + 1 + N) : (e_mna σ N K).2.2.1 a = (20, K) := by
  show (if a = σ.1 then (27, N) else if σ.1 < a ∧ a < σ.1 + 1 + N then (20, K) else σ.2.2.1 a) = _
  rw [if_neg (by omega), if_pos ⟨h, h2⟩]
theorem z_md0 {σ : eH} {N K a : Nat} (h : a < σ.1) : (e_mna σ N K).2.2.2.1 a = σ.2.2.2.1 a := by
  show (if σ.1 ≤ a ∧ a < σ.1 + 1 + N then (fun _ => 0) else σ.2.2.2.1 a) = _
  rw [if_neg (by omega)]
theorem z_md1 {σ : eH} {N K a : Nat} (h : σ.1 ≤ a) (h2 : a < σ.1 + 1 + N) : (e_mna σ N K).2.2.2.1 a = fun _ => 0 := by
  show (if σ.1 ≤ a ∧ a < σ.1 + 1 + N then (fun _ => 0) else σ.2.2.2.1 a) = _
  rw [if_pos ⟨h, h2⟩]
theorem z_mr0 {σ : eH} {N K a : Nat} (h : a ≠ σ.1) : (e_mna σ N K).2.2.2.2 a = σ.2.2.2.2 a := e_un _ h
theorem z_mr1 {σ : eH} {N K a i : Nat} (h : a = σ.1) (hi : i < N) : (e_mna σ N K).2.2.2.2 a i = σ.1 + 1 + i + 2 := by
  subst h
  show va_up σ.2.2.2.2 σ.1 (fun i => if i < N then σ.1 + 1 + i + 2 else 0) σ.1 i = _
  rw [e_us, if_pos hi]
/-- below a nothing has changed -/
def Bl (a : Nat) (σ τ : eH) : Prop := ∀ c, c < a → τ.2.2.1 c = σ.2.2.1 c ∧ τ.2.2.2.1 c = σ.2.2.2.1 c ∧ τ.2.2.2.2 c = σ.2.2.2.2 c
theorem Bl.rf (a : Nat) (σ : eH) : Bl a σ σ := fun _ _ => ⟨rfl, rfl, rfl⟩
theorem Bl.tr {a b : Nat} {σ τ ρ : eH} (h : Bl a σ τ) (g : Bl b τ ρ) (hab : a ≤ b) : Bl a σ ρ := fun c hc => by
  have h1 := h c hc
  have h2 := g c (by omega)
  exact ⟨h2.1.trans h1.1, h2.2.1.trans h1.2.1, h2.2.2.trans h1.2.2⟩
theorem Bl.mn {a b : Nat} {σ τ : eH} (h : Bl b σ τ) (hab : a ≤ b) : Bl a σ τ := fun c hc => h c (by omega)
theorem Bl.new {a : Nat} {σ τ : eH} {kd len : Nat} (h : Bl a σ τ) (ha : a ≤ τ.1) : Bl a σ (e_new τ kd len) := fun c hc => by
  have h1 := h c hc
  rw [z_nk, z_nd, z_nr, e_un _ (by omega), e_un _ (by omega), e_un _ (by omega)]
  exact h1
theorem Bl.mna {a : Nat} {σ τ : eH} {N K : Nat} (h : Bl a σ τ) (ha : a ≤ τ.1) : Bl a σ (e_mna τ N K) := fun c hc => by
  have h1 := h c hc
  rw [z_mk0 (by omega), z_md0 (by omega), z_mr0 (by omega)]
  exact h1
theorem Bl.puR {a : Nat} {σ τ : eH} {b i r : Nat} (h : Bl a σ τ) (hb : a ≤ b) : Bl a σ (e_puR τ b i r) := fun c hc => by
  have h1 := h c hc
  rw [e_qk, e_qd, e_qr2 _ (by omega)]
  exact h1
theorem Bl.put {a : Nat} {σ τ : eH} {b i : Nat} {x : Int} (h : Bl a σ τ) (hb : a ≤ b) : Bl a σ (e_put τ b i x) := fun c hc => by
  have h1 := h c hc
  rw [e_pk, e_pr, e_pd2 _ (by omega)]
  exact h1
/-- a new cell, kept in a field -/
def za (τ : eH) (a i kd len : Nat) : eH := e_puR (e_new τ kd len) a i (τ.1 + 2)
theorem za_n (τ : eH) (a i kd len : Nat) : (za τ a i kd len).1 = τ.1 + 1 := rfl
theorem za_s (τ : eH) (a i kd len : Nat) : (za τ a i kd len).2.1 = τ.2.1 + len := rfl
theorem za_k1 (τ : eH) (a i kd len : Nat) : (za τ a i kd len).2.2.1 τ.1 = (kd, len) := e_us _ _ _
theorem za_k0 {τ : eH} {a i kd len c : Nat} (h : c ≠ τ.1) : (za τ a i kd len).2.2.1 c = τ.2.2.1 c := e_un _ h
theorem za_d1 (τ : eH) (a i kd len : Nat) : (za τ a i kd len).2.2.2.1 τ.1 = fun _ => 0 := e_us _ _ _
theorem za_d0 {τ : eH} {a i kd len c : Nat} (h : c ≠ τ.1) : (za τ a i kd len).2.2.2.1 c = τ.2.2.2.1 c := e_un _ h
theorem za_r1 {τ : eH} {a i kd len : Nat} : (za τ a i kd len).2.2.2.2 a i = τ.1 + 2 := by
  unfold za
  rw [e_qr1, e_us]
theorem za_r0 {τ : eH} {a i kd len j : Nat} (h : j ≠ i) (ha : a ≠ τ.1) : (za τ a i kd len).2.2.2.2 a j = τ.2.2.2.2 a j := by
  unfold za
  rw [e_qr1, e_un _ h, z_nr, e_un _ ha]
theorem za_r2 {τ : eH} {a i kd len c : Nat} (h : c ≠ a) (hc : c ≠ τ.1) : (za τ a i kd len).2.2.2.2 c = τ.2.2.2.2 c := by
  unfold za
  rw [e_qr2 _ h, z_nr, e_un _ hc]
theorem za_bl {σ τ : eH} {a b i kd len : Nat} (h : Bl b σ τ) (h1 : b ≤ τ.1) (h2 : b ≤ a) : Bl b σ (za τ a i kd len) := (h.new h1).puR h2
set_option maxRecDepth 8000 in
set_option maxHeartbeats 4000000 in
theorem c_State_init {k : Nat} {a : Nat} {σ : eH} {Q : Option eV → eH → Prop} (hk : 1 ≤ k)  (h1 : σ.1 = a + 1) (hka : σ.2.2.1 a = (8, 5)) (hQ : ∀ τ, τ.1 = a + 13 → τ.2.1 = σ.2.1 + 60 → Bl a σ τ → StK τ a → (∀ c, a < c → c < a + 13 → τ.2.2.2.1 c = fun _ => 0) → τ.2.2.2.1 a 4 = 0 → Q none τ) : e_Wp k 4 [.inr (.inr (a + 2))] σ Q := by
  refine wp_in (nL := 1) (cd := e_k4) (by omega) (by rfl) (Nat.le_of_ble_eq_true rfl) ?_
  dsimp only [e_ent, Nat.reduceSub, List.replicate]
  have n0 := h1
  have s0 : σ.2.1 = σ.2.1 + 0 := rfl
  have b0 : Bl a σ σ := Bl.rf _ _
  have q0 : σ.2.2.1 a = (8, 5) := hka
  refine gp_of (by rfl) ?_
  simp (disch := omega) only [e_wi, e_isr, e_isc, e_stp, e_rt, e_load, e_bin, e_binL, e_ld, e_s1, e_s2, e_n0, e_ok, e_cmp, e_ex, e_gif, e_id32, e_id64, e_v0, e_v1, e_v2, e_v3, e_dt, e_c1, e_sw, e_inv, e_cat, e_rcv, Fin.val_zero, Fin.val_one, Int.toNat_add, Int.toNat_mul, Int.toNat_natCast, Int.reduceToNat, Int.reduceMul, Int.reduceAdd, Int.reduceNeg, Nat.reduceAdd, Nat.reduceSub, Nat.reduceEqDiff, Nat.reduceLT, Nat.reduceLeDiff, List.getElem?_cons_zero, List.getElem?_cons_succ, List.length_cons, List.length_nil, List.take_succ_cons, List.take_zero, List.drop_succ_cons, List.drop_zero, List.reverse_cons, List.reverse_nil, List.nil_append, List.cons_append, List.append_nil, List.map_cons, List.map_nil, List.sum_cons, List.sum_nil, Bool.false_eq_true, if_false, if_true, Bool.and_true, Bool.true_and, Bool.and_self, Bool.or_true, Bool.true_or, Bool.or_false, Bool.false_or, Bool.or_self, decide_eq_true_eq, decide_true, decide_false, beq_self_eq_true, Option.map_some, reduceCtorEq, true_or, or_true, or_false, false_or, or_self, true_and, and_true, and_self, false_and, and_false, Option.some.injEq, exists_eq_left', ne_eq, not_true_eq_false, not_false_eq_true, eq_self, e_pk, e_pr, e_pn, e_ps, e_pd1, e_pd2, e_us, e_un, e_ifp, e_ifn, e_sk, e_sr, e_sn, e_ss, e_sd1, e_sd2, e_sp, hka, h1, z_nk, z_nn, e_un, e_qk]
  repeat' first
    | (refine gp_at [12] (by rfl) (by decide) ?_; simp (disch := omega) only [e_wi, e_isr, e_isc, e_stp, e_rt, e_load, e_bin, e_binL, e_ld, e_s1, e_s2, e_n0, e_ok, e_cmp, e_ex, e_gif, e_id32, e_id64, e_v0, e_v1, e_v2, e_v3, e_dt, e_c1, e_sw, e_inv, e_cat, e_rcv, Fin.val_zero, Fin.val_one, Int.toNat_add, Int.toNat_mul, Int.toNat_natCast, Int.reduceToNat, Int.reduceMul, Int.reduceAdd, Int.reduceNeg, Nat.reduceAdd, Nat.reduceSub, Nat.reduceEqDiff, Nat.reduceLT, Nat.reduceLeDiff, List.getElem?_cons_zero, List.getElem?_cons_succ, List.length_cons, List.length_nil, List.take_succ_cons, List.take_zero, List.drop_succ_cons, List.drop_zero, List.reverse_cons, List.reverse_nil, List.nil_append, List.cons_append, List.append_nil, List.map_cons, List.map_nil, List.sum_cons, List.sum_nil, Bool.false_eq_true, if_false, if_true, Bool.and_true, Bool.true_and, Bool.and_self, Bool.or_true, Bool.true_or, Bool.or_false, Bool.false_or, Bool.or_self, decide_eq_true_eq, decide_true, decide_false, beq_self_eq_true, Option.map_some, reduceCtorEq, true_or, or_true, or_false, false_or, or_self, true_and, and_true, and_self, false_and, and_false, Option.some.injEq, exists_eq_left', ne_eq, not_true_eq_false, not_false_eq_true, eq_self, e_pk, e_pr, e_pn, e_ps, e_pd1, e_pd2, e_us, e_un, e_ifp, e_ifn, e_sk, e_sr, e_sn, e_ss, e_sd1, e_sd2, e_sp, hka, h1, z_nk, z_nn, e_un, e_qk])
    | (refine And.intro (fun hc => ?_) (fun hc => ?_) <;> try (exfalso; omega))
  rw [show e_puR (e_new σ 20 8) a 0 (a + 1 + 2) = za σ a 0 20 8 by unfold za; rw [n0]]
  obtain ⟨τ1, hτ1⟩ : ∃ τ, τ = za σ a 0 20 8 := ⟨_, rfl⟩
  rw [← hτ1]
  have n1 : τ1.1 = a + 2 := by rw [hτ1, za_n, n0]
  have s1 : τ1.2.1 = σ.2.1 + 8 := by rw [hτ1, za_s, s0]
  have b1 : Bl a σ τ1 := by rw [hτ1]; exact za_bl b0 (by omega) (by omega)
  have k1_1 : τ1.2.2.1 (a + 1) = (20, 8) := by rw [hτ1, show a + 1 = σ.1 by rw [n0]]; exact za_k1 _ _ _ _ _
  have d1_1 : τ1.2.2.2.1 (a + 1) = fun _ => 0 := by rw [hτ1, show a + 1 = σ.1 by rw [n0]]; exact za_d1 _ _ _ _ _
  have q1 : τ1.2.2.1 a = (8, 5) := by rw [hτ1, za_k0 (by omega)]; exact q0
  have r1_0 : τ1.2.2.2.2 a 0 = a + 1 + 2 := by rw [hτ1, za_r1, n0]
  refine gp_of (by rfl) ?_
  simp (disch := omega) only [e_wi, e_isr, e_isc, e_stp, e_rt, e_load, e_bin, e_binL, e_ld, e_s1, e_s2, e_n0, e_ok, e_cmp, e_ex, e_gif, e_id32, e_id64, e_v0, e_v1, e_v2, e_v3, e_dt, e_c1, e_sw, e_inv, e_cat, e_rcv, Fin.val_zero, Fin.val_one, Int.toNat_add, Int.toNat_mul, Int.toNat_natCast, Int.reduceToNat, Int.reduceMul, Int.reduceAdd, Int.reduceNeg, Nat.reduceAdd, Nat.reduceSub, Nat.reduceEqDiff, Nat.reduceLT, Nat.reduceLeDiff, List.getElem?_cons_zero, List.getElem?_cons_succ, List.length_cons, List.length_nil, List.take_succ_cons, List.take_zero, List.drop_succ_cons, List.drop_zero, List.reverse_cons, List.reverse_nil, List.nil_append, List.cons_append, List.append_nil, List.map_cons, List.map_nil, List.sum_cons, List.sum_nil, Bool.false_eq_true, if_false, if_true, Bool.and_true, Bool.true_and, Bool.and_self, Bool.or_true, Bool.true_or, Bool.or_false, Bool.false_or, Bool.or_self, decide_eq_true_eq, decide_true, decide_false, beq_self_eq_true, Option.map_some, reduceCtorEq, true_or, or_true, or_false, false_or, or_self, true_and, and_true, and_self, false_and, and_false, Option.some.injEq, exists_eq_left', ne_eq, not_true_eq_false, not_false_eq_true, eq_self, e_pk, e_pr, e_pn, e_ps, e_pd1, e_pd2, e_us, e_un, e_ifp, e_ifn, e_sk, e_sr, e_sn, e_ss, e_sd1, e_sd2, e_sp, q1, n1, z_nk, z_nn, e_un, e_qk]
  repeat' first
    | (refine gp_at [20] (by rfl) (by decide) ?_; simp (disch := omega) only [e_wi, e_isr, e_isc, e_stp, e_rt, e_load, e_bin, e_binL, e_ld, e_s1, e_s2, e_n0, e_ok, e_cmp, e_ex, e_gif, e_id32, e_id64, e_v0, e_v1, e_v2, e_v3, e_dt, e_c1, e_sw, e_inv, e_cat, e_rcv, Fin.val_zero, Fin.val_one, Int.toNat_add, Int.toNat_mul, Int.toNat_natCast, Int.reduceToNat, Int.reduceMul, Int.reduceAdd, Int.reduceNeg, Nat.reduceAdd, Nat.reduceSub, Nat.reduceEqDiff, Nat.reduceLT, Nat.reduceLeDiff, List.getElem?_cons_zero, List.getElem?_cons_succ, List.length_cons, List.length_nil, List.take_succ_cons, List.take_zero, List.drop_succ_cons, List.drop_zero, List.reverse_cons, List.reverse_nil, List.nil_append, List.cons_append, List.append_nil, List.map_cons, List.map_nil, List.sum_cons, List.sum_nil, Bool.false_eq_true, if_false, if_true, Bool.and_true, Bool.true_and, Bool.and_self, Bool.or_true, Bool.true_or, Bool.or_false, Bool.false_or, Bool.or_self, decide_eq_true_eq, decide_true, decide_false, beq_self_eq_true, Option.map_some, reduceCtorEq, true_or, or_true, or_false, false_or, or_self, true_and, and_true, and_self, false_and, and_false, Option.some.injEq, exists_eq_left', ne_eq, not_true_eq_false, not_false_eq_true, eq_self, e_pk, e_pr, e_pn, e_ps, e_pd1, e_pd2, e_us, e_un, e_ifp, e_ifn, e_sk, e_sr, e_sn, e_ss, e_sd1, e_sd2, e_sp, q1, n1, z_nk, z_nn, e_un, e_qk])
    | (refine And.intro (fun hc => ?_) (fun hc => ?_) <;> try (exfalso; omega))
  rw [show e_puR (e_new τ1 20 8) a 1 (a + 2 + 2) = za τ1 a 1 20 8 by unfold za; rw [n1]]
  obtain ⟨τ2, hτ2⟩ : ∃ τ, τ = za τ1 a 1 20 8 := ⟨_, rfl⟩
  rw [← hτ2]
  have n2 : τ2.1 = a + 3 := by rw [hτ2, za_n, n1]
  have s2 : τ2.2.1 = σ.2.1 + 16 := by rw [hτ2, za_s, s1]
  have b2 : Bl a σ τ2 := by rw [hτ2]; exact za_bl b1 (by omega) (by omega)
  have k2_2 : τ2.2.2.1 (a + 2) = (20, 8) := by rw [hτ2, show a + 2 = τ1.1 by rw [n1]]; exact za_k1 _ _ _ _ _
  have d2_2 : τ2.2.2.2.1 (a + 2) = fun _ => 0 := by rw [hτ2, show a + 2 = τ1.1 by rw [n1]]; exact za_d1 _ _ _ _ _
  have q2 : τ2.2.2.1 a = (8, 5) := by rw [hτ2, za_k0 (by omega)]; exact q1
  have k2_1 : τ2.2.2.1 (a + 1) = (20, 8) := by rw [hτ2, za_k0 (by omega)]; exact k1_1
  have d2_1 : τ2.2.2.2.1 (a + 1) = fun _ => 0 := by rw [hτ2, za_d0 (by omega)]; exact d1_1
  have r2_0 : τ2.2.2.2.2 a 0 = a + 1 + 2 := by rw [hτ2, za_r0 (by omega) (by omega)]; exact r1_0
  have r2_1 : τ2.2.2.2.2 a 1 = a + 2 + 2 := by rw [hτ2, za_r1, n1]
  refine gp_of (by rfl) ?_
  simp (disch := omega) only [e_wi, e_isr, e_isc, e_stp, e_rt, e_load, e_bin, e_binL, e_ld, e_s1, e_s2, e_n0, e_ok, e_cmp, e_ex, e_gif, e_id32, e_id64, e_v0, e_v1, e_v2, e_v3, e_dt, e_c1, e_sw, e_inv, e_cat, e_rcv, Fin.val_zero, Fin.val_one, Int.toNat_add, Int.toNat_mul, Int.toNat_natCast, Int.reduceToNat, Int.reduceMul, Int.reduceAdd, Int.reduceNeg, Nat.reduceAdd, Nat.reduceSub, Nat.reduceEqDiff, Nat.reduceLT, Nat.reduceLeDiff, List.getElem?_cons_zero, List.getElem?_cons_succ, List.length_cons, List.length_nil, List.take_succ_cons, List.take_zero, List.drop_succ_cons, List.drop_zero, List.reverse_cons, List.reverse_nil, List.nil_append, List.cons_append, List.append_nil, List.map_cons, List.map_nil, List.sum_cons, List.sum_nil, Bool.false_eq_true, if_false, if_true, Bool.and_true, Bool.true_and, Bool.and_self, Bool.or_true, Bool.true_or, Bool.or_false, Bool.false_or, Bool.or_self, decide_eq_true_eq, decide_true, decide_false, beq_self_eq_true, Option.map_some, reduceCtorEq, true_or, or_true, or_false, false_or, or_self, true_and, and_true, and_self, false_and, and_false, Option.some.injEq, exists_eq_left', ne_eq, not_true_eq_false, not_false_eq_true, eq_self, e_pk, e_pr, e_pn, e_ps, e_pd1, e_pd2, e_us, e_un, e_ifp, e_ifn, e_sk, e_sr, e_sn, e_ss, e_sd1, e_sd2, e_sp, q2, n2]
  repeat' first
    | (refine gp_at [28] (by rfl) (by decide) ?_; simp (disch := omega) only [e_wi, e_isr, e_isc, e_stp, e_rt, e_load, e_bin, e_binL, e_ld, e_s1, e_s2, e_n0, e_ok, e_cmp, e_ex, e_gif, e_id32, e_id64, e_v0, e_v1, e_v2, e_v3, e_dt, e_c1, e_sw, e_inv, e_cat, e_rcv, Fin.val_zero, Fin.val_one, Int.toNat_add, Int.toNat_mul, Int.toNat_natCast, Int.reduceToNat, Int.reduceMul, Int.reduceAdd, Int.reduceNeg, Nat.reduceAdd, Nat.reduceSub, Nat.reduceEqDiff, Nat.reduceLT, Nat.reduceLeDiff, List.getElem?_cons_zero, List.getElem?_cons_succ, List.length_cons, List.length_nil, List.take_succ_cons, List.take_zero, List.drop_succ_cons, List.drop_zero, List.reverse_cons, List.reverse_nil, List.nil_append, List.cons_append, List.append_nil, List.map_cons, List.map_nil, List.sum_cons, List.sum_nil, Bool.false_eq_true, if_false, if_true, Bool.and_true, Bool.true_and, Bool.and_self, Bool.or_true, Bool.true_or, Bool.or_false, Bool.false_or, Bool.or_self, decide_eq_true_eq, decide_true, decide_false, beq_self_eq_true, Option.map_some, reduceCtorEq, true_or, or_true, or_false, false_or, or_self, true_and, and_true, and_self, false_and, and_false, Option.some.injEq, exists_eq_left', ne_eq, not_true_eq_false, not_false_eq_true, eq_self, e_pk, e_pr, e_pn, e_ps, e_pd1, e_pd2, e_us, e_un, e_ifp, e_ifn, e_sk, e_sr, e_sn, e_ss, e_sd1, e_sd2, e_sp, q2, n2])
    | (refine And.intro (fun hc => ?_) (fun hc => ?_) <;> try (exfalso; omega))
  obtain ⟨τ3, hτ3⟩ : ∃ τ, τ = e_mna τ2 8 4 := ⟨_, rfl⟩
  rw [← hτ3]
  have n3 : τ3.1 = a + 12 := by rw [hτ3, z_mn, n2]
  have s3 : τ3.2.1 = σ.2.1 + 56 := by rw [hτ3, z_ms, s2]
  have b3 : Bl a σ τ3 := by rw [hτ3]; exact b2.mna (by omega)
  have q3 : τ3.2.2.1 a = (8, 5) := by rw [hτ3, z_mk0 (by omega)]; exact q2
  have k3_1 : τ3.2.2.1 (a + 1) = (20, 8) := by rw [hτ3, z_mk0 (by omega)]; exact k2_1
  have k3_2 : τ3.2.2.1 (a + 2) = (20, 8) := by rw [hτ3, z_mk0 (by omega)]; exact k2_2
  have k3_3 : τ3.2.2.1 (a + 3) = (27, 8) := by rw [hτ3, z_mk1 (by omega)]
  have k3_4 : ∀ s, s < 8 → τ3.2.2.1 (a + 4 + s) = (20, 4) := fun s hs => by rw [hτ3, z_mk2 (by omega) (by omega)]
  have d3 : ∀ c, a < c → c < a + 12 → τ3.2.2.2.1 c = fun _ => 0 := fun c h1 h2 => by
    rw [hτ3]
    by_cases e1 : c = a + 1
    · rw [z_md0 (by omega), e1]; exact d2_1
    · by_cases e2 : c = a + 2
      · rw [z_md0 (by omega), e2]; exact d2_2
      · exact z_md1 (by omega) (by omega)
  have r3_0 : τ3.2.2.2.2 a 0 = a + 1 + 2 := by rw [hτ3, z_mr0 (by omega)]; exact r2_0
  have r3_1 : τ3.2.2.2.2 a 1 = a + 2 + 2 := by rw [hτ3, z_mr0 (by omega)]; exact r2_1
  have r3_3 : ∀ s, s < 8 → τ3.2.2.2.2 (a + 3) s = a + 4 + s + 2 := fun s hs => by rw [hτ3, z_mr1 (by omega) hs, n2]
  refine gp_of (by rfl) ?_
  simp (disch := omega) only [e_wi, e_isr, e_isc, e_stp, e_rt, e_load, e_bin, e_binL, e_ld, e_s1, e_s2, e_n0, e_ok, e_cmp, e_ex, e_gif, e_id32, e_id64, e_v0, e_v1, e_v2, e_v3, e_dt, e_c1, e_sw, e_inv, e_cat, e_rcv, Fin.val_zero, Fin.val_one, Int.toNat_add, Int.toNat_mul, Int.toNat_natCast, Int.reduceToNat, Int.reduceMul, Int.reduceAdd, Int.reduceNeg, Nat.reduceAdd, Nat.reduceSub, Nat.reduceEqDiff, Nat.reduceLT, Nat.reduceLeDiff, List.getElem?_cons_zero, List.getElem?_cons_succ, List.length_cons, List.length_nil, List.take_succ_cons, List.take_zero, List.drop_succ_cons, List.drop_zero, List.reverse_cons, List.reverse_nil, List.nil_append, List.cons_append, List.append_nil, List.map_cons, List.map_nil, List.sum_cons, List.sum_nil, Bool.false_eq_true, if_false, if_true, Bool.and_true, Bool.true_and, Bool.and_self, Bool.or_true, Bool.true_or, Bool.or_false, Bool.false_or, Bool.or_self, decide_eq_true_eq, decide_true, decide_false, beq_self_eq_true, Option.map_some, reduceCtorEq, true_or, or_true, or_false, false_or, or_self, true_and, and_true, and_self, false_and, and_false, Option.some.injEq, exists_eq_left', ne_eq, not_true_eq_false, not_false_eq_true, eq_self, e_pk, e_pr, e_pn, e_ps, e_pd1, e_pd2, e_us, e_un, e_ifp, e_ifn, e_sk, e_sr, e_sn, e_ss, e_sd1, e_sd2, e_sp, q3]
  repeat' first
    | (refine gp_at [31] (by rfl) (by decide) ?_; simp (disch := omega) only [e_wi, e_isr, e_isc, e_stp, e_rt, e_load, e_bin, e_binL, e_ld, e_s1, e_s2, e_n0, e_ok, e_cmp, e_ex, e_gif, e_id32, e_id64, e_v0, e_v1, e_v2, e_v3, e_dt, e_c1, e_sw, e_inv, e_cat, e_rcv, Fin.val_zero, Fin.val_one, Int.toNat_add, Int.toNat_mul, Int.toNat_natCast, Int.reduceToNat, Int.reduceMul, Int.reduceAdd, Int.reduceNeg, Nat.reduceAdd, Nat.reduceSub, Nat.reduceEqDiff, Nat.reduceLT, Nat.reduceLeDiff, List.getElem?_cons_zero, List.getElem?_cons_succ, List.length_cons, List.length_nil, List.take_succ_cons, List.take_zero, List.drop_succ_cons, List.drop_zero, List.reverse_cons, List.reverse_nil, List.nil_append, List.cons_append, List.append_nil, List.map_cons, List.map_nil, List.sum_cons, List.sum_nil, Bool.false_eq_true, if_false, if_true, Bool.and_true, Bool.true_and, Bool.and_self, Bool.or_true, Bool.true_or, Bool.or_false, Bool.false_or, Bool.or_self, decide_eq_true_eq, decide_true, decide_false, beq_self_eq_true, Option.map_some, reduceCtorEq, true_or, or_true, or_false, false_or, or_self, true_and, and_true, and_self, false_and, and_false, Option.some.injEq, exists_eq_left', ne_eq, not_true_eq_false, not_false_eq_true, eq_self, e_pk, e_pr, e_pn, e_ps, e_pd1, e_pd2, e_us, e_un, e_ifp, e_ifn, e_sk, e_sr, e_sn, e_ss, e_sd1, e_sd2, e_sp, q3])
    | (refine And.intro (fun hc => ?_) (fun hc => ?_) <;> try (exfalso; omega))
  obtain ⟨τ4, hτ4⟩ : ∃ τ, τ = e_puR τ3 a 2 (a + 3 + 2) := ⟨_, rfl⟩
  rw [← hτ4]
  have n4 : τ4.1 = a + 12 := by rw [hτ4, e_qn, n3]
  have s4 : τ4.2.1 = σ.2.1 + 56 := by rw [hτ4, e_qs, s3]
  have b4 : Bl a σ τ4 := by rw [hτ4]; exact b3.puR (by omega)
  have e4k : τ4.2.2.1 = τ3.2.2.1 := by rw [hτ4, e_qk]
  have e4d : τ4.2.2.2.1 = τ3.2.2.2.1 := by rw [hτ4, e_qd]
  have q4 : τ4.2.2.1 a = (8, 5) := by rw [e4k]; exact q3
  have r4_0 : τ4.2.2.2.2 a 0 = a + 1 + 2 := by rw [hτ4, e_qr1, e_un _ (by omega)]; exact r3_0
  have r4_1 : τ4.2.2.2.2 a 1 = a + 2 + 2 := by rw [hτ4, e_qr1, e_un _ (by omega)]; exact r3_1
  have r4_2 : τ4.2.2.2.2 a 2 = a + 3 + 2 := by rw [hτ4, e_qr1, e_us]
  have r4_3 : ∀ s, s < 8 → τ4.2.2.2.2 (a + 3) s = a + 4 + s + 2 := fun s hs => by rw [hτ4, e_qr2 _ (by omega)]; exact r3_3 s hs
  refine gp_of (by rfl) ?_
  simp (disch := omega) only [e_wi, e_isr, e_isc, e_stp, e_rt, e_load, e_bin, e_binL, e_ld, e_s1, e_s2, e_n0, e_ok, e_cmp, e_ex, e_gif, e_id32, e_id64, e_v0, e_v1, e_v2, e_v3, e_dt, e_c1, e_sw, e_inv, e_cat, e_rcv, Fin.val_zero, Fin.val_one, Int.toNat_add, Int.toNat_mul, Int.toNat_natCast, Int.reduceToNat, Int.reduceMul, Int.reduceAdd, Int.reduceNeg, Nat.reduceAdd, Nat.reduceSub, Nat.reduceEqDiff, Nat.reduceLT, Nat.reduceLeDiff, List.getElem?_cons_zero, List.getElem?_cons_succ, List.length_cons, List.length_nil, List.take_succ_cons, List.take_zero, List.drop_succ_cons, List.drop_zero, List.reverse_cons, List.reverse_nil, List.nil_append, List.cons_append, List.append_nil, List.map_cons, List.map_nil, List.sum_cons, List.sum_nil, Bool.false_eq_true, if_false, if_true, Bool.and_true, Bool.true_and, Bool.and_self, Bool.or_true, Bool.true_or, Bool.or_false, Bool.false_or, Bool.or_self, decide_eq_true_eq, decide_true, decide_false, beq_self_eq_true, Option.map_some, reduceCtorEq, true_or, or_true, or_false, false_or, or_self, true_and, and_true, and_self, false_and, and_false, Option.some.injEq, exists_eq_left', ne_eq, not_true_eq_false, not_false_eq_true, eq_self, e_pk, e_pr, e_pn, e_ps, e_pd1, e_pd2, e_us, e_un, e_ifp, e_ifn, e_sk, e_sr, e_sn, e_ss, e_sd1, e_sd2, e_sp, q4, n4, z_nk, z_nn, e_un, e_qk]
  repeat' first
    | (refine gp_at [38] (by rfl) (by decide) ?_; simp (disch := omega) only [e_wi, e_isr, e_isc, e_stp, e_rt, e_load, e_bin, e_binL, e_ld, e_s1, e_s2, e_n0, e_ok, e_cmp, e_ex, e_gif, e_id32, e_id64, e_v0, e_v1, e_v2, e_v3, e_dt, e_c1, e_sw, e_inv, e_cat, e_rcv, Fin.val_zero, Fin.val_one, Int.toNat_add, Int.toNat_mul, Int.toNat_natCast, Int.reduceToNat, Int.reduceMul, Int.reduceAdd, Int.reduceNeg, Nat.reduceAdd, Nat.reduceSub, Nat.reduceEqDiff, Nat.reduceLT, Nat.reduceLeDiff, List.getElem?_cons_zero, List.getElem?_cons_succ, List.length_cons, List.length_nil, List.take_succ_cons, List.take_zero, List.drop_succ_cons, List.drop_zero, List.reverse_cons, List.reverse_nil, List.nil_append, List.cons_append, List.append_nil, List.map_cons, List.map_nil, List.sum_cons, List.sum_nil, Bool.false_eq_true, if_false, if_true, Bool.and_true, Bool.true_and, Bool.and_self, Bool.or_true, Bool.true_or, Bool.or_false, Bool.false_or, Bool.or_self, decide_eq_true_eq, decide_true, decide_false, beq_self_eq_true, Option.map_some, reduceCtorEq, true_or, or_true, or_false, false_or, or_self, true_and, and_true, and_self, false_and, and_false, Option.some.injEq, exists_eq_left', ne_eq, not_true_eq_false, not_false_eq_true, eq_self, e_pk, e_pr, e_pn, e_ps, e_pd1, e_pd2, e_us, e_un, e_ifp, e_ifn, e_sk, e_sr, e_sn, e_ss, e_sd1, e_sd2, e_sp, q4, n4, z_nk, z_nn, e_un, e_qk])
    | (refine And.intro (fun hc => ?_) (fun hc => ?_) <;> try (exfalso; omega))
  rw [show e_puR (e_new τ4 20 4) a 3 (a + 12 + 2) = za τ4 a 3 20 4 by unfold za; rw [n4]]
  obtain ⟨τ5, hτ5⟩ : ∃ τ, τ = za τ4 a 3 20 4 := ⟨_, rfl⟩
  rw [← hτ5]
  have n5 : τ5.1 = a + 13 := by rw [hτ5, za_n, n4]
  have s5 : τ5.2.1 = σ.2.1 + 60 := by rw [hτ5, za_s, s4]
  have b5 : Bl a σ τ5 := by rw [hτ5]; exact za_bl b4 (by omega) (by omega)
  have k5_12 : τ5.2.2.1 (a + 12) = (20, 4) := by rw [hτ5, show a + 12 = τ4.1 by rw [n4]]; exact za_k1 _ _ _ _ _
  have d5_12 : τ5.2.2.2.1 (a + 12) = fun _ => 0 := by rw [hτ5, show a + 12 = τ4.1 by rw [n4]]; exact za_d1 _ _ _ _ _
  have q5 : τ5.2.2.1 a = (8, 5) := by rw [hτ5, za_k0 (by omega)]; exact q4
  have k5 : ∀ c, c < a + 12 → τ5.2.2.1 c = τ3.2.2.1 c := fun c hc => by rw [hτ5, za_k0 (by omega), e4k]
  have d5 : ∀ c, a < c → c < a + 13 → τ5.2.2.2.1 c = fun _ => 0 := fun c h1 h2 => by
    by_cases e : c = a + 12
    · rw [e]; exact d5_12
    · rw [hτ5, za_d0 (by omega), e4d]
      exact d3 c h1 (by omega)
  have hst : StK τ5 a := by
    refine ⟨q5, ?_, ?_, ?_, k5_12, fun s hs => ?_, ?_, ?_, ?_, ?_, fun s hs => ?_⟩
    · rw [k5 _ (by omega)]; exact k3_1
    · rw [k5 _ (by omega)]; exact k3_2
    · rw [k5 _ (by omega)]; exact k3_3
    · rw [k5 _ (by omega)]; exact k3_4 s hs
    · rw [hτ5, za_r0 (by omega) (by omega)]; exact r4_0
    · rw [hτ5, za_r0 (by omega) (by omega)]; exact r4_1
    · rw [hτ5, za_r0 (by omega) (by omega)]; exact r4_2
    · rw [hτ5, za_r1, n4]
    · rw [hτ5, za_r2 (by omega) (by omega)]; exact r4_3 s hs
  refine gp_of (by rfl) ?_
  simp (disch := omega) only [e_wi, e_isr, e_isc, e_stp, e_rt, e_load, e_bin, e_binL, e_ld, e_s1, e_s2, e_n0, e_ok, e_cmp, e_ex, e_gif, e_id32, e_id64, e_v0, e_v1, e_v2, e_v3, e_dt, e_c1, e_sw, e_inv, e_cat, e_rcv, Fin.val_zero, Fin.val_one, Int.toNat_add, Int.toNat_mul, Int.toNat_natCast, Int.reduceToNat, Int.reduceMul, Int.reduceAdd, Int.reduceNeg, Nat.reduceAdd, Nat.reduceSub, Nat.reduceEqDiff, Nat.reduceLT, Nat.reduceLeDiff, List.getElem?_cons_zero, List.getElem?_cons_succ, List.length_cons, List.length_nil, List.take_succ_cons, List.take_zero, List.drop_succ_cons, List.drop_zero, List.reverse_cons, List.reverse_nil, List.nil_append, List.cons_append, List.append_nil, List.map_cons, List.map_nil, List.sum_cons, List.sum_nil, Bool.false_eq_true, if_false, if_true, Bool.and_true, Bool.true_and, Bool.and_self, Bool.or_true, Bool.true_or, Bool.or_false, Bool.false_or, Bool.or_self, decide_eq_true_eq, decide_true, decide_false, beq_self_eq_true, Option.map_some, reduceCtorEq, true_or, or_true, or_false, false_or, or_self, true_and, and_true, and_self, false_and, and_false, Option.some.injEq, exists_eq_left', ne_eq, not_true_eq_false, not_false_eq_true, eq_self, e_pk, e_pr, e_pn, e_ps, e_pd1, e_pd2, e_us, e_un, e_ifp, e_ifn, e_sk, e_sr, e_sn, e_ss, e_sd1, e_sd2, e_sp, q5]
  repeat' first
    | (refine gp_at [] (by rfl) (by decide) ?_; simp (disch := omega) only [e_wi, e_isr, e_isc, e_stp, e_rt, e_load, e_bin, e_binL, e_ld, e_s1, e_s2, e_n0, e_ok, e_cmp, e_ex, e_gif, e_id32, e_id64, e_v0, e_v1, e_v2, e_v3, e_dt, e_c1, e_sw, e_inv, e_cat, e_rcv, Fin.val_zero, Fin.val_one, Int.toNat_add, Int.toNat_mul, Int.toNat_natCast, Int.reduceToNat, Int.reduceMul, Int.reduceAdd, Int.reduceNeg, Nat.reduceAdd, Nat.reduceSub, Nat.reduceEqDiff, Nat.reduceLT, Nat.reduceLeDiff, List.getElem?_cons_zero, List.getElem?_cons_succ, List.length_cons, List.length_nil, List.take_succ_cons, List.take_zero, List.drop_succ_cons, List.drop_zero, List.reverse_cons, List.reverse_nil, List.nil_append, List.cons_append, List.append_nil, List.map_cons, List.map_nil, List.sum_cons, List.sum_nil, Bool.false_eq_true, if_false, if_true, Bool.and_true, Bool.true_and, Bool.and_self, Bool.or_true, Bool.true_or, Bool.or_false, Bool.false_or, Bool.or_self, decide_eq_true_eq, decide_true, decide_false, beq_self_eq_true, Option.map_some, reduceCtorEq, true_or, or_true, or_false, false_or, or_self, true_and, and_true, and_self, false_and, and_false, Option.some.injEq, exists_eq_left', ne_eq, not_true_eq_false, not_false_eq_true, eq_self, e_pk, e_pr, e_pn, e_ps, e_pd1, e_pd2, e_us, e_un, e_ifp, e_ifn, e_sk, e_sr, e_sn, e_ss, e_sd1, e_sd2, e_sp, q5])
    | (refine And.intro (fun hc => ?_) (fun hc => ?_) <;> try (exfalso; omega))
  refine hQ _ (by rw [e_pn, n5]) (by rw [e_ps, s5]) (b5.put (Nat.le_refl _)) ?_ (fun c g1 g2 => ?_) ?_
  · have hs9 : Sn (fun c => c = a) τ5 (e_put τ5 a 4 0) := Sn.put (L := fun c => c = a) (Sn.rf _ _) rfl
    exact hs9.stk hst
  · rw [e_pd2 _ (Nat.ne_of_gt g1)]
    exact d5 c g1 g2
  · rw [e_pd1, e_us]
