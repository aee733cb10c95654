theorem e_nk (σ : eH) (kd len : Nat) : (e_new σ kd len).2.2.1 = va_up σ.2.2.1 σ.1 (kd, len) := rfl
theorem e_nd (σ : eH) (kd len : Nat) : (e_new σ kd len).2.2.2.1 = va_up σ.2.2.2.1 σ.1 (fun _ => 0) := rfl
theorem e_nr (σ : eH) (kd len : Nat) : (e_new σ kd len).2.2.2.2 = va_up σ.2.2.2.2 σ.1 (fun _ => 0) := rfl
theorem e_nn (σ : eH) (kd len : Nat) : (e_new σ kd len).1 = σ.1 + 1 := rfl
theorem e_ns (σ : eH) (kd len : Nat) : (e_new σ kd len).2.1 = σ.2.1 + len := rfl
theorem e_qr (σ : eH) (a i r : Nat) : (e_puR σ a i r).2.2.2.2 = va_up σ.2.2.2.2 a (va_up (σ.2.2.2.2 a) i r) := rfl
theorem e_pd (σ : eH) (a i : Nat) (x : Int) : (e_put σ a i x).2.2.2.1 = va_up σ.2.2.2.1 a (va_up (σ.2.2.2.1 a) i x) := rfl
theorem e_mn (σ : eH) (N K : Nat) : (e_mna σ N K).1 = σ.1 + 1 + N := rfl
theorem e_ms (σ : eH) (N K : Nat) : (e_mna σ N K).2.1 = σ.2.1 + N + N * K := rfl
theorem e_mk0 {σ : eH} {N K a : Nat} (h : a < σ.1) : (e_mna σ N K).2.2.1 a = σ.2.2.1 a := by
  show (if a = σ.1 then (27, N) else if σ.1 < a ∧ a < σ.1 + 1 + N then (20, K) else σ.2.2.1 a) = _
  rw [if_neg (by omega), if_neg (by omega)]
theorem e_mk1 {σ : eH} {N K a : Nat} (h : a = σ.1) : (e_mna σ N K).2.2.1 a = (27, N) := by
  show (if a = σ.1 then (27, N) else if σ.1 < a ∧ a < σ.1 + 1 + N then (20, K) else σ.2.2.1 a) = _
  rw [if_pos h]
theorem e_mk2 {σ : eH} {N K a : Nat} (h : σ.1 < a) (h2 : a < σ.1 + 1 + N) : (e_mna σ N K).2.2.1 a = (20, K) := by
  show (if a = σ.1 then (27, N) else if σ.1 < a ∧ a < σ.1 + 1 + N then (20, K) else σ.2.2.1 a) = _
  rw [if_neg (by omega), if_pos ⟨h, h2⟩]
theorem e_md0 {σ : eH} {N K a : Nat} (h : a < σ.1) : (e_mna σ N K).2.2.2.1 a = σ.2.2.2.1 a := by
  show (if σ.1 ≤ a ∧ a < σ.1 + 1 + N then (fun _ => 0) else σ.2.2.2.1 a) = _
  rw [if_neg (by omega)]
theorem e_md1 {σ : eH} {N K a : Nat} (h : σ.1 ≤ a) (h2 : a < σ.1 + 1 + N) : (e_mna σ N K).2.2.2.1 a = fun _ => 0 := by
  show (if σ.1 ≤ a ∧ a < σ.1 + 1 + N then (fun _ => 0) else σ.2.2.2.1 a) = _
  rw [if_pos ⟨h, h2⟩]
theorem e_mr0 {σ : eH} {N K a : Nat} (h : a ≠ σ.1) : (e_mna σ N K).2.2.2.2 a = σ.2.2.2.2 a := e_un _ h
theorem e_mr1 {σ : eH} {N K a i : Nat} (h : a = σ.1) (hi : i < N) : (e_mna σ N K).2.2.2.2 a i = σ.1 + 1 + i + 2 := by
  subst h
  show va_up σ.2.2.2.2 σ.1 (fun i => if i < N then σ.1 + 1 + i + 2 else 0) σ.1 i = _
  rw [e_us, if_pos hi]
/-- below a nothing has changed -/
def Bl (a : Nat) (σ τ : eH) : Prop := ∀ c, c < a → τ.2.2.1 c = σ.2.2.1 c ∧ τ.2.2.2.1 c = σ.2.2.2.1 c ∧ τ.2.2.2.2 c = σ.2.2.2.2 c
theorem Bl.rf (a : Nat) (σ : eH) : Bl a σ σ := fun _ _ => ⟨rfl, rfl, rfl⟩
theorem Bl.tr {a b : Nat} {σ τ ρ : eH} (h : Bl a σ τ) (g : Bl b τ ρ) (hab : a ≤ b) : Bl a σ ρ := fun c hc => by
  have h1 := h c hc
  have h2 := g c (by omega)
  exact ⟨h2.1.trans h1.1, h2.2.1.trans h1.2.1, h2.2.2.trans h1.2.2⟩
theorem Bl.mn {a b : Nat} {σ τ : eH} (h : Bl b σ τ) (hab : a ≤ b) : Bl a σ τ := fun c hc => h c (by omega)
theorem Bl.new {a : Nat} {σ τ : eH} {kd len : Nat} (h : Bl a σ τ) (ha : a ≤ τ.1) : Bl a σ (e_new τ kd len) := fun c hc => by
  have h1 := h c hc
  rw [e_nk, e_nd, e_nr, e_un _ (by omega), e_un _ (by omega), e_un _ (by omega)]
  exact h1
theorem Bl.mna {a : Nat} {σ τ : eH} {N K : Nat} (h : Bl a σ τ) (ha : a ≤ τ.1) : Bl a σ (e_mna τ N K) := fun c hc => by
  have h1 := h c hc
  rw [e_mk0 (by omega), e_md0 (by omega), e_mr0 (by omega)]
  exact h1
theorem Bl.puR {a : Nat} {σ τ : eH} {b i r : Nat} (h : Bl a σ τ) (hb : a ≤ b) : Bl a σ (e_puR τ b i r) := fun c hc => by
  have h1 := h c hc
  rw [e_qk, e_qd, e_qr2 _ (by omega)]
  exact h1
theorem Bl.put {a : Nat} {σ τ : eH} {b i : Nat} {x : Int} (h : Bl a σ τ) (hb : a ≤ b) : Bl a σ (e_put τ b i x) := fun c hc => by
  have h1 := h c hc
  rw [e_pk, e_pr, e_pd2 _ (by omega)]
  exact h1
set_option maxRecDepth 8000 in
set_option maxHeartbeats 1000000 in
theorem c_State_init {k : Nat} {a : Nat} {σ : eH} {Q : Option eV → eH → Prop} (hk : 1 ≤ k)  (h1 : σ.1 = a + 1) (hka : σ.2.2.1 a = (8, 5)) (hQ : ∀ τ, τ.1 = a + 13 → τ.2.1 = σ.2.1 + 60 → Bl a σ τ → StK τ a → (∀ c, a < c → c < a + 13 → τ.2.2.2.1 c = fun _ => 0) → τ.2.2.2.1 a 4 = 0 → Q none τ) : e_Wp k 4 [.inr (.inr (a + 2))] σ Q := by
  refine wp_in (nL := 1) (cd := e_k4) (by omega) (by rfl) (Nat.le_of_ble_eq_true rfl) ?_
  dsimp only [e_ent, Nat.reduceSub, List.replicate]
  refine gp_of (by rfl) ?_
  simp (disch := omega) only [e_wi, e_isr, e_isc, e_stp, e_rt, e_load, e_bin, e_binL, e_ld, e_s1, e_s2, e_n0, e_ok, e_cmp, e_ex, e_gif, e_id32, e_id64, e_v0, e_v1, e_v2, e_v3, e_dt, e_c1, e_sw, e_inv, e_cat, e_rcv, Fin.val_zero, Fin.val_one, Int.toNat_add, Int.toNat_mul, Int.toNat_natCast, Int.reduceToNat, Int.reduceMul, Int.reduceAdd, Int.reduceNeg, Nat.reduceAdd, Nat.reduceSub, Nat.reduceEqDiff, Nat.reduceLT, Nat.reduceLeDiff, List.getElem?_cons_zero, List.getElem?_cons_succ, List.length_cons, List.length_nil, List.take_succ_cons, List.take_zero, List.drop_succ_cons, List.drop_zero, List.reverse_cons, List.reverse_nil, List.nil_append, List.cons_append, List.append_nil, List.map_cons, List.map_nil, List.sum_cons, List.sum_nil, Bool.false_eq_true, if_false, if_true, Bool.and_true, Bool.true_and, Bool.and_self, Bool.or_true, Bool.true_or, Bool.or_false, Bool.false_or, Bool.or_self, decide_eq_true_eq, decide_true, decide_false, beq_self_eq_true, Option.map_some, reduceCtorEq, true_or, or_true, or_false, false_or, or_self, true_and, and_true, and_self, false_and, and_false, Option.some.injEq, exists_eq_left', ne_eq, not_true_eq_false, not_false_eq_true, eq_self, e_pk, e_pr, e_pn, e_ps, e_pd1, e_pd2, e_us, e_un, e_ifp, e_ifn, e_sk, e_sr, e_sn, e_ss, e_sd1, e_sd2, e_sp, e_nk, e_nd, e_nr, e_nn, e_ns, e_qk, e_qd, e_qn, e_qs, e_qr, e_mn, e_ms, h1, hka, e_mk0]
  repeat' first
    | (refine gp_at [] (by rfl) (by decide) ?_; simp (disch := omega) only [e_wi, e_isr, e_isc, e_stp, e_rt, e_load, e_bin, e_binL, e_ld, e_s1, e_s2, e_n0, e_ok, e_cmp, e_ex, e_gif, e_id32, e_id64, e_v0, e_v1, e_v2, e_v3, e_dt, e_c1, e_sw, e_inv, e_cat, e_rcv, Fin.val_zero, Fin.val_one, Int.toNat_add, Int.toNat_mul, Int.toNat_natCast, Int.reduceToNat, Int.reduceMul, Int.reduceAdd, Int.reduceNeg, Nat.reduceAdd, Nat.reduceSub, Nat.reduceEqDiff, Nat.reduceLT, Nat.reduceLeDiff, List.getElem?_cons_zero, List.getElem?_cons_succ, List.length_cons, List.length_nil, List.take_succ_cons, List.take_zero, List.drop_succ_cons, List.drop_zero, List.reverse_cons, List.reverse_nil, List.nil_append, List.cons_append, List.append_nil, List.map_cons, List.map_nil, List.sum_cons, List.sum_nil, Bool.false_eq_true, if_false, if_true, Bool.and_true, Bool.true_and, Bool.and_self, Bool.or_true, Bool.true_or, Bool.or_false, Bool.false_or, Bool.or_self, decide_eq_true_eq, decide_true, decide_false, beq_self_eq_true, Option.map_some, reduceCtorEq, true_or, or_true, or_false, false_or, or_self, true_and, and_true, and_self, false_and, and_false, Option.some.injEq, exists_eq_left', ne_eq, not_true_eq_false, not_false_eq_true, eq_self, e_pk, e_pr, e_pn, e_ps, e_pd1, e_pd2, e_us, e_un, e_ifp, e_ifn, e_sk, e_sr, e_sn, e_ss, e_sd1, e_sd2, e_sp, e_nk, e_nd, e_nr, e_nn, e_ns, e_qk, e_qd, e_qn, e_qs, e_qr, e_mn, e_ms, h1, hka, e_mk0])
    | (refine And.intro (fun hc => ?_) (fun hc => ?_) <;> try (exfalso; omega))
  trace_state
  sorry
