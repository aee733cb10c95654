theorem Sm.c6 {r : Nat} {σ τ : eH} (h : Sm [163, 164, 168] [8, 9, 10, 12, 13, 16] σ τ) : τ.2.2.2.1 166 r = σ.2.2.2.1 166 r := by rw [h.at 166 (by decide) (by decide)]
theorem Ms.n5 {σ0 τ : eH} {r t b q v : Nat} {B : Nat → Int} {c : List (Nat × Nat)} (h : Ms σ0 r B t b q v c τ) : Ms τ r B t (b + c.length) q v [] τ := ⟨h.1, Fs.rf _ _, h.2.2.1, h.2.2.2.1, h.2.2.2.2.1, h.2.2.2.2.2.1, h.2.2.2.2.2.2.1, h.2.2.2.2.2.2.2.1, trivial, h.2.2.2.2.2.2.2.2.2⟩
theorem Ms.r0 {σ0 τ : eH} {r t b q v : Nat} {B : Nat → Int} {c : List (Nat × Nat)} (h : Ms σ0 r B t b q v c τ) : Ms τ r B t b q v c τ := ⟨h.1, Fs.rf _ _, h.2.2⟩
set_option maxRecDepth 8000 in
set_option maxHeartbeats 8000000 in
theorem w_go {k : Nat} {σ0 : eH} {r t p v : Nat} {B : Nat → Int} {R : rRule} {σ : eH} {Q : Option eV → eH → Prop} (hk : 15 ≤ k) (h : Mc σ0 r B t p v R σ) (hss : k_sk B t p = p) (hgo : k_kd B t p = 270) (hR11 : R.length < 12) (hG : ∀ τ q' v' C, k_cl B t v p = .inr (k_sk B t q', v', C) → Mc σ0 r B t q' v' (R ++ [C]) τ → τ.2.2.2.1 161 14 = σ.2.2.2.1 161 14 → Q (some (.inl 1)) τ) (hF : ∀ τ e, k_cl B t v p = .inl e → Mx σ0 r e τ → Q (some (.inl 0)) τ) : e_Wp k 176 [.inr (.inr 163)] σ Q := by
  refine wp_in (nL := 2) (cd := e_k176) (by omega) (by rfl) (Nat.le_of_ble_eq_true rfl) ?_
  dsimp only [e_ent, Nat.reduceSub, List.replicate]
  have hmc := h
  obtain ⟨hfq, hms, hcls, h166, hR12, hrok⟩ := h
  have hr6 := hms.r6
  rw [hss] at hr6
  have hwe := k_wd_en (B := B) (t := t) (p := p) (by omega) (by omega)
  have hb := k_en_b (B := B) hwe.1
  have hnb := k_nx_b (B := B) hwe.1
  have h1 := (hms.at (x := k_en B t p) (by omega) hb.2).r0
  have hf1 : Fq r σ0 (k_at σ (k_en B t p)) := hfq.tr (((Fs.rf (400 * r) σ).pf (i := 8) (by decide)).fq (Nat.le_refl _))
  have g166 : (k_at σ (k_en B t p)).2.2.2.1 166 r = (R.length : Int) := by
    unfold k_at
    rw [e_pd2 _ (by omega)]
    exact h166
  have g165 : (k_at σ (k_en B t p)).2.2.2.1 165 = σ.2.2.2.1 165 := by
    unfold k_at
    rw [e_pd2 _ (by omega)]
  have g163 : (k_at σ (k_en B t p)).2.2.2.1 163 = σ.2.2.2.1 163 := by
    unfold k_at
    rw [e_pd2 _ (by omega)]
  have n1 : (k_at σ (k_en B t p)).2.2.2.1 161 14 = σ.2.2.2.1 161 14 := by
    unfold k_at
    rw [e_pd1, e_un _ (by omega)]
  have hnx : k_sk B t (k_en B t p) = k_nx B t p := rfl
  have een := hwe.2.2
  have gcl := fun x hx => k_cl_g (B := B) (t := t) (v := v) (x := x) hwe.1 hx
  rw [een] at h1 hf1 g166 g165 g163 n1 hnx
  refine gp_of (by rfl) ?_
  simp (disch := omega) only [e_wi, e_isr, e_isc, e_stp, e_rt, e_load, e_bin, e_binL, e_ld, e_s1, e_s2, e_n0, e_ok, e_cmp, e_ex, e_gif, e_id32, e_id64, e_v0, e_v1, e_v2, e_v3, e_dt, e_c1, e_sw, e_inv, e_cat, e_rcv, Fin.val_zero, Fin.val_one, Int.toNat_add, Int.toNat_mul, Int.toNat_natCast, Int.reduceToNat, Int.reduceMul, Int.reduceAdd, Int.reduceNeg, Nat.reduceAdd, Nat.reduceSub, Nat.reduceEqDiff, Nat.reduceLT, Nat.reduceLeDiff, List.getElem?_cons_zero, List.getElem?_cons_succ, List.length_cons, List.length_nil, List.take_succ_cons, List.take_zero, List.drop_succ_cons, List.drop_zero, List.reverse_cons, List.reverse_nil, List.nil_append, List.cons_append, List.append_nil, List.map_cons, List.map_nil, List.sum_cons, List.sum_nil, Bool.false_eq_true, if_false, if_true, Bool.and_true, Bool.true_and, Bool.and_self, Bool.or_true, Bool.true_or, Bool.or_false, Bool.false_or, Bool.or_self, decide_eq_true_eq, decide_true, decide_false, beq_self_eq_true, Option.map_some, reduceCtorEq, true_or, or_true, or_false, false_or, or_self, true_and, and_true, and_self, false_and, and_false, Option.some.injEq, exists_eq_left', ne_eq, not_true_eq_false, not_false_eq_true, eq_self, e_pk, e_pr, e_pn, e_ps, e_pd1, e_pd2, e_us, e_un, e_ifp, e_ifn, e_sk, e_sr, e_sn, e_ss, e_sd1, e_sd2, e_sp, mk161 hms.1.1, mk162 hms.1.1, mk163 hms.1.1, mk164 hms.1.1, mk165 hms.1.1, mk166 hms.1.1, mr0 hms.1.1, mr3 hms.1.1, mr4 hms.1.1, mr5 hms.1.1, mr6 hms.1.1, hms.1.t1, hms.1.b8, hms.1.q8]
  repeat' first
    | (refine gp_at [4] (by rfl) (by decide) ?_; simp (disch := omega) only [e_wi, e_isr, e_isc, e_stp, e_rt, e_load, e_bin, e_binL, e_ld, e_s1, e_s2, e_n0, e_ok, e_cmp, e_ex, e_gif, e_id32, e_id64, e_v0, e_v1, e_v2, e_v3, e_dt, e_c1, e_sw, e_inv, e_cat, e_rcv, Fin.val_zero, Fin.val_one, Int.toNat_add, Int.toNat_mul, Int.toNat_natCast, Int.reduceToNat, Int.reduceMul, Int.reduceAdd, Int.reduceNeg, Nat.reduceAdd, Nat.reduceSub, Nat.reduceEqDiff, Nat.reduceLT, Nat.reduceLeDiff, List.getElem?_cons_zero, List.getElem?_cons_succ, List.length_cons, List.length_nil, List.take_succ_cons, List.take_zero, List.drop_succ_cons, List.drop_zero, List.reverse_cons, List.reverse_nil, List.nil_append, List.cons_append, List.append_nil, List.map_cons, List.map_nil, List.sum_cons, List.sum_nil, Bool.false_eq_true, if_false, if_true, Bool.and_true, Bool.true_and, Bool.and_self, Bool.or_true, Bool.true_or, Bool.or_false, Bool.false_or, Bool.or_self, decide_eq_true_eq, decide_true, decide_false, beq_self_eq_true, Option.map_some, reduceCtorEq, true_or, or_true, or_false, false_or, or_self, true_and, and_true, and_self, false_and, and_false, Option.some.injEq, exists_eq_left', ne_eq, not_true_eq_false, not_false_eq_true, eq_self, e_pk, e_pr, e_pn, e_ps, e_pd1, e_pd2, e_us, e_un, e_ifp, e_ifn, e_sk, e_sr, e_sn, e_ss, e_sd1, e_sd2, e_sp, mk161 hms.1.1, mk162 hms.1.1, mk163 hms.1.1, mk164 hms.1.1, mk165 hms.1.1, mk166 hms.1.1, mr0 hms.1.1, mr3 hms.1.1, mr4 hms.1.1, mr5 hms.1.1, mr6 hms.1.1, hms.1.t1, hms.1.b8, hms.1.q8])
    | (refine And.intro (fun hc => ?_) (fun hc => ?_) <;> try (exfalso; omega))
    | ((refine w_passWord (by omega) hms.1 ?_) <;> try dsimp only [Option.toList, List.cons_append, List.nil_append, Nat.reduceAdd])
  generalize k_at σ (k_go (k_lt B) t p) = τ1 at *
  have eA : (48 : Int) * (r : Int) + 4 * (R.length : Int) = ((48 * r + 4 * R.length : Nat) : Int) := by omega
  have l4 : τ1.2.2.2.1 164 r = ((r_len R : Nat) : Int) := h1.l4
  have h2 := h1.c5 (j := 48 * r + 4 * R.length) (x := ((r_len R : Nat) : Int))
  have hf2 := hf1.c5 (j := 48 * r + 4 * R.length) (x := ((r_len R : Nat) : Int)) (by omega)
  have c2 : (e_put τ1 165 (48 * r + 4 * R.length) ((r_len R : Nat) : Int)).2.2.2.1 165 = va_up (σ.2.2.2.1 165) (48 * r + 4 * R.length) ((r_len R : Nat) : Int) := by rw [e_pd1, g165]
  have d2 : (e_put τ1 165 (48 * r + 4 * R.length) ((r_len R : Nat) : Int)).2.2.2.1 163 = σ.2.2.2.1 163 := by rw [e_pd2 _ (by omega)]; exact g163
  have n2 : (e_put τ1 165 (48 * r + 4 * R.length) ((r_len R : Nat) : Int)).2.2.2.1 161 14 = σ.2.2.2.1 161 14 := by rw [e_pd2 _ (by omega)]; exact n1
  have f2 : (e_put τ1 165 (48 * r + 4 * R.length) ((r_len R : Nat) : Int)).2.2.2.1 166 r = (R.length : Int) := by rw [e_pd2 _ (by omega)]; exact g166
  refine gp_of (by rfl) ?_
  simp (disch := omega) only [e_wi, e_isr, e_isc, e_stp, e_rt, e_load, e_bin, e_binL, e_ld, e_s1, e_s2, e_n0, e_ok, e_cmp, e_ex, e_gif, e_id32, e_id64, e_v0, e_v1, e_v2, e_v3, e_dt, e_c1, e_sw, e_inv, e_cat, e_rcv, Fin.val_zero, Fin.val_one, Int.toNat_add, Int.toNat_mul, Int.toNat_natCast, Int.reduceToNat, Int.reduceMul, Int.reduceAdd, Int.reduceNeg, Nat.reduceAdd, Nat.reduceSub, Nat.reduceEqDiff, Nat.reduceLT, Nat.reduceLeDiff, List.getElem?_cons_zero, List.getElem?_cons_succ, List.length_cons, List.length_nil, List.take_succ_cons, List.take_zero, List.drop_succ_cons, List.drop_zero, List.reverse_cons, List.reverse_nil, List.nil_append, List.cons_append, List.append_nil, List.map_cons, List.map_nil, List.sum_cons, List.sum_nil, Bool.false_eq_true, if_false, if_true, Bool.and_true, Bool.true_and, Bool.and_self, Bool.or_true, Bool.true_or, Bool.or_false, Bool.false_or, Bool.or_self, decide_eq_true_eq, decide_true, decide_false, beq_self_eq_true, Option.map_some, reduceCtorEq, true_or, or_true, or_false, false_or, or_self, true_and, and_true, and_self, false_and, and_false, Option.some.injEq, exists_eq_left', ne_eq, not_true_eq_false, not_false_eq_true, eq_self, e_pk, e_pr, e_pn, e_ps, e_pd1, e_pd2, e_us, e_un, e_ifp, e_ifn, e_sk, e_sr, e_sn, e_ss, e_sd1, e_sd2, e_sp, mk161 h1.1.1, mk162 h1.1.1, mk163 h1.1.1, mk164 h1.1.1, mk165 h1.1.1, mk166 h1.1.1, mr0 h1.1.1, mr3 h1.1.1, mr4 h1.1.1, mr5 h1.1.1, mr6 h1.1.1, h1.x11, l4, g166, eA]
  repeat' first
    | (refine gp_at [39] (by rfl) (by decide) ?_; simp (disch := omega) only [e_wi, e_isr, e_isc, e_stp, e_rt, e_load, e_bin, e_binL, e_ld, e_s1, e_s2, e_n0, e_ok, e_cmp, e_ex, e_gif, e_id32, e_id64, e_v0, e_v1, e_v2, e_v3, e_dt, e_c1, e_sw, e_inv, e_cat, e_rcv, Fin.val_zero, Fin.val_one, Int.toNat_add, Int.toNat_mul, Int.toNat_natCast, Int.reduceToNat, Int.reduceMul, Int.reduceAdd, Int.reduceNeg, Nat.reduceAdd, Nat.reduceSub, Nat.reduceEqDiff, Nat.reduceLT, Nat.reduceLeDiff, List.getElem?_cons_zero, List.getElem?_cons_succ, List.length_cons, List.length_nil, List.take_succ_cons, List.take_zero, List.drop_succ_cons, List.drop_zero, List.reverse_cons, List.reverse_nil, List.nil_append, List.cons_append, List.append_nil, List.map_cons, List.map_nil, List.sum_cons, List.sum_nil, Bool.false_eq_true, if_false, if_true, Bool.and_true, Bool.true_and, Bool.and_self, Bool.or_true, Bool.true_or, Bool.or_false, Bool.false_or, Bool.or_self, decide_eq_true_eq, decide_true, decide_false, beq_self_eq_true, Option.map_some, reduceCtorEq, true_or, or_true, or_false, false_or, or_self, true_and, and_true, and_self, false_and, and_false, Option.some.injEq, exists_eq_left', ne_eq, not_true_eq_false, not_false_eq_true, eq_self, e_pk, e_pr, e_pn, e_ps, e_pd1, e_pd2, e_us, e_un, e_ifp, e_ifn, e_sk, e_sr, e_sn, e_ss, e_sd1, e_sd2, e_sp, mk161 h1.1.1, mk162 h1.1.1, mk163 h1.1.1, mk164 h1.1.1, mk165 h1.1.1, mk166 h1.1.1, mr0 h1.1.1, mr3 h1.1.1, mr4 h1.1.1, mr5 h1.1.1, mr6 h1.1.1, h1.x11, l4, g166, eA])
    | (refine And.intro (fun hc => ?_) (fun hc => ?_) <;> try (exfalso; omega))
  all_goals first | (exfalso; omega) | skip
  generalize e_put τ1 165 (48 * r + 4 * R.length) ((r_len R : Nat) : Int) = τ2 at *
  refine gp_of (by rfl) ?_
  simp (disch := omega) only [e_wi, e_isr, e_isc, e_stp, e_rt, e_load, e_bin, e_binL, e_ld, e_s1, e_s2, e_n0, e_ok, e_cmp, e_ex, e_gif, e_id32, e_id64, e_v0, e_v1, e_v2, e_v3, e_dt, e_c1, e_sw, e_inv, e_cat, e_rcv, Fin.val_zero, Fin.val_one, Int.toNat_add, Int.toNat_mul, Int.toNat_natCast, Int.reduceToNat, Int.reduceMul, Int.reduceAdd, Int.reduceNeg, Nat.reduceAdd, Nat.reduceSub, Nat.reduceEqDiff, Nat.reduceLT, Nat.reduceLeDiff, List.getElem?_cons_zero, List.getElem?_cons_succ, List.length_cons, List.length_nil, List.take_succ_cons, List.take_zero, List.drop_succ_cons, List.drop_zero, List.reverse_cons, List.reverse_nil, List.nil_append, List.cons_append, List.append_nil, List.map_cons, List.map_nil, List.sum_cons, List.sum_nil, Bool.false_eq_true, if_false, if_true, Bool.and_true, Bool.true_and, Bool.and_self, Bool.or_true, Bool.true_or, Bool.or_false, Bool.false_or, Bool.or_self, decide_eq_true_eq, decide_true, decide_false, beq_self_eq_true, Option.map_some, reduceCtorEq, true_or, or_true, or_false, false_or, or_self, true_and, and_true, and_self, false_and, and_false, Option.some.injEq, exists_eq_left', ne_eq, not_true_eq_false, not_false_eq_true, eq_self, e_pk, e_pr, e_pn, e_ps, e_pd1, e_pd2, e_us, e_un, e_ifp, e_ifn, e_sk, e_sr, e_sn, e_ss, e_sd1, e_sd2, e_sp, mk161 h2.1.1, mk162 h2.1.1, mk163 h2.1.1, mk164 h2.1.1, mk165 h2.1.1, mk166 h2.1.1, mr0 h2.1.1, mr3 h2.1.1, mr4 h2.1.1, mr5 h2.1.1, mr6 h2.1.1, h2.1.t1, h2.1.b8, h2.1.q8, h2.x11, h2.l4]
  repeat' first
    | (refine gp_at [43] (by rfl) (by decide) ?_; simp (disch := omega) only [e_wi, e_isr, e_isc, e_stp, e_rt, e_load, e_bin, e_binL, e_ld, e_s1, e_s2, e_n0, e_ok, e_cmp, e_ex, e_gif, e_id32, e_id64, e_v0, e_v1, e_v2, e_v3, e_dt, e_c1, e_sw, e_inv, e_cat, e_rcv, Fin.val_zero, Fin.val_one, Int.toNat_add, Int.toNat_mul, Int.toNat_natCast, Int.reduceToNat, Int.reduceMul, Int.reduceAdd, Int.reduceNeg, Nat.reduceAdd, Nat.reduceSub, Nat.reduceEqDiff, Nat.reduceLT, Nat.reduceLeDiff, List.getElem?_cons_zero, List.getElem?_cons_succ, List.length_cons, List.length_nil, List.take_succ_cons, List.take_zero, List.drop_succ_cons, List.drop_zero, List.reverse_cons, List.reverse_nil, List.nil_append, List.cons_append, List.append_nil, List.map_cons, List.map_nil, List.sum_cons, List.sum_nil, Bool.false_eq_true, if_false, if_true, Bool.and_true, Bool.true_and, Bool.and_self, Bool.or_true, Bool.true_or, Bool.or_false, Bool.false_or, Bool.or_self, decide_eq_true_eq, decide_true, decide_false, beq_self_eq_true, Option.map_some, reduceCtorEq, true_or, or_true, or_false, false_or, or_self, true_and, and_true, and_self, false_and, and_false, Option.some.injEq, exists_eq_left', ne_eq, not_true_eq_false, not_false_eq_true, eq_self, e_pk, e_pr, e_pn, e_ps, e_pd1, e_pd2, e_us, e_un, e_ifp, e_ifn, e_sk, e_sr, e_sn, e_ss, e_sd1, e_sd2, e_sp, mk161 h2.1.1, mk162 h2.1.1, mk163 h2.1.1, mk164 h2.1.1, mk165 h2.1.1, mk166 h2.1.1, mr0 h2.1.1, mr3 h2.1.1, mr4 h2.1.1, mr5 h2.1.1, mr6 h2.1.1, h2.1.t1, h2.1.b8, h2.1.q8, h2.x11, h2.l4])
    | (refine And.intro (fun hc => ?_) (fun hc => ?_) <;> try (exfalso; omega))
    | ((refine w_sum (by omega) h2 (fun τ3 q3 v3 A er h3 => ?_) (fun τ3 e3 er h3 => ?_)) <;> try dsimp only [Option.toList, List.cons_append, List.nil_append, Nat.reduceAdd])
  · rw [hnx] at er
    have hr3 := h3.r6
    have hen3 := h3.en
    have gr := k_sum_g er
    unfold k_gr at gr
    dsimp only at gr
    rw [List.length_nil] at gr
    have hf3 : Fq r σ0 τ3 := hf2.tr (h3.2.1.fq (by omega))
    have c3 : τ3.2.2.2.1 165 = va_up (σ.2.2.2.1 165) (48 * r + 4 * R.length) ((r_len R : Nat) : Int) := by rw [h3.2.1.1.at 165 (by decide) (by decide)]; exact c2
    have n3 : τ3.2.2.2.1 161 14 = σ.2.2.2.1 161 14 := by rw [h3.2.1.1.fd 14 (by decide)]; exact n2
    have f3 : τ3.2.2.2.1 166 r = (R.length : Int) := by rw [h3.2.1.1.at 166 (by decide) (by decide)]; exact f2
    have d3 : ∀ j, j < 400 * r + r_len R → τ3.2.2.2.1 163 j = σ.2.2.2.1 163 j := fun j hj => by rw [h3.2.1.2 j hj, d2]
    have ecl : k_cl B t v p = if k_kd B t (k_sk B t q3) = 271 then (match k_ts B t (k_fa B t 10) v3 (k_nx B t (k_sk B t q3)) [] with
        | .inl e => .inl e
        | .inr y => .inr (y.1, y.2.1, A, some y.2.2)) else .inr (k_sk B t q3, v3, A, none) := by
      unfold k_cl
      rw [er]
      rfl
    have l43 : τ3.2.2.2.1 164 r = ((r_len R + A.length : Nat) : Int) := h3.l4
    have e49 : ((48 * r + 4 * R.length : Nat) : Int) + 1 = ((48 * r + 4 * R.length + 1 : Nat) : Int) := by omega
    have e50 : ((48 * r + 4 * R.length : Nat) : Int) + 2 = ((48 * r + 4 * R.length + 2 : Nat) : Int) := by omega
    have e51 : ((48 * r + 4 * R.length : Nat) : Int) + 3 = ((48 * r + 4 * R.length + 3 : Nat) : Int) := by omega
    have h4 := (h3.c5 (j := 48 * r + 4 * R.length + 1) (x := ((r_len R + A.length : Nat) : Int))).c5 (j := 48 * r + 4 * R.length + 2) (x := -1)
    have hf4 := (hf3.c5 (j := 48 * r + 4 * R.length + 1) (x := ((r_len R + A.length : Nat) : Int)) (by omega)).c5 (j := 48 * r + 4 * R.length + 2) (x := -1) (by omega)
    obtain ⟨C4, hC4⟩ : ∃ f, f = va_up (va_up (va_up (σ.2.2.2.1 165) (48 * r + 4 * R.length) ((r_len R : Nat) : Int)) (48 * r + 4 * R.length + 1) ((r_len R + A.length : Nat) : Int)) (48 * r + 4 * R.length + 2) (-1) := ⟨_, rfl⟩
    have c4 : (e_put (e_put τ3 165 (48 * r + 4 * R.length + 1) ((r_len R + A.length : Nat) : Int)) 165 (48 * r + 4 * R.length + 2) (-1)).2.2.2.1 165 = C4 := by rw [e_pd1, e_pd1, c3, hC4]
    have n4 : (e_put (e_put τ3 165 (48 * r + 4 * R.length + 1) ((r_len R + A.length : Nat) : Int)) 165 (48 * r + 4 * R.length + 2) (-1)).2.2.2.1 161 14 = σ.2.2.2.1 161 14 := by rw [e_pd2 _ (by omega), e_pd2 _ (by omega)]; exact n3
    have f4 : (e_put (e_put τ3 165 (48 * r + 4 * R.length + 1) ((r_len R + A.length : Nat) : Int)) 165 (48 * r + 4 * R.length + 2) (-1)).2.2.2.1 166 r = (R.length : Int) := by rw [e_pd2 _ (by omega), e_pd2 _ (by omega)]; exact f3
    have d4 : (e_put (e_put τ3 165 (48 * r + 4 * R.length + 1) ((r_len R + A.length : Nat) : Int)) 165 (48 * r + 4 * R.length + 2) (-1)).2.2.2.1 163 = τ3.2.2.2.1 163 := by rw [e_pd2 _ (by omega), e_pd2 _ (by omega)]
    refine gp_of (by rfl) ?_
    simp (disch := omega) only [e_wi, e_isr, e_isc, e_stp, e_rt, e_load, e_bin, e_binL, e_ld, e_s1, e_s2, e_n0, e_ok, e_cmp, e_ex, e_gif, e_id32, e_id64, e_v0, e_v1, e_v2, e_v3, e_dt, e_c1, e_sw, e_inv, e_cat, e_rcv, Fin.val_zero, Fin.val_one, Int.toNat_add, Int.toNat_mul, Int.toNat_natCast, Int.reduceToNat, Int.reduceMul, Int.reduceAdd, Int.reduceNeg, Nat.reduceAdd, Nat.reduceSub, Nat.reduceEqDiff, Nat.reduceLT, Nat.reduceLeDiff, List.getElem?_cons_zero, List.getElem?_cons_succ, List.length_cons, List.length_nil, List.take_succ_cons, List.take_zero, List.drop_succ_cons, List.drop_zero, List.reverse_cons, List.reverse_nil, List.nil_append, List.cons_append, List.append_nil, List.map_cons, List.map_nil, List.sum_cons, List.sum_nil, Bool.false_eq_true, if_false, if_true, Bool.and_true, Bool.true_and, Bool.and_self, Bool.or_true, Bool.true_or, Bool.or_false, Bool.false_or, Bool.or_self, decide_eq_true_eq, decide_true, decide_false, beq_self_eq_true, Option.map_some, reduceCtorEq, true_or, or_true, or_false, false_or, or_self, true_and, and_true, and_self, false_and, and_false, Option.some.injEq, exists_eq_left', ne_eq, not_true_eq_false, not_false_eq_true, eq_self, e_pk, e_pr, e_pn, e_ps, e_pd1, e_pd2, e_us, e_un, e_ifp, e_ifn, e_sk, e_sr, e_sn, e_ss, e_sd1, e_sd2, e_sp, mk161 h3.1.1, mk162 h3.1.1, mk163 h3.1.1, mk164 h3.1.1, mk165 h3.1.1, mk166 h3.1.1, mr0 h3.1.1, mr3 h3.1.1, mr4 h3.1.1, mr5 h3.1.1, mr6 h3.1.1, h3.x11, l43, e49, e50]
    repeat' first
      | (refine gp_at [74] (by rfl) (by decide) ?_; simp (disch := omega) only [e_wi, e_isr, e_isc, e_stp, e_rt, e_load, e_bin, e_binL, e_ld, e_s1, e_s2, e_n0, e_ok, e_cmp, e_ex, e_gif, e_id32, e_id64, e_v0, e_v1, e_v2, e_v3, e_dt, e_c1, e_sw, e_inv, e_cat, e_rcv, Fin.val_zero, Fin.val_one, Int.toNat_add, Int.toNat_mul, Int.toNat_natCast, Int.reduceToNat, Int.reduceMul, Int.reduceAdd, Int.reduceNeg, Nat.reduceAdd, Nat.reduceSub, Nat.reduceEqDiff, Nat.reduceLT, Nat.reduceLeDiff, List.getElem?_cons_zero, List.getElem?_cons_succ, List.length_cons, List.length_nil, List.take_succ_cons, List.take_zero, List.drop_succ_cons, List.drop_zero, List.reverse_cons, List.reverse_nil, List.nil_append, List.cons_append, List.append_nil, List.map_cons, List.map_nil, List.sum_cons, List.sum_nil, Bool.false_eq_true, if_false, if_true, Bool.and_true, Bool.true_and, Bool.and_self, Bool.or_true, Bool.true_or, Bool.or_false, Bool.false_or, Bool.or_self, decide_eq_true_eq, decide_true, decide_false, beq_self_eq_true, Option.map_some, reduceCtorEq, true_or, or_true, or_false, false_or, or_self, true_and, and_true, and_self, false_and, and_false, Option.some.injEq, exists_eq_left', ne_eq, not_true_eq_false, not_false_eq_true, eq_self, e_pk, e_pr, e_pn, e_ps, e_pd1, e_pd2, e_us, e_un, e_ifp, e_ifn, e_sk, e_sr, e_sn, e_ss, e_sd1, e_sd2, e_sp, mk161 h3.1.1, mk162 h3.1.1, mk163 h3.1.1, mk164 h3.1.1, mk165 h3.1.1, mk166 h3.1.1, mr0 h3.1.1, mr3 h3.1.1, mr4 h3.1.1, mr5 h3.1.1, mr6 h3.1.1, h3.x11, l43, e49, e50])
      | (refine And.intro (fun hc => ?_) (fun hc => ?_) <;> try (exfalso; omega))
    all_goals first | (exfalso; omega) | skip
    have hAt : r_tks (τ3.2.2.2.1 163) (400 * r + r_len R) A := h3.2.2.2.2.2.2.2.2.1
    generalize e_put (e_put τ3 165 (48 * r + 4 * R.length + 1) ((r_len R + A.length : Nat) : Int)) 165 (48 * r + 4 * R.length + 2) (-1) = τ4 at *
    have l44 : τ4.2.2.2.1 164 r = ((r_len R + A.length : Nat) : Int) := h4.l4
    by_cases hif : k_kd B t (k_sk B t q3) = 271
    · skip
      rw [if_pos hif] at ecl
      have hw : k_wv B t (k_sk B t q3) = 0x6966 := k_kw15.2 hif
      have hwe3 := k_wd_en (B := B) (t := t) (p := k_sk B t q3) (by omega) (by omega)
      have hb3 := k_en_b (B := B) hwe3.1
      have hnx3 : k_sk B t (k_en B t (k_sk B t q3)) = k_nx B t (k_sk B t q3) := rfl
      have h6 := (h4.at (x := k_en B t (k_sk B t q3)) (by omega) hb3.2).r0
      have hf6 : Fq r σ0 (k_at τ4 (k_en B t (k_sk B t q3))) := hf4.tr (((Fs.rf (400 * r) τ4).pf (i := 8) (by decide)).fq (Nat.le_refl _))
      have c6 : (k_at τ4 (k_en B t (k_sk B t q3))).2.2.2.1 165 = C4 := by
        unfold k_at
        rw [e_pd2 _ (by omega)]
        exact c4
      have f6 : (k_at τ4 (k_en B t (k_sk B t q3))).2.2.2.1 166 r = (R.length : Int) := by
        unfold k_at
        rw [e_pd2 _ (by omega)]
        exact f4
      have d6 : (k_at τ4 (k_en B t (k_sk B t q3))).2.2.2.1 163 = τ3.2.2.2.1 163 := by
        unfold k_at
        rw [e_pd2 _ (by omega)]
        exact d4
      have n6 : (k_at τ4 (k_en B t (k_sk B t q3))).2.2.2.1 161 14 = σ.2.2.2.1 161 14 := by
        unfold k_at
        rw [e_pd1, e_un _ (by omega)]
        exact n4
      rw [hwe3.2.2] at h6 hf6 c6 f6 d6 n6 hnx3
      refine gp_of (by rfl) ?_
      simp (disch := omega) only [e_wi, e_isr, e_isc, e_stp, e_rt, e_load, e_bin, e_binL, e_ld, e_s1, e_s2, e_n0, e_ok, e_cmp, e_ex, e_gif, e_id32, e_id64, e_v0, e_v1, e_v2, e_v3, e_dt, e_c1, e_sw, e_inv, e_cat, e_rcv, Fin.val_zero, Fin.val_one, Int.toNat_add, Int.toNat_mul, Int.toNat_natCast, Int.reduceToNat, Int.reduceMul, Int.reduceAdd, Int.reduceNeg, Nat.reduceAdd, Nat.reduceSub, Nat.reduceEqDiff, Nat.reduceLT, Nat.reduceLeDiff, List.getElem?_cons_zero, List.getElem?_cons_succ, List.length_cons, List.length_nil, List.take_succ_cons, List.take_zero, List.drop_succ_cons, List.drop_zero, List.reverse_cons, List.reverse_nil, List.nil_append, List.cons_append, List.append_nil, List.map_cons, List.map_nil, List.sum_cons, List.sum_nil, Bool.false_eq_true, if_false, if_true, Bool.and_true, Bool.true_and, Bool.and_self, Bool.or_true, Bool.true_or, Bool.or_false, Bool.false_or, Bool.or_self, decide_eq_true_eq, decide_true, decide_false, beq_self_eq_true, Option.map_some, reduceCtorEq, true_or, or_true, or_false, false_or, or_self, true_and, and_true, and_self, false_and, and_false, Option.some.injEq, exists_eq_left', ne_eq, not_true_eq_false, not_false_eq_true, eq_self, e_pk, e_pr, e_pn, e_ps, e_pd1, e_pd2, e_us, e_un, e_ifp, e_ifn, e_sk, e_sr, e_sn, e_ss, e_sd1, e_sd2, e_sp, mk161 h4.1.1, mk162 h4.1.1, mk163 h4.1.1, mk164 h4.1.1, mk165 h4.1.1, mk166 h4.1.1, mr0 h4.1.1, mr3 h4.1.1, mr4 h4.1.1, mr5 h4.1.1, mr6 h4.1.1]
      repeat' first
        | (refine gp_at [81] (by rfl) (by decide) ?_; simp (disch := omega) only [e_wi, e_isr, e_isc, e_stp, e_rt, e_load, e_bin, e_binL, e_ld, e_s1, e_s2, e_n0, e_ok, e_cmp, e_ex, e_gif, e_id32, e_id64, e_v0, e_v1, e_v2, e_v3, e_dt, e_c1, e_sw, e_inv, e_cat, e_rcv, Fin.val_zero, Fin.val_one, Int.toNat_add, Int.toNat_mul, Int.toNat_natCast, Int.reduceToNat, Int.reduceMul, Int.reduceAdd, Int.reduceNeg, Nat.reduceAdd, Nat.reduceSub, Nat.reduceEqDiff, Nat.reduceLT, Nat.reduceLeDiff, List.getElem?_cons_zero, List.getElem?_cons_succ, List.length_cons, List.length_nil, List.take_succ_cons, List.take_zero, List.drop_succ_cons, List.drop_zero, List.reverse_cons, List.reverse_nil, List.nil_append, List.cons_append, List.append_nil, List.map_cons, List.map_nil, List.sum_cons, List.sum_nil, Bool.false_eq_true, if_false, if_true, Bool.and_true, Bool.true_and, Bool.and_self, Bool.or_true, Bool.true_or, Bool.or_false, Bool.false_or, Bool.or_self, decide_eq_true_eq, decide_true, decide_false, beq_self_eq_true, Option.map_some, reduceCtorEq, true_or, or_true, or_false, false_or, or_self, true_and, and_true, and_self, false_and, and_false, Option.some.injEq, exists_eq_left', ne_eq, not_true_eq_false, not_false_eq_true, eq_self, e_pk, e_pr, e_pn, e_ps, e_pd1, e_pd2, e_us, e_un, e_ifp, e_ifn, e_sk, e_sr, e_sn, e_ss, e_sd1, e_sd2, e_sp, mk161 h4.1.1, mk162 h4.1.1, mk163 h4.1.1, mk164 h4.1.1, mk165 h4.1.1, mk166 h4.1.1, mr0 h4.1.1, mr3 h4.1.1, mr4 h4.1.1, mr5 h4.1.1, mr6 h4.1.1])
        | (refine And.intro (fun hc => ?_) (fun hc => ?_) <;> try (exfalso; omega))
        | ((refine w_takes (by omega) h4.1 (by omega) (fun q9 => ?_) (fun q9 => absurd hw q9)) <;> try dsimp only [Option.toList, List.cons_append, List.nil_append, Nat.reduceAdd])
      generalize k_at τ4 (k_go (k_lt B) t (k_sk B t q3)) = τ6 at *
      have l46 : τ6.2.2.2.1 164 r = ((r_len R + A.length : Nat) : Int) := h6.l4
      have h7 := (h6.c5 (j := 48 * r + 4 * R.length + 2) (x := ((r_len R + A.length : Nat) : Int))).n5
      have hf7 := hf6.c5 (j := 48 * r + 4 * R.length + 2) (x := ((r_len R + A.length : Nat) : Int)) (by omega)
      have c7 : (e_put τ6 165 (48 * r + 4 * R.length + 2) ((r_len R + A.length : Nat) : Int)).2.2.2.1 165 = va_up C4 (48 * r + 4 * R.length + 2) ((r_len R + A.length : Nat) : Int) := by rw [e_pd1, c6]
      have f7 : (e_put τ6 165 (48 * r + 4 * R.length + 2) ((r_len R + A.length : Nat) : Int)).2.2.2.1 166 r = (R.length : Int) := by rw [e_pd2 _ (by omega)]; exact f6
      have d7 : (e_put τ6 165 (48 * r + 4 * R.length + 2) ((r_len R + A.length : Nat) : Int)).2.2.2.1 163 = τ3.2.2.2.1 163 := by rw [e_pd2 _ (by omega)]; exact d6
      have n7 : (e_put τ6 165 (48 * r + 4 * R.length + 2) ((r_len R + A.length : Nat) : Int)).2.2.2.1 161 14 = σ.2.2.2.1 161 14 := by rw [e_pd2 _ (by omega)]; exact n6
      refine gp_of (by rfl) ?_
      simp (disch := omega) only [e_wi, e_isr, e_isc, e_stp, e_rt, e_load, e_bin, e_binL, e_ld, e_s1, e_s2, e_n0, e_ok, e_cmp, e_ex, e_gif, e_id32, e_id64, e_v0, e_v1, e_v2, e_v3, e_dt, e_c1, e_sw, e_inv, e_cat, e_rcv, Fin.val_zero, Fin.val_one, Int.toNat_add, Int.toNat_mul, Int.toNat_natCast, Int.reduceToNat, Int.reduceMul, Int.reduceAdd, Int.reduceNeg, Nat.reduceAdd, Nat.reduceSub, Nat.reduceEqDiff, Nat.reduceLT, Nat.reduceLeDiff, List.getElem?_cons_zero, List.getElem?_cons_succ, List.length_cons, List.length_nil, List.take_succ_cons, List.take_zero, List.drop_succ_cons, List.drop_zero, List.reverse_cons, List.reverse_nil, List.nil_append, List.cons_append, List.append_nil, List.map_cons, List.map_nil, List.sum_cons, List.sum_nil, Bool.false_eq_true, if_false, if_true, Bool.and_true, Bool.true_and, Bool.and_self, Bool.or_true, Bool.true_or, Bool.or_false, Bool.false_or, Bool.or_self, decide_eq_true_eq, decide_true, decide_false, beq_self_eq_true, Option.map_some, reduceCtorEq, true_or, or_true, or_false, false_or, or_self, true_and, and_true, and_self, false_and, and_false, Option.some.injEq, exists_eq_left', ne_eq, not_true_eq_false, not_false_eq_true, eq_self, e_pk, e_pr, e_pn, e_ps, e_pd1, e_pd2, e_us, e_un, e_ifp, e_ifn, e_sk, e_sr, e_sn, e_ss, e_sd1, e_sd2, e_sp, mk161 h6.1.1, mk162 h6.1.1, mk163 h6.1.1, mk164 h6.1.1, mk165 h6.1.1, mk166 h6.1.1, mr0 h6.1.1, mr3 h6.1.1, mr4 h6.1.1, mr5 h6.1.1, mr6 h6.1.1, h6.x11, l46, e50]
      repeat' first
        | (refine gp_at [101] (by rfl) (by decide) ?_; simp (disch := omega) only [e_wi, e_isr, e_isc, e_stp, e_rt, e_load, e_bin, e_binL, e_ld, e_s1, e_s2, e_n0, e_ok, e_cmp, e_ex, e_gif, e_id32, e_id64, e_v0, e_v1, e_v2, e_v3, e_dt, e_c1, e_sw, e_inv, e_cat, e_rcv, Fin.val_zero, Fin.val_one, Int.toNat_add, Int.toNat_mul, Int.toNat_natCast, Int.reduceToNat, Int.reduceMul, Int.reduceAdd, Int.reduceNeg, Nat.reduceAdd, Nat.reduceSub, Nat.reduceEqDiff, Nat.reduceLT, Nat.reduceLeDiff, List.getElem?_cons_zero, List.getElem?_cons_succ, List.length_cons, List.length_nil, List.take_succ_cons, List.take_zero, List.drop_succ_cons, List.drop_zero, List.reverse_cons, List.reverse_nil, List.nil_append, List.cons_append, List.append_nil, List.map_cons, List.map_nil, List.sum_cons, List.sum_nil, Bool.false_eq_true, if_false, if_true, Bool.and_true, Bool.true_and, Bool.and_self, Bool.or_true, Bool.true_or, Bool.or_false, Bool.false_or, Bool.or_self, decide_eq_true_eq, decide_true, decide_false, beq_self_eq_true, Option.map_some, reduceCtorEq, true_or, or_true, or_false, false_or, or_self, true_and, and_true, and_self, false_and, and_false, Option.some.injEq, exists_eq_left', ne_eq, not_true_eq_false, not_false_eq_true, eq_self, e_pk, e_pr, e_pn, e_ps, e_pd1, e_pd2, e_us, e_un, e_ifp, e_ifn, e_sk, e_sr, e_sn, e_ss, e_sd1, e_sd2, e_sp, mk161 h6.1.1, mk162 h6.1.1, mk163 h6.1.1, mk164 h6.1.1, mk165 h6.1.1, mk166 h6.1.1, mr0 h6.1.1, mr3 h6.1.1, mr4 h6.1.1, mr5 h6.1.1, mr6 h6.1.1, h6.x11, l46, e50])
        | (refine And.intro (fun hc => ?_) (fun hc => ?_) <;> try (exfalso; omega))
      all_goals first | (exfalso; omega) | skip
      generalize e_put τ6 165 (48 * r + 4 * R.length + 2) ((r_len R + A.length : Nat) : Int) = τ7 at *
      refine gp_of (by rfl) ?_
      simp (disch := omega) only [e_wi, e_isr, e_isc, e_stp, e_rt, e_load, e_bin, e_binL, e_ld, e_s1, e_s2, e_n0, e_ok, e_cmp, e_ex, e_gif, e_id32, e_id64, e_v0, e_v1, e_v2, e_v3, e_dt, e_c1, e_sw, e_inv, e_cat, e_rcv, Fin.val_zero, Fin.val_one, Int.toNat_add, Int.toNat_mul, Int.toNat_natCast, Int.reduceToNat, Int.reduceMul, Int.reduceAdd, Int.reduceNeg, Nat.reduceAdd, Nat.reduceSub, Nat.reduceEqDiff, Nat.reduceLT, Nat.reduceLeDiff, List.getElem?_cons_zero, List.getElem?_cons_succ, List.length_cons, List.length_nil, List.take_succ_cons, List.take_zero, List.drop_succ_cons, List.drop_zero, List.reverse_cons, List.reverse_nil, List.nil_append, List.cons_append, List.append_nil, List.map_cons, List.map_nil, List.sum_cons, List.sum_nil, Bool.false_eq_true, if_false, if_true, Bool.and_true, Bool.true_and, Bool.and_self, Bool.or_true, Bool.true_or, Bool.or_false, Bool.false_or, Bool.or_self, decide_eq_true_eq, decide_true, decide_false, beq_self_eq_true, Option.map_some, reduceCtorEq, true_or, or_true, or_false, false_or, or_self, true_and, and_true, and_self, false_and, and_false, Option.some.injEq, exists_eq_left', ne_eq, not_true_eq_false, not_false_eq_true, eq_self, e_pk, e_pr, e_pn, e_ps, e_pd1, e_pd2, e_us, e_un, e_ifp, e_ifn, e_sk, e_sr, e_sn, e_ss, e_sd1, e_sd2, e_sp, mk161 h7.1.1, mk162 h7.1.1, mk163 h7.1.1, mk164 h7.1.1, mk165 h7.1.1, mk166 h7.1.1, mr0 h7.1.1, mr3 h7.1.1, mr4 h7.1.1, mr5 h7.1.1, mr6 h7.1.1]
      repeat' first
        | (refine gp_at [105] (by rfl) (by decide) ?_; simp (disch := omega) only [e_wi, e_isr, e_isc, e_stp, e_rt, e_load, e_bin, e_binL, e_ld, e_s1, e_s2, e_n0, e_ok, e_cmp, e_ex, e_gif, e_id32, e_id64, e_v0, e_v1, e_v2, e_v3, e_dt, e_c1, e_sw, e_inv, e_cat, e_rcv, Fin.val_zero, Fin.val_one, Int.toNat_add, Int.toNat_mul, Int.toNat_natCast, Int.reduceToNat, Int.reduceMul, Int.reduceAdd, Int.reduceNeg, Nat.reduceAdd, Nat.reduceSub, Nat.reduceEqDiff, Nat.reduceLT, Nat.reduceLeDiff, List.getElem?_cons_zero, List.getElem?_cons_succ, List.length_cons, List.length_nil, List.take_succ_cons, List.take_zero, List.drop_succ_cons, List.drop_zero, List.reverse_cons, List.reverse_nil, List.nil_append, List.cons_append, List.append_nil, List.map_cons, List.map_nil, List.sum_cons, List.sum_nil, Bool.false_eq_true, if_false, if_true, Bool.and_true, Bool.true_and, Bool.and_self, Bool.or_true, Bool.true_or, Bool.or_false, Bool.false_or, Bool.or_self, decide_eq_true_eq, decide_true, decide_false, beq_self_eq_true, Option.map_some, reduceCtorEq, true_or, or_true, or_false, false_or, or_self, true_and, and_true, and_self, false_and, and_false, Option.some.injEq, exists_eq_left', ne_eq, not_true_eq_false, not_false_eq_true, eq_self, e_pk, e_pr, e_pn, e_ps, e_pd1, e_pd2, e_us, e_un, e_ifp, e_ifn, e_sk, e_sr, e_sn, e_ss, e_sd1, e_sd2, e_sp, mk161 h7.1.1, mk162 h7.1.1, mk163 h7.1.1, mk164 h7.1.1, mk165 h7.1.1, mk166 h7.1.1, mr0 h7.1.1, mr3 h7.1.1, mr4 h7.1.1, mr5 h7.1.1, mr6 h7.1.1])
        | (refine And.intro (fun hc => ?_) (fun hc => ?_) <;> try (exfalso; omega))
        | ((refine w_tested (by omega) h7 (fun τ5 q5 v5 Bc er5 ht5 h5 => ?_) (fun τ8 e8 er8 h8 => ?_)) <;> try dsimp only [Option.toList, List.cons_append, List.nil_append, Nat.reduceAdd])
      · rw [hnx3] at er5
        rw [er5] at ecl
        dsimp only at ecl
        have hf5 : Fq r σ0 τ5 := hf7.tr (ht5.fq (by omega))
        have c5 : τ5.2.2.2.1 165 = va_up C4 (48 * r + 4 * R.length + 2) ((r_len R + A.length : Nat) : Int) := by rw [ht5.1.at 165 (by decide) (by decide)]; exact c7
        have f5 : τ5.2.2.2.1 166 r = (R.length : Int) := by rw [ht5.1.at 166 (by decide) (by decide)]; exact f7
        have n5 : τ5.2.2.2.1 161 14 = σ.2.2.2.1 161 14 := by rw [ht5.1.fd 14 (by decide)]; exact n7
        have sg5 : ∀ j, j < 400 * r + r_len R → τ5.2.2.2.1 163 j = σ.2.2.2.1 163 j := fun j hj => by rw [ht5.2 j (by omega), d7]; exact d3 j hj
        have hAt5 : r_tks (τ5.2.2.2.1 163) (400 * r + r_len R) A := r_tks_cg A _ (fun j j1 j2 => by rw [ht5.2 j (by omega), d7]) hAt
        have hBt5 : r_tks (τ5.2.2.2.1 163) (400 * r + (r_len R + A.length)) Bc := h5.2.2.2.2.2.2.2.2.1
        have l45 : τ5.2.2.2.1 164 r = ((r_len R + A.length + Bc.length : Nat) : Int) := h5.l4
        have hr5 := h5.r6
        have hen5 := h5.en
        refine gp_of (by rfl) ?_
        simp (disch := omega) only [e_wi, e_isr, e_isc, e_stp, e_rt, e_load, e_bin, e_binL, e_ld, e_s1, e_s2, e_n0, e_ok, e_cmp, e_ex, e_gif, e_id32, e_id64, e_v0, e_v1, e_v2, e_v3, e_dt, e_c1, e_sw, e_inv, e_cat, e_rcv, Fin.val_zero, Fin.val_one, Int.toNat_add, Int.toNat_mul, Int.toNat_natCast, Int.reduceToNat, Int.reduceMul, Int.reduceAdd, Int.reduceNeg, Nat.reduceAdd, Nat.reduceSub, Nat.reduceEqDiff, Nat.reduceLT, Nat.reduceLeDiff, List.getElem?_cons_zero, List.getElem?_cons_succ, List.length_cons, List.length_nil, List.take_succ_cons, List.take_zero, List.drop_succ_cons, List.drop_zero, List.reverse_cons, List.reverse_nil, List.nil_append, List.cons_append, List.append_nil, List.map_cons, List.map_nil, List.sum_cons, List.sum_nil, Bool.false_eq_true, if_false, if_true, Bool.and_true, Bool.true_and, Bool.and_self, Bool.or_true, Bool.true_or, Bool.or_false, Bool.false_or, Bool.or_self, decide_eq_true_eq, decide_true, decide_false, beq_self_eq_true, Option.map_some, reduceCtorEq, true_or, or_true, or_false, false_or, or_self, true_and, and_true, and_self, false_and, and_false, Option.some.injEq, exists_eq_left', ne_eq, not_true_eq_false, not_false_eq_true, eq_self, e_pk, e_pr, e_pn, e_ps, e_pd1, e_pd2, e_us, e_un, e_ifp, e_ifn, e_sk, e_sr, e_sn, e_ss, e_sd1, e_sd2, e_sp, mk161 h5.1.1, mk162 h5.1.1, mk163 h5.1.1, mk164 h5.1.1, mk165 h5.1.1, mk166 h5.1.1, mr0 h5.1.1, mr3 h5.1.1, mr4 h5.1.1, mr5 h5.1.1, mr6 h5.1.1]
        repeat' first
          | (refine gp_at [110] (by rfl) (by decide) ?_; simp (disch := omega) only [e_wi, e_isr, e_isc, e_stp, e_rt, e_load, e_bin, e_binL, e_ld, e_s1, e_s2, e_n0, e_ok, e_cmp, e_ex, e_gif, e_id32, e_id64, e_v0, e_v1, e_v2, e_v3, e_dt, e_c1, e_sw, e_inv, e_cat, e_rcv, Fin.val_zero, Fin.val_one, Int.toNat_add, Int.toNat_mul, Int.toNat_natCast, Int.reduceToNat, Int.reduceMul, Int.reduceAdd, Int.reduceNeg, Nat.reduceAdd, Nat.reduceSub, Nat.reduceEqDiff, Nat.reduceLT, Nat.reduceLeDiff, List.getElem?_cons_zero, List.getElem?_cons_succ, List.length_cons, List.length_nil, List.take_succ_cons, List.take_zero, List.drop_succ_cons, List.drop_zero, List.reverse_cons, List.reverse_nil, List.nil_append, List.cons_append, List.append_nil, List.map_cons, List.map_nil, List.sum_cons, List.sum_nil, Bool.false_eq_true, if_false, if_true, Bool.and_true, Bool.true_and, Bool.and_self, Bool.or_true, Bool.true_or, Bool.or_false, Bool.false_or, Bool.or_self, decide_eq_true_eq, decide_true, decide_false, beq_self_eq_true, Option.map_some, reduceCtorEq, true_or, or_true, or_false, false_or, or_self, true_and, and_true, and_self, false_and, and_false, Option.some.injEq, exists_eq_left', ne_eq, not_true_eq_false, not_false_eq_true, eq_self, e_pk, e_pr, e_pn, e_ps, e_pd1, e_pd2, e_us, e_un, e_ifp, e_ifn, e_sk, e_sr, e_sn, e_ss, e_sd1, e_sd2, e_sp, mk161 h5.1.1, mk162 h5.1.1, mk163 h5.1.1, mk164 h5.1.1, mk165 h5.1.1, mk166 h5.1.1, mr0 h5.1.1, mr3 h5.1.1, mr4 h5.1.1, mr5 h5.1.1, mr6 h5.1.1])
          | (refine And.intro (fun hc => ?_) (fun hc => ?_) <;> try (exfalso; omega))
        have e53 : ((48 * r + 4 * R.length : Nat) : Int) + 3 = ((48 * r + 4 * R.length + 3 : Nat) : Int) := by omega
        have gc := gcl _ ecl
        dsimp only at gc
        have h6 := h5.c5 (j := 48 * r + 4 * R.length + 3) (x := ((r_len R + A.length + Bc.length : Nat) : Int))
        have hf6 := hf5.c5 (j := 48 * r + 4 * R.length + 3) (x := ((r_len R + A.length + Bc.length : Nat) : Int)) (by omega)
        have hs7 : Sm [163, 164, 165, 166, 168] [8, 9, 10, 12, 13, 14, 16] (e_put τ5 165 (48 * r + 4 * R.length + 3) ((r_len R + A.length + Bc.length : Nat) : Int)) (e_put (e_put τ5 165 (48 * r + 4 * R.length + 3) ((r_len R + A.length + Bc.length : Nat) : Int)) 166 r ((R.length : Int) + 1)) := (Sm.rf _ _ _).put (by decide) (by decide)
        have hs8 : Sm [166] [] (e_put τ5 165 (48 * r + 4 * R.length + 3) ((r_len R + A.length + Bc.length : Nat) : Int)) (e_put (e_put τ5 165 (48 * r + 4 * R.length + 3) ((r_len R + A.length + Bc.length : Nat) : Int)) 166 r ((R.length : Int) + 1)) := (Sm.rf _ _ _).put (by decide) (by decide)
        have hMc : Mc σ0 r B t q5 v5 (R ++ [(A, some Bc)]) (e_put (e_put τ5 165 (48 * r + 4 * R.length + 3) ((r_len R + A.length + Bc.length : Nat) : Int)) 166 r ((R.length : Int) + 1)) := by
          refine ⟨hf6.tr ⟨hs7, fun j hj => by rw [e_pd2 _ (by omega)], fun j hj => by rw [e_pd2 _ (by omega)], fun j hj => by rw [e_pd1, e_un _ hj]⟩, ?_, ?_, ?_, ?_, r_rok_sn R hrok gc.2.2.2.2.1⟩
          · have h7 := h6.n5
            obtain ⟨⟨g0, g1, g2, g3, g4⟩, k1, k2, k3, k4, k5, k6, k7, k8, k9⟩ := h7
            have elen : r_len R + A.length + Bc.length = r_len (R ++ [(A, some Bc)]) := by
              rw [r_len_sn]
              show r_len R + A.length + Bc.length = r_len R + (A.length + Bc.length + 0); omega
            rw [elen] at k7 k8 k9
            refine ⟨⟨hs8.mo g0, ?_, ?_, ?_, g4⟩, Fs.rf _ _, ?_, ?_, k4, ?_, k6, ?_, ?_, k9⟩
            · rw [hs8.fd _ (by decide)]; exact g1
            · rw [hs8.at _ (by decide) (by decide)]; exact g2
            · rw [hs8.fd _ (by decide)]; exact g3
            · rw [hs8.fd _ (by decide)]; exact k2
            · rw [hs8.fd _ (by decide)]; exact k3
            · rw [hs8.fd _ (by decide)]; exact k5
            · rw [hs8.at _ (by decide) (by decide)]; exact k7
            · exact trivial
          · rw [e_pd2 _ (by omega), e_pd2 _ (by omega), e_pd2 _ (by omega), e_pd1, c5]
            refine r_cls_sn R 0 0 (r_cls_cg R 0 0 (fun j hj => sg5 j (by omega)) (fun j hj => by rw [e_un _ (by omega), e_un _ (by omega), hC4, e_un _ (by omega), e_un _ (by omega), e_un _ (by omega)]) hcls) ?_
            rw [Nat.zero_add, Nat.zero_add]
            refine ⟨hAt5, by omega, ?_, ?_, ?_, ?_, hBt5, trivial⟩
            · rw [e_un _ (by omega), e_un _ (by omega), hC4, e_un _ (by omega), e_un _ (by omega), e_us]
            · rw [e_un _ (by omega), e_un _ (by omega), hC4, e_un _ (by omega), e_us]
            · rw [e_un _ (by omega), e_us]
            · rw [e_us]
          · rw [e_pd1, e_us, List.length_append, List.length_cons, List.length_nil]
            omega
          · rw [List.length_append, List.length_cons, List.length_nil]
            omega
        have g14 : (e_put (e_put τ5 165 (48 * r + 4 * R.length + 3) ((r_len R + A.length + Bc.length : Nat) : Int)) 166 r ((R.length : Int) + 1)).2.2.2.1 161 14 = σ.2.2.2.1 161 14 := by rw [e_pd2 _ (by omega), e_pd2 _ (by omega)]; exact n5
        refine gp_of (by rfl) ?_
        simp (disch := omega) only [e_wi, e_isr, e_isc, e_stp, e_rt, e_load, e_bin, e_binL, e_ld, e_s1, e_s2, e_n0, e_ok, e_cmp, e_ex, e_gif, e_id32, e_id64, e_v0, e_v1, e_v2, e_v3, e_dt, e_c1, e_sw, e_inv, e_cat, e_rcv, Fin.val_zero, Fin.val_one, Int.toNat_add, Int.toNat_mul, Int.toNat_natCast, Int.reduceToNat, Int.reduceMul, Int.reduceAdd, Int.reduceNeg, Nat.reduceAdd, Nat.reduceSub, Nat.reduceEqDiff, Nat.reduceLT, Nat.reduceLeDiff, List.getElem?_cons_zero, List.getElem?_cons_succ, List.length_cons, List.length_nil, List.take_succ_cons, List.take_zero, List.drop_succ_cons, List.drop_zero, List.reverse_cons, List.reverse_nil, List.nil_append, List.cons_append, List.append_nil, List.map_cons, List.map_nil, List.sum_cons, List.sum_nil, Bool.false_eq_true, if_false, if_true, Bool.and_true, Bool.true_and, Bool.and_self, Bool.or_true, Bool.true_or, Bool.or_false, Bool.false_or, Bool.or_self, decide_eq_true_eq, decide_true, decide_false, beq_self_eq_true, Option.map_some, reduceCtorEq, true_or, or_true, or_false, false_or, or_self, true_and, and_true, and_self, false_and, and_false, Option.some.injEq, exists_eq_left', ne_eq, not_true_eq_false, not_false_eq_true, eq_self, e_pk, e_pr, e_pn, e_ps, e_pd1, e_pd2, e_us, e_un, e_ifp, e_ifn, e_sk, e_sr, e_sn, e_ss, e_sd1, e_sd2, e_sp, mk161 h5.1.1, mk162 h5.1.1, mk163 h5.1.1, mk164 h5.1.1, mk165 h5.1.1, mk166 h5.1.1, mr0 h5.1.1, mr3 h5.1.1, mr4 h5.1.1, mr5 h5.1.1, mr6 h5.1.1, h5.x11, l45, e53, f5]
        repeat' first
          | (refine gp_at [] (by rfl) (by decide) ?_; simp (disch := omega) only [e_wi, e_isr, e_isc, e_stp, e_rt, e_load, e_bin, e_binL, e_ld, e_s1, e_s2, e_n0, e_ok, e_cmp, e_ex, e_gif, e_id32, e_id64, e_v0, e_v1, e_v2, e_v3, e_dt, e_c1, e_sw, e_inv, e_cat, e_rcv, Fin.val_zero, Fin.val_one, Int.toNat_add, Int.toNat_mul, Int.toNat_natCast, Int.reduceToNat, Int.reduceMul, Int.reduceAdd, Int.reduceNeg, Nat.reduceAdd, Nat.reduceSub, Nat.reduceEqDiff, Nat.reduceLT, Nat.reduceLeDiff, List.getElem?_cons_zero, List.getElem?_cons_succ, List.length_cons, List.length_nil, List.take_succ_cons, List.take_zero, List.drop_succ_cons, List.drop_zero, List.reverse_cons, List.reverse_nil, List.nil_append, List.cons_append, List.append_nil, List.map_cons, List.map_nil, List.sum_cons, List.sum_nil, Bool.false_eq_true, if_false, if_true, Bool.and_true, Bool.true_and, Bool.and_self, Bool.or_true, Bool.true_or, Bool.or_false, Bool.false_or, Bool.or_self, decide_eq_true_eq, decide_true, decide_false, beq_self_eq_true, Option.map_some, reduceCtorEq, true_or, or_true, or_false, false_or, or_self, true_and, and_true, and_self, false_and, and_false, Option.some.injEq, exists_eq_left', ne_eq, not_true_eq_false, not_false_eq_true, eq_self, e_pk, e_pr, e_pn, e_ps, e_pd1, e_pd2, e_us, e_un, e_ifp, e_ifn, e_sk, e_sr, e_sn, e_ss, e_sd1, e_sd2, e_sp, mk161 h5.1.1, mk162 h5.1.1, mk163 h5.1.1, mk164 h5.1.1, mk165 h5.1.1, mk166 h5.1.1, mr0 h5.1.1, mr3 h5.1.1, mr4 h5.1.1, mr5 h5.1.1, mr6 h5.1.1, h5.x11, l45, e53, f5])
          | (refine And.intro (fun hc => ?_) (fun hc => ?_) <;> try (exfalso; omega))
        all_goals first | exact hG _ _ _ _ ecl hMc g14 | exact hG _ (k_sk B t q3) _ _ (by rw [hss3]; exact ecl) hMc g14 | (exfalso; omega) | skip
      · rw [hnx3] at er8
        rw [er8] at ecl
        dsimp only at ecl
        have h9 : Mx σ0 r e8 τ8 := ⟨h8.1, hf7.tr (h8.2.1.fq (by omega)), h8.2.2⟩
        refine gp_of (by rfl) ?_
        simp (disch := omega) only [e_wi, e_isr, e_isc, e_stp, e_rt, e_load, e_bin, e_binL, e_ld, e_s1, e_s2, e_n0, e_ok, e_cmp, e_ex, e_gif, e_id32, e_id64, e_v0, e_v1, e_v2, e_v3, e_dt, e_c1, e_sw, e_inv, e_cat, e_rcv, Fin.val_zero, Fin.val_one, Int.toNat_add, Int.toNat_mul, Int.toNat_natCast, Int.reduceToNat, Int.reduceMul, Int.reduceAdd, Int.reduceNeg, Nat.reduceAdd, Nat.reduceSub, Nat.reduceEqDiff, Nat.reduceLT, Nat.reduceLeDiff, List.getElem?_cons_zero, List.getElem?_cons_succ, List.length_cons, List.length_nil, List.take_succ_cons, List.take_zero, List.drop_succ_cons, List.drop_zero, List.reverse_cons, List.reverse_nil, List.nil_append, List.cons_append, List.append_nil, List.map_cons, List.map_nil, List.sum_cons, List.sum_nil, Bool.false_eq_true, if_false, if_true, Bool.and_true, Bool.true_and, Bool.and_self, Bool.or_true, Bool.true_or, Bool.or_false, Bool.false_or, Bool.or_self, decide_eq_true_eq, decide_true, decide_false, beq_self_eq_true, Option.map_some, reduceCtorEq, true_or, or_true, or_false, false_or, or_self, true_and, and_true, and_self, false_and, and_false, Option.some.injEq, exists_eq_left', ne_eq, not_true_eq_false, not_false_eq_true, eq_self, e_pk, e_pr, e_pn, e_ps, e_pd1, e_pd2, e_us, e_un, e_ifp, e_ifn, e_sk, e_sr, e_sn, e_ss, e_sd1, e_sd2, e_sp, mk161 h8.1]
        repeat' first
          | (refine gp_at [] (by rfl) (by decide) ?_; simp (disch := omega) only [e_wi, e_isr, e_isc, e_stp, e_rt, e_load, e_bin, e_binL, e_ld, e_s1, e_s2, e_n0, e_ok, e_cmp, e_ex, e_gif, e_id32, e_id64, e_v0, e_v1, e_v2, e_v3, e_dt, e_c1, e_sw, e_inv, e_cat, e_rcv, Fin.val_zero, Fin.val_one, Int.toNat_add, Int.toNat_mul, Int.toNat_natCast, Int.reduceToNat, Int.reduceMul, Int.reduceAdd, Int.reduceNeg, Nat.reduceAdd, Nat.reduceSub, Nat.reduceEqDiff, Nat.reduceLT, Nat.reduceLeDiff, List.getElem?_cons_zero, List.getElem?_cons_succ, List.length_cons, List.length_nil, List.take_succ_cons, List.take_zero, List.drop_succ_cons, List.drop_zero, List.reverse_cons, List.reverse_nil, List.nil_append, List.cons_append, List.append_nil, List.map_cons, List.map_nil, List.sum_cons, List.sum_nil, Bool.false_eq_true, if_false, if_true, Bool.and_true, Bool.true_and, Bool.and_self, Bool.or_true, Bool.true_or, Bool.or_false, Bool.false_or, Bool.or_self, decide_eq_true_eq, decide_true, decide_false, beq_self_eq_true, Option.map_some, reduceCtorEq, true_or, or_true, or_false, false_or, or_self, true_and, and_true, and_self, false_and, and_false, Option.some.injEq, exists_eq_left', ne_eq, not_true_eq_false, not_false_eq_true, eq_self, e_pk, e_pr, e_pn, e_ps, e_pd1, e_pd2, e_us, e_un, e_ifp, e_ifn, e_sk, e_sr, e_sn, e_ss, e_sd1, e_sd2, e_sp, mk161 h8.1])
          | (refine And.intro (fun hc => ?_) (fun hc => ?_) <;> try (exfalso; omega))
        all_goals first | exact hF _ _ ecl h9 | (exfalso; omega) | skip
    · skip
      rw [if_neg hif] at ecl
      have hnw : k_wv B t (k_sk B t q3) ≠ 0x6966 := fun q => hif (k_kw15.1 q)
      have hss3 := k_sk_sk B t q3 (by omega)
      have h5 := (h4.at (x := k_sk B t q3) (by omega) (by omega)).r0
      have hf5 : Fq r σ0 (k_at τ4 (k_sk B t q3)) := hf4.tr (((Fs.rf (400 * r) τ4).pf (i := 8) (by decide)).fq (Nat.le_refl _))
      have c5 : (k_at τ4 (k_sk B t q3)).2.2.2.1 165 = C4 := by
        unfold k_at
        rw [e_pd2 _ (by omega)]
        exact c4
      have f5 : (k_at τ4 (k_sk B t q3)).2.2.2.1 166 r = (R.length : Int) := by
        unfold k_at
        rw [e_pd2 _ (by omega)]
        exact f4
      have d5 : (k_at τ4 (k_sk B t q3)).2.2.2.1 163 = τ3.2.2.2.1 163 := by
        unfold k_at
        rw [e_pd2 _ (by omega)]
        exact d4
      have n5 : (k_at τ4 (k_sk B t q3)).2.2.2.1 161 14 = σ.2.2.2.1 161 14 := by
        unfold k_at
        rw [e_pd1, e_un _ (by omega)]
        exact n4
      refine gp_of (by rfl) ?_
      simp (disch := omega) only [e_wi, e_isr, e_isc, e_stp, e_rt, e_load, e_bin, e_binL, e_ld, e_s1, e_s2, e_n0, e_ok, e_cmp, e_ex, e_gif, e_id32, e_id64, e_v0, e_v1, e_v2, e_v3, e_dt, e_c1, e_sw, e_inv, e_cat, e_rcv, Fin.val_zero, Fin.val_one, Int.toNat_add, Int.toNat_mul, Int.toNat_natCast, Int.reduceToNat, Int.reduceMul, Int.reduceAdd, Int.reduceNeg, Nat.reduceAdd, Nat.reduceSub, Nat.reduceEqDiff, Nat.reduceLT, Nat.reduceLeDiff, List.getElem?_cons_zero, List.getElem?_cons_succ, List.length_cons, List.length_nil, List.take_succ_cons, List.take_zero, List.drop_succ_cons, List.drop_zero, List.reverse_cons, List.reverse_nil, List.nil_append, List.cons_append, List.append_nil, List.map_cons, List.map_nil, List.sum_cons, List.sum_nil, Bool.false_eq_true, if_false, if_true, Bool.and_true, Bool.true_and, Bool.and_self, Bool.or_true, Bool.true_or, Bool.or_false, Bool.false_or, Bool.or_self, decide_eq_true_eq, decide_true, decide_false, beq_self_eq_true, Option.map_some, reduceCtorEq, true_or, or_true, or_false, false_or, or_self, true_and, and_true, and_self, false_and, and_false, Option.some.injEq, exists_eq_left', ne_eq, not_true_eq_false, not_false_eq_true, eq_self, e_pk, e_pr, e_pn, e_ps, e_pd1, e_pd2, e_us, e_un, e_ifp, e_ifn, e_sk, e_sr, e_sn, e_ss, e_sd1, e_sd2, e_sp, mk161 h4.1.1, mk162 h4.1.1, mk163 h4.1.1, mk164 h4.1.1, mk165 h4.1.1, mk166 h4.1.1, mr0 h4.1.1, mr3 h4.1.1, mr4 h4.1.1, mr5 h4.1.1, mr6 h4.1.1]
      repeat' first
        | (refine gp_at [81] (by rfl) (by decide) ?_; simp (disch := omega) only [e_wi, e_isr, e_isc, e_stp, e_rt, e_load, e_bin, e_binL, e_ld, e_s1, e_s2, e_n0, e_ok, e_cmp, e_ex, e_gif, e_id32, e_id64, e_v0, e_v1, e_v2, e_v3, e_dt, e_c1, e_sw, e_inv, e_cat, e_rcv, Fin.val_zero, Fin.val_one, Int.toNat_add, Int.toNat_mul, Int.toNat_natCast, Int.reduceToNat, Int.reduceMul, Int.reduceAdd, Int.reduceNeg, Nat.reduceAdd, Nat.reduceSub, Nat.reduceEqDiff, Nat.reduceLT, Nat.reduceLeDiff, List.getElem?_cons_zero, List.getElem?_cons_succ, List.length_cons, List.length_nil, List.take_succ_cons, List.take_zero, List.drop_succ_cons, List.drop_zero, List.reverse_cons, List.reverse_nil, List.nil_append, List.cons_append, List.append_nil, List.map_cons, List.map_nil, List.sum_cons, List.sum_nil, Bool.false_eq_true, if_false, if_true, Bool.and_true, Bool.true_and, Bool.and_self, Bool.or_true, Bool.true_or, Bool.or_false, Bool.false_or, Bool.or_self, decide_eq_true_eq, decide_true, decide_false, beq_self_eq_true, Option.map_some, reduceCtorEq, true_or, or_true, or_false, false_or, or_self, true_and, and_true, and_self, false_and, and_false, Option.some.injEq, exists_eq_left', ne_eq, not_true_eq_false, not_false_eq_true, eq_self, e_pk, e_pr, e_pn, e_ps, e_pd1, e_pd2, e_us, e_un, e_ifp, e_ifn, e_sk, e_sr, e_sn, e_ss, e_sd1, e_sd2, e_sp, mk161 h4.1.1, mk162 h4.1.1, mk163 h4.1.1, mk164 h4.1.1, mk165 h4.1.1, mk166 h4.1.1, mr0 h4.1.1, mr3 h4.1.1, mr4 h4.1.1, mr5 h4.1.1, mr6 h4.1.1])
        | (refine And.intro (fun hc => ?_) (fun hc => ?_) <;> try (exfalso; omega))
        | ((refine w_takes (by omega) h4.1 (by omega) (fun q9 => absurd q9 hnw) (fun q9 => ?_)) <;> try dsimp only [Option.toList, List.cons_append, List.nil_append, Nat.reduceAdd])
      generalize k_at τ4 (k_sk B t q3) = τ5 at *
      have sg5 : ∀ j, j < 400 * r + r_len R → τ5.2.2.2.1 163 j = σ.2.2.2.1 163 j := fun j hj => by rw [d5]; exact d3 j hj
      have hAt5 : r_tks (τ5.2.2.2.1 163) (400 * r + r_len R) A := by rw [d5]; exact hAt
      have l45 : τ5.2.2.2.1 164 r = ((r_len R + A.length : Nat) : Int) := h5.l4
      refine gp_of (by rfl) ?_
      simp (disch := omega) only [e_wi, e_isr, e_isc, e_stp, e_rt, e_load, e_bin, e_binL, e_ld, e_s1, e_s2, e_n0, e_ok, e_cmp, e_ex, e_gif, e_id32, e_id64, e_v0, e_v1, e_v2, e_v3, e_dt, e_c1, e_sw, e_inv, e_cat, e_rcv, Fin.val_zero, Fin.val_one, Int.toNat_add, Int.toNat_mul, Int.toNat_natCast, Int.reduceToNat, Int.reduceMul, Int.reduceAdd, Int.reduceNeg, Nat.reduceAdd, Nat.reduceSub, Nat.reduceEqDiff, Nat.reduceLT, Nat.reduceLeDiff, List.getElem?_cons_zero, List.getElem?_cons_succ, List.length_cons, List.length_nil, List.take_succ_cons, List.take_zero, List.drop_succ_cons, List.drop_zero, List.reverse_cons, List.reverse_nil, List.nil_append, List.cons_append, List.append_nil, List.map_cons, List.map_nil, List.sum_cons, List.sum_nil, Bool.false_eq_true, if_false, if_true, Bool.and_true, Bool.true_and, Bool.and_self, Bool.or_true, Bool.true_or, Bool.or_false, Bool.false_or, Bool.or_self, decide_eq_true_eq, decide_true, decide_false, beq_self_eq_true, Option.map_some, reduceCtorEq, true_or, or_true, or_false, false_or, or_self, true_and, and_true, and_self, false_and, and_false, Option.some.injEq, exists_eq_left', ne_eq, not_true_eq_false, not_false_eq_true, eq_self, e_pk, e_pr, e_pn, e_ps, e_pd1, e_pd2, e_us, e_un, e_ifp, e_ifn, e_sk, e_sr, e_sn, e_ss, e_sd1, e_sd2, e_sp, mk161 h5.1.1, mk162 h5.1.1, mk163 h5.1.1, mk164 h5.1.1, mk165 h5.1.1, mk166 h5.1.1, mr0 h5.1.1, mr3 h5.1.1, mr4 h5.1.1, mr5 h5.1.1, mr6 h5.1.1]
      repeat' first
        | (refine gp_at [110] (by rfl) (by decide) ?_; simp (disch := omega) only [e_wi, e_isr, e_isc, e_stp, e_rt, e_load, e_bin, e_binL, e_ld, e_s1, e_s2, e_n0, e_ok, e_cmp, e_ex, e_gif, e_id32, e_id64, e_v0, e_v1, e_v2, e_v3, e_dt, e_c1, e_sw, e_inv, e_cat, e_rcv, Fin.val_zero, Fin.val_one, Int.toNat_add, Int.toNat_mul, Int.toNat_natCast, Int.reduceToNat, Int.reduceMul, Int.reduceAdd, Int.reduceNeg, Nat.reduceAdd, Nat.reduceSub, Nat.reduceEqDiff, Nat.reduceLT, Nat.reduceLeDiff, List.getElem?_cons_zero, List.getElem?_cons_succ, List.length_cons, List.length_nil, List.take_succ_cons, List.take_zero, List.drop_succ_cons, List.drop_zero, List.reverse_cons, List.reverse_nil, List.nil_append, List.cons_append, List.append_nil, List.map_cons, List.map_nil, List.sum_cons, List.sum_nil, Bool.false_eq_true, if_false, if_true, Bool.and_true, Bool.true_and, Bool.and_self, Bool.or_true, Bool.true_or, Bool.or_false, Bool.false_or, Bool.or_self, decide_eq_true_eq, decide_true, decide_false, beq_self_eq_true, Option.map_some, reduceCtorEq, true_or, or_true, or_false, false_or, or_self, true_and, and_true, and_self, false_and, and_false, Option.some.injEq, exists_eq_left', ne_eq, not_true_eq_false, not_false_eq_true, eq_self, e_pk, e_pr, e_pn, e_ps, e_pd1, e_pd2, e_us, e_un, e_ifp, e_ifn, e_sk, e_sr, e_sn, e_ss, e_sd1, e_sd2, e_sp, mk161 h5.1.1, mk162 h5.1.1, mk163 h5.1.1, mk164 h5.1.1, mk165 h5.1.1, mk166 h5.1.1, mr0 h5.1.1, mr3 h5.1.1, mr4 h5.1.1, mr5 h5.1.1, mr6 h5.1.1])
        | (refine And.intro (fun hc => ?_) (fun hc => ?_) <;> try (exfalso; omega))
      have e53 : ((48 * r + 4 * R.length : Nat) : Int) + 3 = ((48 * r + 4 * R.length + 3 : Nat) : Int) := by omega
      have gc := gcl _ ecl
      dsimp only at gc
      have h6 := h5.c5 (j := 48 * r + 4 * R.length + 3) (x := ((r_len R + A.length : Nat) : Int))
      have hf6 := hf5.c5 (j := 48 * r + 4 * R.length + 3) (x := ((r_len R + A.length : Nat) : Int)) (by omega)
      have hs7 : Sm [163, 164, 165, 166, 168] [8, 9, 10, 12, 13, 14, 16] (e_put τ5 165 (48 * r + 4 * R.length + 3) ((r_len R + A.length : Nat) : Int)) (e_put (e_put τ5 165 (48 * r + 4 * R.length + 3) ((r_len R + A.length : Nat) : Int)) 166 r ((R.length : Int) + 1)) := (Sm.rf _ _ _).put (by decide) (by decide)
      have hs8 : Sm [166] [] (e_put τ5 165 (48 * r + 4 * R.length + 3) ((r_len R + A.length : Nat) : Int)) (e_put (e_put τ5 165 (48 * r + 4 * R.length + 3) ((r_len R + A.length : Nat) : Int)) 166 r ((R.length : Int) + 1)) := (Sm.rf _ _ _).put (by decide) (by decide)
      have hMc : Mc σ0 r B t (k_sk B t q3) v3 (R ++ [(A, none)]) (e_put (e_put τ5 165 (48 * r + 4 * R.length + 3) ((r_len R + A.length : Nat) : Int)) 166 r ((R.length : Int) + 1)) := by
        refine ⟨hf6.tr ⟨hs7, fun j hj => by rw [e_pd2 _ (by omega)], fun j hj => by rw [e_pd2 _ (by omega)], fun j hj => by rw [e_pd1, e_un _ hj]⟩, ?_, ?_, ?_, ?_, r_rok_sn R hrok gc.2.2.2.2.1⟩
        · have h7 := h6.n5
          obtain ⟨⟨g0, g1, g2, g3, g4⟩, k1, k2, k3, k4, k5, k6, k7, k8, k9⟩ := h7
          have elen : r_len R + A.length = r_len (R ++ [(A, none)]) := by
            rw [r_len_sn]
            rfl
          rw [elen] at k7 k8 k9
          refine ⟨⟨hs8.mo g0, ?_, ?_, ?_, g4⟩, Fs.rf _ _, ?_, ?_, k4, ?_, k6, ?_, ?_, k9⟩
          · rw [hs8.fd _ (by decide)]; exact g1
          · rw [hs8.at _ (by decide) (by decide)]; exact g2
          · rw [hs8.fd _ (by decide)]; exact g3
          · rw [hs8.fd _ (by decide)]; exact k2
          · rw [hs8.fd _ (by decide)]; exact k3
          · rw [hs8.fd _ (by decide)]; exact k5
          · rw [hs8.at _ (by decide) (by decide)]; exact k7
          · exact trivial
        · rw [e_pd2 _ (by omega), e_pd2 _ (by omega), e_pd2 _ (by omega), e_pd1, c5]
          refine r_cls_sn R 0 0 (r_cls_cg R 0 0 (fun j hj => sg5 j (by omega)) (fun j hj => by rw [e_un _ (by omega), hC4, e_un _ (by omega), e_un _ (by omega), e_un _ (by omega)]) hcls) ?_
          rw [Nat.zero_add, Nat.zero_add]
          refine ⟨hAt5, by omega, ?_, ?_, ?_, trivial⟩
          · rw [e_un _ (by omega), hC4, e_un _ (by omega), e_un _ (by omega), e_us]
          · rw [e_un _ (by omega), hC4, e_un _ (by omega), e_us]
          · rw [e_un _ (by omega), hC4, e_us]
        · rw [e_pd1, e_us, List.length_append, List.length_cons, List.length_nil]
          omega
        · rw [List.length_append, List.length_cons, List.length_nil]
          omega
      have g14 : (e_put (e_put τ5 165 (48 * r + 4 * R.length + 3) ((r_len R + A.length : Nat) : Int)) 166 r ((R.length : Int) + 1)).2.2.2.1 161 14 = σ.2.2.2.1 161 14 := by rw [e_pd2 _ (by omega), e_pd2 _ (by omega)]; exact n5
      refine gp_of (by rfl) ?_
      simp (disch := omega) only [e_wi, e_isr, e_isc, e_stp, e_rt, e_load, e_bin, e_binL, e_ld, e_s1, e_s2, e_n0, e_ok, e_cmp, e_ex, e_gif, e_id32, e_id64, e_v0, e_v1, e_v2, e_v3, e_dt, e_c1, e_sw, e_inv, e_cat, e_rcv, Fin.val_zero, Fin.val_one, Int.toNat_add, Int.toNat_mul, Int.toNat_natCast, Int.reduceToNat, Int.reduceMul, Int.reduceAdd, Int.reduceNeg, Nat.reduceAdd, Nat.reduceSub, Nat.reduceEqDiff, Nat.reduceLT, Nat.reduceLeDiff, List.getElem?_cons_zero, List.getElem?_cons_succ, List.length_cons, List.length_nil, List.take_succ_cons, List.take_zero, List.drop_succ_cons, List.drop_zero, List.reverse_cons, List.reverse_nil, List.nil_append, List.cons_append, List.append_nil, List.map_cons, List.map_nil, List.sum_cons, List.sum_nil, Bool.false_eq_true, if_false, if_true, Bool.and_true, Bool.true_and, Bool.and_self, Bool.or_true, Bool.true_or, Bool.or_false, Bool.false_or, Bool.or_self, decide_eq_true_eq, decide_true, decide_false, beq_self_eq_true, Option.map_some, reduceCtorEq, true_or, or_true, or_false, false_or, or_self, true_and, and_true, and_self, false_and, and_false, Option.some.injEq, exists_eq_left', ne_eq, not_true_eq_false, not_false_eq_true, eq_self, e_pk, e_pr, e_pn, e_ps, e_pd1, e_pd2, e_us, e_un, e_ifp, e_ifn, e_sk, e_sr, e_sn, e_ss, e_sd1, e_sd2, e_sp, mk161 h5.1.1, mk162 h5.1.1, mk163 h5.1.1, mk164 h5.1.1, mk165 h5.1.1, mk166 h5.1.1, mr0 h5.1.1, mr3 h5.1.1, mr4 h5.1.1, mr5 h5.1.1, mr6 h5.1.1, h5.x11, l45, e53, f5]
      repeat' first
        | (refine gp_at [] (by rfl) (by decide) ?_; simp (disch := omega) only [e_wi, e_isr, e_isc, e_stp, e_rt, e_load, e_bin, e_binL, e_ld, e_s1, e_s2, e_n0, e_ok, e_cmp, e_ex, e_gif, e_id32, e_id64, e_v0, e_v1, e_v2, e_v3, e_dt, e_c1, e_sw, e_inv, e_cat, e_rcv, Fin.val_zero, Fin.val_one, Int.toNat_add, Int.toNat_mul, Int.toNat_natCast, Int.reduceToNat, Int.reduceMul, Int.reduceAdd, Int.reduceNeg, Nat.reduceAdd, Nat.reduceSub, Nat.reduceEqDiff, Nat.reduceLT, Nat.reduceLeDiff, List.getElem?_cons_zero, List.getElem?_cons_succ, List.length_cons, List.length_nil, List.take_succ_cons, List.take_zero, List.drop_succ_cons, List.drop_zero, List.reverse_cons, List.reverse_nil, List.nil_append, List.cons_append, List.append_nil, List.map_cons, List.map_nil, List.sum_cons, List.sum_nil, Bool.false_eq_true, if_false, if_true, Bool.and_true, Bool.true_and, Bool.and_self, Bool.or_true, Bool.true_or, Bool.or_false, Bool.false_or, Bool.or_self, decide_eq_true_eq, decide_true, decide_false, beq_self_eq_true, Option.map_some, reduceCtorEq, true_or, or_true, or_false, false_or, or_self, true_and, and_true, and_self, false_and, and_false, Option.some.injEq, exists_eq_left', ne_eq, not_true_eq_false, not_false_eq_true, eq_self, e_pk, e_pr, e_pn, e_ps, e_pd1, e_pd2, e_us, e_un, e_ifp, e_ifn, e_sk, e_sr, e_sn, e_ss, e_sd1, e_sd2, e_sp, mk161 h5.1.1, mk162 h5.1.1, mk163 h5.1.1, mk164 h5.1.1, mk165 h5.1.1, mk166 h5.1.1, mr0 h5.1.1, mr3 h5.1.1, mr4 h5.1.1, mr5 h5.1.1, mr6 h5.1.1, h5.x11, l45, e53, f5])
        | (refine And.intro (fun hc => ?_) (fun hc => ?_) <;> try (exfalso; omega))
      all_goals first | exact hG _ _ _ _ ecl hMc g14 | exact hG _ (k_sk B t q3) _ _ (by rw [hss3]; exact ecl) hMc g14 | (exfalso; omega) | skip
  · rw [hnx] at er
    have ecl : k_cl B t v p = .inl e3 := by
      unfold k_cl
      rw [er]
    have h4 : Mx σ0 r e3 τ3 := ⟨h3.1, hf2.tr (h3.2.1.fq (by omega)), h3.2.2⟩
    refine gp_of (by rfl) ?_
    simp (disch := omega) only [e_wi, e_isr, e_isc, e_stp, e_rt, e_load, e_bin, e_binL, e_ld, e_s1, e_s2, e_n0, e_ok, e_cmp, e_ex, e_gif, e_id32, e_id64, e_v0, e_v1, e_v2, e_v3, e_dt, e_c1, e_sw, e_inv, e_cat, e_rcv, Fin.val_zero, Fin.val_one, Int.toNat_add, Int.toNat_mul, Int.toNat_natCast, Int.reduceToNat, Int.reduceMul, Int.reduceAdd, Int.reduceNeg, Nat.reduceAdd, Nat.reduceSub, Nat.reduceEqDiff, Nat.reduceLT, Nat.reduceLeDiff, List.getElem?_cons_zero, List.getElem?_cons_succ, List.length_cons, List.length_nil, List.take_succ_cons, List.take_zero, List.drop_succ_cons, List.drop_zero, List.reverse_cons, List.reverse_nil, List.nil_append, List.cons_append, List.append_nil, List.map_cons, List.map_nil, List.sum_cons, List.sum_nil, Bool.false_eq_true, if_false, if_true, Bool.and_true, Bool.true_and, Bool.and_self, Bool.or_true, Bool.true_or, Bool.or_false, Bool.false_or, Bool.or_self, decide_eq_true_eq, decide_true, decide_false, beq_self_eq_true, Option.map_some, reduceCtorEq, true_or, or_true, or_false, false_or, or_self, true_and, and_true, and_self, false_and, and_false, Option.some.injEq, exists_eq_left', ne_eq, not_true_eq_false, not_false_eq_true, eq_self, e_pk, e_pr, e_pn, e_ps, e_pd1, e_pd2, e_us, e_un, e_ifp, e_ifn, e_sk, e_sr, e_sn, e_ss, e_sd1, e_sd2, e_sp, mk161 h3.1]
    repeat' first
      | (refine gp_at [] (by rfl) (by decide) ?_; simp (disch := omega) only [e_wi, e_isr, e_isc, e_stp, e_rt, e_load, e_bin, e_binL, e_ld, e_s1, e_s2, e_n0, e_ok, e_cmp, e_ex, e_gif, e_id32, e_id64, e_v0, e_v1, e_v2, e_v3, e_dt, e_c1, e_sw, e_inv, e_cat, e_rcv, Fin.val_zero, Fin.val_one, Int.toNat_add, Int.toNat_mul, Int.toNat_natCast, Int.reduceToNat, Int.reduceMul, Int.reduceAdd, Int.reduceNeg, Nat.reduceAdd, Nat.reduceSub, Nat.reduceEqDiff, Nat.reduceLT, Nat.reduceLeDiff, List.getElem?_cons_zero, List.getElem?_cons_succ, List.length_cons, List.length_nil, List.take_succ_cons, List.take_zero, List.drop_succ_cons, List.drop_zero, List.reverse_cons, List.reverse_nil, List.nil_append, List.cons_append, List.append_nil, List.map_cons, List.map_nil, List.sum_cons, List.sum_nil, Bool.false_eq_true, if_false, if_true, Bool.and_true, Bool.true_and, Bool.and_self, Bool.or_true, Bool.true_or, Bool.or_false, Bool.false_or, Bool.or_self, decide_eq_true_eq, decide_true, decide_false, beq_self_eq_true, Option.map_some, reduceCtorEq, true_or, or_true, or_false, false_or, or_self, true_and, and_true, and_self, false_and, and_false, Option.some.injEq, exists_eq_left', ne_eq, not_true_eq_false, not_false_eq_true, eq_self, e_pk, e_pr, e_pn, e_ps, e_pd1, e_pd2, e_us, e_un, e_ifp, e_ifn, e_sk, e_sr, e_sn, e_ss, e_sd1, e_sd2, e_sp, mk161 h3.1])
      | (refine And.intro (fun hc => ?_) (fun hc => ?_) <;> try (exfalso; omega))
    all_goals first | exact hF _ _ ecl h4 | (exfalso; omega) | skip
