/-- the tokens' places -/
def k_P (B : Nat → Int) (t : Nat) : Nat → Nat
  | 0 => k_sk B t 0
  | j + 1 => k_nx B t (k_P B t j)
/-- the first m tokens are kept -/
def Tk0 (σ : eH) (B : Nat → Int) (t m : Nat) : Prop := σ.2.2.2.1 4 0 = (t : Int) ∧ σ.2.2.2.1 4 6 = (m : Int) ∧ ∀ j, j < m → σ.2.2.2.1 6 j = k_kd B t (k_P B t j) ∧ σ.2.2.2.1 7 j = ((k_P B t j : Nat) : Int) ∧ (k_kd B t (k_P B t j) = 276 → σ.2.2.2.1 8 j = k_nu B t (k_P B t j))
theorem k_kt_sn (σ : eH) (m : Nat) (d p u : Int) : Sn (fun c => c = 4 ∨ 6 ≤ c ∧ c < 9) σ (k_kt σ m d p u) := by
  unfold k_kt
  refine Sn.put ?_ (by omega)
  refine Sn.put ?_ (by omega)
  refine Sn.put ?_ (by omega)
  exact Sn.put (Sn.rf _ _) (by omega)
theorem Tk0.kt {σ : eH} {B : Nat → Int} {t m : Nat} {u : Int} (h : Tk0 σ B t m) (hu : k_kd B t (k_P B t m) = 276 → u = k_nu B t (k_P B t m)) : Tk0 (k_kt σ m (k_kd B t (k_P B t m)) ((k_P B t m : Nat) : Int) u) B t (m + 1) := by
  obtain ⟨h0, h6, hj⟩ := h
  unfold k_kt
  refine ⟨?_, ?_, fun j hj1 => ?_⟩
  · rw [e_pd1, e_un _ (by omega), e_pd2 _ (by omega), e_pd2 _ (by omega), e_pd2 _ (by omega)]
    exact h0
  · rw [e_pd1, e_us]
    omega
  · rw [e_pd2 _ (by omega), e_pd2 _ (by omega), e_pd2 _ (by omega), e_pd1, e_pd2 _ (by omega), e_pd2 _ (by omega), e_pd1, e_pd2 _ (by omega), e_pd2 _ (by omega), e_pd1, e_pd2 _ (by omega), e_pd2 _ (by omega)]
    by_cases e : j = m
    · subst e
      rw [e_us, e_us, e_us]
      exact ⟨rfl, rfl, hu⟩
    · rw [e_un _ e, e_un _ e, e_un _ e]
      exact hj j (by omega)
/-- all tokens: N of them, then the end -/
def Tk (σ : eH) (B : Nat → Int) (t N : Nat) : Prop := Tk0 σ B t (N + 1) ∧ N ≤ 400 ∧ k_P B t N = t ∧ ∀ j, j < N → k_P B t j < t
theorem Tx.sn {L : Nat → Prop} {σ τ : eH} (h : Tx σ) (hs : Sn L σ τ) (h1 : ¬ L 1) (h2 : ¬ L 2) : Tx τ := by
  unfold Tx
  rw [hs.2.2.1, hs.2.2.2.1, hs.at 1 h1, hs.at 2 h2]
  exact h
set_option maxRecDepth 8000 in
set_option maxHeartbeats 2000000 in
theorem c_beginReading_l {k : Nat} {B : Nat → Int} {t : Nat} {σ : eH} {Q : Option eV → eH → Prop} (hk : 9 ≤ k) (hck : Ck σ) (htx : Tx σ) (ht4 : t ≤ 400) (hBe : σ.2.2.2.1 5 = B) (hB : ∀ i, -128 ≤ B i ∧ B i < 128) (hQ : ∀ τ N, Sn (fun c => c = 4 ∨ 6 ≤ c ∧ c < 9) σ τ → Tk τ B t N → τ.2.2.2.1 4 1 = σ.2.2.2.1 4 1 → τ.2.2.2.1 4 7 = σ.2.2.2.1 4 7 → Q none τ) : ∀ (j x m : Nat) (z : Int) (τ : eH), t - x ≤ j → Sn (fun c => c = 4 ∨ 6 ≤ c ∧ c < 9) σ τ → Tk0 τ B t m → τ.2.2.2.1 4 1 = σ.2.2.2.1 4 1 → τ.2.2.2.1 4 7 = σ.2.2.2.1 4 7 → k_sk B t x = k_P B t m → (∀ j, j < m → k_P B t j < t) → m ≤ x → x ≤ t → z = (x : Int) → e_Gp k e_k20 17 [some (.inr (.inr 6)), some (.inl z)] [] τ Q
  | 0, x, m, z, τ, hj, hs1, hT, h1, h7, hsk, hlt, hmx, hxt, hz => by
    subst hz
    have hc1 := (Sg.of hs1).ck hck
    have hx1 := htx.sn hs1 (by omega) (by omega)
    have hb1 : τ.2.2.2.1 5 = B := by rw [hs1.at 5 (by omega)]; exact hBe
    have g0 := hT.1
    obtain rfl : x = t := by omega
    have eP : k_P B x m = x := by
      rw [← hsk]
      exact k_go_ge (Nat.le_refl _)
    have hT2 : Tk0 (k_kt τ m 279 (x : Int) 0) B x (m + 1) := by
      have h := hT.kt (u := 0) (fun h => by rw [k_kd_end (by omega)] at h; omega)
      rw [k_kd_end (by omega), eP] at h
      exact h
    have hs2 := k_kt_sn τ m 279 (x : Int) 0
    have hQ := hQ _ m (hs1.tr hs2) ⟨hT2, by omega, eP, hlt⟩ (by unfold k_kt; rw [e_pd1, e_un _ (by omega), e_pd2 _ (by omega), e_pd2 _ (by omega), e_pd2 _ (by omega)]; exact h1) (by unfold k_kt; rw [e_pd1, e_un _ (by omega), e_pd2 _ (by omega), e_pd2 _ (by omega), e_pd2 _ (by omega)]; exact h7)
    refine gp_of (by rfl) ?_
    simp (disch := omega) only [e_wi, e_isr, e_isc, e_stp, e_rt, e_load, e_bin, e_binL, e_ld, e_s1, e_s2, e_n0, e_ok, e_cmp, e_ex, e_gif, e_id32, e_id64, e_v0, e_v1, e_v2, e_v3, e_dt, e_c1, e_sw, e_inv, e_cat, e_rcv, Fin.val_zero, Fin.val_one, Int.toNat_add, Int.toNat_mul, Int.toNat_natCast, Int.reduceToNat, Int.reduceMul, Int.reduceAdd, Int.reduceNeg, Nat.reduceAdd, Nat.reduceSub, Nat.reduceEqDiff, Nat.reduceLT, Nat.reduceLeDiff, List.getElem?_cons_zero, List.getElem?_cons_succ, List.length_cons, List.length_nil, List.take_succ_cons, List.take_zero, List.drop_succ_cons, List.drop_zero, List.reverse_cons, List.reverse_nil, List.nil_append, List.cons_append, List.append_nil, List.map_cons, List.map_nil, List.sum_cons, List.sum_nil, Bool.false_eq_true, if_false, if_true, Bool.and_true, Bool.true_and, Bool.and_self, Bool.or_true, Bool.true_or, Bool.or_false, Bool.false_or, Bool.or_self, decide_eq_true_eq, decide_true, decide_false, beq_self_eq_true, Option.map_some, reduceCtorEq, true_or, or_true, or_false, false_or, or_self, true_and, and_true, and_self, false_and, and_false, Option.some.injEq, exists_eq_left', ne_eq, not_true_eq_false, not_false_eq_true, eq_self, e_pk, e_pr, e_pn, e_ps, e_pd1, e_pd2, e_us, e_un, e_ifp, e_ifn, e_sk, e_sr, e_sn, e_ss, e_sd1, e_sd2, e_sp, ck4 hc1, ck5 hc1, ck6 hc1, ck7 hc1, ck8 hc1, cr4_2 hc1, cr4_3 hc1, cr4_4 hc1, cr4_5 hc1, g0]
    repeat' first
      | (refine gp_at [] (by rfl) (by decide) ?_; simp (disch := omega) only [e_wi, e_isr, e_isc, e_stp, e_rt, e_load, e_bin, e_binL, e_ld, e_s1, e_s2, e_n0, e_ok, e_cmp, e_ex, e_gif, e_id32, e_id64, e_v0, e_v1, e_v2, e_v3, e_dt, e_c1, e_sw, e_inv, e_cat, e_rcv, Fin.val_zero, Fin.val_one, Int.toNat_add, Int.toNat_mul, Int.toNat_natCast, Int.reduceToNat, Int.reduceMul, Int.reduceAdd, Int.reduceNeg, Nat.reduceAdd, Nat.reduceSub, Nat.reduceEqDiff, Nat.reduceLT, Nat.reduceLeDiff, List.getElem?_cons_zero, List.getElem?_cons_succ, List.length_cons, List.length_nil, List.take_succ_cons, List.take_zero, List.drop_succ_cons, List.drop_zero, List.reverse_cons, List.reverse_nil, List.nil_append, List.cons_append, List.append_nil, List.map_cons, List.map_nil, List.sum_cons, List.sum_nil, Bool.false_eq_true, if_false, if_true, Bool.and_true, Bool.true_and, Bool.and_self, Bool.or_true, Bool.true_or, Bool.or_false, Bool.false_or, Bool.or_self, decide_eq_true_eq, decide_true, decide_false, beq_self_eq_true, Option.map_some, reduceCtorEq, true_or, or_true, or_false, false_or, or_self, true_and, and_true, and_self, false_and, and_false, Option.some.injEq, exists_eq_left', ne_eq, not_true_eq_false, not_false_eq_true, eq_self, e_pk, e_pr, e_pn, e_ps, e_pd1, e_pd2, e_us, e_un, e_ifp, e_ifn, e_sk, e_sr, e_sn, e_ss, e_sd1, e_sd2, e_sp, ck4 hc1, ck5 hc1, ck6 hc1, ck7 hc1, ck8 hc1, cr4_2 hc1, cr4_3 hc1, cr4_4 hc1, cr4_5 hc1, g0])
      | (refine And.intro (fun hc => ?_) (fun hc => ?_) <;> try (exfalso; omega))
      | ((refine c_keepToken (by omega) hc1 hT.2.1 (by omega) ?_) <;> try dsimp only [Option.toList, List.cons_append, List.nil_append, Nat.reduceAdd])
    all_goals first | exact hQ | (exfalso; omega) | skip
  | j + 1, x, m, z, τ, hj, hs1, hT, h1, h7, hsk, hlt, hmx, hxt, hz => by
    subst hz
    have hc1 := (Sg.of hs1).ck hck
    have hx1 := htx.sn hs1 (by omega) (by omega)
    have hb1 : τ.2.2.2.1 5 = B := by rw [hs1.at 5 (by omega)]; exact hBe
    have g0 := hT.1
    by_cases hx : x < t
    · have ih := fun x' m' z' τ' a1 a2 a3 a4 a5 a6 a7 a8 a9 a10 => c_beginReading_l hk hck htx ht4 hBe hB hQ j x' m' z' τ' a1 a2 a3 a4 a5 a6 a7 a8 a9 a10
      by_cases hbl : B x = 32
      · have ih := ih (x + 1) m ((x : Int) + 1) τ (by omega) hs1 hT h1 h7 (by rw [← hsk]; exact (k_go_t hx (decide_eq_true hbl)).symm) hlt (by omega) (by omega) (by omega)
        refine gp_of (by rfl) ?_
        simp (disch := omega) only [e_wi, e_isr, e_isc, e_stp, e_rt, e_load, e_bin, e_binL, e_ld, e_s1, e_s2, e_n0, e_ok, e_cmp, e_ex, e_gif, e_id32, e_id64, e_v0, e_v1, e_v2, e_v3, e_dt, e_c1, e_sw, e_inv, e_cat, e_rcv, Fin.val_zero, Fin.val_one, Int.toNat_add, Int.toNat_mul, Int.toNat_natCast, Int.reduceToNat, Int.reduceMul, Int.reduceAdd, Int.reduceNeg, Nat.reduceAdd, Nat.reduceSub, Nat.reduceEqDiff, Nat.reduceLT, Nat.reduceLeDiff, List.getElem?_cons_zero, List.getElem?_cons_succ, List.length_cons, List.length_nil, List.take_succ_cons, List.take_zero, List.drop_succ_cons, List.drop_zero, List.reverse_cons, List.reverse_nil, List.nil_append, List.cons_append, List.append_nil, List.map_cons, List.map_nil, List.sum_cons, List.sum_nil, Bool.false_eq_true, if_false, if_true, Bool.and_true, Bool.true_and, Bool.and_self, Bool.or_true, Bool.true_or, Bool.or_false, Bool.false_or, Bool.or_self, decide_eq_true_eq, decide_true, decide_false, beq_self_eq_true, Option.map_some, reduceCtorEq, true_or, or_true, or_false, false_or, or_self, true_and, and_true, and_self, false_and, and_false, Option.some.injEq, exists_eq_left', ne_eq, not_true_eq_false, not_false_eq_true, eq_self, e_pk, e_pr, e_pn, e_ps, e_pd1, e_pd2, e_us, e_un, e_ifp, e_ifn, e_sk, e_sr, e_sn, e_ss, e_sd1, e_sd2, e_sp, ck4 hc1, ck5 hc1, ck6 hc1, ck7 hc1, ck8 hc1, cr4_2 hc1, cr4_3 hc1, cr4_4 hc1, cr4_5 hc1, g0]
        repeat' first
          | (refine gp_at [17, 33] (by rfl) (by decide) ?_; simp (disch := omega) only [e_wi, e_isr, e_isc, e_stp, e_rt, e_load, e_bin, e_binL, e_ld, e_s1, e_s2, e_n0, e_ok, e_cmp, e_ex, e_gif, e_id32, e_id64, e_v0, e_v1, e_v2, e_v3, e_dt, e_c1, e_sw, e_inv, e_cat, e_rcv, Fin.val_zero, Fin.val_one, Int.toNat_add, Int.toNat_mul, Int.toNat_natCast, Int.reduceToNat, Int.reduceMul, Int.reduceAdd, Int.reduceNeg, Nat.reduceAdd, Nat.reduceSub, Nat.reduceEqDiff, Nat.reduceLT, Nat.reduceLeDiff, List.getElem?_cons_zero, List.getElem?_cons_succ, List.length_cons, List.length_nil, List.take_succ_cons, List.take_zero, List.drop_succ_cons, List.drop_zero, List.reverse_cons, List.reverse_nil, List.nil_append, List.cons_append, List.append_nil, List.map_cons, List.map_nil, List.sum_cons, List.sum_nil, Bool.false_eq_true, if_false, if_true, Bool.and_true, Bool.true_and, Bool.and_self, Bool.or_true, Bool.true_or, Bool.or_false, Bool.false_or, Bool.or_self, decide_eq_true_eq, decide_true, decide_false, beq_self_eq_true, Option.map_some, reduceCtorEq, true_or, or_true, or_false, false_or, or_self, true_and, and_true, and_self, false_and, and_false, Option.some.injEq, exists_eq_left', ne_eq, not_true_eq_false, not_false_eq_true, eq_self, e_pk, e_pr, e_pn, e_ps, e_pd1, e_pd2, e_us, e_un, e_ifp, e_ifn, e_sk, e_sr, e_sn, e_ss, e_sd1, e_sd2, e_sp, ck4 hc1, ck5 hc1, ck6 hc1, ck7 hc1, ck8 hc1, cr4_2 hc1, cr4_3 hc1, cr4_4 hc1, cr4_5 hc1, g0])
          | (refine And.intro (fun hc => ?_) (fun hc => ?_) <;> try (exfalso; omega))
          | ((refine c_scan (B := B) (t := t) (p := x) (m := m) (by omega) hx1 hc1 g0 ht4 hb1 hB hx hT.2.1 (by omega) (fun hq => ?_) (fun hq u hu => ?_)) <;> try dsimp only [Option.toList, List.cons_append, List.nil_append, Nat.reduceAdd])
        all_goals first | (exfalso; omega) | skip
        · have emax : (if (x : Int) + 1 < (x : Int) + 1 then (x : Int) + 1 else (x : Int) + 1) = (x : Int) + 1 := by split <;> rfl
          refine gp_of (by rfl) ?_
          simp (disch := omega) only [e_wi, e_isr, e_isc, e_stp, e_rt, e_load, e_bin, e_binL, e_ld, e_s1, e_s2, e_n0, e_ok, e_cmp, e_ex, e_gif, e_id32, e_id64, e_v0, e_v1, e_v2, e_v3, e_dt, e_c1, e_sw, e_inv, e_cat, e_rcv, Fin.val_zero, Fin.val_one, Int.toNat_add, Int.toNat_mul, Int.toNat_natCast, Int.reduceToNat, Int.reduceMul, Int.reduceAdd, Int.reduceNeg, Nat.reduceAdd, Nat.reduceSub, Nat.reduceEqDiff, Nat.reduceLT, Nat.reduceLeDiff, List.getElem?_cons_zero, List.getElem?_cons_succ, List.length_cons, List.length_nil, List.take_succ_cons, List.take_zero, List.drop_succ_cons, List.drop_zero, List.reverse_cons, List.reverse_nil, List.nil_append, List.cons_append, List.append_nil, List.map_cons, List.map_nil, List.sum_cons, List.sum_nil, Bool.false_eq_true, if_false, if_true, Bool.and_true, Bool.true_and, Bool.and_self, Bool.or_true, Bool.true_or, Bool.or_false, Bool.false_or, Bool.or_self, decide_eq_true_eq, decide_true, decide_false, beq_self_eq_true, Option.map_some, reduceCtorEq, true_or, or_true, or_false, false_or, or_self, true_and, and_true, and_self, false_and, and_false, Option.some.injEq, exists_eq_left', ne_eq, not_true_eq_false, not_false_eq_true, eq_self, e_pk, e_pr, e_pn, e_ps, e_pd1, e_pd2, e_us, e_un, e_ifp, e_ifn, e_sk, e_sr, e_sn, e_ss, e_sd1, e_sd2, e_sp, emax]
          repeat' first
            | (refine gp_at [17] (by rfl) (by decide) ?_; simp (disch := omega) only [e_wi, e_isr, e_isc, e_stp, e_rt, e_load, e_bin, e_binL, e_ld, e_s1, e_s2, e_n0, e_ok, e_cmp, e_ex, e_gif, e_id32, e_id64, e_v0, e_v1, e_v2, e_v3, e_dt, e_c1, e_sw, e_inv, e_cat, e_rcv, Fin.val_zero, Fin.val_one, Int.toNat_add, Int.toNat_mul, Int.toNat_natCast, Int.reduceToNat, Int.reduceMul, Int.reduceAdd, Int.reduceNeg, Nat.reduceAdd, Nat.reduceSub, Nat.reduceEqDiff, Nat.reduceLT, Nat.reduceLeDiff, List.getElem?_cons_zero, List.getElem?_cons_succ, List.length_cons, List.length_nil, List.take_succ_cons, List.take_zero, List.drop_succ_cons, List.drop_zero, List.reverse_cons, List.reverse_nil, List.nil_append, List.cons_append, List.append_nil, List.map_cons, List.map_nil, List.sum_cons, List.sum_nil, Bool.false_eq_true, if_false, if_true, Bool.and_true, Bool.true_and, Bool.and_self, Bool.or_true, Bool.true_or, Bool.or_false, Bool.false_or, Bool.or_self, decide_eq_true_eq, decide_true, decide_false, beq_self_eq_true, Option.map_some, reduceCtorEq, true_or, or_true, or_false, false_or, or_self, true_and, and_true, and_self, false_and, and_false, Option.some.injEq, exists_eq_left', ne_eq, not_true_eq_false, not_false_eq_true, eq_self, e_pk, e_pr, e_pn, e_ps, e_pd1, e_pd2, e_us, e_un, e_ifp, e_ifn, e_sk, e_sr, e_sn, e_ss, e_sd1, e_sd2, e_sp, emax])
            | (refine And.intro (fun hc => ?_) (fun hc => ?_) <;> try (exfalso; omega))
          all_goals first | exact ih | (exfalso; omega) | skip
      · have ep : x = k_P B t m := by
          rw [← hsk]
          exact (k_go_f (decide_eq_false hbl)).symm
        have hen := k_en_b (B := B) hx
        refine gp_of (by rfl) ?_
        simp (disch := omega) only [e_wi, e_isr, e_isc, e_stp, e_rt, e_load, e_bin, e_binL, e_ld, e_s1, e_s2, e_n0, e_ok, e_cmp, e_ex, e_gif, e_id32, e_id64, e_v0, e_v1, e_v2, e_v3, e_dt, e_c1, e_sw, e_inv, e_cat, e_rcv, Fin.val_zero, Fin.val_one, Int.toNat_add, Int.toNat_mul, Int.toNat_natCast, Int.reduceToNat, Int.reduceMul, Int.reduceAdd, Int.reduceNeg, Nat.reduceAdd, Nat.reduceSub, Nat.reduceEqDiff, Nat.reduceLT, Nat.reduceLeDiff, List.getElem?_cons_zero, List.getElem?_cons_succ, List.length_cons, List.length_nil, List.take_succ_cons, List.take_zero, List.drop_succ_cons, List.drop_zero, List.reverse_cons, List.reverse_nil, List.nil_append, List.cons_append, List.append_nil, List.map_cons, List.map_nil, List.sum_cons, List.sum_nil, Bool.false_eq_true, if_false, if_true, Bool.and_true, Bool.true_and, Bool.and_self, Bool.or_true, Bool.true_or, Bool.or_false, Bool.false_or, Bool.or_self, decide_eq_true_eq, decide_true, decide_false, beq_self_eq_true, Option.map_some, reduceCtorEq, true_or, or_true, or_false, false_or, or_self, true_and, and_true, and_self, false_and, and_false, Option.some.injEq, exists_eq_left', ne_eq, not_true_eq_false, not_false_eq_true, eq_self, e_pk, e_pr, e_pn, e_ps, e_pd1, e_pd2, e_us, e_un, e_ifp, e_ifn, e_sk, e_sr, e_sn, e_ss, e_sd1, e_sd2, e_sp, ck4 hc1, ck5 hc1, ck6 hc1, ck7 hc1, ck8 hc1, cr4_2 hc1, cr4_3 hc1, cr4_4 hc1, cr4_5 hc1, g0]
        repeat' first
          | (refine gp_at [17, 33] (by rfl) (by decide) ?_; simp (disch := omega) only [e_wi, e_isr, e_isc, e_stp, e_rt, e_load, e_bin, e_binL, e_ld, e_s1, e_s2, e_n0, e_ok, e_cmp, e_ex, e_gif, e_id32, e_id64, e_v0, e_v1, e_v2, e_v3, e_dt, e_c1, e_sw, e_inv, e_cat, e_rcv, Fin.val_zero, Fin.val_one, Int.toNat_add, Int.toNat_mul, Int.toNat_natCast, Int.reduceToNat, Int.reduceMul, Int.reduceAdd, Int.reduceNeg, Nat.reduceAdd, Nat.reduceSub, Nat.reduceEqDiff, Nat.reduceLT, Nat.reduceLeDiff, List.getElem?_cons_zero, List.getElem?_cons_succ, List.length_cons, List.length_nil, List.take_succ_cons, List.take_zero, List.drop_succ_cons, List.drop_zero, List.reverse_cons, List.reverse_nil, List.nil_append, List.cons_append, List.append_nil, List.map_cons, List.map_nil, List.sum_cons, List.sum_nil, Bool.false_eq_true, if_false, if_true, Bool.and_true, Bool.true_and, Bool.and_self, Bool.or_true, Bool.true_or, Bool.or_false, Bool.false_or, Bool.or_self, decide_eq_true_eq, decide_true, decide_false, beq_self_eq_true, Option.map_some, reduceCtorEq, true_or, or_true, or_false, false_or, or_self, true_and, and_true, and_self, false_and, and_false, Option.some.injEq, exists_eq_left', ne_eq, not_true_eq_false, not_false_eq_true, eq_self, e_pk, e_pr, e_pn, e_ps, e_pd1, e_pd2, e_us, e_un, e_ifp, e_ifn, e_sk, e_sr, e_sn, e_ss, e_sd1, e_sd2, e_sp, ck4 hc1, ck5 hc1, ck6 hc1, ck7 hc1, ck8 hc1, cr4_2 hc1, cr4_3 hc1, cr4_4 hc1, cr4_5 hc1, g0])
          | (refine And.intro (fun hc => ?_) (fun hc => ?_) <;> try (exfalso; omega))
          | ((refine c_scan (B := B) (t := t) (p := x) (m := m) (by omega) hx1 hc1 g0 ht4 hb1 hB hx hT.2.1 (by omega) (fun hq => ?_) (fun hq u hu => ?_)) <;> try dsimp only [Option.toList, List.cons_append, List.nil_append, Nat.reduceAdd])
        all_goals first | (exfalso; omega) | skip
        · have hs2 := k_kt_sn τ m (k_kd B t x) (x : Int) u
          have hT2 : Tk0 (k_kt τ m (k_kd B t x) (x : Int) u) B t (m + 1) := by
            rw [ep]
            rw [ep] at hu
            exact hT.kt hu
          have ih := ih (k_en B t x) (m + 1) ((k_en B t x : Nat) : Int) _ (by omega) (hs1.tr hs2) hT2 (by unfold k_kt; rw [e_pd1, e_un _ (by omega), e_pd2 _ (by omega), e_pd2 _ (by omega), e_pd2 _ (by omega)]; exact h1) (by unfold k_kt; rw [e_pd1, e_un _ (by omega), e_pd2 _ (by omega), e_pd2 _ (by omega), e_pd2 _ (by omega)]; exact h7) (by show k_sk B t (k_en B t x) = k_nx B t (k_P B t m); rw [← ep]; rfl) (fun j' hj' => by
            by_cases e : j' = m
            · rw [e, ← ep]; exact hx
            · exact hlt j' (by omega)) (by omega) hen.2 rfl
          generalize k_kt τ m (k_kd B t x) (x : Int) u = τ2 at *
          have emax : (if (x : Int) + 1 < ((k_en B t x : Nat) : Int) then ((k_en B t x : Nat) : Int) else (x : Int) + 1) = ((k_en B t x : Nat) : Int) := by split <;> omega
          refine gp_of (by rfl) ?_
          simp (disch := omega) only [e_wi, e_isr, e_isc, e_stp, e_rt, e_load, e_bin, e_binL, e_ld, e_s1, e_s2, e_n0, e_ok, e_cmp, e_ex, e_gif, e_id32, e_id64, e_v0, e_v1, e_v2, e_v3, e_dt, e_c1, e_sw, e_inv, e_cat, e_rcv, Fin.val_zero, Fin.val_one, Int.toNat_add, Int.toNat_mul, Int.toNat_natCast, Int.reduceToNat, Int.reduceMul, Int.reduceAdd, Int.reduceNeg, Nat.reduceAdd, Nat.reduceSub, Nat.reduceEqDiff, Nat.reduceLT, Nat.reduceLeDiff, List.getElem?_cons_zero, List.getElem?_cons_succ, List.length_cons, List.length_nil, List.take_succ_cons, List.take_zero, List.drop_succ_cons, List.drop_zero, List.reverse_cons, List.reverse_nil, List.nil_append, List.cons_append, List.append_nil, List.map_cons, List.map_nil, List.sum_cons, List.sum_nil, Bool.false_eq_true, if_false, if_true, Bool.and_true, Bool.true_and, Bool.and_self, Bool.or_true, Bool.true_or, Bool.or_false, Bool.false_or, Bool.or_self, decide_eq_true_eq, decide_true, decide_false, beq_self_eq_true, Option.map_some, reduceCtorEq, true_or, or_true, or_false, false_or, or_self, true_and, and_true, and_self, false_and, and_false, Option.some.injEq, exists_eq_left', ne_eq, not_true_eq_false, not_false_eq_true, eq_self, e_pk, e_pr, e_pn, e_ps, e_pd1, e_pd2, e_us, e_un, e_ifp, e_ifn, e_sk, e_sr, e_sn, e_ss, e_sd1, e_sd2, e_sp, emax]
          repeat' first
            | (refine gp_at [17] (by rfl) (by decide) ?_; simp (disch := omega) only [e_wi, e_isr, e_isc, e_stp, e_rt, e_load, e_bin, e_binL, e_ld, e_s1, e_s2, e_n0, e_ok, e_cmp, e_ex, e_gif, e_id32, e_id64, e_v0, e_v1, e_v2, e_v3, e_dt, e_c1, e_sw, e_inv, e_cat, e_rcv, Fin.val_zero, Fin.val_one, Int.toNat_add, Int.toNat_mul, Int.toNat_natCast, Int.reduceToNat, Int.reduceMul, Int.reduceAdd, Int.reduceNeg, Nat.reduceAdd, Nat.reduceSub, Nat.reduceEqDiff, Nat.reduceLT, Nat.reduceLeDiff, List.getElem?_cons_zero, List.getElem?_cons_succ, List.length_cons, List.length_nil, List.take_succ_cons, List.take_zero, List.drop_succ_cons, List.drop_zero, List.reverse_cons, List.reverse_nil, List.nil_append, List.cons_append, List.append_nil, List.map_cons, List.map_nil, List.sum_cons, List.sum_nil, Bool.false_eq_true, if_false, if_true, Bool.and_true, Bool.true_and, Bool.and_self, Bool.or_true, Bool.true_or, Bool.or_false, Bool.false_or, Bool.or_self, decide_eq_true_eq, decide_true, decide_false, beq_self_eq_true, Option.map_some, reduceCtorEq, true_or, or_true, or_false, false_or, or_self, true_and, and_true, and_self, false_and, and_false, Option.some.injEq, exists_eq_left', ne_eq, not_true_eq_false, not_false_eq_true, eq_self, e_pk, e_pr, e_pn, e_ps, e_pd1, e_pd2, e_us, e_un, e_ifp, e_ifn, e_sk, e_sr, e_sn, e_ss, e_sd1, e_sd2, e_sp, emax])
            | (refine And.intro (fun hc => ?_) (fun hc => ?_) <;> try (exfalso; omega))
          all_goals first | exact ih | (exfalso; omega) | skip
    · obtain rfl : x = t := by omega
      have eP : k_P B x m = x := by
        rw [← hsk]
        exact k_go_ge (Nat.le_refl _)
      have hT2 : Tk0 (k_kt τ m 279 (x : Int) 0) B x (m + 1) := by
        have h := hT.kt (u := 0) (fun h => by rw [k_kd_end (by omega)] at h; omega)
        rw [k_kd_end (by omega), eP] at h
        exact h
      have hs2 := k_kt_sn τ m 279 (x : Int) 0
      have hQ := hQ _ m (hs1.tr hs2) ⟨hT2, by omega, eP, hlt⟩ (by unfold k_kt; rw [e_pd1, e_un _ (by omega), e_pd2 _ (by omega), e_pd2 _ (by omega), e_pd2 _ (by omega)]; exact h1) (by unfold k_kt; rw [e_pd1, e_un _ (by omega), e_pd2 _ (by omega), e_pd2 _ (by omega), e_pd2 _ (by omega)]; exact h7)
      refine gp_of (by rfl) ?_
      simp (disch := omega) only [e_wi, e_isr, e_isc, e_stp, e_rt, e_load, e_bin, e_binL, e_ld, e_s1, e_s2, e_n0, e_ok, e_cmp, e_ex, e_gif, e_id32, e_id64, e_v0, e_v1, e_v2, e_v3, e_dt, e_c1, e_sw, e_inv, e_cat, e_rcv, Fin.val_zero, Fin.val_one, Int.toNat_add, Int.toNat_mul, Int.toNat_natCast, Int.reduceToNat, Int.reduceMul, Int.reduceAdd, Int.reduceNeg, Nat.reduceAdd, Nat.reduceSub, Nat.reduceEqDiff, Nat.reduceLT, Nat.reduceLeDiff, List.getElem?_cons_zero, List.getElem?_cons_succ, List.length_cons, List.length_nil, List.take_succ_cons, List.take_zero, List.drop_succ_cons, List.drop_zero, List.reverse_cons, List.reverse_nil, List.nil_append, List.cons_append, List.append_nil, List.map_cons, List.map_nil, List.sum_cons, List.sum_nil, Bool.false_eq_true, if_false, if_true, Bool.and_true, Bool.true_and, Bool.and_self, Bool.or_true, Bool.true_or, Bool.or_false, Bool.false_or, Bool.or_self, decide_eq_true_eq, decide_true, decide_false, beq_self_eq_true, Option.map_some, reduceCtorEq, true_or, or_true, or_false, false_or, or_self, true_and, and_true, and_self, false_and, and_false, Option.some.injEq, exists_eq_left', ne_eq, not_true_eq_false, not_false_eq_true, eq_self, e_pk, e_pr, e_pn, e_ps, e_pd1, e_pd2, e_us, e_un, e_ifp, e_ifn, e_sk, e_sr, e_sn, e_ss, e_sd1, e_sd2, e_sp, ck4 hc1, ck5 hc1, ck6 hc1, ck7 hc1, ck8 hc1, cr4_2 hc1, cr4_3 hc1, cr4_4 hc1, cr4_5 hc1, g0]
      repeat' first
        | (refine gp_at [] (by rfl) (by decide) ?_; simp (disch := omega) only [e_wi, e_isr, e_isc, e_stp, e_rt, e_load, e_bin, e_binL, e_ld, e_s1, e_s2, e_n0, e_ok, e_cmp, e_ex, e_gif, e_id32, e_id64, e_v0, e_v1, e_v2, e_v3, e_dt, e_c1, e_sw, e_inv, e_cat, e_rcv, Fin.val_zero, Fin.val_one, Int.toNat_add, Int.toNat_mul, Int.toNat_natCast, Int.reduceToNat, Int.reduceMul, Int.reduceAdd, Int.reduceNeg, Nat.reduceAdd, Nat.reduceSub, Nat.reduceEqDiff, Nat.reduceLT, Nat.reduceLeDiff, List.getElem?_cons_zero, List.getElem?_cons_succ, List.length_cons, List.length_nil, List.take_succ_cons, List.take_zero, List.drop_succ_cons, List.drop_zero, List.reverse_cons, List.reverse_nil, List.nil_append, List.cons_append, List.append_nil, List.map_cons, List.map_nil, List.sum_cons, List.sum_nil, Bool.false_eq_true, if_false, if_true, Bool.and_true, Bool.true_and, Bool.and_self, Bool.or_true, Bool.true_or, Bool.or_false, Bool.false_or, Bool.or_self, decide_eq_true_eq, decide_true, decide_false, beq_self_eq_true, Option.map_some, reduceCtorEq, true_or, or_true, or_false, false_or, or_self, true_and, and_true, and_self, false_and, and_false, Option.some.injEq, exists_eq_left', ne_eq, not_true_eq_false, not_false_eq_true, eq_self, e_pk, e_pr, e_pn, e_ps, e_pd1, e_pd2, e_us, e_un, e_ifp, e_ifn, e_sk, e_sr, e_sn, e_ss, e_sd1, e_sd2, e_sp, ck4 hc1, ck5 hc1, ck6 hc1, ck7 hc1, ck8 hc1, cr4_2 hc1, cr4_3 hc1, cr4_4 hc1, cr4_5 hc1, g0])
        | (refine And.intro (fun hc => ?_) (fun hc => ?_) <;> try (exfalso; omega))
        | ((refine c_keepToken (by omega) hc1 hT.2.1 (by omega) ?_) <;> try dsimp only [Option.toList, List.cons_append, List.nil_append, Nat.reduceAdd])
      all_goals first | exact hQ | (exfalso; omega) | skip
set_option maxRecDepth 8000 in
set_option maxHeartbeats 1000000 in
theorem c_beginReading {k : Nat} {B : Nat → Int} {t : Nat} {σ : eH} {Q : Option eV → eH → Prop} (hk : 10 ≤ k) (hck : Ck σ) (htx : Tx σ) (ht4 : t ≤ 400) (hBe : σ.2.2.2.1 5 = B) (hB : ∀ i, -128 ≤ B i ∧ B i < 128) (h0 : σ.2.2.2.1 4 0 = (t : Int)) (hQ : ∀ τ N, Sn (fun c => c = 4 ∨ 6 ≤ c ∧ c < 9) σ τ → Tk τ B t N → τ.2.2.2.1 4 1 = 0 → τ.2.2.2.1 4 7 = 0 → Q none τ) : e_Wp k 20 [.inr (.inr 6)] σ Q := by
  refine wp_in (nL := 2) (cd := e_k20) (by omega) (by rfl) (Nat.le_of_ble_eq_true rfl) ?_
  dsimp only [e_ent, Nat.reduceSub, List.replicate]
  refine gp_of (by rfl) ?_
  simp (disch := omega) only [e_wi, e_isr, e_isc, e_stp, e_rt, e_load, e_bin, e_binL, e_ld, e_s1, e_s2, e_n0, e_ok, e_cmp, e_ex, e_gif, e_id32, e_id64, e_v0, e_v1, e_v2, e_v3, e_dt, e_c1, e_sw, e_inv, e_cat, e_rcv, Fin.val_zero, Fin.val_one, Int.toNat_add, Int.toNat_mul, Int.toNat_natCast, Int.reduceToNat, Int.reduceMul, Int.reduceAdd, Int.reduceNeg, Nat.reduceAdd, Nat.reduceSub, Nat.reduceEqDiff, Nat.reduceLT, Nat.reduceLeDiff, List.getElem?_cons_zero, List.getElem?_cons_succ, List.length_cons, List.length_nil, List.take_succ_cons, List.take_zero, List.drop_succ_cons, List.drop_zero, List.reverse_cons, List.reverse_nil, List.nil_append, List.cons_append, List.append_nil, List.map_cons, List.map_nil, List.sum_cons, List.sum_nil, Bool.false_eq_true, if_false, if_true, Bool.and_true, Bool.true_and, Bool.and_self, Bool.or_true, Bool.true_or, Bool.or_false, Bool.false_or, Bool.or_self, decide_eq_true_eq, decide_true, decide_false, beq_self_eq_true, Option.map_some, reduceCtorEq, true_or, or_true, or_false, false_or, or_self, true_and, and_true, and_self, false_and, and_false, Option.some.injEq, exists_eq_left', ne_eq, not_true_eq_false, not_false_eq_true, eq_self, e_pk, e_pr, e_pn, e_ps, e_pd1, e_pd2, e_us, e_un, e_ifp, e_ifn, e_sk, e_sr, e_sn, e_ss, e_sd1, e_sd2, e_sp, ck4 hck, ck5 hck, ck6 hck, ck7 hck, ck8 hck, cr4_2 hck, cr4_3 hck, cr4_4 hck, cr4_5 hck]
  repeat' first
    | (refine gp_at [17] (by rfl) (by decide) ?_; simp (disch := omega) only [e_wi, e_isr, e_isc, e_stp, e_rt, e_load, e_bin, e_binL, e_ld, e_s1, e_s2, e_n0, e_ok, e_cmp, e_ex, e_gif, e_id32, e_id64, e_v0, e_v1, e_v2, e_v3, e_dt, e_c1, e_sw, e_inv, e_cat, e_rcv, Fin.val_zero, Fin.val_one, Int.toNat_add, Int.toNat_mul, Int.toNat_natCast, Int.reduceToNat, Int.reduceMul, Int.reduceAdd, Int.reduceNeg, Nat.reduceAdd, Nat.reduceSub, Nat.reduceEqDiff, Nat.reduceLT, Nat.reduceLeDiff, List.getElem?_cons_zero, List.getElem?_cons_succ, List.length_cons, List.length_nil, List.take_succ_cons, List.take_zero, List.drop_succ_cons, List.drop_zero, List.reverse_cons, List.reverse_nil, List.nil_append, List.cons_append, List.append_nil, List.map_cons, List.map_nil, List.sum_cons, List.sum_nil, Bool.false_eq_true, if_false, if_true, Bool.and_true, Bool.true_and, Bool.and_self, Bool.or_true, Bool.true_or, Bool.or_false, Bool.false_or, Bool.or_self, decide_eq_true_eq, decide_true, decide_false, beq_self_eq_true, Option.map_some, reduceCtorEq, true_or, or_true, or_false, false_or, or_self, true_and, and_true, and_self, false_and, and_false, Option.some.injEq, exists_eq_left', ne_eq, not_true_eq_false, not_false_eq_true, eq_self, e_pk, e_pr, e_pn, e_ps, e_pd1, e_pd2, e_us, e_un, e_ifp, e_ifn, e_sk, e_sr, e_sn, e_ss, e_sd1, e_sd2, e_sp, ck4 hck, ck5 hck, ck6 hck, ck7 hck, ck8 hck, cr4_2 hck, cr4_3 hck, cr4_4 hck, cr4_5 hck])
    | (refine And.intro (fun hc => ?_) (fun hc => ?_) <;> try (exfalso; omega))
  have hs0 : Sn (fun c => c = 4 ∨ 6 ≤ c ∧ c < 9) σ (e_put (e_put (e_put σ 4 1 0) 4 7 0) 4 6 0) := by
    refine Sn.put ?_ (by omega)
    refine Sn.put ?_ (by omega)
    exact Sn.put (Sn.rf _ _) (by omega)
  refine c_beginReading_l (by omega) ((Sg.of hs0).ck hck) (htx.sn hs0 (by omega) (by omega)) ht4 (by rw [hs0.at 5 (by omega)]; exact hBe) hB (fun τ N hs hT e1 e7 => hQ τ N (hs0.tr hs) hT ?_ ?_) t 0 0 0 _ (by omega) (Sn.rf _ _) ⟨?_, ?_, fun j hj => by omega⟩ rfl rfl rfl (fun j hj => by omega) (by omega) (by omega) rfl
  · rw [e1, e_pd1, e_un _ (by omega), e_pd1, e_un _ (by omega), e_pd1, e_us]
  · rw [e7, e_pd1, e_un _ (by omega), e_pd1, e_us]
  · rw [e_pd1, e_un _ (by omega), e_pd1, e_un _ (by omega), e_pd1, e_un _ (by omega)]
    exact h0
  · rw [e_pd1, e_us]
    rfl
