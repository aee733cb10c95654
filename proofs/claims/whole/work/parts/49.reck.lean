theorem r_psh {σ τ : eH} {st : List Int} {v : Int} (hs : Sm [169] [18] σ τ) (hsk : r_stk (τ.2.2.2.1 169) st) : Sm [169] [18] σ (e_put (e_put τ 169 st.length v) 161 18 ((st.length : Int) + 1)) ∧ r_stk ((e_put (e_put τ 169 st.length v) 161 18 ((st.length : Int) + 1)).2.2.2.1 169) (v :: st) ∧ (e_put (e_put τ 169 st.length v) 161 18 ((st.length : Int) + 1)).2.2.2.1 161 18 = (((v :: st).length : Nat) : Int) := by
  refine ⟨(hs.put (by decide) (by decide)).pf (by decide), ?_, ?_⟩
  · rw [e_pd2 _ (by decide), e_pd1]
    exact ⟨e_us _ _ _, r_stk_up (Nat.le_refl _) hsk⟩
  · rw [e_pd1, e_us, List.length_cons]
    omega
theorem r_pp {σ τ : eH} {st : List Int} {x : Int} (hs : Sm [169] [18] σ τ) (hsk : r_stk (τ.2.2.2.1 169) (x :: st)) : Sm [169] [18] σ (e_put τ 161 18 (st.length : Int)) ∧ r_stk ((e_put τ 161 18 (st.length : Int)).2.2.2.1 169) st ∧ (e_put τ 161 18 (st.length : Int)).2.2.2.1 161 18 = (st.length : Int) := by
  refine ⟨hs.pf (by decide), ?_, ?_⟩
  · rw [e_pd2 _ (by decide)]
    exact hsk.2
  · rw [e_pd1, e_us]
theorem r_t1_len {M s v : Nat} {T T' : List Bool} (h : r_t1 M s v T = some T') : (s = 0 ∧ T.length < M) ∨ (s = 1 ∧ T.length < M ∧ v < 12) ∨ (s = 11 ∧ 1 ≤ T.length) ∨ (2 ≤ s ∧ s ≤ 14 ∧ s ≠ 11 ∧ 2 ≤ T.length) := by
  unfold r_t1 at h
  by_cases h0 : s = 0
  · rw [if_pos h0] at h
    split at h
    · exact .inl ⟨h0, by assumption⟩
    · cases h
  rw [if_neg h0] at h
  by_cases h1 : s = 1
  · rw [if_pos h1] at h
    split at h
    next q => exact .inr (.inl ⟨h1, q.1, q.2⟩)
    · cases h
  rw [if_neg h1] at h
  by_cases h2 : s = 11
  · rw [if_pos h2] at h
    split at h
    · exact .inr (.inr (.inl ⟨h2, by simp⟩))
    · cases h
  rw [if_neg h2] at h
  split at h
  next b a U =>
    have hl : 2 ≤ (b :: a :: U).length := by simp
    by_cases h3 : s ≤ 14
    · exact .inr (.inr (.inr ⟨by omega, h3, h2, hl⟩))
    · split at h
      · rw [if_neg (by omega), if_neg (by omega)] at h
        cases h
      · cases h
  · cases h
theorem r_t1_le {M s v : Nat} {T T' : List Bool} (h : r_t1 M s v T = some T') (hT : T.length ≤ M) : T'.length ≤ M := by
  have hw := r_t1_len h
  unfold r_t1 at h
  by_cases h0 : s = 0
  · rw [if_pos h0] at h
    split at h
    · cases h
      rw [List.length_cons]
      omega
    · cases h
  rw [if_neg h0] at h
  by_cases h1 : s = 1
  · rw [if_pos h1] at h
    split at h
    · cases h
      rw [List.length_cons]
      omega
    · cases h
  rw [if_neg h1] at h
  by_cases h2 : s = 11
  · rw [if_pos h2] at h
    split at h
    · cases h
      exact hT
    · cases h
  rw [if_neg h2] at h
  split at h
  next b a U =>
    simp only [List.length_cons] at hT
    repeat' split at h
    all_goals first | (cases h; rw [List.length_cons]; omega) | cases h
  · cases h
set_option maxRecDepth 4000 in
set_option maxHeartbeats 2000000 in
theorem w_reckons_l {k t e : Nat} {w : Nat → Int} {X : Int} {c : Bool} {b0 : Int} {σ : eH} {Q : Option eV → eH → Prop} (hm : Mo σ) (hk : 1 ≤ k) (ht : t < 6) (he : e ≤ 400) (hw : σ.2.2.2.1 170 = w) (hQ : ∀ τ, Sm [169] [18] σ τ → Q (some (.inr (.inl X))) τ) : ∀ (ts : List (Nat × Nat)) (b : Nat) (z : Int) (T : List Bool) (st : List Int) (τ : eH) (x5 x6 x7 x8 x9 x10 : Option eV), Sm [169] [18] σ τ → r_tks (σ.2.2.2.1 163) (400 * t + b) ts → b + ts.length = e → z = (b : Int) → r_ty 31 ts T = some [c] → T.length ≤ 31 → r_vt T st → r_ev w ts st = [X] → r_stk (τ.2.2.2.1 169) st → τ.2.2.2.1 161 18 = (st.length : Int) → e_Gp k e_k217 8 [some (.inr (.inr 163)), some (.inl (t : Int)), some (.inl b0), some (.inl (e : Int)), some (.inl z), x5, x6, x7, x8, x9, x10] [] τ Q
  | [], b, z, T, st, τ, x5, x6, x7, x8, x9, x10, hs, htk, hb, hz, hty, hT31, hvt, hev, hsk, htop => by
    subst hz
    have hm1 := hs.mo hm
    have hev : st = [X] := hev
    subst hev
    have hX : τ.2.2.2.1 169 0 = X := hsk.1
    rw [List.length_nil] at hb
    refine gp_of (by rfl) ?_
    simp (disch := omega) only [e_wi, e_isr, e_isc, e_stp, e_rt, e_load, e_bin, e_binL, e_ld, e_s1, e_s2, e_n0, e_ok, e_cmp, e_ex, e_gif, e_id32, e_id64, e_v0, e_v1, e_v2, e_v3, e_dt, e_c1, e_sw, e_inv, e_cat, e_rcv, Fin.val_zero, Fin.val_one, Int.toNat_add, Int.toNat_mul, Int.toNat_natCast, Int.reduceToNat, Int.reduceMul, Int.reduceAdd, Int.reduceNeg, Nat.reduceAdd, Nat.reduceSub, Nat.reduceEqDiff, Nat.reduceLT, Nat.reduceLeDiff, List.getElem?_cons_zero, List.getElem?_cons_succ, List.length_cons, List.length_nil, List.take_succ_cons, List.take_zero, List.drop_succ_cons, List.drop_zero, List.reverse_cons, List.reverse_nil, List.nil_append, List.cons_append, List.append_nil, List.map_cons, List.map_nil, List.sum_cons, List.sum_nil, Bool.false_eq_true, if_false, if_true, Bool.and_true, Bool.true_and, Bool.and_self, Bool.or_true, Bool.true_or, Bool.or_false, Bool.false_or, Bool.or_self, decide_eq_true_eq, decide_true, decide_false, beq_self_eq_true, Option.map_some, reduceCtorEq, true_or, or_true, or_false, false_or, or_self, true_and, and_true, and_self, false_and, and_false, Option.some.injEq, exists_eq_left', ne_eq, not_true_eq_false, not_false_eq_true, eq_self, e_pk, e_pr, e_pn, e_ps, e_pd1, e_pd2, e_us, e_un, e_ifp, e_ifn, e_sk, e_sr, e_sn, e_ss, e_sd1, e_sd2, e_sp, mk161 hm1, mk162 hm1, mk163 hm1, mk164 hm1, mk165 hm1, mk166 hm1, mk167 hm1, mk168 hm1, mk169 hm1, mk170 hm1, mk171 hm1, mk172 hm1, mk173 hm1, mk174 hm1, mk175 hm1, mk176 hm1, mk177 hm1, mk178 hm1, mk179 hm1, mk180 hm1, mk181 hm1, mk182 hm1, mk183 hm1, mk184 hm1, mr0 hm1, mr3 hm1, mr4 hm1, mr5 hm1, mr6 hm1, mr7 hm1, mr15 hm1, mr17 hm1, mr19 hm1, mr20 hm1, mr24 hm1, mr25 hm1, mr27 hm1, mr28 hm1, mr29 hm1, mr30 hm1, mr31 hm1, mr32 hm1, mr33 hm1, mr35 hm1, mr36 hm1, mr37 hm1, mr38 hm1]
    repeat' first
      | (refine gp_at [8] (by rfl) (by decide) ?_; simp (disch := omega) only [e_wi, e_isr, e_isc, e_stp, e_rt, e_load, e_bin, e_binL, e_ld, e_s1, e_s2, e_n0, e_ok, e_cmp, e_ex, e_gif, e_id32, e_id64, e_v0, e_v1, e_v2, e_v3, e_dt, e_c1, e_sw, e_inv, e_cat, e_rcv, Fin.val_zero, Fin.val_one, Int.toNat_add, Int.toNat_mul, Int.toNat_natCast, Int.reduceToNat, Int.reduceMul, Int.reduceAdd, Int.reduceNeg, Nat.reduceAdd, Nat.reduceSub, Nat.reduceEqDiff, Nat.reduceLT, Nat.reduceLeDiff, List.getElem?_cons_zero, List.getElem?_cons_succ, List.length_cons, List.length_nil, List.take_succ_cons, List.take_zero, List.drop_succ_cons, List.drop_zero, List.reverse_cons, List.reverse_nil, List.nil_append, List.cons_append, List.append_nil, List.map_cons, List.map_nil, List.sum_cons, List.sum_nil, Bool.false_eq_true, if_false, if_true, Bool.and_true, Bool.true_and, Bool.and_self, Bool.or_true, Bool.true_or, Bool.or_false, Bool.false_or, Bool.or_self, decide_eq_true_eq, decide_true, decide_false, beq_self_eq_true, Option.map_some, reduceCtorEq, true_or, or_true, or_false, false_or, or_self, true_and, and_true, and_self, false_and, and_false, Option.some.injEq, exists_eq_left', ne_eq, not_true_eq_false, not_false_eq_true, eq_self, e_pk, e_pr, e_pn, e_ps, e_pd1, e_pd2, e_us, e_un, e_ifp, e_ifn, e_sk, e_sr, e_sn, e_ss, e_sd1, e_sd2, e_sp, mk161 hm1, mk162 hm1, mk163 hm1, mk164 hm1, mk165 hm1, mk166 hm1, mk167 hm1, mk168 hm1, mk169 hm1, mk170 hm1, mk171 hm1, mk172 hm1, mk173 hm1, mk174 hm1, mk175 hm1, mk176 hm1, mk177 hm1, mk178 hm1, mk179 hm1, mk180 hm1, mk181 hm1, mk182 hm1, mk183 hm1, mk184 hm1, mr0 hm1, mr3 hm1, mr4 hm1, mr5 hm1, mr6 hm1, mr7 hm1, mr15 hm1, mr17 hm1, mr19 hm1, mr20 hm1, mr24 hm1, mr25 hm1, mr27 hm1, mr28 hm1, mr29 hm1, mr30 hm1, mr31 hm1, mr32 hm1, mr33 hm1, mr35 hm1, mr36 hm1, mr37 hm1, mr38 hm1])
      | (refine And.intro (fun hc => ?_) (fun hc => ?_) <;> try (exfalso; omega))
      | ((refine w_pop (t := 0) (by omega) hm1 (by rw [htop]; rfl) (by omega) ?_; rw [hX]); dsimp only [Option.toList, List.cons_append, List.nil_append, Nat.reduceAdd])
    all_goals first | exact hQ _ (hs.pf (by decide)) | (exfalso; omega)
  | (s, v) :: r, b, z, T, st, τ, x5, x6, x7, x8, x9, x10, hs, htk, hb, hz, hty, hT31, hvt, hev, hsk, htop => by
    subst hz
    have hm1 := hs.mo hm
    obtain ⟨hcd, hs15, hv, htk2⟩ := htk
    obtain ⟨T', ht1, hty2⟩ := r_ty_cons hty
    have hvt2 := r_t1_vt (w := w) hvt ht1
    have hlen := r_vt_len hvt
    have hh := r_t1_len ht1
    have hT2 := r_t1_le ht1 hT31
    have hev : r_ev w r (r_tk w s v st) = [X] := hev
    rw [List.length_cons] at hb
    dsimp only at hcd hs15 hv hh hvt2
    rw [Nat.add_assoc] at htk2
    have ih := w_reckons_l (k := k) (c := c) (Q := Q) (b0 := b0) hm hk ht he hw hQ r (b + 1) ((b : Int) + 1) T' (r_tk w s v st)
    have h163 := hs.at 163 (by decide) (by decide)
    have h170 := (hs.at 170 (by decide) (by decide)).trans hw
    rw [← h163] at hcd
    rcases hh with ⟨h0, hl⟩ | ⟨h0, hl, hv12⟩ | ⟨h0, hl⟩ | ⟨h2, h14, h11, hl⟩
    · have e1 : r_tk w s v st = (v : Int) :: st := if_pos h0
      rw [e1] at ih hvt2 hev
      refine gp_of (by rfl) ?_
      simp (disch := omega) only [e_wi, e_isr, e_isc, e_stp, e_rt, e_load, e_bin, e_binL, e_ld, e_s1, e_s2, e_n0, e_ok, e_cmp, e_ex, e_gif, e_id32, e_id64, e_v0, e_v1, e_v2, e_v3, e_dt, e_c1, e_sw, e_inv, e_cat, e_rcv, Fin.val_zero, Fin.val_one, Int.toNat_add, Int.toNat_mul, Int.toNat_natCast, Int.reduceToNat, Int.reduceMul, Int.reduceAdd, Int.reduceNeg, Nat.reduceAdd, Nat.reduceSub, Nat.reduceEqDiff, Nat.reduceLT, Nat.reduceLeDiff, List.getElem?_cons_zero, List.getElem?_cons_succ, List.length_cons, List.length_nil, List.take_succ_cons, List.take_zero, List.drop_succ_cons, List.drop_zero, List.reverse_cons, List.reverse_nil, List.nil_append, List.cons_append, List.append_nil, List.map_cons, List.map_nil, List.sum_cons, List.sum_nil, Bool.false_eq_true, if_false, if_true, Bool.and_true, Bool.true_and, Bool.and_self, Bool.or_true, Bool.true_or, Bool.or_false, Bool.false_or, Bool.or_self, decide_eq_true_eq, decide_true, decide_false, beq_self_eq_true, Option.map_some, reduceCtorEq, true_or, or_true, or_false, false_or, or_self, true_and, and_true, and_self, false_and, and_false, Option.some.injEq, exists_eq_left', ne_eq, not_true_eq_false, not_false_eq_true, eq_self, e_pk, e_pr, e_pn, e_ps, e_pd1, e_pd2, e_us, e_un, e_ifp, e_ifn, e_sk, e_sr, e_sn, e_ss, e_sd1, e_sd2, e_sp, mk161 hm1, mk162 hm1, mk163 hm1, mk164 hm1, mk165 hm1, mk166 hm1, mk167 hm1, mk168 hm1, mk169 hm1, mk170 hm1, mk171 hm1, mk172 hm1, mk173 hm1, mk174 hm1, mk175 hm1, mk176 hm1, mk177 hm1, mk178 hm1, mk179 hm1, mk180 hm1, mk181 hm1, mk182 hm1, mk183 hm1, mk184 hm1, mr0 hm1, mr3 hm1, mr4 hm1, mr5 hm1, mr6 hm1, mr7 hm1, mr15 hm1, mr17 hm1, mr19 hm1, mr20 hm1, mr24 hm1, mr25 hm1, mr27 hm1, mr28 hm1, mr29 hm1, mr30 hm1, mr31 hm1, mr32 hm1, mr33 hm1, mr35 hm1, mr36 hm1, mr37 hm1, mr38 hm1, hcd, r_c15, r_c4]
      repeat' first
        | (refine gp_at [8] (by rfl) (by decide) ?_; simp (disch := omega) only [e_wi, e_isr, e_isc, e_stp, e_rt, e_load, e_bin, e_binL, e_ld, e_s1, e_s2, e_n0, e_ok, e_cmp, e_ex, e_gif, e_id32, e_id64, e_v0, e_v1, e_v2, e_v3, e_dt, e_c1, e_sw, e_inv, e_cat, e_rcv, Fin.val_zero, Fin.val_one, Int.toNat_add, Int.toNat_mul, Int.toNat_natCast, Int.reduceToNat, Int.reduceMul, Int.reduceAdd, Int.reduceNeg, Nat.reduceAdd, Nat.reduceSub, Nat.reduceEqDiff, Nat.reduceLT, Nat.reduceLeDiff, List.getElem?_cons_zero, List.getElem?_cons_succ, List.length_cons, List.length_nil, List.take_succ_cons, List.take_zero, List.drop_succ_cons, List.drop_zero, List.reverse_cons, List.reverse_nil, List.nil_append, List.cons_append, List.append_nil, List.map_cons, List.map_nil, List.sum_cons, List.sum_nil, Bool.false_eq_true, if_false, if_true, Bool.and_true, Bool.true_and, Bool.and_self, Bool.or_true, Bool.true_or, Bool.or_false, Bool.false_or, Bool.or_self, decide_eq_true_eq, decide_true, decide_false, beq_self_eq_true, Option.map_some, reduceCtorEq, true_or, or_true, or_false, false_or, or_self, true_and, and_true, and_self, false_and, and_false, Option.some.injEq, exists_eq_left', ne_eq, not_true_eq_false, not_false_eq_true, eq_self, e_pk, e_pr, e_pn, e_ps, e_pd1, e_pd2, e_us, e_un, e_ifp, e_ifn, e_sk, e_sr, e_sn, e_ss, e_sd1, e_sd2, e_sp, mk161 hm1, mk162 hm1, mk163 hm1, mk164 hm1, mk165 hm1, mk166 hm1, mk167 hm1, mk168 hm1, mk169 hm1, mk170 hm1, mk171 hm1, mk172 hm1, mk173 hm1, mk174 hm1, mk175 hm1, mk176 hm1, mk177 hm1, mk178 hm1, mk179 hm1, mk180 hm1, mk181 hm1, mk182 hm1, mk183 hm1, mk184 hm1, mr0 hm1, mr3 hm1, mr4 hm1, mr5 hm1, mr6 hm1, mr7 hm1, mr15 hm1, mr17 hm1, mr19 hm1, mr20 hm1, mr24 hm1, mr25 hm1, mr27 hm1, mr28 hm1, mr29 hm1, mr30 hm1, mr31 hm1, mr32 hm1, mr33 hm1, mr35 hm1, mr36 hm1, mr37 hm1, mr38 hm1, hcd, r_c15, r_c4])
        | (refine And.intro (fun hc => ?_) (fun hc => ?_) <;> try (exfalso; omega))
        | (refine w_push (t := st.length) (by omega) hm1 htop (by omega) ?_; dsimp only [Option.toList, List.cons_append, List.nil_append, Nat.reduceAdd])
      all_goals first
        | (exfalso; omega)
        | (have hp := r_psh (v := (v : Int)) hs hsk
           exact ih _ _ _ _ _ _ _ hp.1 htk2 (by omega) rfl hty2 hT2 hvt2 hev hp.2.1 hp.2.2)
    · have e1 : r_tk w s v st = w v :: st := by
        unfold r_tk
        rw [if_neg (by omega), if_pos h0]
      rw [e1] at ih hvt2 hev
      refine gp_of (by rfl) ?_
      simp (disch := omega) only [e_wi, e_isr, e_isc, e_stp, e_rt, e_load, e_bin, e_binL, e_ld, e_s1, e_s2, e_n0, e_ok, e_cmp, e_ex, e_gif, e_id32, e_id64, e_v0, e_v1, e_v2, e_v3, e_dt, e_c1, e_sw, e_inv, e_cat, e_rcv, Fin.val_zero, Fin.val_one, Int.toNat_add, Int.toNat_mul, Int.toNat_natCast, Int.reduceToNat, Int.reduceMul, Int.reduceAdd, Int.reduceNeg, Nat.reduceAdd, Nat.reduceSub, Nat.reduceEqDiff, Nat.reduceLT, Nat.reduceLeDiff, List.getElem?_cons_zero, List.getElem?_cons_succ, List.length_cons, List.length_nil, List.take_succ_cons, List.take_zero, List.drop_succ_cons, List.drop_zero, List.reverse_cons, List.reverse_nil, List.nil_append, List.cons_append, List.append_nil, List.map_cons, List.map_nil, List.sum_cons, List.sum_nil, Bool.false_eq_true, if_false, if_true, Bool.and_true, Bool.true_and, Bool.and_self, Bool.or_true, Bool.true_or, Bool.or_false, Bool.false_or, Bool.or_self, decide_eq_true_eq, decide_true, decide_false, beq_self_eq_true, Option.map_some, reduceCtorEq, true_or, or_true, or_false, false_or, or_self, true_and, and_true, and_self, false_and, and_false, Option.some.injEq, exists_eq_left', ne_eq, not_true_eq_false, not_false_eq_true, eq_self, e_pk, e_pr, e_pn, e_ps, e_pd1, e_pd2, e_us, e_un, e_ifp, e_ifn, e_sk, e_sr, e_sn, e_ss, e_sd1, e_sd2, e_sp, mk161 hm1, mk162 hm1, mk163 hm1, mk164 hm1, mk165 hm1, mk166 hm1, mk167 hm1, mk168 hm1, mk169 hm1, mk170 hm1, mk171 hm1, mk172 hm1, mk173 hm1, mk174 hm1, mk175 hm1, mk176 hm1, mk177 hm1, mk178 hm1, mk179 hm1, mk180 hm1, mk181 hm1, mk182 hm1, mk183 hm1, mk184 hm1, mr0 hm1, mr3 hm1, mr4 hm1, mr5 hm1, mr6 hm1, mr7 hm1, mr15 hm1, mr17 hm1, mr19 hm1, mr20 hm1, mr24 hm1, mr25 hm1, mr27 hm1, mr28 hm1, mr29 hm1, mr30 hm1, mr31 hm1, mr32 hm1, mr33 hm1, mr35 hm1, mr36 hm1, mr37 hm1, mr38 hm1, hcd, r_c15, r_c4, h170]
      repeat' first
        | (refine gp_at [8] (by rfl) (by decide) ?_; simp (disch := omega) only [e_wi, e_isr, e_isc, e_stp, e_rt, e_load, e_bin, e_binL, e_ld, e_s1, e_s2, e_n0, e_ok, e_cmp, e_ex, e_gif, e_id32, e_id64, e_v0, e_v1, e_v2, e_v3, e_dt, e_c1, e_sw, e_inv, e_cat, e_rcv, Fin.val_zero, Fin.val_one, Int.toNat_add, Int.toNat_mul, Int.toNat_natCast, Int.reduceToNat, Int.reduceMul, Int.reduceAdd, Int.reduceNeg, Nat.reduceAdd, Nat.reduceSub, Nat.reduceEqDiff, Nat.reduceLT, Nat.reduceLeDiff, List.getElem?_cons_zero, List.getElem?_cons_succ, List.length_cons, List.length_nil, List.take_succ_cons, List.take_zero, List.drop_succ_cons, List.drop_zero, List.reverse_cons, List.reverse_nil, List.nil_append, List.cons_append, List.append_nil, List.map_cons, List.map_nil, List.sum_cons, List.sum_nil, Bool.false_eq_true, if_false, if_true, Bool.and_true, Bool.true_and, Bool.and_self, Bool.or_true, Bool.true_or, Bool.or_false, Bool.false_or, Bool.or_self, decide_eq_true_eq, decide_true, decide_false, beq_self_eq_true, Option.map_some, reduceCtorEq, true_or, or_true, or_false, false_or, or_self, true_and, and_true, and_self, false_and, and_false, Option.some.injEq, exists_eq_left', ne_eq, not_true_eq_false, not_false_eq_true, eq_self, e_pk, e_pr, e_pn, e_ps, e_pd1, e_pd2, e_us, e_un, e_ifp, e_ifn, e_sk, e_sr, e_sn, e_ss, e_sd1, e_sd2, e_sp, mk161 hm1, mk162 hm1, mk163 hm1, mk164 hm1, mk165 hm1, mk166 hm1, mk167 hm1, mk168 hm1, mk169 hm1, mk170 hm1, mk171 hm1, mk172 hm1, mk173 hm1, mk174 hm1, mk175 hm1, mk176 hm1, mk177 hm1, mk178 hm1, mk179 hm1, mk180 hm1, mk181 hm1, mk182 hm1, mk183 hm1, mk184 hm1, mr0 hm1, mr3 hm1, mr4 hm1, mr5 hm1, mr6 hm1, mr7 hm1, mr15 hm1, mr17 hm1, mr19 hm1, mr20 hm1, mr24 hm1, mr25 hm1, mr27 hm1, mr28 hm1, mr29 hm1, mr30 hm1, mr31 hm1, mr32 hm1, mr33 hm1, mr35 hm1, mr36 hm1, mr37 hm1, mr38 hm1, hcd, r_c15, r_c4, h170])
        | (refine And.intro (fun hc => ?_) (fun hc => ?_) <;> try (exfalso; omega))
        | (refine w_push (t := st.length) (by omega) hm1 htop (by omega) ?_; dsimp only [Option.toList, List.cons_append, List.nil_append, Nat.reduceAdd])
      all_goals first
        | (exfalso; omega)
        | (have hp := r_psh (v := w v) hs hsk
           exact ih _ _ _ _ _ _ _ hp.1 htk2 (by omega) rfl hty2 hT2 hvt2 hev hp.2.1 hp.2.2)
    · cases st with
      | nil => simp at hlen; omega
      | cons x st =>
        have e1 : r_tk w s v (x :: st) = (1 - x) :: st := by
          unfold r_tk
          rw [if_neg (by omega), if_neg (by omega), if_pos h0]
        rw [e1] at ih hvt2 hev
        rw [List.length_cons] at htop hlen
        have hX : τ.2.2.2.1 169 st.length = x := hsk.1
        have hp1 := r_pp hs hsk
        have hm2 := hp1.1.mo hm
        refine gp_of (by rfl) ?_
        simp (disch := omega) only [e_wi, e_isr, e_isc, e_stp, e_rt, e_load, e_bin, e_binL, e_ld, e_s1, e_s2, e_n0, e_ok, e_cmp, e_ex, e_gif, e_id32, e_id64, e_v0, e_v1, e_v2, e_v3, e_dt, e_c1, e_sw, e_inv, e_cat, e_rcv, Fin.val_zero, Fin.val_one, Int.toNat_add, Int.toNat_mul, Int.toNat_natCast, Int.reduceToNat, Int.reduceMul, Int.reduceAdd, Int.reduceNeg, Nat.reduceAdd, Nat.reduceSub, Nat.reduceEqDiff, Nat.reduceLT, Nat.reduceLeDiff, List.getElem?_cons_zero, List.getElem?_cons_succ, List.length_cons, List.length_nil, List.take_succ_cons, List.take_zero, List.drop_succ_cons, List.drop_zero, List.reverse_cons, List.reverse_nil, List.nil_append, List.cons_append, List.append_nil, List.map_cons, List.map_nil, List.sum_cons, List.sum_nil, Bool.false_eq_true, if_false, if_true, Bool.and_true, Bool.true_and, Bool.and_self, Bool.or_true, Bool.true_or, Bool.or_false, Bool.false_or, Bool.or_self, decide_eq_true_eq, decide_true, decide_false, beq_self_eq_true, Option.map_some, reduceCtorEq, true_or, or_true, or_false, false_or, or_self, true_and, and_true, and_self, false_and, and_false, Option.some.injEq, exists_eq_left', ne_eq, not_true_eq_false, not_false_eq_true, eq_self, e_pk, e_pr, e_pn, e_ps, e_pd1, e_pd2, e_us, e_un, e_ifp, e_ifn, e_sk, e_sr, e_sn, e_ss, e_sd1, e_sd2, e_sp, mk161 hm1, mk162 hm1, mk163 hm1, mk164 hm1, mk165 hm1, mk166 hm1, mk167 hm1, mk168 hm1, mk169 hm1, mk170 hm1, mk171 hm1, mk172 hm1, mk173 hm1, mk174 hm1, mk175 hm1, mk176 hm1, mk177 hm1, mk178 hm1, mk179 hm1, mk180 hm1, mk181 hm1, mk182 hm1, mk183 hm1, mk184 hm1, mr0 hm1, mr3 hm1, mr4 hm1, mr5 hm1, mr6 hm1, mr7 hm1, mr15 hm1, mr17 hm1, mr19 hm1, mr20 hm1, mr24 hm1, mr25 hm1, mr27 hm1, mr28 hm1, mr29 hm1, mr30 hm1, mr31 hm1, mr32 hm1, mr33 hm1, mr35 hm1, mr36 hm1, mr37 hm1, mr38 hm1, hcd, r_c15, r_c4]
        repeat' first
          | (refine gp_at [8] (by rfl) (by decide) ?_; simp (disch := omega) only [e_wi, e_isr, e_isc, e_stp, e_rt, e_load, e_bin, e_binL, e_ld, e_s1, e_s2, e_n0, e_ok, e_cmp, e_ex, e_gif, e_id32, e_id64, e_v0, e_v1, e_v2, e_v3, e_dt, e_c1, e_sw, e_inv, e_cat, e_rcv, Fin.val_zero, Fin.val_one, Int.toNat_add, Int.toNat_mul, Int.toNat_natCast, Int.reduceToNat, Int.reduceMul, Int.reduceAdd, Int.reduceNeg, Nat.reduceAdd, Nat.reduceSub, Nat.reduceEqDiff, Nat.reduceLT, Nat.reduceLeDiff, List.getElem?_cons_zero, List.getElem?_cons_succ, List.length_cons, List.length_nil, List.take_succ_cons, List.take_zero, List.drop_succ_cons, List.drop_zero, List.reverse_cons, List.reverse_nil, List.nil_append, List.cons_append, List.append_nil, List.map_cons, List.map_nil, List.sum_cons, List.sum_nil, Bool.false_eq_true, if_false, if_true, Bool.and_true, Bool.true_and, Bool.and_self, Bool.or_true, Bool.true_or, Bool.or_false, Bool.false_or, Bool.or_self, decide_eq_true_eq, decide_true, decide_false, beq_self_eq_true, Option.map_some, reduceCtorEq, true_or, or_true, or_false, false_or, or_self, true_and, and_true, and_self, false_and, and_false, Option.some.injEq, exists_eq_left', ne_eq, not_true_eq_false, not_false_eq_true, eq_self, e_pk, e_pr, e_pn, e_ps, e_pd1, e_pd2, e_us, e_un, e_ifp, e_ifn, e_sk, e_sr, e_sn, e_ss, e_sd1, e_sd2, e_sp, mk161 hm1, mk162 hm1, mk163 hm1, mk164 hm1, mk165 hm1, mk166 hm1, mk167 hm1, mk168 hm1, mk169 hm1, mk170 hm1, mk171 hm1, mk172 hm1, mk173 hm1, mk174 hm1, mk175 hm1, mk176 hm1, mk177 hm1, mk178 hm1, mk179 hm1, mk180 hm1, mk181 hm1, mk182 hm1, mk183 hm1, mk184 hm1, mr0 hm1, mr3 hm1, mr4 hm1, mr5 hm1, mr6 hm1, mr7 hm1, mr15 hm1, mr17 hm1, mr19 hm1, mr20 hm1, mr24 hm1, mr25 hm1, mr27 hm1, mr28 hm1, mr29 hm1, mr30 hm1, mr31 hm1, mr32 hm1, mr33 hm1, mr35 hm1, mr36 hm1, mr37 hm1, mr38 hm1, hcd, r_c15, r_c4])
          | (refine And.intro (fun hc => ?_) (fun hc => ?_) <;> try (exfalso; omega))
          | ((refine w_pop (t := st.length) (by omega) hm1 (by rw [htop]; push_cast; rfl) (by omega) ?_; rw [hX]); dsimp only [Option.toList, List.cons_append, List.nil_append, Nat.reduceAdd])
          | (refine w_push (t := st.length) (by omega) hm2 hp1.2.2 (by omega) ?_; dsimp only [Option.toList, List.cons_append, List.nil_append, Nat.reduceAdd])
        all_goals first
          | (exfalso; omega)
          | (have hp := r_psh (v := 1 - x) hp1.1 hp1.2.1
             exact ih _ _ _ _ _ _ _ hp.1 htk2 (by omega) rfl hty2 hT2 hvt2 hev hp.2.1 hp.2.2)
    · cases st with
      | nil => simp at hlen; omega
      | cons y st =>
        cases st with
        | nil => simp at hlen; omega
        | cons x st =>
          have e1 : r_tk w s v (y :: x :: st) = r_op s x y :: st := by
            unfold r_tk
            rw [if_neg (by omega), if_neg (by omega), if_neg h11]
          rw [e1] at ih hvt2 hev
          rw [List.length_cons] at htop hlen
          have hY : τ.2.2.2.1 169 (st.length + 1) = y := hsk.1
          have hX : τ.2.2.2.1 169 st.length = x := hsk.2.1
          have hp1 := r_pp hs hsk
          have hm2 := hp1.1.mo hm
          have hp2 := r_pp hp1.1 hp1.2.1
          have hm3 := hp2.1.mo hm
          rw [List.length_cons] at hp1 hm2 hlen hp2 hm3
          refine gp_of (by rfl) ?_
          simp (disch := omega) only [e_wi, e_isr, e_isc, e_stp, e_rt, e_load, e_bin, e_binL, e_ld, e_s1, e_s2, e_n0, e_ok, e_cmp, e_ex, e_gif, e_id32, e_id64, e_v0, e_v1, e_v2, e_v3, e_dt, e_c1, e_sw, e_inv, e_cat, e_rcv, Fin.val_zero, Fin.val_one, Int.toNat_add, Int.toNat_mul, Int.toNat_natCast, Int.reduceToNat, Int.reduceMul, Int.reduceAdd, Int.reduceNeg, Nat.reduceAdd, Nat.reduceSub, Nat.reduceEqDiff, Nat.reduceLT, Nat.reduceLeDiff, List.getElem?_cons_zero, List.getElem?_cons_succ, List.length_cons, List.length_nil, List.take_succ_cons, List.take_zero, List.drop_succ_cons, List.drop_zero, List.reverse_cons, List.reverse_nil, List.nil_append, List.cons_append, List.append_nil, List.map_cons, List.map_nil, List.sum_cons, List.sum_nil, Bool.false_eq_true, if_false, if_true, Bool.and_true, Bool.true_and, Bool.and_self, Bool.or_true, Bool.true_or, Bool.or_false, Bool.false_or, Bool.or_self, decide_eq_true_eq, decide_true, decide_false, beq_self_eq_true, Option.map_some, reduceCtorEq, true_or, or_true, or_false, false_or, or_self, true_and, and_true, and_self, false_and, and_false, Option.some.injEq, exists_eq_left', ne_eq, not_true_eq_false, not_false_eq_true, eq_self, e_pk, e_pr, e_pn, e_ps, e_pd1, e_pd2, e_us, e_un, e_ifp, e_ifn, e_sk, e_sr, e_sn, e_ss, e_sd1, e_sd2, e_sp, mk161 hm1, mk162 hm1, mk163 hm1, mk164 hm1, mk165 hm1, mk166 hm1, mk167 hm1, mk168 hm1, mk169 hm1, mk170 hm1, mk171 hm1, mk172 hm1, mk173 hm1, mk174 hm1, mk175 hm1, mk176 hm1, mk177 hm1, mk178 hm1, mk179 hm1, mk180 hm1, mk181 hm1, mk182 hm1, mk183 hm1, mk184 hm1, mr0 hm1, mr3 hm1, mr4 hm1, mr5 hm1, mr6 hm1, mr7 hm1, mr15 hm1, mr17 hm1, mr19 hm1, mr20 hm1, mr24 hm1, mr25 hm1, mr27 hm1, mr28 hm1, mr29 hm1, mr30 hm1, mr31 hm1, mr32 hm1, mr33 hm1, mr35 hm1, mr36 hm1, mr37 hm1, mr38 hm1, hcd, r_c15, r_c4]
          repeat' first
            | (refine gp_at [8] (by rfl) (by decide) ?_; simp (disch := omega) only [e_wi, e_isr, e_isc, e_stp, e_rt, e_load, e_bin, e_binL, e_ld, e_s1, e_s2, e_n0, e_ok, e_cmp, e_ex, e_gif, e_id32, e_id64, e_v0, e_v1, e_v2, e_v3, e_dt, e_c1, e_sw, e_inv, e_cat, e_rcv, Fin.val_zero, Fin.val_one, Int.toNat_add, Int.toNat_mul, Int.toNat_natCast, Int.reduceToNat, Int.reduceMul, Int.reduceAdd, Int.reduceNeg, Nat.reduceAdd, Nat.reduceSub, Nat.reduceEqDiff, Nat.reduceLT, Nat.reduceLeDiff, List.getElem?_cons_zero, List.getElem?_cons_succ, List.length_cons, List.length_nil, List.take_succ_cons, List.take_zero, List.drop_succ_cons, List.drop_zero, List.reverse_cons, List.reverse_nil, List.nil_append, List.cons_append, List.append_nil, List.map_cons, List.map_nil, List.sum_cons, List.sum_nil, Bool.false_eq_true, if_false, if_true, Bool.and_true, Bool.true_and, Bool.and_self, Bool.or_true, Bool.true_or, Bool.or_false, Bool.false_or, Bool.or_self, decide_eq_true_eq, decide_true, decide_false, beq_self_eq_true, Option.map_some, reduceCtorEq, true_or, or_true, or_false, false_or, or_self, true_and, and_true, and_self, false_and, and_false, Option.some.injEq, exists_eq_left', ne_eq, not_true_eq_false, not_false_eq_true, eq_self, e_pk, e_pr, e_pn, e_ps, e_pd1, e_pd2, e_us, e_un, e_ifp, e_ifn, e_sk, e_sr, e_sn, e_ss, e_sd1, e_sd2, e_sp, mk161 hm1, mk162 hm1, mk163 hm1, mk164 hm1, mk165 hm1, mk166 hm1, mk167 hm1, mk168 hm1, mk169 hm1, mk170 hm1, mk171 hm1, mk172 hm1, mk173 hm1, mk174 hm1, mk175 hm1, mk176 hm1, mk177 hm1, mk178 hm1, mk179 hm1, mk180 hm1, mk181 hm1, mk182 hm1, mk183 hm1, mk184 hm1, mr0 hm1, mr3 hm1, mr4 hm1, mr5 hm1, mr6 hm1, mr7 hm1, mr15 hm1, mr17 hm1, mr19 hm1, mr20 hm1, mr24 hm1, mr25 hm1, mr27 hm1, mr28 hm1, mr29 hm1, mr30 hm1, mr31 hm1, mr32 hm1, mr33 hm1, mr35 hm1, mr36 hm1, mr37 hm1, mr38 hm1, hcd, r_c15, r_c4])
            | (refine And.intro (fun hc => ?_) (fun hc => ?_) <;> try (exfalso; omega))
            | ((refine w_pop (t := st.length + 1) (by omega) hm1 (by rw [htop, List.length_cons]; push_cast; rfl) (by omega) ?_; rw [hY]); dsimp only [Option.toList, List.cons_append, List.nil_append, Nat.reduceAdd])
            | ((refine w_pop (t := st.length) (by omega) hm2 (by rw [hp1.2.2]; push_cast; rfl) (by omega) ?_; rw [e_pd2 _ (by decide), hX]); dsimp only [Option.toList, List.cons_append, List.nil_append, Nat.reduceAdd])
            | (refine w_one (by omega) (by omega) (by omega) (by omega) ?_; dsimp only [Option.toList, List.cons_append, List.nil_append, Nat.reduceAdd])
            | (refine w_push (t := st.length) (by omega) hm3 hp2.2.2 (by omega) ?_; dsimp only [Option.toList, List.cons_append, List.nil_append, Nat.reduceAdd])
          all_goals first
            | (exfalso; omega)
            | (have hp := r_psh (v := r_op s x y) hp2.1 hp2.2.1
               exact ih _ _ _ _ _ _ _ hp.1 htk2 (by omega) rfl hty2 hT2 hvt2 hev hp.2.1 hp.2.2)
