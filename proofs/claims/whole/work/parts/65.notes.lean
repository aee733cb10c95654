/-- notes as they may be: c of them -/
def Nt (S : Nat → Int) (n c : Nat) : Prop := S 149 = (c : Int) ∧ c ≤ 10 ∧ ∀ i, i < c → (0 ≤ S (119 + 3 * i) ∧ S (119 + 3 * i) ≤ 40) ∧ (0 ≤ S (119 + 3 * i + 1) ∧ S (119 + 3 * i + 1) < n) ∧ (-1 ≤ S (119 + 3 * i + 2) ∧ S (119 + 3 * i + 2) < 4)
/-- what the text told of following and liking, as it may be -/
def Tl (S : Nat → Int) (n : Nat) : Prop := (∀ i, i < n → -1 ≤ S (79 + i) ∧ S (79 + i) < n) ∧ ∀ i, i < 32 → 0 ≤ S (87 + i) ∧ S (87 + i) ≤ 99
theorem r_bg_o {S : Nat → Int} {k : Nat} (hk : k < 10 ∨ 63 ≤ k) : r_bg S 8 4 32 k = S k := by
  unfold r_bg
  rw [if_neg (by omega), if_neg (by omega), if_neg (by omega), if_neg (by omega), if_neg (by omega)]
theorem r_bg_ok {S : Nat → Int} {n q Y : Nat} (h : Ok S n q Y) (ht : Tl S n) : Ok (r_bg S 8 4 32) n q 0 := by
  have hn8 := h.n8
  refine ⟨fun k => ?_, ?_, h.n8, ?_, h.q4, ?_, ?_, ?_, ?_, ?_, ?_, ?_, ?_, ?_, ?_⟩
  · unfold r_bg
    (repeat' split) <;> first | rfl | exact h.w _
  · rw [r_bg_o (by omega)]; exact h.n
  · rw [r_bg_o (by omega)]; exact h.q
  · rw [r_bg_o (by omega)]; exact h.pr
  · rw [r_bg_o (by omega)]; exact h.gr
  · unfold r_bg
    rw [if_pos rfl]
    omega
  · intro i hi
    unfold r_bg
    rw [if_neg (by omega), if_pos (by omega)]
    omega
  · intro i hi
    unfold r_bg
    rw [if_neg (by omega), if_neg (by omega), if_pos (by omega), show 19 + i + 60 = 79 + i by omega]
    exact ht.1 i hi
  · intro i hi
    unfold r_bg
    rw [if_neg (by omega), if_neg (by omega), if_neg (by omega), if_pos (by omega)]
    omega
  · intro i hi
    unfold r_bg
    rw [if_neg (by omega), if_neg (by omega), if_neg (by omega), if_neg (by omega), if_pos (by omega), show 31 + i + 56 = 87 + i by omega]
    exact ht.2 i hi
  · intro i hi; rw [r_bg_o (by omega)]; exact h.wo i hi
  · intro i hi; rw [r_bg_o (by omega)]; exact h.ha i hi
  · intro i hi; rw [r_bg_o (by omega)]; exact h.sa i hi
/-- whether the first j notes of a May are so -/
def nso (X : Nat → Int) (y : Int) : Nat → Bool
  | 0 => true
  | j + 1 => nso X y j && !(decide (X (119 + 3 * j) = y) && decide (X (11 + (X (119 + 3 * j + 1)).toNat) ≠ X (119 + 3 * j + 2)))
theorem nso_F {X : Nat → Int} {y : Int} {s : Nat} (h : X (119 + 3 * s) = y ∧ X (11 + (X (119 + 3 * s + 1)).toNat) ≠ X (119 + 3 * s + 2)) : ∀ n, s < n → nso X y n = false
  | 0, hs => by omega
  | n + 1, hs => by
    unfold nso
    by_cases e : s = n
    · subst e
      rw [← Bool.decide_and, decide_eq_true h]
      simp
    · rw [nso_F h n (by omega), Bool.false_and]
theorem Nt.cg {S X : Nat → Int} {n c : Nat} (h : Nt S n c) (e : ∀ k, 63 ≤ k → X k = S k) : Nt X n c := by
  refine ⟨(e _ (by omega)).trans h.1, h.2.1, fun i hi => ?_⟩
  rw [e _ (by omega), e _ (by omega), e _ (by omega)]
  exact h.2.2 i hi
set_option maxRecDepth 8000 in
set_option maxHeartbeats 2000000 in
theorem w_areNotesSo_l {k : Nat} {n q Y c : Nat} {y : Int} {σ : eH} {Q : Option eV → eH → Prop}  (hm : Mo σ) (hok : Ok (σ.2.2.2.1 171) n q Y) (hnt : Nt (σ.2.2.2.1 171) n c) (hy : e_w32 y = y) (hQ : Q (some (.inl (if nso (σ.2.2.2.1 171) y c = true then 1 else 0))) σ) : ∀ (j s : Nat) (z : Int), z = ((3 * s : Nat) : Int) → nso (σ.2.2.2.1 171) y s = true → s + j = c → e_Gp k e_k253 2 [some (.inr (.inr 163)), some (.inl y), some (.inl z)] [] σ Q
  | 0, s, z, hz, hp, h => by
    subst hz
    obtain rfl : c = s := by omega
    have hc1 := hnt.1
    have hc2 := hnt.2.1
    rw [if_pos hp] at hQ
    refine gp_of (by rfl) ?_
    simp (disch := omega) only [e_wi, e_isr, e_isc, e_stp, e_rt, e_load, e_bin, e_binL, e_ld, e_s1, e_s2, e_n0, e_ok, e_cmp, e_ex, e_gif, e_id32, e_id64, e_v0, e_v1, e_v2, e_v3, e_dt, e_c1, e_sw, e_inv, e_cat, e_rcv, Fin.val_zero, Fin.val_one, Int.toNat_add, Int.toNat_mul, Int.toNat_natCast, Int.reduceToNat, Int.reduceMul, Int.reduceAdd, Int.reduceNeg, Nat.reduceAdd, Nat.reduceSub, Nat.reduceEqDiff, Nat.reduceLT, Nat.reduceLeDiff, List.getElem?_cons_zero, List.getElem?_cons_succ, List.length_cons, List.length_nil, List.take_succ_cons, List.take_zero, List.drop_succ_cons, List.drop_zero, List.reverse_cons, List.reverse_nil, List.nil_append, List.cons_append, List.append_nil, List.map_cons, List.map_nil, List.sum_cons, List.sum_nil, Bool.false_eq_true, if_false, if_true, Bool.and_true, Bool.true_and, Bool.and_self, Bool.or_true, Bool.true_or, Bool.or_false, Bool.false_or, Bool.or_self, decide_eq_true_eq, decide_true, decide_false, beq_self_eq_true, Option.map_some, reduceCtorEq, true_or, or_true, or_false, false_or, or_self, true_and, and_true, and_self, false_and, and_false, Option.some.injEq, exists_eq_left', ne_eq, not_true_eq_false, not_false_eq_true, eq_self, e_pk, e_pr, e_pn, e_ps, e_pd1, e_pd2, e_us, e_un, e_ifp, e_ifn, e_sk, e_sr, e_sn, e_ss, e_sd1, e_sd2, e_sp, mk161 hm, mk162 hm, mk163 hm, mk164 hm, mk165 hm, mk166 hm, mk167 hm, mk168 hm, mk169 hm, mk170 hm, mk171 hm, mk172 hm, mk173 hm, mk174 hm, mk175 hm, mk176 hm, mk177 hm, mk178 hm, mk179 hm, mk180 hm, mk181 hm, mk182 hm, mk183 hm, mk184 hm, mr0 hm, mr3 hm, mr4 hm, mr5 hm, mr6 hm, mr7 hm, mr15 hm, mr17 hm, mr19 hm, mr20 hm, mr24 hm, mr25 hm, mr27 hm, mr28 hm, mr29 hm, mr30 hm, mr31 hm, mr32 hm, mr33 hm, mr35 hm, mr36 hm, mr37 hm, mr38 hm, hc1]
    repeat' first
      | (refine gp_at [2] (by rfl) (by decide) ?_; simp (disch := omega) only [e_wi, e_isr, e_isc, e_stp, e_rt, e_load, e_bin, e_binL, e_ld, e_s1, e_s2, e_n0, e_ok, e_cmp, e_ex, e_gif, e_id32, e_id64, e_v0, e_v1, e_v2, e_v3, e_dt, e_c1, e_sw, e_inv, e_cat, e_rcv, Fin.val_zero, Fin.val_one, Int.toNat_add, Int.toNat_mul, Int.toNat_natCast, Int.reduceToNat, Int.reduceMul, Int.reduceAdd, Int.reduceNeg, Nat.reduceAdd, Nat.reduceSub, Nat.reduceEqDiff, Nat.reduceLT, Nat.reduceLeDiff, List.getElem?_cons_zero, List.getElem?_cons_succ, List.length_cons, List.length_nil, List.take_succ_cons, List.take_zero, List.drop_succ_cons, List.drop_zero, List.reverse_cons, List.reverse_nil, List.nil_append, List.cons_append, List.append_nil, List.map_cons, List.map_nil, List.sum_cons, List.sum_nil, Bool.false_eq_true, if_false, if_true, Bool.and_true, Bool.true_and, Bool.and_self, Bool.or_true, Bool.true_or, Bool.or_false, Bool.false_or, Bool.or_self, decide_eq_true_eq, decide_true, decide_false, beq_self_eq_true, Option.map_some, reduceCtorEq, true_or, or_true, or_false, false_or, or_self, true_and, and_true, and_self, false_and, and_false, Option.some.injEq, exists_eq_left', ne_eq, not_true_eq_false, not_false_eq_true, eq_self, e_pk, e_pr, e_pn, e_ps, e_pd1, e_pd2, e_us, e_un, e_ifp, e_ifn, e_sk, e_sr, e_sn, e_ss, e_sd1, e_sd2, e_sp, mk161 hm, mk162 hm, mk163 hm, mk164 hm, mk165 hm, mk166 hm, mk167 hm, mk168 hm, mk169 hm, mk170 hm, mk171 hm, mk172 hm, mk173 hm, mk174 hm, mk175 hm, mk176 hm, mk177 hm, mk178 hm, mk179 hm, mk180 hm, mk181 hm, mk182 hm, mk183 hm, mk184 hm, mr0 hm, mr3 hm, mr4 hm, mr5 hm, mr6 hm, mr7 hm, mr15 hm, mr17 hm, mr19 hm, mr20 hm, mr24 hm, mr25 hm, mr27 hm, mr28 hm, mr29 hm, mr30 hm, mr31 hm, mr32 hm, mr33 hm, mr35 hm, mr36 hm, mr37 hm, mr38 hm, hc1])
      | (refine And.intro (fun hc => ?_) (fun hc => ?_) <;> try (exfalso; omega))
    all_goals first | exact hQ | (exfalso; omega)
  | j + 1, s, z, hz, hp, h => by
    subst hz
    have hc1 := hnt.1
    have hc2 := hnt.2.1
    have hn8 := hok.n8
    have hi := hnt.2.2 s (by omega)
    have hw := hok.w
    obtain ⟨v, hv⟩ : ∃ v : Nat, σ.2.2.2.1 171 (119 + 3 * s + 1) = (v : Int) := ⟨(σ.2.2.2.1 171 (119 + 3 * s + 1)).toNat, by omega⟩
    have hwh := hok.wh v (by omega)
    by_cases he : σ.2.2.2.1 171 (119 + 3 * s) = y ∧ σ.2.2.2.1 171 (11 + (σ.2.2.2.1 171 (119 + 3 * s + 1)).toNat) ≠ σ.2.2.2.1 171 (119 + 3 * s + 2)
    · rw [if_neg (by rw [nso_F he c (by omega)]; decide)] at hQ
      rw [hv, Int.toNat_natCast] at he
      obtain ⟨he1, he2⟩ := he
      refine gp_of (by rfl) ?_
      simp (disch := omega) only [e_wi, e_isr, e_isc, e_stp, e_rt, e_load, e_bin, e_binL, e_ld, e_s1, e_s2, e_n0, e_ok, e_cmp, e_ex, e_gif, e_id32, e_id64, e_v0, e_v1, e_v2, e_v3, e_dt, e_c1, e_sw, e_inv, e_cat, e_rcv, Fin.val_zero, Fin.val_one, Int.toNat_add, Int.toNat_mul, Int.toNat_natCast, Int.reduceToNat, Int.reduceMul, Int.reduceAdd, Int.reduceNeg, Nat.reduceAdd, Nat.reduceSub, Nat.reduceEqDiff, Nat.reduceLT, Nat.reduceLeDiff, List.getElem?_cons_zero, List.getElem?_cons_succ, List.length_cons, List.length_nil, List.take_succ_cons, List.take_zero, List.drop_succ_cons, List.drop_zero, List.reverse_cons, List.reverse_nil, List.nil_append, List.cons_append, List.append_nil, List.map_cons, List.map_nil, List.sum_cons, List.sum_nil, Bool.false_eq_true, if_false, if_true, Bool.and_true, Bool.true_and, Bool.and_self, Bool.or_true, Bool.true_or, Bool.or_false, Bool.false_or, Bool.or_self, decide_eq_true_eq, decide_true, decide_false, beq_self_eq_true, Option.map_some, reduceCtorEq, true_or, or_true, or_false, false_or, or_self, true_and, and_true, and_self, false_and, and_false, Option.some.injEq, exists_eq_left', ne_eq, not_true_eq_false, not_false_eq_true, eq_self, e_pk, e_pr, e_pn, e_ps, e_pd1, e_pd2, e_us, e_un, e_ifp, e_ifn, e_sk, e_sr, e_sn, e_ss, e_sd1, e_sd2, e_sp, mk161 hm, mk162 hm, mk163 hm, mk164 hm, mk165 hm, mk166 hm, mk167 hm, mk168 hm, mk169 hm, mk170 hm, mk171 hm, mk172 hm, mk173 hm, mk174 hm, mk175 hm, mk176 hm, mk177 hm, mk178 hm, mk179 hm, mk180 hm, mk181 hm, mk182 hm, mk183 hm, mk184 hm, mr0 hm, mr3 hm, mr4 hm, mr5 hm, mr6 hm, mr7 hm, mr15 hm, mr17 hm, mr19 hm, mr20 hm, mr24 hm, mr25 hm, mr27 hm, mr28 hm, mr29 hm, mr30 hm, mr31 hm, mr32 hm, mr33 hm, mr35 hm, mr36 hm, mr37 hm, mr38 hm, hc1, hw, hy, hv]
      repeat' first
        | (refine gp_at [2] (by rfl) (by decide) ?_; simp (disch := omega) only [e_wi, e_isr, e_isc, e_stp, e_rt, e_load, e_bin, e_binL, e_ld, e_s1, e_s2, e_n0, e_ok, e_cmp, e_ex, e_gif, e_id32, e_id64, e_v0, e_v1, e_v2, e_v3, e_dt, e_c1, e_sw, e_inv, e_cat, e_rcv, Fin.val_zero, Fin.val_one, Int.toNat_add, Int.toNat_mul, Int.toNat_natCast, Int.reduceToNat, Int.reduceMul, Int.reduceAdd, Int.reduceNeg, Nat.reduceAdd, Nat.reduceSub, Nat.reduceEqDiff, Nat.reduceLT, Nat.reduceLeDiff, List.getElem?_cons_zero, List.getElem?_cons_succ, List.length_cons, List.length_nil, List.take_succ_cons, List.take_zero, List.drop_succ_cons, List.drop_zero, List.reverse_cons, List.reverse_nil, List.nil_append, List.cons_append, List.append_nil, List.map_cons, List.map_nil, List.sum_cons, List.sum_nil, Bool.false_eq_true, if_false, if_true, Bool.and_true, Bool.true_and, Bool.and_self, Bool.or_true, Bool.true_or, Bool.or_false, Bool.false_or, Bool.or_self, decide_eq_true_eq, decide_true, decide_false, beq_self_eq_true, Option.map_some, reduceCtorEq, true_or, or_true, or_false, false_or, or_self, true_and, and_true, and_self, false_and, and_false, Option.some.injEq, exists_eq_left', ne_eq, not_true_eq_false, not_false_eq_true, eq_self, e_pk, e_pr, e_pn, e_ps, e_pd1, e_pd2, e_us, e_un, e_ifp, e_ifn, e_sk, e_sr, e_sn, e_ss, e_sd1, e_sd2, e_sp, mk161 hm, mk162 hm, mk163 hm, mk164 hm, mk165 hm, mk166 hm, mk167 hm, mk168 hm, mk169 hm, mk170 hm, mk171 hm, mk172 hm, mk173 hm, mk174 hm, mk175 hm, mk176 hm, mk177 hm, mk178 hm, mk179 hm, mk180 hm, mk181 hm, mk182 hm, mk183 hm, mk184 hm, mr0 hm, mr3 hm, mr4 hm, mr5 hm, mr6 hm, mr7 hm, mr15 hm, mr17 hm, mr19 hm, mr20 hm, mr24 hm, mr25 hm, mr27 hm, mr28 hm, mr29 hm, mr30 hm, mr31 hm, mr32 hm, mr33 hm, mr35 hm, mr36 hm, mr37 hm, mr38 hm, hc1, hw, hy, hv])
        | (refine And.intro (fun hc => ?_) (fun hc => ?_) <;> try (exfalso; omega))
      all_goals first | exact hQ | (exfalso; omega)
    · have ih := w_areNotesSo_l (k := k) hm hok hnt hy hQ j (s + 1) (((3 * s : Nat) : Int) + 3) (by omega) (by unfold nso; rw [hp, ← Bool.decide_and, decide_eq_false he]; rfl) (by omega)
      rw [hv, Int.toNat_natCast] at he
      refine gp_of (by rfl) ?_
      simp (disch := omega) only [e_wi, e_isr, e_isc, e_stp, e_rt, e_load, e_bin, e_binL, e_ld, e_s1, e_s2, e_n0, e_ok, e_cmp, e_ex, e_gif, e_id32, e_id64, e_v0, e_v1, e_v2, e_v3, e_dt, e_c1, e_sw, e_inv, e_cat, e_rcv, Fin.val_zero, Fin.val_one, Int.toNat_add, Int.toNat_mul, Int.toNat_natCast, Int.reduceToNat, Int.reduceMul, Int.reduceAdd, Int.reduceNeg, Nat.reduceAdd, Nat.reduceSub, Nat.reduceEqDiff, Nat.reduceLT, Nat.reduceLeDiff, List.getElem?_cons_zero, List.getElem?_cons_succ, List.length_cons, List.length_nil, List.take_succ_cons, List.take_zero, List.drop_succ_cons, List.drop_zero, List.reverse_cons, List.reverse_nil, List.nil_append, List.cons_append, List.append_nil, List.map_cons, List.map_nil, List.sum_cons, List.sum_nil, Bool.false_eq_true, if_false, if_true, Bool.and_true, Bool.true_and, Bool.and_self, Bool.or_true, Bool.true_or, Bool.or_false, Bool.false_or, Bool.or_self, decide_eq_true_eq, decide_true, decide_false, beq_self_eq_true, Option.map_some, reduceCtorEq, true_or, or_true, or_false, false_or, or_self, true_and, and_true, and_self, false_and, and_false, Option.some.injEq, exists_eq_left', ne_eq, not_true_eq_false, not_false_eq_true, eq_self, e_pk, e_pr, e_pn, e_ps, e_pd1, e_pd2, e_us, e_un, e_ifp, e_ifn, e_sk, e_sr, e_sn, e_ss, e_sd1, e_sd2, e_sp, mk161 hm, mk162 hm, mk163 hm, mk164 hm, mk165 hm, mk166 hm, mk167 hm, mk168 hm, mk169 hm, mk170 hm, mk171 hm, mk172 hm, mk173 hm, mk174 hm, mk175 hm, mk176 hm, mk177 hm, mk178 hm, mk179 hm, mk180 hm, mk181 hm, mk182 hm, mk183 hm, mk184 hm, mr0 hm, mr3 hm, mr4 hm, mr5 hm, mr6 hm, mr7 hm, mr15 hm, mr17 hm, mr19 hm, mr20 hm, mr24 hm, mr25 hm, mr27 hm, mr28 hm, mr29 hm, mr30 hm, mr31 hm, mr32 hm, mr33 hm, mr35 hm, mr36 hm, mr37 hm, mr38 hm, hc1, hw, hy, hv]
      repeat' first
        | (refine gp_at [2] (by rfl) (by decide) ?_; simp (disch := omega) only [e_wi, e_isr, e_isc, e_stp, e_rt, e_load, e_bin, e_binL, e_ld, e_s1, e_s2, e_n0, e_ok, e_cmp, e_ex, e_gif, e_id32, e_id64, e_v0, e_v1, e_v2, e_v3, e_dt, e_c1, e_sw, e_inv, e_cat, e_rcv, Fin.val_zero, Fin.val_one, Int.toNat_add, Int.toNat_mul, Int.toNat_natCast, Int.reduceToNat, Int.reduceMul, Int.reduceAdd, Int.reduceNeg, Nat.reduceAdd, Nat.reduceSub, Nat.reduceEqDiff, Nat.reduceLT, Nat.reduceLeDiff, List.getElem?_cons_zero, List.getElem?_cons_succ, List.length_cons, List.length_nil, List.take_succ_cons, List.take_zero, List.drop_succ_cons, List.drop_zero, List.reverse_cons, List.reverse_nil, List.nil_append, List.cons_append, List.append_nil, List.map_cons, List.map_nil, List.sum_cons, List.sum_nil, Bool.false_eq_true, if_false, if_true, Bool.and_true, Bool.true_and, Bool.and_self, Bool.or_true, Bool.true_or, Bool.or_false, Bool.false_or, Bool.or_self, decide_eq_true_eq, decide_true, decide_false, beq_self_eq_true, Option.map_some, reduceCtorEq, true_or, or_true, or_false, false_or, or_self, true_and, and_true, and_self, false_and, and_false, Option.some.injEq, exists_eq_left', ne_eq, not_true_eq_false, not_false_eq_true, eq_self, e_pk, e_pr, e_pn, e_ps, e_pd1, e_pd2, e_us, e_un, e_ifp, e_ifn, e_sk, e_sr, e_sn, e_ss, e_sd1, e_sd2, e_sp, mk161 hm, mk162 hm, mk163 hm, mk164 hm, mk165 hm, mk166 hm, mk167 hm, mk168 hm, mk169 hm, mk170 hm, mk171 hm, mk172 hm, mk173 hm, mk174 hm, mk175 hm, mk176 hm, mk177 hm, mk178 hm, mk179 hm, mk180 hm, mk181 hm, mk182 hm, mk183 hm, mk184 hm, mr0 hm, mr3 hm, mr4 hm, mr5 hm, mr6 hm, mr7 hm, mr15 hm, mr17 hm, mr19 hm, mr20 hm, mr24 hm, mr25 hm, mr27 hm, mr28 hm, mr29 hm, mr30 hm, mr31 hm, mr32 hm, mr33 hm, mr35 hm, mr36 hm, mr37 hm, mr38 hm, hc1, hw, hy, hv])
        | (refine And.intro (fun hc => ?_) (fun hc => ?_) <;> try (exfalso; omega))
      all_goals first | exact ih | (exfalso; omega)
set_option maxRecDepth 8000 in
set_option maxHeartbeats 1000000 in
theorem w_areNotesSo {k : Nat} {n q Y c : Nat} {y : Int} {σ : eH} {Q : Option eV → eH → Prop} (hk : 1 ≤ k)  (hm : Mo σ) (hok : Ok (σ.2.2.2.1 171) n q Y) (hnt : Nt (σ.2.2.2.1 171) n c) (hy : e_w32 y = y) (hQ : Q (some (.inl (if nso (σ.2.2.2.1 171) y c = true then 1 else 0))) σ) : e_Wp k 253 [.inr (.inr 163), .inl y] σ Q := by
  refine wp_in (nL := 3) (cd := e_k253) (by omega) (by rfl) (Nat.le_of_ble_eq_true rfl) ?_
  dsimp only [e_ent, Nat.reduceSub, List.replicate]
  refine gp_of (by rfl) ?_
  simp (disch := omega) only [e_wi, e_isr, e_isc, e_stp, e_rt, e_load, e_bin, e_binL, e_ld, e_s1, e_s2, e_n0, e_ok, e_cmp, e_ex, e_gif, e_id32, e_id64, e_v0, e_v1, e_v2, e_v3, e_dt, e_c1, e_sw, e_inv, e_cat, e_rcv, Fin.val_zero, Fin.val_one, Int.toNat_add, Int.toNat_mul, Int.toNat_natCast, Int.reduceToNat, Int.reduceMul, Int.reduceAdd, Int.reduceNeg, Nat.reduceAdd, Nat.reduceSub, Nat.reduceEqDiff, Nat.reduceLT, Nat.reduceLeDiff, List.getElem?_cons_zero, List.getElem?_cons_succ, List.length_cons, List.length_nil, List.take_succ_cons, List.take_zero, List.drop_succ_cons, List.drop_zero, List.reverse_cons, List.reverse_nil, List.nil_append, List.cons_append, List.append_nil, List.map_cons, List.map_nil, List.sum_cons, List.sum_nil, Bool.false_eq_true, if_false, if_true, Bool.and_true, Bool.true_and, Bool.and_self, Bool.or_true, Bool.true_or, Bool.or_false, Bool.false_or, Bool.or_self, decide_eq_true_eq, decide_true, decide_false, beq_self_eq_true, Option.map_some, reduceCtorEq, true_or, or_true, or_false, false_or, or_self, true_and, and_true, and_self, false_and, and_false, Option.some.injEq, exists_eq_left', ne_eq, not_true_eq_false, not_false_eq_true, eq_self, e_pk, e_pr, e_pn, e_ps, e_pd1, e_pd2, e_us, e_un, e_ifp, e_ifn, e_sk, e_sr, e_sn, e_ss, e_sd1, e_sd2, e_sp, mk161 hm, mk162 hm, mk163 hm, mk164 hm, mk165 hm, mk166 hm, mk167 hm, mk168 hm, mk169 hm, mk170 hm, mk171 hm, mk172 hm, mk173 hm, mk174 hm, mk175 hm, mk176 hm, mk177 hm, mk178 hm, mk179 hm, mk180 hm, mk181 hm, mk182 hm, mk183 hm, mk184 hm, mr0 hm, mr3 hm, mr4 hm, mr5 hm, mr6 hm, mr7 hm, mr15 hm, mr17 hm, mr19 hm, mr20 hm, mr24 hm, mr25 hm, mr27 hm, mr28 hm, mr29 hm, mr30 hm, mr31 hm, mr32 hm, mr33 hm, mr35 hm, mr36 hm, mr37 hm, mr38 hm]
  repeat' first
    | (refine gp_at [2] (by rfl) (by decide) ?_; simp (disch := omega) only [e_wi, e_isr, e_isc, e_stp, e_rt, e_load, e_bin, e_binL, e_ld, e_s1, e_s2, e_n0, e_ok, e_cmp, e_ex, e_gif, e_id32, e_id64, e_v0, e_v1, e_v2, e_v3, e_dt, e_c1, e_sw, e_inv, e_cat, e_rcv, Fin.val_zero, Fin.val_one, Int.toNat_add, Int.toNat_mul, Int.toNat_natCast, Int.reduceToNat, Int.reduceMul, Int.reduceAdd, Int.reduceNeg, Nat.reduceAdd, Nat.reduceSub, Nat.reduceEqDiff, Nat.reduceLT, Nat.reduceLeDiff, List.getElem?_cons_zero, List.getElem?_cons_succ, List.length_cons, List.length_nil, List.take_succ_cons, List.take_zero, List.drop_succ_cons, List.drop_zero, List.reverse_cons, List.reverse_nil, List.nil_append, List.cons_append, List.append_nil, List.map_cons, List.map_nil, List.sum_cons, List.sum_nil, Bool.false_eq_true, if_false, if_true, Bool.and_true, Bool.true_and, Bool.and_self, Bool.or_true, Bool.true_or, Bool.or_false, Bool.false_or, Bool.or_self, decide_eq_true_eq, decide_true, decide_false, beq_self_eq_true, Option.map_some, reduceCtorEq, true_or, or_true, or_false, false_or, or_self, true_and, and_true, and_self, false_and, and_false, Option.some.injEq, exists_eq_left', ne_eq, not_true_eq_false, not_false_eq_true, eq_self, e_pk, e_pr, e_pn, e_ps, e_pd1, e_pd2, e_us, e_un, e_ifp, e_ifn, e_sk, e_sr, e_sn, e_ss, e_sd1, e_sd2, e_sp, mk161 hm, mk162 hm, mk163 hm, mk164 hm, mk165 hm, mk166 hm, mk167 hm, mk168 hm, mk169 hm, mk170 hm, mk171 hm, mk172 hm, mk173 hm, mk174 hm, mk175 hm, mk176 hm, mk177 hm, mk178 hm, mk179 hm, mk180 hm, mk181 hm, mk182 hm, mk183 hm, mk184 hm, mr0 hm, mr3 hm, mr4 hm, mr5 hm, mr6 hm, mr7 hm, mr15 hm, mr17 hm, mr19 hm, mr20 hm, mr24 hm, mr25 hm, mr27 hm, mr28 hm, mr29 hm, mr30 hm, mr31 hm, mr32 hm, mr33 hm, mr35 hm, mr36 hm, mr37 hm, mr38 hm])
    | (refine And.intro (fun hc => ?_) (fun hc => ?_) <;> try (exfalso; omega))
  exact w_areNotesSo_l (k := k - 1) hm hok hnt hy hQ c 0 0 rfl rfl (by omega)
