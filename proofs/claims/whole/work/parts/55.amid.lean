/-- the reference's scratch cells -/
abbrev lSc : List Nat := [169, 170, 172, 174, 175, 176, 177, 178, 179, 180]
abbrev lSd : List Nat := [169, 170, 171, 172, 174, 175, 176, 177, 178, 179, 180]
/-- a question answered: nothing but scratch has changed -/
abbrev Sc (σ τ : eH) : Prop := Sm lSc [18, 34] σ τ
/-- amid a question -/
abbrev Sd (σ τ : eH) : Prop := Sm lSd [18, 23, 34] σ τ
/-- the part that an act changes laid back -/
def lb (S X : Nat → Int) : Nat → Int := fun k => if 10 ≤ k ∧ k < 63 then S k else X k
def Am (σ τ : eH) (S X : Nat → Int) : Prop := Sd σ τ ∧ τ.2.2.2.1 171 = X ∧ τ.2.2.2.1 161 23 = 0 ∧ ∀ k, k < 53 → τ.2.2.2.1 174 k = S (10 + k)
theorem lb_id (S : Nat → Int) : lb S S = S := by
  funext k
  unfold lb
  split <;> rfl
theorem lb_eq {S X : Nat → Int} (h : ∀ k, k < 10 ∨ 63 ≤ k → X k = S k) : lb S X = S := by
  funext k
  unfold lb
  split
  · rfl
  · exact h k (by omega)
theorem lb_cg {S X Z : Nat → Int} (h : ∀ k, k < 10 ∨ 63 ≤ k → X k = Z k) : lb S X = lb S Z := by
  funext k
  unfold lb
  split
  · rfl
  · exact h k (by omega)
theorem pas_o {S : Nat → Int} {n q : Nat} {R : Option rRule} {f k : Nat} (hn8 : n ≤ 8) (hq4 : q ≤ 4) (hk : k < 10 ∨ 63 ≤ k) : pas S n q R f k = S k := by
  unfold pas
  rw [e_un _ (by omega), p_r_o hn8 (by omega), p_s_o hq4 (by omega), p_w_o hn8 (by omega)]
theorem Am.mo {σ τ : eH} {S X : Nat → Int} (h : Am σ τ S X) (hm : Mo σ) : Mo τ := h.1.mo hm
theorem Am.fc {σ τ : eH} {S X : Nat → Int} {R : Option rRule} (h : Am σ τ S X) (hf : r_fc σ R) : r_fc τ R := r_fc_sm h.1 (by decide) (by decide) (by decide) (by decide) hf
theorem Am.x {σ τ : eH} {S X : Nat → Int} (h : Am σ τ S X) : τ.2.2.2.1 171 = X := h.2.1
/-- 171 laid otherwise -/
theorem Am.put {σ τ : eH} {S X : Nat → Int} (h : Am σ τ S X) {i : Nat} {v : Int} : Am σ (e_put τ 171 i v) S (va_up X i v) := ⟨h.1.put (by decide) (by decide), by rw [e_pd1, h.2.1], by rw [e_pd2 _ (by decide)]; exact h.2.2.1, fun k hk => by rw [e_pd2 _ (by decide)]; exact h.2.2.2 k hk⟩
theorem Am.cg {σ τ : eH} {S X Z : Nat → Int} (h : Am σ τ S X) (e : X = Z) : Am σ τ S Z := e ▸ h
/-- other scratch laid otherwise -/
theorem Am.sc {σ τ ρ : eH} {S X : Nat → Int} (h : Am σ τ S X) {L F : List Nat} (hs : Sm L F τ ρ) (h1 : ∀ a, a ∈ L → a ∈ lSd) (h2 : ∀ a, a ∈ F → a ∈ [18, 23, 34]) (h3 : 171 ∉ L) (h4 : 174 ∉ L) (h5 : 23 ∉ F) : Am σ ρ S X := ⟨h.1.tr (hs.mn h1 h2), (hs.at 171 h3 (by decide)).trans h.2.1, (hs.fd 23 h5).trans h.2.2.1, fun k hk => by rw [hs.at 174 h4 (by decide)]; exact h.2.2.2 k hk⟩
/-- the question's end -/
theorem Am.en {σ τ : eH} {S X : Nat → Int} (h : Am σ τ S X) (h1 : σ.2.2.2.1 171 = X) (h2 : σ.2.2.2.1 161 23 = 0) : Sc σ τ := by
  refine ⟨h.1.1, h.1.2.1, h.1.2.2.1, h.1.2.2.2.1, fun a ha hb => ?_, fun i hi => ?_⟩
  · by_cases e : a = 171
    · subst e
      rw [h.2.1, h1]
    · exact h.1.at a (by intro g; apply ha; revert g; simp only [List.mem_cons, List.not_mem_nil, or_false]; omega) hb
  · by_cases e : i = 23
    · subst e
      rw [h.2.2.1, h2]
    · exact h.1.fd i (by intro g; apply hi; revert g; simp only [List.mem_cons, List.not_mem_nil, or_false]; omega)
theorem w_keepsA {k : Nat} {σ : eH} {Q : Option eV → eH → Prop} (hk : 1 ≤ k) (hm : Mo σ) (h23 : σ.2.2.2.1 161 23 = 0) (hQ : ∀ τ, Am σ τ (σ.2.2.2.1 171) (σ.2.2.2.1 171) → Q none τ) : e_Wp k 229 [.inr (.inr 163)] σ Q := by
  refine w_keeps hk hm (hQ _ ⟨(Sm.rf _ _ _).set (by decide) (by decide), by rw [e_sd2 _ (by decide)], by rw [e_sd2 _ (by decide)]; exact h23, fun k hk => ?_⟩)
  rw [e_sd1, cq_in (by omega) (by omega)]
  rfl
theorem w_laysBackA {k : Nat} {σ τ : eH} {S X : Nat → Int} {Q : Option eV → eH → Prop} (hk : 1 ≤ k) (hm : Mo σ) (hA : Am σ τ S X) (hQ : ∀ τ', Am σ τ' S (lb S X) → Q none τ') : e_Wp k 230 [.inr (.inr 163)] τ Q := by
  refine w_laysBack hk (hA.mo hm) (hQ _ ⟨hA.1.set (by decide) (by decide), ?_, by rw [e_sd2 _ (by decide)]; exact hA.2.2.1, fun k hk => by rw [e_sd2 _ (by decide)]; exact hA.2.2.2 k hk⟩)
  rw [e_sd1, hA.2.1]
  funext k
  unfold lb
  by_cases h : 10 ≤ k ∧ k < 63
  · rw [if_pos h, cq_in (by omega) (by omega), hA.2.2.2 _ (by omega), show 10 + (k - 10) = k by omega]
  · rw [if_neg h, cq_out (by omega)]
theorem w_passesA {k n q Y : Nat} {R : Option rRule} {σ τ : eH} {S X : Nat → Int} {Q : Option eV → eH → Prop} (hk : 6 ≤ k) (hm : Mo σ) (hA : Am σ τ S X) (hok : Ok X n q Y) (hY : Y ≤ 100000) (hfc : r_fc σ R) (hQ : ∀ τ', Am σ τ' S (pas X n q R 0) → Q (some (.inl ((p_mv X n q R 0 n : Nat) : Int))) τ') : e_Wp k 210 [.inr (.inr 163)] τ Q := by
  obtain ⟨hs, hx, h23, hkp⟩ := hA
  subst hx
  refine w_passes (f := 0) (R := R) hk (hs.mo hm) hok hY (r_fc_sm hs (by decide) (by decide) (by decide) (by decide) hfc) h23 (by omega) (fun τ' hs' h1 h2 => hQ τ' ⟨hs.tr (hs'.mn (by decide) (by decide)), h1, h2, fun k hk => ?_⟩)
  rw [hs'.at 174 (by decide) (by decide)]
  exact hkp k hk
/-- some Mays -/
def pasN (S : Nat → Int) (n q : Nat) (R : Option rRule) : Nat → Nat → Int
  | 0 => S
  | j + 1 => pas (pasN S n q R j) n q R 0
theorem pasN_ok {S : Nat → Int} {n q Y : Nat} {R : Option rRule} (h : Ok S n q Y) (hY : Y ≤ 50000) : ∀ j, j ≤ 50000 → Ok (pasN S n q R j) n q (Y + j)
  | 0, _ => h
  | j + 1, hj => pas_ok (pasN_ok h hY j (by omega)) (show Y + j < 2147483647 by omega)
theorem pasN_o {S : Nat → Int} {n q : Nat} {R : Option rRule} {k : Nat} (hn8 : n ≤ 8) (hq4 : q ≤ 4) (hk : k < 10 ∨ 63 ≤ k) : ∀ j, pasN S n q R j k = S k
  | 0 => rfl
  | j + 1 => (pas_o hn8 hq4 hk).trans (pasN_o hn8 hq4 hk j)
/-- how many a man has behind a May -/
def p_hs (S : Nat → Int) (n q : Nat) (R : Option rRule) (m : Int) : Nat := bC (fun s => decide (pas S n q R 0 (11 + s) = m)) n
set_option maxRecDepth 8000 in
set_option maxHeartbeats 2000000 in
theorem w_hisThen {k : Nat} {n q Y : Nat} {m : Int} {R : Option rRule} {σ τ : eH} {S X : Nat → Int} {Q : Option eV → eH → Prop} (hk : 7 ≤ k)  (hm : Mo σ) (hA : Am σ τ S X) (hok : Ok X n q Y) (hY : Y ≤ 40000) (hfc : r_fc σ R) (h1 : e_w32 m = m) (hQ : ∀ τ2, Am σ τ2 S (lb S X) → Q (some (.inl ((p_hs X n q R m : Nat) : Int))) τ2) : e_Wp k 232 [.inr (.inr 163), .inl m] τ Q := by
  refine wp_in (nL := 3) (cd := e_k232) (by omega) (by rfl) (Nat.le_of_ble_eq_true rfl) ?_
  dsimp only [e_ent, Nat.reduceSub, List.replicate]
  have hm0 := hA.mo hm
  refine gp_of (by rfl) ?_
  simp (disch := omega) only [e_wi, e_isr, e_isc, e_stp, e_rt, e_load, e_bin, e_binL, e_ld, e_s1, e_s2, e_n0, e_ok, e_cmp, e_ex, e_gif, e_id32, e_id64, e_v0, e_v1, e_v2, e_v3, e_dt, e_c1, e_sw, e_inv, e_cat, e_rcv, Fin.val_zero, Fin.val_one, Int.toNat_add, Int.toNat_mul, Int.toNat_natCast, Int.reduceToNat, Int.reduceMul, Int.reduceAdd, Int.reduceNeg, Nat.reduceAdd, Nat.reduceSub, Nat.reduceEqDiff, Nat.reduceLT, Nat.reduceLeDiff, List.getElem?_cons_zero, List.getElem?_cons_succ, List.length_cons, List.length_nil, List.take_succ_cons, List.take_zero, List.drop_succ_cons, List.drop_zero, List.reverse_cons, List.reverse_nil, List.nil_append, List.cons_append, List.append_nil, List.map_cons, List.map_nil, List.sum_cons, List.sum_nil, Bool.false_eq_true, if_false, if_true, Bool.and_true, Bool.true_and, Bool.and_self, Bool.or_true, Bool.true_or, Bool.or_false, Bool.false_or, Bool.or_self, decide_eq_true_eq, decide_true, decide_false, beq_self_eq_true, Option.map_some, reduceCtorEq, true_or, or_true, or_false, false_or, or_self, true_and, and_true, and_self, false_and, and_false, Option.some.injEq, exists_eq_left', ne_eq, not_true_eq_false, not_false_eq_true, eq_self, e_pk, e_pr, e_pn, e_ps, e_pd1, e_pd2, e_us, e_un, e_ifp, e_ifn, e_sk, e_sr, e_sn, e_ss, e_sd1, e_sd2, e_sp, mk161 hm0, mk162 hm0, mk163 hm0, mk164 hm0, mk165 hm0, mk166 hm0, mk167 hm0, mk168 hm0, mk169 hm0, mk170 hm0, mk171 hm0, mk172 hm0, mk173 hm0, mk174 hm0, mk175 hm0, mk176 hm0, mk177 hm0, mk178 hm0, mk179 hm0, mk180 hm0, mk181 hm0, mk182 hm0, mk183 hm0, mk184 hm0, mr0 hm0, mr3 hm0, mr4 hm0, mr5 hm0, mr6 hm0, mr7 hm0, mr15 hm0, mr17 hm0, mr19 hm0, mr20 hm0, mr24 hm0, mr25 hm0, mr27 hm0, mr28 hm0, mr29 hm0, mr30 hm0, mr31 hm0, mr32 hm0, mr33 hm0, mr35 hm0, mr36 hm0, mr37 hm0, mr38 hm0]
  repeat' first
    | (refine gp_at [4] (by rfl) (by decide) ?_; simp (disch := omega) only [e_wi, e_isr, e_isc, e_stp, e_rt, e_load, e_bin, e_binL, e_ld, e_s1, e_s2, e_n0, e_ok, e_cmp, e_ex, e_gif, e_id32, e_id64, e_v0, e_v1, e_v2, e_v3, e_dt, e_c1, e_sw, e_inv, e_cat, e_rcv, Fin.val_zero, Fin.val_one, Int.toNat_add, Int.toNat_mul, Int.toNat_natCast, Int.reduceToNat, Int.reduceMul, Int.reduceAdd, Int.reduceNeg, Nat.reduceAdd, Nat.reduceSub, Nat.reduceEqDiff, Nat.reduceLT, Nat.reduceLeDiff, List.getElem?_cons_zero, List.getElem?_cons_succ, List.length_cons, List.length_nil, List.take_succ_cons, List.take_zero, List.drop_succ_cons, List.drop_zero, List.reverse_cons, List.reverse_nil, List.nil_append, List.cons_append, List.append_nil, List.map_cons, List.map_nil, List.sum_cons, List.sum_nil, Bool.false_eq_true, if_false, if_true, Bool.and_true, Bool.true_and, Bool.and_self, Bool.or_true, Bool.true_or, Bool.or_false, Bool.false_or, Bool.or_self, decide_eq_true_eq, decide_true, decide_false, beq_self_eq_true, Option.map_some, reduceCtorEq, true_or, or_true, or_false, false_or, or_self, true_and, and_true, and_self, false_and, and_false, Option.some.injEq, exists_eq_left', ne_eq, not_true_eq_false, not_false_eq_true, eq_self, e_pk, e_pr, e_pn, e_ps, e_pd1, e_pd2, e_us, e_un, e_ifp, e_ifn, e_sk, e_sr, e_sn, e_ss, e_sd1, e_sd2, e_sp, mk161 hm0, mk162 hm0, mk163 hm0, mk164 hm0, mk165 hm0, mk166 hm0, mk167 hm0, mk168 hm0, mk169 hm0, mk170 hm0, mk171 hm0, mk172 hm0, mk173 hm0, mk174 hm0, mk175 hm0, mk176 hm0, mk177 hm0, mk178 hm0, mk179 hm0, mk180 hm0, mk181 hm0, mk182 hm0, mk183 hm0, mk184 hm0, mr0 hm0, mr3 hm0, mr4 hm0, mr5 hm0, mr6 hm0, mr7 hm0, mr15 hm0, mr17 hm0, mr19 hm0, mr20 hm0, mr24 hm0, mr25 hm0, mr27 hm0, mr28 hm0, mr29 hm0, mr30 hm0, mr31 hm0, mr32 hm0, mr33 hm0, mr35 hm0, mr36 hm0, mr37 hm0, mr38 hm0])
    | (refine And.intro (fun hc => ?_) (fun hc => ?_) <;> try (exfalso; omega))
    | (refine w_passesA (by omega) hm hA hok (by omega) hfc (fun τ1 hA1 => ?_); dsimp only [Option.toList, List.cons_append, List.nil_append, Nat.reduceAdd])
  have hm1 := hA1.mo hm
  have hok1 := pas_ok (R := R) (f := 0) hok (by omega)
  have hb := bP_S (fun s => decide (pas X n q R 0 (11 + s) = m)) n 31 (by have := hok.n8; omega)
  have hl := bS_lt31 (fun s => decide (pas X n q R 0 (11 + s) = m)) (s := n) (by have := hok.n8; omega)
  have hbc := bC_le (fun s => decide (pas X n q R 0 (11 + s) = m)) n
  have hn8 := hok.n8
  have hph : p_hs X n q R m = bC (fun s => decide (pas X n q R 0 (11 + s) = m)) n := rfl
  rw [hph] at hQ
  generalize hbg : bS (fun s => decide (pas X n q R 0 (11 + s) = m)) n = g at *
  refine gp_of (by rfl) ?_
  simp (disch := omega) only [e_wi, e_isr, e_isc, e_stp, e_rt, e_load, e_bin, e_binL, e_ld, e_s1, e_s2, e_n0, e_ok, e_cmp, e_ex, e_gif, e_id32, e_id64, e_v0, e_v1, e_v2, e_v3, e_dt, e_c1, e_sw, e_inv, e_cat, e_rcv, Fin.val_zero, Fin.val_one, Int.toNat_add, Int.toNat_mul, Int.toNat_natCast, Int.reduceToNat, Int.reduceMul, Int.reduceAdd, Int.reduceNeg, Nat.reduceAdd, Nat.reduceSub, Nat.reduceEqDiff, Nat.reduceLT, Nat.reduceLeDiff, List.getElem?_cons_zero, List.getElem?_cons_succ, List.length_cons, List.length_nil, List.take_succ_cons, List.take_zero, List.drop_succ_cons, List.drop_zero, List.reverse_cons, List.reverse_nil, List.nil_append, List.cons_append, List.append_nil, List.map_cons, List.map_nil, List.sum_cons, List.sum_nil, Bool.false_eq_true, if_false, if_true, Bool.and_true, Bool.true_and, Bool.and_self, Bool.or_true, Bool.true_or, Bool.or_false, Bool.false_or, Bool.or_self, decide_eq_true_eq, decide_true, decide_false, beq_self_eq_true, Option.map_some, reduceCtorEq, true_or, or_true, or_false, false_or, or_self, true_and, and_true, and_self, false_and, and_false, Option.some.injEq, exists_eq_left', ne_eq, not_true_eq_false, not_false_eq_true, eq_self, e_pk, e_pr, e_pn, e_ps, e_pd1, e_pd2, e_us, e_un, e_ifp, e_ifn, e_sk, e_sr, e_sn, e_ss, e_sd1, e_sd2, e_sp, mk161 hm1, mk162 hm1, mk163 hm1, mk164 hm1, mk165 hm1, mk166 hm1, mk167 hm1, mk168 hm1, mk169 hm1, mk170 hm1, mk171 hm1, mk172 hm1, mk173 hm1, mk174 hm1, mk175 hm1, mk176 hm1, mk177 hm1, mk178 hm1, mk179 hm1, mk180 hm1, mk181 hm1, mk182 hm1, mk183 hm1, mk184 hm1, mr0 hm1, mr3 hm1, mr4 hm1, mr5 hm1, mr6 hm1, mr7 hm1, mr15 hm1, mr17 hm1, mr19 hm1, mr20 hm1, mr24 hm1, mr25 hm1, mr27 hm1, mr28 hm1, mr29 hm1, mr30 hm1, mr31 hm1, mr32 hm1, mr33 hm1, mr35 hm1, mr36 hm1, mr37 hm1, mr38 hm1]
  repeat' first
    | (refine gp_at [] (by rfl) (by decide) ?_; simp (disch := omega) only [e_wi, e_isr, e_isc, e_stp, e_rt, e_load, e_bin, e_binL, e_ld, e_s1, e_s2, e_n0, e_ok, e_cmp, e_ex, e_gif, e_id32, e_id64, e_v0, e_v1, e_v2, e_v3, e_dt, e_c1, e_sw, e_inv, e_cat, e_rcv, Fin.val_zero, Fin.val_one, Int.toNat_add, Int.toNat_mul, Int.toNat_natCast, Int.reduceToNat, Int.reduceMul, Int.reduceAdd, Int.reduceNeg, Nat.reduceAdd, Nat.reduceSub, Nat.reduceEqDiff, Nat.reduceLT, Nat.reduceLeDiff, List.getElem?_cons_zero, List.getElem?_cons_succ, List.length_cons, List.length_nil, List.take_succ_cons, List.take_zero, List.drop_succ_cons, List.drop_zero, List.reverse_cons, List.reverse_nil, List.nil_append, List.cons_append, List.append_nil, List.map_cons, List.map_nil, List.sum_cons, List.sum_nil, Bool.false_eq_true, if_false, if_true, Bool.and_true, Bool.true_and, Bool.and_self, Bool.or_true, Bool.true_or, Bool.or_false, Bool.false_or, Bool.or_self, decide_eq_true_eq, decide_true, decide_false, beq_self_eq_true, Option.map_some, reduceCtorEq, true_or, or_true, or_false, false_or, or_self, true_and, and_true, and_self, false_and, and_false, Option.some.injEq, exists_eq_left', ne_eq, not_true_eq_false, not_false_eq_true, eq_self, e_pk, e_pr, e_pn, e_ps, e_pd1, e_pd2, e_us, e_un, e_ifp, e_ifn, e_sk, e_sr, e_sn, e_ss, e_sd1, e_sd2, e_sp, mk161 hm1, mk162 hm1, mk163 hm1, mk164 hm1, mk165 hm1, mk166 hm1, mk167 hm1, mk168 hm1, mk169 hm1, mk170 hm1, mk171 hm1, mk172 hm1, mk173 hm1, mk174 hm1, mk175 hm1, mk176 hm1, mk177 hm1, mk178 hm1, mk179 hm1, mk180 hm1, mk181 hm1, mk182 hm1, mk183 hm1, mk184 hm1, mr0 hm1, mr3 hm1, mr4 hm1, mr5 hm1, mr6 hm1, mr7 hm1, mr15 hm1, mr17 hm1, mr19 hm1, mr20 hm1, mr24 hm1, mr25 hm1, mr27 hm1, mr28 hm1, mr29 hm1, mr30 hm1, mr31 hm1, mr32 hm1, mr33 hm1, mr35 hm1, mr36 hm1, mr37 hm1, mr38 hm1])
    | (refine And.intro (fun hc => ?_) (fun hc => ?_) <;> try (exfalso; omega))
    | ((refine w_flockOf (by omega) hm1 (by rw [hA1.x]; exact hok1.w) h1 (by rw [hA1.x]; exact hok1.n) hn8 ?_; rw [hA1.x, hbg]); dsimp only [Option.toList, List.cons_append, List.nil_append, Nat.reduceAdd])
    | ((refine w_bits (by omega) hl (by omega) ?_; rw [hb]); dsimp only [Option.toList, List.cons_append, List.nil_append, Nat.reduceAdd])
    | (refine w_laysBackA (by omega) hm hA1 (fun τ2 hA2 => ?_); dsimp only [Option.toList, List.cons_append, List.nil_append, Nat.reduceAdd])
  all_goals first
    | (exfalso; omega)
    | exact hQ _ (hA2.cg (lb_cg (fun k hk => pas_o hok.n8 hok.q4 hk)))
set_option maxRecDepth 8000 in
set_option maxHeartbeats 2000000 in
theorem w_coinsIn_l {k n q Y m N : Nat} {R : Option rRule} {σ τ : eH} {S X : Nat → Int} {Q : Option eV → eH → Prop} (hk : 6 ≤ k) (hm : Mo σ) (hA : Am σ τ S X) (hok : Ok X n q Y) (hY : Y ≤ 40000) (hfc : r_fc σ R) (hm4 : m < 4) (hN : N ≤ 60) (hQ : ∀ τ2, Am σ τ2 S (lb S X) → Q (some (.inl (pasN X n q R N (27 + m)))) τ2) : ∀ (j s : Nat) (z : Int) (τ : eH), Am σ τ S (pasN X n q R s) → z = (s : Int) → s + j = N → e_Gp k e_k249 2 [some (.inr (.inr 163)), some (.inl (m : Int)), some (.inl (N : Int)), some (.inl z)] [] τ Q
  | 0, s, z, τ, hA1, hz, h => by
    subst hz
    obtain rfl : s = N := by omega
    have hm1 := hA1.mo hm
    have hx := hA1.x
    refine gp_of (by rfl) ?_
    simp (disch := omega) only [e_wi, e_isr, e_isc, e_stp, e_rt, e_load, e_bin, e_binL, e_ld, e_s1, e_s2, e_n0, e_ok, e_cmp, e_ex, e_gif, e_id32, e_id64, e_v0, e_v1, e_v2, e_v3, e_dt, e_c1, e_sw, e_inv, e_cat, e_rcv, Fin.val_zero, Fin.val_one, Int.toNat_add, Int.toNat_mul, Int.toNat_natCast, Int.reduceToNat, Int.reduceMul, Int.reduceAdd, Int.reduceNeg, Nat.reduceAdd, Nat.reduceSub, Nat.reduceEqDiff, Nat.reduceLT, Nat.reduceLeDiff, List.getElem?_cons_zero, List.getElem?_cons_succ, List.length_cons, List.length_nil, List.take_succ_cons, List.take_zero, List.drop_succ_cons, List.drop_zero, List.reverse_cons, List.reverse_nil, List.nil_append, List.cons_append, List.append_nil, List.map_cons, List.map_nil, List.sum_cons, List.sum_nil, Bool.false_eq_true, if_false, if_true, Bool.and_true, Bool.true_and, Bool.and_self, Bool.or_true, Bool.true_or, Bool.or_false, Bool.false_or, Bool.or_self, decide_eq_true_eq, decide_true, decide_false, beq_self_eq_true, Option.map_some, reduceCtorEq, true_or, or_true, or_false, false_or, or_self, true_and, and_true, and_self, false_and, and_false, Option.some.injEq, exists_eq_left', ne_eq, not_true_eq_false, not_false_eq_true, eq_self, e_pk, e_pr, e_pn, e_ps, e_pd1, e_pd2, e_us, e_un, e_ifp, e_ifn, e_sk, e_sr, e_sn, e_ss, e_sd1, e_sd2, e_sp, mk161 hm1, mk162 hm1, mk163 hm1, mk164 hm1, mk165 hm1, mk166 hm1, mk167 hm1, mk168 hm1, mk169 hm1, mk170 hm1, mk171 hm1, mk172 hm1, mk173 hm1, mk174 hm1, mk175 hm1, mk176 hm1, mk177 hm1, mk178 hm1, mk179 hm1, mk180 hm1, mk181 hm1, mk182 hm1, mk183 hm1, mk184 hm1, mr0 hm1, mr3 hm1, mr4 hm1, mr5 hm1, mr6 hm1, mr7 hm1, mr15 hm1, mr17 hm1, mr19 hm1, mr20 hm1, mr24 hm1, mr25 hm1, mr27 hm1, mr28 hm1, mr29 hm1, mr30 hm1, mr31 hm1, mr32 hm1, mr33 hm1, mr35 hm1, mr36 hm1, mr37 hm1, mr38 hm1, hx]
    repeat' first
      | (refine gp_at [2] (by rfl) (by decide) ?_; simp (disch := omega) only [e_wi, e_isr, e_isc, e_stp, e_rt, e_load, e_bin, e_binL, e_ld, e_s1, e_s2, e_n0, e_ok, e_cmp, e_ex, e_gif, e_id32, e_id64, e_v0, e_v1, e_v2, e_v3, e_dt, e_c1, e_sw, e_inv, e_cat, e_rcv, Fin.val_zero, Fin.val_one, Int.toNat_add, Int.toNat_mul, Int.toNat_natCast, Int.reduceToNat, Int.reduceMul, Int.reduceAdd, Int.reduceNeg, Nat.reduceAdd, Nat.reduceSub, Nat.reduceEqDiff, Nat.reduceLT, Nat.reduceLeDiff, List.getElem?_cons_zero, List.getElem?_cons_succ, List.length_cons, List.length_nil, List.take_succ_cons, List.take_zero, List.drop_succ_cons, List.drop_zero, List.reverse_cons, List.reverse_nil, List.nil_append, List.cons_append, List.append_nil, List.map_cons, List.map_nil, List.sum_cons, List.sum_nil, Bool.false_eq_true, if_false, if_true, Bool.and_true, Bool.true_and, Bool.and_self, Bool.or_true, Bool.true_or, Bool.or_false, Bool.false_or, Bool.or_self, decide_eq_true_eq, decide_true, decide_false, beq_self_eq_true, Option.map_some, reduceCtorEq, true_or, or_true, or_false, false_or, or_self, true_and, and_true, and_self, false_and, and_false, Option.some.injEq, exists_eq_left', ne_eq, not_true_eq_false, not_false_eq_true, eq_self, e_pk, e_pr, e_pn, e_ps, e_pd1, e_pd2, e_us, e_un, e_ifp, e_ifn, e_sk, e_sr, e_sn, e_ss, e_sd1, e_sd2, e_sp, mk161 hm1, mk162 hm1, mk163 hm1, mk164 hm1, mk165 hm1, mk166 hm1, mk167 hm1, mk168 hm1, mk169 hm1, mk170 hm1, mk171 hm1, mk172 hm1, mk173 hm1, mk174 hm1, mk175 hm1, mk176 hm1, mk177 hm1, mk178 hm1, mk179 hm1, mk180 hm1, mk181 hm1, mk182 hm1, mk183 hm1, mk184 hm1, mr0 hm1, mr3 hm1, mr4 hm1, mr5 hm1, mr6 hm1, mr7 hm1, mr15 hm1, mr17 hm1, mr19 hm1, mr20 hm1, mr24 hm1, mr25 hm1, mr27 hm1, mr28 hm1, mr29 hm1, mr30 hm1, mr31 hm1, mr32 hm1, mr33 hm1, mr35 hm1, mr36 hm1, mr37 hm1, mr38 hm1, hx])
      | (refine And.intro (fun hc => ?_) (fun hc => ?_) <;> try (exfalso; omega))
      | (refine w_laysBackA (by omega) hm hA1 (fun τ2 hA2 => ?_); dsimp only [Option.toList, List.cons_append, List.nil_append, Nat.reduceAdd])
    all_goals first
      | (exfalso; omega)
      | exact hQ _ (hA2.cg (lb_cg (fun k hk => pasN_o hok.n8 hok.q4 hk _)))
  | j + 1, s, z, τ, hA1, hz, h => by
    subst hz
    have hm1 := hA1.mo hm
    have hok1 := pasN_ok (R := R) hok (by omega) s (by omega)
    refine gp_of (by rfl) ?_
    simp (disch := omega) only [e_wi, e_isr, e_isc, e_stp, e_rt, e_load, e_bin, e_binL, e_ld, e_s1, e_s2, e_n0, e_ok, e_cmp, e_ex, e_gif, e_id32, e_id64, e_v0, e_v1, e_v2, e_v3, e_dt, e_c1, e_sw, e_inv, e_cat, e_rcv, Fin.val_zero, Fin.val_one, Int.toNat_add, Int.toNat_mul, Int.toNat_natCast, Int.reduceToNat, Int.reduceMul, Int.reduceAdd, Int.reduceNeg, Nat.reduceAdd, Nat.reduceSub, Nat.reduceEqDiff, Nat.reduceLT, Nat.reduceLeDiff, List.getElem?_cons_zero, List.getElem?_cons_succ, List.length_cons, List.length_nil, List.take_succ_cons, List.take_zero, List.drop_succ_cons, List.drop_zero, List.reverse_cons, List.reverse_nil, List.nil_append, List.cons_append, List.append_nil, List.map_cons, List.map_nil, List.sum_cons, List.sum_nil, Bool.false_eq_true, if_false, if_true, Bool.and_true, Bool.true_and, Bool.and_self, Bool.or_true, Bool.true_or, Bool.or_false, Bool.false_or, Bool.or_self, decide_eq_true_eq, decide_true, decide_false, beq_self_eq_true, Option.map_some, reduceCtorEq, true_or, or_true, or_false, false_or, or_self, true_and, and_true, and_self, false_and, and_false, Option.some.injEq, exists_eq_left', ne_eq, not_true_eq_false, not_false_eq_true, eq_self, e_pk, e_pr, e_pn, e_ps, e_pd1, e_pd2, e_us, e_un, e_ifp, e_ifn, e_sk, e_sr, e_sn, e_ss, e_sd1, e_sd2, e_sp, mk161 hm1, mk162 hm1, mk163 hm1, mk164 hm1, mk165 hm1, mk166 hm1, mk167 hm1, mk168 hm1, mk169 hm1, mk170 hm1, mk171 hm1, mk172 hm1, mk173 hm1, mk174 hm1, mk175 hm1, mk176 hm1, mk177 hm1, mk178 hm1, mk179 hm1, mk180 hm1, mk181 hm1, mk182 hm1, mk183 hm1, mk184 hm1, mr0 hm1, mr3 hm1, mr4 hm1, mr5 hm1, mr6 hm1, mr7 hm1, mr15 hm1, mr17 hm1, mr19 hm1, mr20 hm1, mr24 hm1, mr25 hm1, mr27 hm1, mr28 hm1, mr29 hm1, mr30 hm1, mr31 hm1, mr32 hm1, mr33 hm1, mr35 hm1, mr36 hm1, mr37 hm1, mr38 hm1]
    repeat' first
      | (refine gp_at [2] (by rfl) (by decide) ?_; simp (disch := omega) only [e_wi, e_isr, e_isc, e_stp, e_rt, e_load, e_bin, e_binL, e_ld, e_s1, e_s2, e_n0, e_ok, e_cmp, e_ex, e_gif, e_id32, e_id64, e_v0, e_v1, e_v2, e_v3, e_dt, e_c1, e_sw, e_inv, e_cat, e_rcv, Fin.val_zero, Fin.val_one, Int.toNat_add, Int.toNat_mul, Int.toNat_natCast, Int.reduceToNat, Int.reduceMul, Int.reduceAdd, Int.reduceNeg, Nat.reduceAdd, Nat.reduceSub, Nat.reduceEqDiff, Nat.reduceLT, Nat.reduceLeDiff, List.getElem?_cons_zero, List.getElem?_cons_succ, List.length_cons, List.length_nil, List.take_succ_cons, List.take_zero, List.drop_succ_cons, List.drop_zero, List.reverse_cons, List.reverse_nil, List.nil_append, List.cons_append, List.append_nil, List.map_cons, List.map_nil, List.sum_cons, List.sum_nil, Bool.false_eq_true, if_false, if_true, Bool.and_true, Bool.true_and, Bool.and_self, Bool.or_true, Bool.true_or, Bool.or_false, Bool.false_or, Bool.or_self, decide_eq_true_eq, decide_true, decide_false, beq_self_eq_true, Option.map_some, reduceCtorEq, true_or, or_true, or_false, false_or, or_self, true_and, and_true, and_self, false_and, and_false, Option.some.injEq, exists_eq_left', ne_eq, not_true_eq_false, not_false_eq_true, eq_self, e_pk, e_pr, e_pn, e_ps, e_pd1, e_pd2, e_us, e_un, e_ifp, e_ifn, e_sk, e_sr, e_sn, e_ss, e_sd1, e_sd2, e_sp, mk161 hm1, mk162 hm1, mk163 hm1, mk164 hm1, mk165 hm1, mk166 hm1, mk167 hm1, mk168 hm1, mk169 hm1, mk170 hm1, mk171 hm1, mk172 hm1, mk173 hm1, mk174 hm1, mk175 hm1, mk176 hm1, mk177 hm1, mk178 hm1, mk179 hm1, mk180 hm1, mk181 hm1, mk182 hm1, mk183 hm1, mk184 hm1, mr0 hm1, mr3 hm1, mr4 hm1, mr5 hm1, mr6 hm1, mr7 hm1, mr15 hm1, mr17 hm1, mr19 hm1, mr20 hm1, mr24 hm1, mr25 hm1, mr27 hm1, mr28 hm1, mr29 hm1, mr30 hm1, mr31 hm1, mr32 hm1, mr33 hm1, mr35 hm1, mr36 hm1, mr37 hm1, mr38 hm1])
      | (refine And.intro (fun hc => ?_) (fun hc => ?_) <;> try (exfalso; omega))
      | (refine w_passesA (by omega) hm hA1 hok1 (by omega) hfc (fun τ2 hA2 => ?_); dsimp only [Option.toList, List.cons_append, List.nil_append, Nat.reduceAdd])
    all_goals first
      | (exfalso; omega)
      | exact w_coinsIn_l hk hm hA hok hY hfc hm4 hN hQ j (s + 1) ((s : Int) + 1) τ2 hA2 (by omega) (by omega)
set_option maxRecDepth 8000 in
set_option maxHeartbeats 2000000 in
theorem w_coinsIn {k : Nat} {n q Y m N : Nat} {R : Option rRule} {σ τ : eH} {S X : Nat → Int} {Q : Option eV → eH → Prop} (hk : 7 ≤ k)  (hm : Mo σ) (hA : Am σ τ S X) (hok : Ok X n q Y) (hY : Y ≤ 40000) (hfc : r_fc σ R) (hm4 : m < 4) (hN : N ≤ 60) (hQ : ∀ τ2, Am σ τ2 S (lb S X) → Q (some (.inl (pasN X n q R N (27 + m)))) τ2) : e_Wp k 249 [.inr (.inr 163), .inl (m : Int), .inl (N : Int)] τ Q := by
  refine wp_in (nL := 4) (cd := e_k249) (by omega) (by rfl) (Nat.le_of_ble_eq_true rfl) ?_
  dsimp only [e_ent, Nat.reduceSub, List.replicate]
  have hm0 := hA.mo hm
  refine gp_of (by rfl) ?_
  simp (disch := omega) only [e_wi, e_isr, e_isc, e_stp, e_rt, e_load, e_bin, e_binL, e_ld, e_s1, e_s2, e_n0, e_ok, e_cmp, e_ex, e_gif, e_id32, e_id64, e_v0, e_v1, e_v2, e_v3, e_dt, e_c1, e_sw, e_inv, e_cat, e_rcv, Fin.val_zero, Fin.val_one, Int.toNat_add, Int.toNat_mul, Int.toNat_natCast, Int.reduceToNat, Int.reduceMul, Int.reduceAdd, Int.reduceNeg, Nat.reduceAdd, Nat.reduceSub, Nat.reduceEqDiff, Nat.reduceLT, Nat.reduceLeDiff, List.getElem?_cons_zero, List.getElem?_cons_succ, List.length_cons, List.length_nil, List.take_succ_cons, List.take_zero, List.drop_succ_cons, List.drop_zero, List.reverse_cons, List.reverse_nil, List.nil_append, List.cons_append, List.append_nil, List.map_cons, List.map_nil, List.sum_cons, List.sum_nil, Bool.false_eq_true, if_false, if_true, Bool.and_true, Bool.true_and, Bool.and_self, Bool.or_true, Bool.true_or, Bool.or_false, Bool.false_or, Bool.or_self, decide_eq_true_eq, decide_true, decide_false, beq_self_eq_true, Option.map_some, reduceCtorEq, true_or, or_true, or_false, false_or, or_self, true_and, and_true, and_self, false_and, and_false, Option.some.injEq, exists_eq_left', ne_eq, not_true_eq_false, not_false_eq_true, eq_self, e_pk, e_pr, e_pn, e_ps, e_pd1, e_pd2, e_us, e_un, e_ifp, e_ifn, e_sk, e_sr, e_sn, e_ss, e_sd1, e_sd2, e_sp, mk161 hm0, mk162 hm0, mk163 hm0, mk164 hm0, mk165 hm0, mk166 hm0, mk167 hm0, mk168 hm0, mk169 hm0, mk170 hm0, mk171 hm0, mk172 hm0, mk173 hm0, mk174 hm0, mk175 hm0, mk176 hm0, mk177 hm0, mk178 hm0, mk179 hm0, mk180 hm0, mk181 hm0, mk182 hm0, mk183 hm0, mk184 hm0, mr0 hm0, mr3 hm0, mr4 hm0, mr5 hm0, mr6 hm0, mr7 hm0, mr15 hm0, mr17 hm0, mr19 hm0, mr20 hm0, mr24 hm0, mr25 hm0, mr27 hm0, mr28 hm0, mr29 hm0, mr30 hm0, mr31 hm0, mr32 hm0, mr33 hm0, mr35 hm0, mr36 hm0, mr37 hm0, mr38 hm0]
  repeat' first
    | (refine gp_at [2] (by rfl) (by decide) ?_; simp (disch := omega) only [e_wi, e_isr, e_isc, e_stp, e_rt, e_load, e_bin, e_binL, e_ld, e_s1, e_s2, e_n0, e_ok, e_cmp, e_ex, e_gif, e_id32, e_id64, e_v0, e_v1, e_v2, e_v3, e_dt, e_c1, e_sw, e_inv, e_cat, e_rcv, Fin.val_zero, Fin.val_one, Int.toNat_add, Int.toNat_mul, Int.toNat_natCast, Int.reduceToNat, Int.reduceMul, Int.reduceAdd, Int.reduceNeg, Nat.reduceAdd, Nat.reduceSub, Nat.reduceEqDiff, Nat.reduceLT, Nat.reduceLeDiff, List.getElem?_cons_zero, List.getElem?_cons_succ, List.length_cons, List.length_nil, List.take_succ_cons, List.take_zero, List.drop_succ_cons, List.drop_zero, List.reverse_cons, List.reverse_nil, List.nil_append, List.cons_append, List.append_nil, List.map_cons, List.map_nil, List.sum_cons, List.sum_nil, Bool.false_eq_true, if_false, if_true, Bool.and_true, Bool.true_and, Bool.and_self, Bool.or_true, Bool.true_or, Bool.or_false, Bool.false_or, Bool.or_self, decide_eq_true_eq, decide_true, decide_false, beq_self_eq_true, Option.map_some, reduceCtorEq, true_or, or_true, or_false, false_or, or_self, true_and, and_true, and_self, false_and, and_false, Option.some.injEq, exists_eq_left', ne_eq, not_true_eq_false, not_false_eq_true, eq_self, e_pk, e_pr, e_pn, e_ps, e_pd1, e_pd2, e_us, e_un, e_ifp, e_ifn, e_sk, e_sr, e_sn, e_ss, e_sd1, e_sd2, e_sp, mk161 hm0, mk162 hm0, mk163 hm0, mk164 hm0, mk165 hm0, mk166 hm0, mk167 hm0, mk168 hm0, mk169 hm0, mk170 hm0, mk171 hm0, mk172 hm0, mk173 hm0, mk174 hm0, mk175 hm0, mk176 hm0, mk177 hm0, mk178 hm0, mk179 hm0, mk180 hm0, mk181 hm0, mk182 hm0, mk183 hm0, mk184 hm0, mr0 hm0, mr3 hm0, mr4 hm0, mr5 hm0, mr6 hm0, mr7 hm0, mr15 hm0, mr17 hm0, mr19 hm0, mr20 hm0, mr24 hm0, mr25 hm0, mr27 hm0, mr28 hm0, mr29 hm0, mr30 hm0, mr31 hm0, mr32 hm0, mr33 hm0, mr35 hm0, mr36 hm0, mr37 hm0, mr38 hm0])
    | (refine And.intro (fun hc => ?_) (fun hc => ?_) <;> try (exfalso; omega))
  exact w_coinsIn_l (k := k - 1) (by omega) hm hA hok hY hfc hm4 hN hQ N 0 0 τ hA rfl (by omega)
