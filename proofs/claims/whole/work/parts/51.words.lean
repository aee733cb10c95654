/-- the words that a rule sees -/
def r_wd (S : Nat → Int) (n s m : Nat) : Nat → Int := fun i => if i = 0 then (s : Int) else if i = 1 then (m : Int) else if i = 2 then S (31 + 4 * s + m) else if i = 3 then S (75 + m) else if i = 4 then S (71 + m) else if i = 5 then ((bC (fun t => decide (S (11 + t) = (m : Int))) n : Nat) : Int) else if i = 6 then (if S (11 + s) = (m : Int) then 1 else 0) else if i = 7 then ((bC (fun t => decide (((ldL (fun i => S (19 + i)) t : Nat) : Int) = (s : Int))) n : Nat) : Int) else if i = 8 then bW (fun t => decide (((ldL (fun i => S (19 + i)) t : Nat) : Int) = (s : Int))) (fun i => S (63 + i)) n else if i = 9 then S (27 + m) else if i = 10 then S 1 else if i = 11 then S 10 else 0
theorem bW_S {p : Nat → Bool} {f : Nat → Int} {n : Nat} : ∀ s, s ≤ n → bW (fun i => decide (bS p n / 2 ^ i % 2 = 1)) f s = bW p f s
  | 0, _ => rfl
  | s + 1, h => by
    rw [bW_succ, bW_succ, bW_S s (by omega), bS_bit p n s (by omega)]
    cases p s <;> simp
theorem bW_c {p q : Nat → Bool} {f g : Nat → Int} : ∀ n, (∀ s, s < n → p s = q s ∧ f s = g s) → bW p f n = bW q g n
  | 0, _ => rfl
  | n + 1, h => by
    rw [bW_succ, bW_succ, bW_c n (fun s hs => h s (by omega)), (h n (by omega)).1, (h n (by omega)).2]
theorem bC_c {p q : Nat → Bool} : ∀ n, (∀ s, s < n → p s = q s) → bC p n = bC q n
  | 0, _ => rfl
  | n + 1, h => by
    show bC p n + _ = bC q n + _
    rw [bC_c n (fun s hs => h s (by omega)), h n (by omega)]
theorem e_pp2 (σ : eH) (a i j : Nat) (x y : Int) (g : Nat → Int) (h : g = va_up (va_up (σ.2.2.2.1 a) i x) j y) : e_put (e_put σ a i x) a j y = e_set σ a g := by
  rw [e_put_set σ, e_sp, h]
set_option maxRecDepth 8000 in
set_option maxHeartbeats 1000000 in
theorem w_words {k : Nat} {n s m : Nat} {σ : eH} {Q : Option eV → eH → Prop} (hk : 3 ≤ k) (hm : Mo σ) (hw : ∀ j, e_w32 (σ.2.2.2.1 171 j) = σ.2.2.2.1 171 j) (hn : σ.2.2.2.1 171 2 = (n : Int)) (hn8 : n ≤ 8) (hF : ∀ b, b < n → σ.2.2.2.1 171 (19 + b) < n) (hs : s < n) (hm4 : m < 4) (hwl : ∀ i, i < n → 0 ≤ σ.2.2.2.1 171 (63 + i) ∧ σ.2.2.2.1 171 (63 + i) ≤ 9) (hQ : ∀ τ, Sm [170] [] σ τ → (∀ i, i < 12 → τ.2.2.2.1 170 i = r_wd (σ.2.2.2.1 171) n s m i) → Q none τ) : e_Wp k 214 [.inr (.inr 163), .inl (s : Int), .inl (m : Int)] σ Q := by
  refine wp_in (nL := 3) (cd := e_k214) (by omega) (by rfl) (Nat.le_of_ble_eq_true rfl) ?_
  dsimp only [e_ent, Nat.reduceSub, List.replicate]
  have hbF := bP_S (fun t => decide (σ.2.2.2.1 171 (11 + t) = (m : Int))) n 31 (by omega)
  have hlF := bS_lt31 (fun t => decide (σ.2.2.2.1 171 (11 + t) = (m : Int))) (s := n) (by omega)
  have hcF := bC_le (fun t => decide (σ.2.2.2.1 171 (11 + t) = (m : Int))) n
  have hbL := bP_S (fun t => decide (((ldL (fun i => σ.2.2.2.1 171 (19 + i)) t : Nat) : Int) = (s : Int))) n 31 (by omega)
  have hlL := bS_lt31 (fun t => decide (((ldL (fun i => σ.2.2.2.1 171 (19 + i)) t : Nat) : Int) = (s : Int))) (s := n) (by omega)
  have hcL := bC_le (fun t => decide (((ldL (fun i => σ.2.2.2.1 171 (19 + i)) t : Nat) : Int) = (s : Int))) n
  have hwo := bW_S (p := (fun t => decide (((ldL (fun i => σ.2.2.2.1 171 (19 + i)) t : Nat) : Int) = (s : Int)))) (f := fun i => σ.2.2.2.1 171 (63 + i)) n (Nat.le_refl n)
  have hwr := bW_rg (p := (fun t => decide (((ldL (fun i => σ.2.2.2.1 171 (19 + i)) t : Nat) : Int) = (s : Int)))) (f := fun i => σ.2.2.2.1 171 (63 + i)) (b := 9) (by decide) n hwl
  have hQ := fun τ h1 h2 => hQ τ h1 h2
  unfold r_wd at hQ
  generalize bC (fun t => decide (σ.2.2.2.1 171 (11 + t) = (m : Int))) n = cF at *
  generalize bC (fun t => decide (((ldL (fun i => σ.2.2.2.1 171 (19 + i)) t : Nat) : Int) = (s : Int))) n = cL at *
  generalize bW (fun t => decide (((ldL (fun i => σ.2.2.2.1 171 (19 + i)) t : Nat) : Int) = (s : Int))) (fun i => σ.2.2.2.1 171 (63 + i)) n = wL at *
  generalize hgL : bS (fun t => decide (((ldL (fun i => σ.2.2.2.1 171 (19 + i)) t : Nat) : Int) = (s : Int))) n = gL at *
  generalize hgF : bS (fun t => decide (σ.2.2.2.1 171 (11 + t) = (m : Int))) n = gF at *
  refine gp_of (by rfl) ?_
  simp (disch := omega) only [e_wi, e_isr, e_isc, e_stp, e_rt, e_load, e_bin, e_binL, e_ld, e_s1, e_s2, e_n0, e_ok, e_cmp, e_ex, e_gif, e_id32, e_id64, e_v0, e_v1, e_v2, e_v3, e_dt, e_c1, e_sw, e_inv, e_cat, e_rcv, Fin.val_zero, Fin.val_one, Int.toNat_add, Int.toNat_mul, Int.toNat_natCast, Int.reduceToNat, Int.reduceMul, Int.reduceAdd, Int.reduceNeg, Nat.reduceAdd, Nat.reduceSub, Nat.reduceEqDiff, Nat.reduceLT, Nat.reduceLeDiff, List.getElem?_cons_zero, List.getElem?_cons_succ, List.length_cons, List.length_nil, List.take_succ_cons, List.take_zero, List.drop_succ_cons, List.drop_zero, List.reverse_cons, List.reverse_nil, List.nil_append, List.cons_append, List.append_nil, List.map_cons, List.map_nil, List.sum_cons, List.sum_nil, Bool.false_eq_true, if_false, if_true, Bool.and_true, Bool.true_and, Bool.and_self, Bool.or_true, Bool.true_or, Bool.or_false, Bool.false_or, Bool.or_self, decide_eq_true_eq, decide_true, decide_false, beq_self_eq_true, Option.map_some, reduceCtorEq, true_or, or_true, or_false, false_or, or_self, true_and, and_true, and_self, false_and, and_false, Option.some.injEq, exists_eq_left', ne_eq, not_true_eq_false, not_false_eq_true, eq_self, e_pk, e_pr, e_pn, e_ps, e_pd1, e_pd2, e_us, e_un, e_ifp, e_ifn, e_sk, e_sr, e_sn, e_ss, e_sd1, e_sd2, e_sp, mk161 hm, mk162 hm, mk163 hm, mk164 hm, mk165 hm, mk166 hm, mk167 hm, mk168 hm, mk169 hm, mk170 hm, mk171 hm, mk172 hm, mk173 hm, mk174 hm, mk175 hm, mk176 hm, mk177 hm, mk178 hm, mk179 hm, mk180 hm, mk181 hm, mk182 hm, mk183 hm, mk184 hm, mr0 hm, mr3 hm, mr4 hm, mr5 hm, mr6 hm, mr7 hm, mr15 hm, mr17 hm, mr19 hm, mr20 hm, mr24 hm, mr25 hm, mr27 hm, mr28 hm, mr29 hm, mr30 hm, mr31 hm, mr32 hm, mr33 hm, mr35 hm, mr36 hm, mr37 hm, mr38 hm, hw, hn]
  repeat' first
    | (refine gp_at [] (by rfl) (by decide) ?_; simp (disch := omega) only [e_wi, e_isr, e_isc, e_stp, e_rt, e_load, e_bin, e_binL, e_ld, e_s1, e_s2, e_n0, e_ok, e_cmp, e_ex, e_gif, e_id32, e_id64, e_v0, e_v1, e_v2, e_v3, e_dt, e_c1, e_sw, e_inv, e_cat, e_rcv, Fin.val_zero, Fin.val_one, Int.toNat_add, Int.toNat_mul, Int.toNat_natCast, Int.reduceToNat, Int.reduceMul, Int.reduceAdd, Int.reduceNeg, Nat.reduceAdd, Nat.reduceSub, Nat.reduceEqDiff, Nat.reduceLT, Nat.reduceLeDiff, List.getElem?_cons_zero, List.getElem?_cons_succ, List.length_cons, List.length_nil, List.take_succ_cons, List.take_zero, List.drop_succ_cons, List.drop_zero, List.reverse_cons, List.reverse_nil, List.nil_append, List.cons_append, List.append_nil, List.map_cons, List.map_nil, List.sum_cons, List.sum_nil, Bool.false_eq_true, if_false, if_true, Bool.and_true, Bool.true_and, Bool.and_self, Bool.or_true, Bool.true_or, Bool.or_false, Bool.false_or, Bool.or_self, decide_eq_true_eq, decide_true, decide_false, beq_self_eq_true, Option.map_some, reduceCtorEq, true_or, or_true, or_false, false_or, or_self, true_and, and_true, and_self, false_and, and_false, Option.some.injEq, exists_eq_left', ne_eq, not_true_eq_false, not_false_eq_true, eq_self, e_pk, e_pr, e_pn, e_ps, e_pd1, e_pd2, e_us, e_un, e_ifp, e_ifn, e_sk, e_sr, e_sn, e_ss, e_sd1, e_sd2, e_sp, mk161 hm, mk162 hm, mk163 hm, mk164 hm, mk165 hm, mk166 hm, mk167 hm, mk168 hm, mk169 hm, mk170 hm, mk171 hm, mk172 hm, mk173 hm, mk174 hm, mk175 hm, mk176 hm, mk177 hm, mk178 hm, mk179 hm, mk180 hm, mk181 hm, mk182 hm, mk183 hm, mk184 hm, mr0 hm, mr3 hm, mr4 hm, mr5 hm, mr6 hm, mr7 hm, mr15 hm, mr17 hm, mr19 hm, mr20 hm, mr24 hm, mr25 hm, mr27 hm, mr28 hm, mr29 hm, mr30 hm, mr31 hm, mr32 hm, mr33 hm, mr35 hm, mr36 hm, mr37 hm, mr38 hm, hw, hn])
    | (refine And.intro (fun hc => ?_) (fun hc => ?_) <;> try (exfalso; omega))
    | (refine w_likesOf (by omega) (by exact hm) (by omega) (by omega) ?_; dsimp only [Option.toList, List.cons_append, List.nil_append, Nat.reduceAdd])
    | ((refine w_flockOf (by omega) (by exact hm) (by exact hw) (e_id32 (by omega) (by omega)) (by exact hn) hn8 ?_; simp only [e_pd2 _ (show (171 : Nat) ≠ 170 by decide)]; rw [hgF]); dsimp only [Option.toList, List.cons_append, List.nil_append, Nat.reduceAdd])
    | ((refine w_ledBy (by omega) (by exact hm) (by exact hw) (e_id32 (by omega) (by omega)) (by exact hn) hn8 (by exact hF) ?_; simp only [e_pd2 _ (show (171 : Nat) ≠ 170 by decide)]; rw [hgL]); dsimp only [Option.toList, List.cons_append, List.nil_append, Nat.reduceAdd])
    | ((refine w_bits (by omega) hlF (by omega) ?_; rw [hbF]); dsimp only [Option.toList, List.cons_append, List.nil_append, Nat.reduceAdd])
    | ((refine w_bits (by omega) hlL (by omega) ?_; rw [hbL]); dsimp only [Option.toList, List.cons_append, List.nil_append, Nat.reduceAdd])
    | ((refine w_woolOf (by omega) (by exact hm) (by exact hw) hlL (by exact hn) hn8 ?_; simp only [e_pd2 _ (show (171 : Nat) ≠ 170 by decide)]; rw [hwo]); dsimp only [Option.toList, List.cons_append, List.nil_append, Nat.reduceAdd])
  all_goals
    (refine hQ _ ?_ ?_
     · iterate 12 refine Sm.put ?_ (by decide) (by decide)
       exact Sm.rf _ _ _
     · intro i hi
       simp only [e_pd1, va_up]
       ((repeat' split) <;> first | rfl | omega | (exfalso; omega)))
