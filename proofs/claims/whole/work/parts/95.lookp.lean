/-- how many fitting rules of the first t give z -/
def lkK (p : Nat → Bool) (h : Nat → Int) (t : Nat) (z : Int) : Nat := bC (fun b => p b && decide (h b = z)) t
/-- the most of them, as one goes along -/
def lkM (p : Nat → Bool) (h : Nat → Int) : Nat → Nat
  | 0 => 0
  | t + 1 => if p t = true then (if lkM p h t < lkK p h (t + 1) (h t) then lkK p h (t + 1) (h t) else lkM p h t) else lkM p h t
theorem lkK_s {p : Nat → Bool} {h : Nat → Int} {t : Nat} {z : Int} : lkK p h (t + 1) z = lkK p h t z + if p t = true ∧ h t = z then 1 else 0 := by
  unfold lkK
  conv => lhs; unfold bC
  by_cases e : p t = true ∧ h t = z
  · rw [if_pos e, if_pos (by rw [e.1, decide_eq_true e.2]; rfl)]
  · rw [if_neg e, if_neg]
    intro x
    rw [Bool.and_eq_true, decide_eq_true_eq] at x
    exact e x
/-- lkM is an upper bound that is reached -/
theorem lkM_ge {p : Nat → Bool} {h : Nat → Int} : ∀ t a, a < t → p a = true → lkK p h t (h a) ≤ lkM p h t
  | 0, a, ha, _ => by omega
  | t + 1, a, ha, hp => by
    have e : lkM p h (t + 1) = if p t = true then (if lkM p h t < lkK p h (t + 1) (h t) then lkK p h (t + 1) (h t) else lkM p h t) else lkM p h t := rfl
    rw [e]
    have hs := lkK_s (p := p) (h := h) (t := t) (z := h a)
    by_cases hat : a = t
    · subst hat
      rw [if_pos hp]
      split <;> omega
    · have ih := lkM_ge (p := p) (h := h) t a (by omega) hp
      by_cases hpt : p t = true
      · rw [if_pos hpt]
        by_cases hh : h t = h a
        · rw [hh]
          split <;> omega
        · rw [if_neg (fun x => hh x.2)] at hs
          split <;> omega
      · rw [if_neg hpt]
        rw [if_neg (fun x => hpt x.1)] at hs
        omega
theorem lkM_ex {p : Nat → Bool} {h : Nat → Int} : ∀ t, lkM p h t = 0 ∨ ∃ a, a < t ∧ p a = true ∧ lkM p h t ≤ lkK p h t (h a)
  | 0 => Or.inl rfl
  | t + 1 => by
    have e : lkM p h (t + 1) = if p t = true then (if lkM p h t < lkK p h (t + 1) (h t) then lkK p h (t + 1) (h t) else lkM p h t) else lkM p h t := rfl
    have mono : ∀ z, lkK p h t z ≤ lkK p h (t + 1) z := fun z => by rw [lkK_s]; omega
    have up : lkM p h t = 0 ∨ ∃ a, a < t + 1 ∧ p a = true ∧ lkM p h t ≤ lkK p h (t + 1) (h a) := by
      rcases lkM_ex (p := p) (h := h) t with h0 | ⟨a, h1, h2, h3⟩
      · exact Or.inl h0
      · exact Or.inr ⟨a, by omega, h2, Nat.le_trans h3 (mono _)⟩
    rw [e]
    by_cases hpt : p t = true
    · rw [if_pos hpt]
      by_cases hlt : lkM p h t < lkK p h (t + 1) (h t)
      · rw [if_pos hlt]
        exact Or.inr ⟨t, by omega, hpt, Nat.le_refl _⟩
      · rw [if_neg hlt]
        exact up
    · rw [if_neg hpt]
      exact up
theorem lk_m_ge {p : Nat → Bool} {h : Nat → Int} {N : Nat} : ∀ t a, a < t → lk_a p h N a ≤ lk_m p h N t
  | 0, a, ha => by omega
  | t + 1, a, ha => by
    have e : lk_m p h N (t + 1) = if lk_m p h N t < lk_a p h N t then lk_a p h N t else lk_m p h N t := rfl
    rw [e]
    by_cases hat : a = t
    · subst hat
      split <;> omega
    · have := lk_m_ge (p := p) (h := h) (N := N) t a (by omega)
      split <;> omega
theorem lk_m_ex {p : Nat → Bool} {h : Nat → Int} {N : Nat} : ∀ t, lk_m p h N t = 0 ∨ ∃ a, a < t ∧ lk_m p h N t = lk_a p h N a
  | 0 => Or.inl rfl
  | t + 1 => by
    have e : lk_m p h N (t + 1) = if lk_m p h N t < lk_a p h N t then lk_a p h N t else lk_m p h N t := rfl
    rw [e]
    split
    · exact Or.inr ⟨t, by omega, rfl⟩
    · rcases lk_m_ex (p := p) (h := h) (N := N) t with h0 | ⟨a, h1, h2⟩
      · exact Or.inl h0
      · exact Or.inr ⟨a, by omega, h2⟩
theorem lk_a_K {p : Nat → Bool} {h : Nat → Int} {N a : Nat} (hp : p a = true) : lk_a p h N a = lkK p h (N + 1) (h a) := by
  unfold lk_a lkK
  rw [if_pos hp]
  exact bC_cg _ (fun b hb => by rw [decide_eq_decide.2 (Iff.intro Eq.symm Eq.symm)])
theorem lkM_m {p : Nat → Bool} {h : Nat → Int} {N : Nat} : lkM p h (N + 1) = lk_m p h N (N + 1) := by
  apply Nat.le_antisymm
  · rcases lkM_ex (p := p) (h := h) (N + 1) with h0 | ⟨a, h1, h2, h3⟩
    · omega
    · have := lk_m_ge (p := p) (h := h) (N := N) (N + 1) a h1
      rw [lk_a_K h2] at this
      omega
  · rcases lk_m_ex (p := p) (h := h) (N := N) (N + 1) with h0 | ⟨a, h1, h2⟩
    · omega
    · by_cases hp : p a = true
      · have := lkM_ge (p := p) (h := h) (N + 1) a h1 hp
        rw [h2, lk_a_K hp]
        exact this
      · have : lk_a p h N a = 0 := if_neg hp
        omega
theorem lkK_le {p : Nat → Bool} {h : Nat → Int} {t : Nat} {z : Int} : lkK p h t z ≤ t := bC_le _ _
theorem lkM_le {p : Nat → Bool} {h : Nat → Int} : ∀ t, lkM p h t ≤ t
  | 0 => Nat.le_refl _
  | t + 1 => by
    have := lkM_le (p := p) (h := h) t
    have := lkK_le (p := p) (h := h) (t := t + 1) (z := h t)
    unfold lkM
    split
    · split <;> omega
    · omega
theorem lkM_pos {p : Nat → Bool} {h : Nat → Int} {t : Nat} : lkM p h t = 0 ↔ bC p t = 0 := by
  constructor
  · intro h0
    by_cases hb : bC p t = 0
    · exact hb
    · have ex : ∀ t, bC p t ≠ 0 → ∃ a, a < t ∧ p a = true := by
        intro t
        induction t with
        | zero => exact fun x => absurd rfl x
        | succ t ih =>
          intro x
          by_cases hp : p t = true
          · exact ⟨t, by omega, hp⟩
          · have : bC p t ≠ 0 := by
              intro y
              apply x
              unfold bC
              rw [y, if_neg hp]
            obtain ⟨a, h1, h2⟩ := ih this
            exact ⟨a, by omega, h2⟩
      obtain ⟨a, h1, h2⟩ := ex t hb
      have h3 := lkM_ge (p := p) (h := h) t a h1 h2
      have h4 : 1 ≤ lkK p h t (h a) := bC_pos h1 (by rw [h2, decide_eq_true rfl]; rfl)
      omega
  · intro hb
    rcases lkM_ex (p := p) (h := h) t with h0 | ⟨a, h1, h2, h3⟩
    · exact h0
    · have := bC_pos h1 h2
      omega
set_option maxRecDepth 8000 in
set_option maxHeartbeats 2000000 in
theorem c_mostAlike_l {k : Nat} {n s T : Nat} {p : Nat → Bool} {W : Nat → Nat → Int} {σ : eH} {Q : Option eV → eH → Prop}  (hk : 1 ≤ k) (hc : Ck σ) (hn8 : n ≤ 8) (hs : s < n) (hT : T ≤ 7) (hw : ∀ r i, r < T → i < n → -1 ≤ W r i ∧ W r i < 4) (hd : ∀ r, r < T → p r = true → σ.2.2.2.1 159 (bC p r) = ((aW (W r) n : Nat) : Int)) (hQ : ∀ τ, Sn (fun c => c = 160) σ τ → Q (some (.inl ((lkM p (fun r => W r s) T : Nat) : Int))) τ) : ∀ (j r : Nat) (z m : Int) (τ : eH) (x5 : Option eV), Sn (fun c => c = 160) σ τ → (∀ y : Nat, y < 5 → τ.2.2.2.1 160 y = ((lkK p (fun r => W r s) r ((y : Int) - 1) : Nat) : Int)) → z = ((bC p r : Nat) : Int) → m = ((lkM p (fun r => W r s) r : Nat) : Int) → r + j = T → e_Gp k e_k140 13 [some (.inr (.inr 113)), some (.inl (s : Int)), some (.inl ((bC p T : Nat) : Int)), some (.inl m), some (.inl z), x5] [] τ Q
  | 0, r, z, m, τ, x5, hs1, hi, hz, hm, h => by
    subst hz
    have hc1 := (Sg.of hs1).ck hc
    obtain rfl : T = r := by omega
    have hle := bC_le p T
    have hQ := hQ τ hs1
    rw [← hm] at hQ
    refine gp_of (by rfl) ?_
    simp (disch := omega) only [e_wi, e_isr, e_isc, e_stp, e_rt, e_load, e_bin, e_binL, e_ld, e_s1, e_s2, e_n0, e_ok, e_cmp, e_ex, e_gif, e_id32, e_id64, e_v0, e_v1, e_v2, e_v3, e_dt, e_c1, e_sw, e_inv, e_cat, e_rcv, Fin.val_zero, Fin.val_one, Int.toNat_add, Int.toNat_mul, Int.toNat_natCast, Int.reduceToNat, Int.reduceMul, Int.reduceAdd, Int.reduceNeg, Nat.reduceAdd, Nat.reduceSub, Nat.reduceEqDiff, Nat.reduceLT, Nat.reduceLeDiff, List.getElem?_cons_zero, List.getElem?_cons_succ, List.length_cons, List.length_nil, List.take_succ_cons, List.take_zero, List.drop_succ_cons, List.drop_zero, List.reverse_cons, List.reverse_nil, List.nil_append, List.cons_append, List.append_nil, List.map_cons, List.map_nil, List.sum_cons, List.sum_nil, Bool.false_eq_true, if_false, if_true, Bool.and_true, Bool.true_and, Bool.and_self, Bool.or_true, Bool.true_or, Bool.or_false, Bool.false_or, Bool.or_self, decide_eq_true_eq, decide_true, decide_false, beq_self_eq_true, Option.map_some, reduceCtorEq, true_or, or_true, or_false, false_or, or_self, true_and, and_true, and_self, false_and, and_false, Option.some.injEq, exists_eq_left', ne_eq, not_true_eq_false, not_false_eq_true, eq_self, e_pk, e_pr, e_pn, e_ps, e_pd1, e_pd2, e_us, e_un, e_ifp, e_ifn, e_sk, e_sr, e_sn, e_ss, e_sd1, e_sd2, e_sp, ck111 hc1, ck112 hc1, ck113 hc1, cr111_0 hc1, cr111_1 hc1, ck159 hc1, ck160 hc1, cr111_8 hc1, cr111_9 hc1]
    repeat' first
      | (refine gp_at [13] (by rfl) (by decide) ?_; simp (disch := omega) only [e_wi, e_isr, e_isc, e_stp, e_rt, e_load, e_bin, e_binL, e_ld, e_s1, e_s2, e_n0, e_ok, e_cmp, e_ex, e_gif, e_id32, e_id64, e_v0, e_v1, e_v2, e_v3, e_dt, e_c1, e_sw, e_inv, e_cat, e_rcv, Fin.val_zero, Fin.val_one, Int.toNat_add, Int.toNat_mul, Int.toNat_natCast, Int.reduceToNat, Int.reduceMul, Int.reduceAdd, Int.reduceNeg, Nat.reduceAdd, Nat.reduceSub, Nat.reduceEqDiff, Nat.reduceLT, Nat.reduceLeDiff, List.getElem?_cons_zero, List.getElem?_cons_succ, List.length_cons, List.length_nil, List.take_succ_cons, List.take_zero, List.drop_succ_cons, List.drop_zero, List.reverse_cons, List.reverse_nil, List.nil_append, List.cons_append, List.append_nil, List.map_cons, List.map_nil, List.sum_cons, List.sum_nil, Bool.false_eq_true, if_false, if_true, Bool.and_true, Bool.true_and, Bool.and_self, Bool.or_true, Bool.true_or, Bool.or_false, Bool.false_or, Bool.or_self, decide_eq_true_eq, decide_true, decide_false, beq_self_eq_true, Option.map_some, reduceCtorEq, true_or, or_true, or_false, false_or, or_self, true_and, and_true, and_self, false_and, and_false, Option.some.injEq, exists_eq_left', ne_eq, not_true_eq_false, not_false_eq_true, eq_self, e_pk, e_pr, e_pn, e_ps, e_pd1, e_pd2, e_us, e_un, e_ifp, e_ifn, e_sk, e_sr, e_sn, e_ss, e_sd1, e_sd2, e_sp, ck111 hc1, ck112 hc1, ck113 hc1, cr111_0 hc1, cr111_1 hc1, ck159 hc1, ck160 hc1, cr111_8 hc1, cr111_9 hc1])
      | (refine And.intro (fun hc => ?_) (fun hc => ?_) <;> try (exfalso; omega))
    all_goals first | exact hQ | (exfalso; omega)
  | j + 1, r, z, m, τ, x5, hs1, hi, hz, hm, h => by
    subst hz
    have hc1 := (Sg.of hs1).ck hc
    have ih := fun z m τ2 x5 h2 h3 h4 h5 => c_mostAlike_l (k := k) hk hc hn8 hs hT hw hd hQ j (r + 1) z m τ2 x5 h2 h3 h4 h5 (by omega)
    have hle := bC_le p T
    have hle2 := bC_le p r
    have hmle := lkM_le (p := p) (h := fun r => W r s) r
    have hbs : bC p (r + 1) = bC p r + if p r = true then 1 else 0 := rfl
    have hks := fun z => lkK_s (p := p) (h := fun r => W r s) (t := r) (z := z)
    have hms : lkM p (fun r => W r s) (r + 1) = if p r = true then (if lkM p (fun r => W r s) r < lkK p (fun r => W r s) (r + 1) (W r s) then lkK p (fun r => W r s) (r + 1) (W r s) else lkM p (fun r => W r s) r) else lkM p (fun r => W r s) r := rfl
    by_cases hp : p r = true
    · have hbT : bC p r < bC p T := by
        have mono : ∀ j, bC p (r + 1) ≤ bC p (r + 1 + j) := by
          intro j
          induction j with
          | zero => exact Nat.le_refl _
          | succ j ih => exact Nat.le_trans ih (by show _ ≤ bC p (r + 1 + j) + _; omega)
        have := mono j
        rw [show r + 1 + j = T by omega, hbs, if_pos hp] at this
        omega
      rw [if_pos hp] at hbs hms
      have hwr := hw r s (by omega) hs
      have hdr : τ.2.2.2.1 159 (bC p r) = ((aW (W r) n : Nat) : Int) := by rw [hs1.at _ (by omega)]; exact hd r (by omega) hp
      obtain ⟨y, hy⟩ : ∃ y : Nat, W r s + 1 = (y : Int) := ⟨(W r s + 1).toNat, by omega⟩
      have hiy := hi y (by omega)
      have hyw : (y : Int) - 1 = W r s := by omega
      rw [hyw] at hiy
      have hk1 := hks (W r s)
      rw [if_pos ⟨hp, rfl⟩] at hk1
      have hkle := lkK_le (p := p) (h := fun r => W r s) (t := r) (z := W r s)
      have hup : va_up (τ.2.2.2.1 160) y (((lkK p (fun r => W r s) r (W r s) : Nat) : Int) + 1) y = ((lkK p (fun r => W r s) (r + 1) (W r s) : Nat) : Int) := by
        rw [e_us, hk1]
        rfl
      have ih := fun x5 => ih (((bC p r : Nat) : Int) + 1) (if m < ((lkK p (fun r => W r s) r (W r s) : Nat) : Int) + 1 then ((lkK p (fun r => W r s) r (W r s) : Nat) : Int) + 1 else m) (e_put τ 160 y (((lkK p (fun r => W r s) r (W r s) : Nat) : Int) + 1)) x5 (hs1.put rfl) (fun y2 hy2 => by
        rw [e_pd1]
        by_cases e : y2 = y
        · rw [e, hup, hyw]
        · rw [e_un _ e, hi y2 hy2, hks, if_neg (by omega)]
          rfl) (by rw [hbs]; rfl) (by
        rw [hms, hm, hk1]
        (repeat' split) <;> omega)
      generalize lkK p (fun r => W r s) r (W r s) = Ko at *
      have hcy : (y : Int) - 1 + 1 = (y : Int) := by omega
      refine gp_of (by rfl) ?_
      simp (disch := omega) only [e_wi, e_isr, e_isc, e_stp, e_rt, e_load, e_bin, e_binL, e_ld, e_s1, e_s2, e_n0, e_ok, e_cmp, e_ex, e_gif, e_id32, e_id64, e_v0, e_v1, e_v2, e_v3, e_dt, e_c1, e_sw, e_inv, e_cat, e_rcv, Fin.val_zero, Fin.val_one, Int.toNat_add, Int.toNat_mul, Int.toNat_natCast, Int.reduceToNat, Int.reduceMul, Int.reduceAdd, Int.reduceNeg, Nat.reduceAdd, Nat.reduceSub, Nat.reduceEqDiff, Nat.reduceLT, Nat.reduceLeDiff, List.getElem?_cons_zero, List.getElem?_cons_succ, List.length_cons, List.length_nil, List.take_succ_cons, List.take_zero, List.drop_succ_cons, List.drop_zero, List.reverse_cons, List.reverse_nil, List.nil_append, List.cons_append, List.append_nil, List.map_cons, List.map_nil, List.sum_cons, List.sum_nil, Bool.false_eq_true, if_false, if_true, Bool.and_true, Bool.true_and, Bool.and_self, Bool.or_true, Bool.true_or, Bool.or_false, Bool.false_or, Bool.or_self, decide_eq_true_eq, decide_true, decide_false, beq_self_eq_true, Option.map_some, reduceCtorEq, true_or, or_true, or_false, false_or, or_self, true_and, and_true, and_self, false_and, and_false, Option.some.injEq, exists_eq_left', ne_eq, not_true_eq_false, not_false_eq_true, eq_self, e_pk, e_pr, e_pn, e_ps, e_pd1, e_pd2, e_us, e_un, e_ifp, e_ifn, e_sk, e_sr, e_sn, e_ss, e_sd1, e_sd2, e_sp, ck111 hc1, ck112 hc1, ck113 hc1, cr111_0 hc1, cr111_1 hc1, ck159 hc1, ck160 hc1, cr111_8 hc1, cr111_9 hc1, hdr, hy, hiy]
      repeat' first
        | (refine gp_at [13] (by rfl) (by decide) ?_; simp (disch := omega) only [e_wi, e_isr, e_isc, e_stp, e_rt, e_load, e_bin, e_binL, e_ld, e_s1, e_s2, e_n0, e_ok, e_cmp, e_ex, e_gif, e_id32, e_id64, e_v0, e_v1, e_v2, e_v3, e_dt, e_c1, e_sw, e_inv, e_cat, e_rcv, Fin.val_zero, Fin.val_one, Int.toNat_add, Int.toNat_mul, Int.toNat_natCast, Int.reduceToNat, Int.reduceMul, Int.reduceAdd, Int.reduceNeg, Nat.reduceAdd, Nat.reduceSub, Nat.reduceEqDiff, Nat.reduceLT, Nat.reduceLeDiff, List.getElem?_cons_zero, List.getElem?_cons_succ, List.length_cons, List.length_nil, List.take_succ_cons, List.take_zero, List.drop_succ_cons, List.drop_zero, List.reverse_cons, List.reverse_nil, List.nil_append, List.cons_append, List.append_nil, List.map_cons, List.map_nil, List.sum_cons, List.sum_nil, Bool.false_eq_true, if_false, if_true, Bool.and_true, Bool.true_and, Bool.and_self, Bool.or_true, Bool.true_or, Bool.or_false, Bool.false_or, Bool.or_self, decide_eq_true_eq, decide_true, decide_false, beq_self_eq_true, Option.map_some, reduceCtorEq, true_or, or_true, or_false, false_or, or_self, true_and, and_true, and_self, false_and, and_false, Option.some.injEq, exists_eq_left', ne_eq, not_true_eq_false, not_false_eq_true, eq_self, e_pk, e_pr, e_pn, e_ps, e_pd1, e_pd2, e_us, e_un, e_ifp, e_ifn, e_sk, e_sr, e_sn, e_ss, e_sd1, e_sd2, e_sp, ck111 hc1, ck112 hc1, ck113 hc1, cr111_0 hc1, cr111_1 hc1, ck159 hc1, ck160 hc1, cr111_8 hc1, cr111_9 hc1, hdr, hy, hiy])
        | (refine And.intro (fun hc => ?_) (fun hc => ?_) <;> try (exfalso; omega))
        | ((refine c_whoseIn (W := W r) (n := n) (by omega) hn8 hs (fun i hi => hw r i (by omega) hi) ?_); dsimp only [Option.toList, List.cons_append, List.nil_append, Nat.reduceAdd])
      all_goals first | exact ih _ | (exfalso; omega)
    · rw [if_neg hp] at hbs hms
      refine ih _ m τ x5 hs1 (fun y hy => ?_) (by rw [hbs]; rfl) (by rw [hms]; exact hm)
      rw [hi y hy, hks, if_neg (fun x => hp x.1)]
      rfl
set_option maxRecDepth 8000 in
set_option maxHeartbeats 1000000 in
theorem c_mostAlike {k : Nat} {n s T : Nat} {p : Nat → Bool} {W : Nat → Nat → Int} {σ : eH} {Q : Option eV → eH → Prop} (hk : 2 ≤ k)  (hc : Ck σ) (hn8 : n ≤ 8) (hs : s < n) (hT : T ≤ 7) (hw : ∀ r i, r < T → i < n → -1 ≤ W r i ∧ W r i < 4) (hd : ∀ r, r < T → p r = true → σ.2.2.2.1 159 (bC p r) = ((aW (W r) n : Nat) : Int)) (hQ : ∀ τ, Sn (fun c => c = 160) σ τ → Q (some (.inl ((lkM p (fun r => W r s) T : Nat) : Int))) τ) : e_Wp k 140 [.inr (.inr 113), .inl (s : Int), .inl ((bC p T : Nat) : Int)] σ Q := by
  refine wp_in (nL := 6) (cd := e_k140) (by omega) (by rfl) (Nat.le_of_ble_eq_true rfl) ?_
  dsimp only [e_ent, Nat.reduceSub, List.replicate]
  refine gp_of (by rfl) ?_
  simp (disch := omega) only [e_wi, e_isr, e_isc, e_stp, e_rt, e_load, e_bin, e_binL, e_ld, e_s1, e_s2, e_n0, e_ok, e_cmp, e_ex, e_gif, e_id32, e_id64, e_v0, e_v1, e_v2, e_v3, e_dt, e_c1, e_sw, e_inv, e_cat, e_rcv, Fin.val_zero, Fin.val_one, Int.toNat_add, Int.toNat_mul, Int.toNat_natCast, Int.reduceToNat, Int.reduceMul, Int.reduceAdd, Int.reduceNeg, Nat.reduceAdd, Nat.reduceSub, Nat.reduceEqDiff, Nat.reduceLT, Nat.reduceLeDiff, List.getElem?_cons_zero, List.getElem?_cons_succ, List.length_cons, List.length_nil, List.take_succ_cons, List.take_zero, List.drop_succ_cons, List.drop_zero, List.reverse_cons, List.reverse_nil, List.nil_append, List.cons_append, List.append_nil, List.map_cons, List.map_nil, List.sum_cons, List.sum_nil, Bool.false_eq_true, if_false, if_true, Bool.and_true, Bool.true_and, Bool.and_self, Bool.or_true, Bool.true_or, Bool.or_false, Bool.false_or, Bool.or_self, decide_eq_true_eq, decide_true, decide_false, beq_self_eq_true, Option.map_some, reduceCtorEq, true_or, or_true, or_false, false_or, or_self, true_and, and_true, and_self, false_and, and_false, Option.some.injEq, exists_eq_left', ne_eq, not_true_eq_false, not_false_eq_true, eq_self, e_pk, e_pr, e_pn, e_ps, e_pd1, e_pd2, e_us, e_un, e_ifp, e_ifn, e_sk, e_sr, e_sn, e_ss, e_sd1, e_sd2, e_sp, ck111 hc, ck112 hc, ck113 hc, cr111_0 hc, cr111_1 hc, ck159 hc, ck160 hc, cr111_8 hc, cr111_9 hc]
  repeat' first
    | (refine gp_at [8] (by rfl) (by decide) ?_; simp (disch := omega) only [e_wi, e_isr, e_isc, e_stp, e_rt, e_load, e_bin, e_binL, e_ld, e_s1, e_s2, e_n0, e_ok, e_cmp, e_ex, e_gif, e_id32, e_id64, e_v0, e_v1, e_v2, e_v3, e_dt, e_c1, e_sw, e_inv, e_cat, e_rcv, Fin.val_zero, Fin.val_one, Int.toNat_add, Int.toNat_mul, Int.toNat_natCast, Int.reduceToNat, Int.reduceMul, Int.reduceAdd, Int.reduceNeg, Nat.reduceAdd, Nat.reduceSub, Nat.reduceEqDiff, Nat.reduceLT, Nat.reduceLeDiff, List.getElem?_cons_zero, List.getElem?_cons_succ, List.length_cons, List.length_nil, List.take_succ_cons, List.take_zero, List.drop_succ_cons, List.drop_zero, List.reverse_cons, List.reverse_nil, List.nil_append, List.cons_append, List.append_nil, List.map_cons, List.map_nil, List.sum_cons, List.sum_nil, Bool.false_eq_true, if_false, if_true, Bool.and_true, Bool.true_and, Bool.and_self, Bool.or_true, Bool.true_or, Bool.or_false, Bool.false_or, Bool.or_self, decide_eq_true_eq, decide_true, decide_false, beq_self_eq_true, Option.map_some, reduceCtorEq, true_or, or_true, or_false, false_or, or_self, true_and, and_true, and_self, false_and, and_false, Option.some.injEq, exists_eq_left', ne_eq, not_true_eq_false, not_false_eq_true, eq_self, e_pk, e_pr, e_pn, e_ps, e_pd1, e_pd2, e_us, e_un, e_ifp, e_ifn, e_sk, e_sr, e_sn, e_ss, e_sd1, e_sd2, e_sp, ck111 hc, ck112 hc, ck113 hc, cr111_0 hc, cr111_1 hc, ck159 hc, ck160 hc, cr111_8 hc, cr111_9 hc])
    | (refine And.intro (fun hc => ?_) (fun hc => ?_) <;> try (exfalso; omega))
    | ((refine c_fill (c := 160) (len := 5) (by omega) (ck160 hc) (by omega) (fun τ2 hs2 hv2 => ?_)); dsimp only [Option.toList, List.cons_append, List.nil_append, Nat.reduceAdd])
  have hc2 := (Sg.of hs2).ck hc
  refine gp_of (by rfl) ?_
  simp (disch := omega) only [e_wi, e_isr, e_isc, e_stp, e_rt, e_load, e_bin, e_binL, e_ld, e_s1, e_s2, e_n0, e_ok, e_cmp, e_ex, e_gif, e_id32, e_id64, e_v0, e_v1, e_v2, e_v3, e_dt, e_c1, e_sw, e_inv, e_cat, e_rcv, Fin.val_zero, Fin.val_one, Int.toNat_add, Int.toNat_mul, Int.toNat_natCast, Int.reduceToNat, Int.reduceMul, Int.reduceAdd, Int.reduceNeg, Nat.reduceAdd, Nat.reduceSub, Nat.reduceEqDiff, Nat.reduceLT, Nat.reduceLeDiff, List.getElem?_cons_zero, List.getElem?_cons_succ, List.length_cons, List.length_nil, List.take_succ_cons, List.take_zero, List.drop_succ_cons, List.drop_zero, List.reverse_cons, List.reverse_nil, List.nil_append, List.cons_append, List.append_nil, List.map_cons, List.map_nil, List.sum_cons, List.sum_nil, Bool.false_eq_true, if_false, if_true, Bool.and_true, Bool.true_and, Bool.and_self, Bool.or_true, Bool.true_or, Bool.or_false, Bool.false_or, Bool.or_self, decide_eq_true_eq, decide_true, decide_false, beq_self_eq_true, Option.map_some, reduceCtorEq, true_or, or_true, or_false, false_or, or_self, true_and, and_true, and_self, false_and, and_false, Option.some.injEq, exists_eq_left', ne_eq, not_true_eq_false, not_false_eq_true, eq_self, e_pk, e_pr, e_pn, e_ps, e_pd1, e_pd2, e_us, e_un, e_ifp, e_ifn, e_sk, e_sr, e_sn, e_ss, e_sd1, e_sd2, e_sp, ck111 hc2, ck112 hc2, ck113 hc2, cr111_0 hc2, cr111_1 hc2, ck159 hc2, ck160 hc2, cr111_8 hc2, cr111_9 hc2]
  repeat' first
    | (refine gp_at [13] (by rfl) (by decide) ?_; simp (disch := omega) only [e_wi, e_isr, e_isc, e_stp, e_rt, e_load, e_bin, e_binL, e_ld, e_s1, e_s2, e_n0, e_ok, e_cmp, e_ex, e_gif, e_id32, e_id64, e_v0, e_v1, e_v2, e_v3, e_dt, e_c1, e_sw, e_inv, e_cat, e_rcv, Fin.val_zero, Fin.val_one, Int.toNat_add, Int.toNat_mul, Int.toNat_natCast, Int.reduceToNat, Int.reduceMul, Int.reduceAdd, Int.reduceNeg, Nat.reduceAdd, Nat.reduceSub, Nat.reduceEqDiff, Nat.reduceLT, Nat.reduceLeDiff, List.getElem?_cons_zero, List.getElem?_cons_succ, List.length_cons, List.length_nil, List.take_succ_cons, List.take_zero, List.drop_succ_cons, List.drop_zero, List.reverse_cons, List.reverse_nil, List.nil_append, List.cons_append, List.append_nil, List.map_cons, List.map_nil, List.sum_cons, List.sum_nil, Bool.false_eq_true, if_false, if_true, Bool.and_true, Bool.true_and, Bool.and_self, Bool.or_true, Bool.true_or, Bool.or_false, Bool.false_or, Bool.or_self, decide_eq_true_eq, decide_true, decide_false, beq_self_eq_true, Option.map_some, reduceCtorEq, true_or, or_true, or_false, false_or, or_self, true_and, and_true, and_self, false_and, and_false, Option.some.injEq, exists_eq_left', ne_eq, not_true_eq_false, not_false_eq_true, eq_self, e_pk, e_pr, e_pn, e_ps, e_pd1, e_pd2, e_us, e_un, e_ifp, e_ifn, e_sk, e_sr, e_sn, e_ss, e_sd1, e_sd2, e_sp, ck111 hc2, ck112 hc2, ck113 hc2, cr111_0 hc2, cr111_1 hc2, ck159 hc2, ck160 hc2, cr111_8 hc2, cr111_9 hc2])
    | (refine And.intro (fun hc => ?_) (fun hc => ?_) <;> try (exfalso; omega))
  exact c_mostAlike_l (k := k - 1) (by omega) hc hn8 hs hT hw hd hQ T 0 0 0 τ2 _ hs2 (fun y hy => hv2 y hy) rfl rfl (by omega)
