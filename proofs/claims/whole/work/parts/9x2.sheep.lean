/-- reading a hill: no fault so far, at token i -/
def Hs (σ0 : eH) (B : Nat → Int) (t N i : Nat) (τ : eH) : Prop := Ck τ ∧ Sn (fun c => c = 4 ∨ 45 ≤ c ∧ c < 62) σ0 τ ∧ Rd τ B t N i 0
/-- after a fault -/
def Hx (σ0 : eH) (B : Nat → Int) (t N e : Nat) (τ : eH) : Prop := Ck τ ∧ Sn (fun c => c = 4 ∨ 45 ≤ c ∧ c < 62) σ0 τ ∧ e ≠ 0 ∧ ∃ i, Rd τ B t N i e
/-- the draft -/
def HD (τ : eH) (H : Nat → Int) (s m : Nat) : Prop := τ.2.2.2.1 45 0 = 1 ∧ τ.2.2.2.1 45 1 = H 0 ∧ τ.2.2.2.1 45 2 = H 1 ∧ τ.2.2.2.1 45 3 = (s : Int) ∧ τ.2.2.2.1 45 4 = (m : Int) ∧ (∀ i, i < s → τ.2.2.2.1 46 i = H (63 + i)) ∧ (∀ i, i < m → τ.2.2.2.1 47 i = H (71 + i)) ∧ (∀ i, i < m → τ.2.2.2.1 48 i = H (75 + i)) ∧ StV τ 49 (r_bg H 8 4 32)
theorem Hx.f {σ0 τ : eH} {B : Nat → Int} {t N e : Nat} (h : Hx σ0 B t N e τ) : τ.2.2.2.1 4 1 = (e : Int) := by
  obtain ⟨_, _, _, i, hi⟩ := h
  exact hi.2.2.2.1
theorem Hx.e {σ0 τ : eH} {B : Nat → Int} {t N e : Nat} (h : Hx σ0 B t N e τ) : e ≠ 0 ∧ e < 4000 := by
  obtain ⟨_, _, h3, i, hi⟩ := h
  exact ⟨h3, hi.2.2.2.2.1⟩
theorem Hs.f {σ0 τ : eH} {B : Nat → Int} {t N i : Nat} (h : Hs σ0 B t N i τ) : τ.2.2.2.1 4 1 = 0 := h.2.2.2.2.2.1
theorem Hs.pt {σ0 τ : eH} {B : Nat → Int} {t N i : Nat} (h : Hs σ0 B t N i τ) : k_P B t i ≤ t ∧ t ≤ 400 ∧ i ≤ N := ⟨h.2.2.1.pt h.2.2.2.1, h.2.2.2.2.2.2.2, h.2.2.2.1⟩
theorem Hs.bl {σ0 τ : eH} {B : Nat → Int} {t N i f : Nat} {x : Int} (h : Hs σ0 B t N i τ) (hf : x = (f : Int)) (hf0 : f ≠ 0) (hf2 : f < 4000) : Hx σ0 B t N f (e_put τ 4 1 x) := by
  have hs : Sn (fun c => c = 4 ∨ 45 ≤ c ∧ c < 62) τ (e_put τ 4 1 x) := Sn.put (Sn.rf _ _) (by omega)
  exact ⟨(Sg.of hs).ck h.1, h.2.1.tr hs, hf0, i, h.2.2.bl hf hf2⟩
theorem Hs.go {σ0 τ : eH} {B : Nat → Int} {t N i : Nat} (h : Hs σ0 B t N i τ) (hi : i < N) : Hs σ0 B t N (i + 1) (e_put τ 4 7 ((i : Int) + 1)) := by
  have hs : Sn (fun c => c = 4 ∨ 45 ≤ c ∧ c < 62) τ (e_put τ 4 7 ((i : Int) + 1)) := Sn.put (Sn.rf _ _) (by omega)
  exact ⟨(Sg.of hs).ck h.1, h.2.1.tr hs, h.2.2.go hi⟩
theorem Hs.dr {σ0 τ τ' : eH} {B : Nat → Int} {t N i : Nat} (h : Hs σ0 B t N i τ) (hs : Sn (fun c => 45 ≤ c ∧ c < 62) τ τ') : Hs σ0 B t N i τ' := ⟨(Sg.of hs).ck h.1, h.2.1.tr (hs.mn (fun c hc => by omega)), h.2.2.sn hs (by omega) (by omega) (by omega) (by omega)⟩
theorem Hx.dr {σ0 τ τ' : eH} {B : Nat → Int} {t N e : Nat} (h : Hx σ0 B t N e τ) (hs : Sn (fun c => 45 ≤ c ∧ c < 62) τ τ') : Hx σ0 B t N e τ' := by
  obtain ⟨h1, h2, h3, i, hi⟩ := h
  exact ⟨(Sg.of hs).ck h1, h2.tr (hs.mn (fun c hc => by omega)), h3, i, hi.sn hs (by omega) (by omega) (by omega) (by omega)⟩
theorem HD.sn {σ τ : eH} {H : Nat → Int} {s m : Nat} (h : HD σ H s m) (hs : Sn (fun c => c = 4) σ τ) : HD τ H s m := by
  obtain ⟨h0, h1, h2, h3, h4, h5, h6, h7, h8⟩ := h
  unfold HD
  rw [hs.at 45 (by omega), hs.at 46 (by omega), hs.at 47 (by omega), hs.at 48 (by omega)]
  exact ⟨h0, h1, h2, h3, h4, h5, h6, h7, h8.sn hs (fun c c1 c2 => by omega)⟩
theorem r_bg_c2 {H G : Nat → Int} (h : ∀ j, 79 ≤ j → j < 119 → H j = G j) (k : Nat) (h1 : 10 ≤ k) (h2 : k < 63) : r_bg H 8 4 32 k = r_bg G 8 4 32 k := by
  unfold r_bg
  by_cases e1 : k = 10
  · rw [if_pos e1, if_pos e1]
  · rw [if_neg e1, if_neg e1]
    by_cases e2 : 11 ≤ k ∧ k < 11 + 8
    · rw [if_pos e2, if_pos e2]
    · rw [if_neg e2, if_neg e2]
      by_cases e3 : 19 ≤ k ∧ k < 19 + 8
      · rw [if_pos e3, if_pos e3]
        exact h _ (by omega) (by omega)
      · rw [if_neg e3, if_neg e3]
        by_cases e4 : 27 ≤ k ∧ k < 27 + 4
        · rw [if_pos e4, if_pos e4]
        · rw [if_neg e4, if_neg e4, if_pos (by omega), if_pos (by omega)]
          exact h _ (by omega) (by omega)
theorem h_num {k : Nat} {σ0 σ : eH} {B : Nat → Int} {t N i : Nat} {lo hh : Int} {Q : Option eV → eH → Prop} (hk : 2 ≤ k) (h : Hs σ0 B t N i σ) (hlo : 0 ≤ lo ∧ lo ≤ 100000) (hhi : -1 ≤ hh ∧ hh ≤ 100000) (hG : ∀ τ x, k_num B t lo hh (k_P B t i) = .inr (k_P B t (i + 1), x) → Hs σ0 B t N (i + 1) τ → Sn (fun c => c = 4) σ τ → Q (some (.inl (x : Int))) τ) (hF : ∀ τ e x, k_num B t lo hh (k_P B t i) = .inl e → Hx σ0 B t N e τ → Q (some (.inl x)) τ) : e_Wp k 47 [.inr (.inr 6), .inl lo, .inl hh] σ Q := by
  have hp := h.pt
  unfold k_num at hG hF
  refine c_takeNumber0 hk h.1 h.2.2 hlo hhi (fun q1 q2 q3 q4 => ?_) (fun q1 q2 => ?_) (fun q1 x => ?_)
  · rw [if_pos q2, if_pos ⟨q3, q4⟩] at hG
    obtain ⟨w, hw⟩ : ∃ w : Nat, k_nu B t (k_P B t i) = (w : Int) := ⟨(k_nu B t (k_P B t i)).toNat, by omega⟩
    rw [hw] at hG ⊢
    exact hG _ w rfl (h.go q1) (Sn.put (Sn.rf _ _) rfl)
  · rw [if_pos q1, if_neg q2] at hF
    exact hF _ _ _ rfl (h.bl (by omega) (by omega) (by omega))
  · rw [if_neg q1] at hF
    exact hF _ _ _ rfl (h.bl (by omega) (by omega) (by omega))
theorem h_numX {k : Nat} {σ0 σ : eH} {B : Nat → Int} {t N e : Nat} {lo hh : Int} {Q : Option eV → eH → Prop} (hk : 1 ≤ k) (h : Hx σ0 B t N e σ) (hQ : Q (some (.inl (-1))) σ) : e_Wp k 47 [.inr (.inr 6), .inl lo, .inl hh] σ Q := c_takeNumber1 hk h.1 h.f h.e.1 h.e.2 hQ
theorem h_place {k : Nat} {σ0 σ : eH} {B : Nat → Int} {t N i : Nat} {Q : Option eV → eH → Prop} (hk : 1 ≤ k) (h : Hs σ0 B t N i σ) (hQ : Q (some (.inl ((k_P B t i : Nat) : Int))) σ) : e_Wp k 40 [.inr (.inr 6)] σ Q := c_nextPlace hk h.1 h.2.2 hQ
theorem h_placeX {k : Nat} {σ0 σ : eH} {B : Nat → Int} {t N e : Nat} {Q : Option eV → eH → Prop} (hk : 1 ≤ k) (h : Hx σ0 B t N e σ) (hQ : ∀ x, Q (some (.inl x)) σ) : e_Wp k 40 [.inr (.inr 6)] σ Q := by
  obtain ⟨h1, h2, h3, i, hi⟩ := h
  exact c_nextPlace hk h1 hi (hQ _)
set_option maxRecDepth 8000 in
set_option maxHeartbeats 1000000 in
theorem h_sheep {k : Nat} {σ0 : eH} {B : Nat → Int} {t N i s m : Nat} {H : Nat → Int} {σ : eH} {Q : Option eV → eH → Prop} (hk : 3 ≤ k) (h : Hs σ0 B t N i σ) (hd : HD σ H s m) (ho : Hok H s m) (hs8 : s < 8) (hG : ∀ τ i' H' s' m', k_nb (k_num B t 1 9 (k_P B t i)) (fun p1 a => .inr (p1, va_up (va_up H (63 + s) (a : Int)) 2 ((s : Int) + 1))) = .inr (k_P B t i', H') → Hs σ0 B t N i' τ → HD τ H' s' m' → Hok H' s' m' → Q none τ) (hX : ∀ τ e, k_nb (k_num B t 1 9 (k_P B t i)) (fun p1 a => .inr (p1, va_up (va_up H (63 + s) (a : Int)) 2 ((s : Int) + 1))) = .inl e → Hx σ0 B t N e τ → Q none τ) : e_Wp k 48 [.inr (.inr 47), .inr (.inr 6)] σ Q := by
  refine wp_in (nL := 3) (cd := e_k48) (by omega) (by rfl) (Nat.le_of_ble_eq_true rfl) ?_
  dsimp only [e_ent, Nat.reduceSub, List.replicate]
  refine gp_of (by rfl) ?_
  simp (disch := omega) only [e_wi, e_isr, e_isc, e_stp, e_rt, e_load, e_bin, e_binL, e_ld, e_s1, e_s2, e_n0, e_ok, e_cmp, e_ex, e_gif, e_id32, e_id64, e_v0, e_v1, e_v2, e_v3, e_dt, e_c1, e_sw, e_inv, e_cat, e_rcv, Fin.val_zero, Fin.val_one, Int.toNat_add, Int.toNat_mul, Int.toNat_natCast, Int.reduceToNat, Int.reduceMul, Int.reduceAdd, Int.reduceNeg, Nat.reduceAdd, Nat.reduceSub, Nat.reduceEqDiff, Nat.reduceLT, Nat.reduceLeDiff, List.getElem?_cons_zero, List.getElem?_cons_succ, List.length_cons, List.length_nil, List.take_succ_cons, List.take_zero, List.drop_succ_cons, List.drop_zero, List.reverse_cons, List.reverse_nil, List.nil_append, List.cons_append, List.append_nil, List.map_cons, List.map_nil, List.sum_cons, List.sum_nil, Bool.false_eq_true, if_false, if_true, Bool.and_true, Bool.true_and, Bool.and_self, Bool.or_true, Bool.true_or, Bool.or_false, Bool.false_or, Bool.or_self, decide_eq_true_eq, decide_true, decide_false, beq_self_eq_true, Option.map_some, reduceCtorEq, true_or, or_true, or_false, false_or, or_self, true_and, and_true, and_self, false_and, and_false, Option.some.injEq, exists_eq_left', ne_eq, not_true_eq_false, not_false_eq_true, eq_self, e_pk, e_pr, e_pn, e_ps, e_pd1, e_pd2, e_us, e_un, e_ifp, e_ifn, e_sk, e_sr, e_sn, e_ss, e_sd1, e_sd2, e_sp, ck4 h.1, ck45 h.1, ck46 h.1, ck47 h.1, ck48 h.1, ck49 h.1, ck51 h.1, ck52 h.1, cr45_5 h.1, cr45_6 h.1, cr45_7 h.1, cr45_8 h.1, cr49_1 h.1, cr49_2 h.1]
  repeat' first
    | (refine gp_at [7] (by rfl) (by decide) ?_; simp (disch := omega) only [e_wi, e_isr, e_isc, e_stp, e_rt, e_load, e_bin, e_binL, e_ld, e_s1, e_s2, e_n0, e_ok, e_cmp, e_ex, e_gif, e_id32, e_id64, e_v0, e_v1, e_v2, e_v3, e_dt, e_c1, e_sw, e_inv, e_cat, e_rcv, Fin.val_zero, Fin.val_one, Int.toNat_add, Int.toNat_mul, Int.toNat_natCast, Int.reduceToNat, Int.reduceMul, Int.reduceAdd, Int.reduceNeg, Nat.reduceAdd, Nat.reduceSub, Nat.reduceEqDiff, Nat.reduceLT, Nat.reduceLeDiff, List.getElem?_cons_zero, List.getElem?_cons_succ, List.length_cons, List.length_nil, List.take_succ_cons, List.take_zero, List.drop_succ_cons, List.drop_zero, List.reverse_cons, List.reverse_nil, List.nil_append, List.cons_append, List.append_nil, List.map_cons, List.map_nil, List.sum_cons, List.sum_nil, Bool.false_eq_true, if_false, if_true, Bool.and_true, Bool.true_and, Bool.and_self, Bool.or_true, Bool.true_or, Bool.or_false, Bool.false_or, Bool.or_self, decide_eq_true_eq, decide_true, decide_false, beq_self_eq_true, Option.map_some, reduceCtorEq, true_or, or_true, or_false, false_or, or_self, true_and, and_true, and_self, false_and, and_false, Option.some.injEq, exists_eq_left', ne_eq, not_true_eq_false, not_false_eq_true, eq_self, e_pk, e_pr, e_pn, e_ps, e_pd1, e_pd2, e_us, e_un, e_ifp, e_ifn, e_sk, e_sr, e_sn, e_ss, e_sd1, e_sd2, e_sp, ck4 h.1, ck45 h.1, ck46 h.1, ck47 h.1, ck48 h.1, ck49 h.1, ck51 h.1, ck52 h.1, cr45_5 h.1, cr45_6 h.1, cr45_7 h.1, cr45_8 h.1, cr49_1 h.1, cr49_2 h.1])
    | (refine And.intro (fun hc => ?_) (fun hc => ?_) <;> try (exfalso; omega))
    | ((refine h_num (by omega) h (by omega) (by omega) (fun τ1 x1 er1 h1 hs1 => ?_) (fun τ1 e1 y1 er1 h1 => ?_)) <;> try dsimp only [Option.toList, List.cons_append, List.nil_append, Nat.reduceAdd])
  · rw [er1, k_nb_r] at hG
    have hd1 := hd.sn hs1
    have hr := k_num_r (by omega) er1
    have h2 := h1.dr (τ' := e_put (e_put τ1 46 s (x1 : Int)) 45 3 ((s : Int) + 1)) (by
      refine Sn.put ?_ ⟨by omega, by omega⟩
      exact Sn.put (Sn.rf _ _) ⟨by omega, by omega⟩)
    have hQ := hG _ (i + 1) _ (s + 1) m rfl h2 (by
      obtain ⟨a0, a1, a2, a3, a4, a5, a6, a7, a8⟩ := hd1
      refine ⟨?_, ?_, ?_, ?_, ?_, fun j hj => ?_, fun j hj => ?_, fun j hj => ?_, ?_⟩
      · rw [e_pd1, e_un _ (by omega), e_pd2 _ (by omega)]; exact a0
      · rw [e_pd1, e_un _ (by omega), e_pd2 _ (by omega), e_un _ (by omega), e_un _ (by omega)]; exact a1
      · rw [e_pd1, e_un _ (by omega), e_pd2 _ (by omega), e_un _ (by omega), e_un _ (by omega)]; exact a2
      · rw [e_pd1, e_us]; omega
      · rw [e_pd1, e_un _ (by omega), e_pd2 _ (by omega)]; exact a4
      · rw [e_pd2 _ (by omega), e_pd1]
        simp only [e_va]
        by_cases e : j = s
        · rw [if_pos e, if_neg (by omega), if_pos (by omega)]
        · rw [if_neg e, if_neg (by omega), if_neg (by omega)]; exact a5 j (by omega)
      · rw [e_pd2 _ (by omega), e_pd2 _ (by omega), e_un _ (by omega), e_un _ (by omega)]; exact a6 j hj
      · rw [e_pd2 _ (by omega), e_pd2 _ (by omega), e_un _ (by omega), e_un _ (by omega)]; exact a7 j hj
      · refine ((a8.fr (fun c c1 c2 => by rw [e_pd2 _ (by omega), e_pd2 _ (by omega)])).cg (fun j j1 j2 => ?_))
        exact r_bg_c2 (fun j j1 j2 => by rw [e_un _ (by omega), e_un _ (by omega)]) j j1 j2) (ho.sh hs8 hr.2)
    have c3 := hd1.2.2.2.1
    refine gp_of (by rfl) ?_
    simp (disch := omega) only [e_wi, e_isr, e_isc, e_stp, e_rt, e_load, e_bin, e_binL, e_ld, e_s1, e_s2, e_n0, e_ok, e_cmp, e_ex, e_gif, e_id32, e_id64, e_v0, e_v1, e_v2, e_v3, e_dt, e_c1, e_sw, e_inv, e_cat, e_rcv, Fin.val_zero, Fin.val_one, Int.toNat_add, Int.toNat_mul, Int.toNat_natCast, Int.reduceToNat, Int.reduceMul, Int.reduceAdd, Int.reduceNeg, Nat.reduceAdd, Nat.reduceSub, Nat.reduceEqDiff, Nat.reduceLT, Nat.reduceLeDiff, List.getElem?_cons_zero, List.getElem?_cons_succ, List.length_cons, List.length_nil, List.take_succ_cons, List.take_zero, List.drop_succ_cons, List.drop_zero, List.reverse_cons, List.reverse_nil, List.nil_append, List.cons_append, List.append_nil, List.map_cons, List.map_nil, List.sum_cons, List.sum_nil, Bool.false_eq_true, if_false, if_true, Bool.and_true, Bool.true_and, Bool.and_self, Bool.or_true, Bool.true_or, Bool.or_false, Bool.false_or, Bool.or_self, decide_eq_true_eq, decide_true, decide_false, beq_self_eq_true, Option.map_some, reduceCtorEq, true_or, or_true, or_false, false_or, or_self, true_and, and_true, and_self, false_and, and_false, Option.some.injEq, exists_eq_left', ne_eq, not_true_eq_false, not_false_eq_true, eq_self, e_pk, e_pr, e_pn, e_ps, e_pd1, e_pd2, e_us, e_un, e_ifp, e_ifn, e_sk, e_sr, e_sn, e_ss, e_sd1, e_sd2, e_sp, ck4 h1.1, ck45 h1.1, ck46 h1.1, ck47 h1.1, ck48 h1.1, ck49 h1.1, ck51 h1.1, ck52 h1.1, cr45_5 h1.1, cr45_6 h1.1, cr45_7 h1.1, cr45_8 h1.1, cr49_1 h1.1, cr49_2 h1.1, h1.f, c3]
    repeat' first
      | (refine gp_at [] (by rfl) (by decide) ?_; simp (disch := omega) only [e_wi, e_isr, e_isc, e_stp, e_rt, e_load, e_bin, e_binL, e_ld, e_s1, e_s2, e_n0, e_ok, e_cmp, e_ex, e_gif, e_id32, e_id64, e_v0, e_v1, e_v2, e_v3, e_dt, e_c1, e_sw, e_inv, e_cat, e_rcv, Fin.val_zero, Fin.val_one, Int.toNat_add, Int.toNat_mul, Int.toNat_natCast, Int.reduceToNat, Int.reduceMul, Int.reduceAdd, Int.reduceNeg, Nat.reduceAdd, Nat.reduceSub, Nat.reduceEqDiff, Nat.reduceLT, Nat.reduceLeDiff, List.getElem?_cons_zero, List.getElem?_cons_succ, List.length_cons, List.length_nil, List.take_succ_cons, List.take_zero, List.drop_succ_cons, List.drop_zero, List.reverse_cons, List.reverse_nil, List.nil_append, List.cons_append, List.append_nil, List.map_cons, List.map_nil, List.sum_cons, List.sum_nil, Bool.false_eq_true, if_false, if_true, Bool.and_true, Bool.true_and, Bool.and_self, Bool.or_true, Bool.true_or, Bool.or_false, Bool.false_or, Bool.or_self, decide_eq_true_eq, decide_true, decide_false, beq_self_eq_true, Option.map_some, reduceCtorEq, true_or, or_true, or_false, false_or, or_self, true_and, and_true, and_self, false_and, and_false, Option.some.injEq, exists_eq_left', ne_eq, not_true_eq_false, not_false_eq_true, eq_self, e_pk, e_pr, e_pn, e_ps, e_pd1, e_pd2, e_us, e_un, e_ifp, e_ifn, e_sk, e_sr, e_sn, e_ss, e_sd1, e_sd2, e_sp, ck4 h1.1, ck45 h1.1, ck46 h1.1, ck47 h1.1, ck48 h1.1, ck49 h1.1, ck51 h1.1, ck52 h1.1, cr45_5 h1.1, cr45_6 h1.1, cr45_7 h1.1, cr45_8 h1.1, cr49_1 h1.1, cr49_2 h1.1, h1.f, c3])
      | (refine And.intro (fun hc => ?_) (fun hc => ?_) <;> try (exfalso; omega))
    all_goals first | exact hQ | (exfalso; omega) | skip
  · rw [er1, k_nb_l] at hX
    have he := h1.e
    refine gp_of (by rfl) ?_
    simp (disch := omega) only [e_wi, e_isr, e_isc, e_stp, e_rt, e_load, e_bin, e_binL, e_ld, e_s1, e_s2, e_n0, e_ok, e_cmp, e_ex, e_gif, e_id32, e_id64, e_v0, e_v1, e_v2, e_v3, e_dt, e_c1, e_sw, e_inv, e_cat, e_rcv, Fin.val_zero, Fin.val_one, Int.toNat_add, Int.toNat_mul, Int.toNat_natCast, Int.reduceToNat, Int.reduceMul, Int.reduceAdd, Int.reduceNeg, Nat.reduceAdd, Nat.reduceSub, Nat.reduceEqDiff, Nat.reduceLT, Nat.reduceLeDiff, List.getElem?_cons_zero, List.getElem?_cons_succ, List.length_cons, List.length_nil, List.take_succ_cons, List.take_zero, List.drop_succ_cons, List.drop_zero, List.reverse_cons, List.reverse_nil, List.nil_append, List.cons_append, List.append_nil, List.map_cons, List.map_nil, List.sum_cons, List.sum_nil, Bool.false_eq_true, if_false, if_true, Bool.and_true, Bool.true_and, Bool.and_self, Bool.or_true, Bool.true_or, Bool.or_false, Bool.false_or, Bool.or_self, decide_eq_true_eq, decide_true, decide_false, beq_self_eq_true, Option.map_some, reduceCtorEq, true_or, or_true, or_false, false_or, or_self, true_and, and_true, and_self, false_and, and_false, Option.some.injEq, exists_eq_left', ne_eq, not_true_eq_false, not_false_eq_true, eq_self, e_pk, e_pr, e_pn, e_ps, e_pd1, e_pd2, e_us, e_un, e_ifp, e_ifn, e_sk, e_sr, e_sn, e_ss, e_sd1, e_sd2, e_sp, ck4 h1.1, ck45 h1.1, ck46 h1.1, ck47 h1.1, ck48 h1.1, ck49 h1.1, ck51 h1.1, ck52 h1.1, cr45_5 h1.1, cr45_6 h1.1, cr45_7 h1.1, cr45_8 h1.1, cr49_1 h1.1, cr49_2 h1.1, h1.f]
    repeat' first
      | (refine gp_at [] (by rfl) (by decide) ?_; simp (disch := omega) only [e_wi, e_isr, e_isc, e_stp, e_rt, e_load, e_bin, e_binL, e_ld, e_s1, e_s2, e_n0, e_ok, e_cmp, e_ex, e_gif, e_id32, e_id64, e_v0, e_v1, e_v2, e_v3, e_dt, e_c1, e_sw, e_inv, e_cat, e_rcv, Fin.val_zero, Fin.val_one, Int.toNat_add, Int.toNat_mul, Int.toNat_natCast, Int.reduceToNat, Int.reduceMul, Int.reduceAdd, Int.reduceNeg, Nat.reduceAdd, Nat.reduceSub, Nat.reduceEqDiff, Nat.reduceLT, Nat.reduceLeDiff, List.getElem?_cons_zero, List.getElem?_cons_succ, List.length_cons, List.length_nil, List.take_succ_cons, List.take_zero, List.drop_succ_cons, List.drop_zero, List.reverse_cons, List.reverse_nil, List.nil_append, List.cons_append, List.append_nil, List.map_cons, List.map_nil, List.sum_cons, List.sum_nil, Bool.false_eq_true, if_false, if_true, Bool.and_true, Bool.true_and, Bool.and_self, Bool.or_true, Bool.true_or, Bool.or_false, Bool.false_or, Bool.or_self, decide_eq_true_eq, decide_true, decide_false, beq_self_eq_true, Option.map_some, reduceCtorEq, true_or, or_true, or_false, false_or, or_self, true_and, and_true, and_self, false_and, and_false, Option.some.injEq, exists_eq_left', ne_eq, not_true_eq_false, not_false_eq_true, eq_self, e_pk, e_pr, e_pn, e_ps, e_pd1, e_pd2, e_us, e_un, e_ifp, e_ifn, e_sk, e_sr, e_sn, e_ss, e_sd1, e_sd2, e_sp, ck4 h1.1, ck45 h1.1, ck46 h1.1, ck47 h1.1, ck48 h1.1, ck49 h1.1, ck51 h1.1, ck52 h1.1, cr45_5 h1.1, cr45_6 h1.1, cr45_7 h1.1, cr45_8 h1.1, cr49_1 h1.1, cr49_2 h1.1, h1.f])
      | (refine And.intro (fun hc => ?_) (fun hc => ?_) <;> try (exfalso; omega))
      | ((refine h_numX (by omega) h1 ?_) <;> try dsimp only [Option.toList, List.cons_append, List.nil_append, Nat.reduceAdd])
      | ((refine h_placeX (by omega) h1 (fun x9 => ?_)) <;> try dsimp only [Option.toList, List.cons_append, List.nil_append, Nat.reduceAdd])
      | ((refine c_blame1 (by omega) h1.1 h1.f h1.e.1 h1.e.2 ?_) <;> try dsimp only [Option.toList, List.cons_append, List.nil_append, Nat.reduceAdd])
    all_goals first | exact hX _ _ rfl h1 | (exfalso; omega) | skip
