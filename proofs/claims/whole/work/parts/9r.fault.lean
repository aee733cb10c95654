/-- after a fault e, from σ0 on -/
def Xs (σ0 : eH) (B : Nat → Int) (t N e : Nat) (τ : eH) : Prop := Ck τ ∧ Sn (fun c => c = 4 ∨ c = 62 ∨ c = 63) σ0 τ ∧ Rx τ B t N e
/-- good so far: at token i, v values, the steps c from b on -/
def Gs (σ0 : eH) (B : Nat → Int) (t N b i v : Nat) (c : List (Nat × Nat)) (τ : eH) : Prop := Ck τ ∧ Sn (fun c => c = 4 ∨ c = 62 ∨ c = 63) σ0 τ ∧ Rg τ B t N b i v c ∧ ∀ j, j < b → τ.2.2.2.1 63 j = σ0.2.2.2.1 63 j
/-- no fault so far, at token i -/
def Gw (σ0 : eH) (B : Nat → Int) (t N i : Nat) (τ : eH) : Prop := Ck τ ∧ Sn (fun c => c = 4 ∨ c = 62 ∨ c = 63) σ0 τ ∧ Rd τ B t N i 0 ∧ ∃ m : Nat, m ≤ 400 ∧ τ.2.2.2.1 62 1 = (m : Int)
theorem Gs.w {σ0 τ : eH} {B : Nat → Int} {t N b i v : Nat} {c : List (Nat × Nat)} (h : Gs σ0 B t N b i v c τ) : Gw σ0 B t N i τ := by
  have h5 := h.2.2.1.2.2.2.2.2
  have h6 := h.2.2.1.1.1.pt h.2.2.1.1.2.1
  have h7 := h.2.2.1.1.2.2.2.2.2
  exact ⟨h.1, h.2.1, h.2.2.1.1, b + c.length, by omega, h.2.2.1.2.1⟩
theorem Gs.pt {σ0 τ : eH} {B : Nat → Int} {t N b i v : Nat} {c : List (Nat × Nat)} (h : Gs σ0 B t N b i v c τ) : k_P B t i ≤ t ∧ t ≤ 400 ∧ i ≤ N ∧ b + c.length ≤ k_P B t i ∧ v ≤ 60 := ⟨h.2.2.1.1.1.pt h.2.2.1.1.2.1, h.2.2.1.1.2.2.2.2.2, h.2.2.1.1.2.1, h.2.2.1.2.2.2.2.2, h.2.2.1.2.2.2.1⟩
theorem Gs.nx {σ0 τ : eH} {B : Nat → Int} {t N b i v : Nat} {c : List (Nat × Nat)} (h : Gs σ0 B t N b i v c τ) (hi : i < N) : k_P B t i < k_P B t (i + 1) ∧ k_P B t i < t := by
  have := h.2.2.1.1.1.2.2.2 i hi
  exact ⟨(k_nx_b (B := B) this).1, this⟩
theorem Gs.f {σ0 τ : eH} {B : Nat → Int} {t N b i v : Nat} {c : List (Nat × Nat)} (h : Gs σ0 B t N b i v c τ) : τ.2.2.2.1 4 1 = 0 := h.2.2.1.1.2.2.2.1
theorem Xs.f {σ0 τ : eH} {B : Nat → Int} {t N e : Nat} (h : Xs σ0 B t N e τ) : τ.2.2.2.1 4 1 = (e : Int) := h.2.2.f.1
theorem Xs.e {σ0 τ : eH} {B : Nat → Int} {t N e : Nat} (h : Xs σ0 B t N e τ) : e ≠ 0 ∧ e < 4000 := ⟨h.2.2.1, h.2.2.f.2⟩
theorem Gw.bl {σ0 τ : eH} {B : Nat → Int} {t N i f : Nat} {x : Int} (h : Gw σ0 B t N i τ) (hf : x = (f : Int)) (hf0 : f ≠ 0) (hf2 : f < 4000) : Xs σ0 B t N f (e_put τ 4 1 x) := by
  obtain ⟨h1, h2, h3, m, h4, h5⟩ := h
  have hs : Sn (fun c => c = 4 ∨ c = 62 ∨ c = 63) τ (e_put τ 4 1 x) := Sn.put (Sn.rf _ _) (by omega)
  exact ⟨(Sg.of hs).ck h1, h2.tr hs, hf0, ⟨i, h3.bl hf hf2⟩, m, h4, by rw [e_pd2 _ (by omega)]; exact h5⟩
theorem Xs.r2 {σ0 τ τ' : eH} {B : Nat → Int} {t N e : Nat} (h : Xs σ0 B t N e τ) (hs : Sn (fun c => c = 62 ∨ c = 63) τ τ') (hm : ∃ m : Nat, m ≤ 400 ∧ τ'.2.2.2.1 62 1 = (m : Int)) : Xs σ0 B t N e τ' := ⟨(Sg.of hs).ck h.1, h.2.1.tr (hs.mn (fun c hc => by omega)), h.2.2.sn hs hm⟩
theorem Gw.r2 {σ0 τ τ' : eH} {B : Nat → Int} {t N i : Nat} (h : Gw σ0 B t N i τ) (hs : Sn (fun c => c = 62 ∨ c = 63) τ τ') (hm : ∃ m : Nat, m ≤ 400 ∧ τ'.2.2.2.1 62 1 = (m : Int)) : Gw σ0 B t N i τ' := ⟨(Sg.of hs).ck h.1, h.2.1.tr (hs.mn (fun c hc => by omega)), h.2.2.1.sn hs (by omega) (by omega) (by omega) (by omega), hm⟩
theorem x_place {k : Nat} {σ0 σ : eH} {B : Nat → Int} {t N : Nat} {e : Nat} {Q : Option eV → eH → Prop} (hk : 1 ≤ k) (h : Xs σ0 B t N e σ) (hQ : ∀ x : Int, 0 ≤ x → x ≤ 400 → Q (some (.inl x)) σ) : e_Wp k 40 [.inr (.inr 6)] σ Q := by
  obtain ⟨h0, h1, h2, ⟨i, h3⟩, h4⟩ := h
  refine c_nextPlace hk h0 h3 (hQ _ (by omega) ?_)
  have := h3.1.pt h3.2.1
  have := h3.2.2.2.2.2
  omega
theorem x_kind {k : Nat} {σ0 σ : eH} {B : Nat → Int} {t N : Nat} {e : Nat} {Q : Option eV → eH → Prop} (hk : 1 ≤ k) (h : Xs σ0 B t N e σ) (hQ : ∀ x : Int, 0 ≤ x → x ≤ 279 → Q (some (.inl x)) σ) : e_Wp k 41 [.inr (.inr 6)] σ Q := by
  obtain ⟨h0, h1, h2, ⟨i, h3⟩, h4⟩ := h
  have := k_kd_b B t (k_P B t i)
  exact c_nextKind hk h0 h3 (hQ _ this.1 this.2)
theorem x_pass {k : Nat} {σ0 σ : eH} {B : Nat → Int} {t N : Nat} {e : Nat} {d : Int} {Q : Option eV → eH → Prop} (hk : 1 ≤ k) (h : Xs σ0 B t N e σ) (hd : 0 ≤ d ∧ d < 279) (hQ : ∀ τ (r : Int), r = 0 ∨ r = 1 → Xs σ0 B t N e τ → Q (some (.inl r)) τ) : e_Wp k 45 [.inr (.inr 6), .inl d] σ Q := by
  have h' := h
  obtain ⟨h0, h1, h2, ⟨i, h3⟩, m, h4, h5⟩ := h
  refine c_pass hk h0 h3 hd (fun q1 q2 => hQ _ _ (Or.inr rfl) ?_) (fun q => hQ _ _ (Or.inl rfl) h')
  have hs : Sn (fun c => c = 4 ∨ c = 62 ∨ c = 63) σ (e_put σ 4 7 ((i : Int) + 1)) := Sn.put (Sn.rf _ _) (by omega)
  exact ⟨(Sg.of hs).ck h0, h1.tr hs, h2, ⟨i + 1, h3.go q1⟩, m, h4, by rw [e_pd2 _ (by omega)]; exact h5⟩
theorem x_blame {k : Nat} {σ0 σ : eH} {B : Nat → Int} {t N : Nat} {e : Nat} {p d : Int} {Q : Option eV → eH → Prop} (hk : 1 ≤ k) (h : Xs σ0 B t N e σ) (hQ : ∀ τ, Xs σ0 B t N e τ → Q none τ) : e_Wp k 43 [.inr (.inr 6), .inl p, .inl d] σ Q := by
  exact c_blame1 hk h.1 h.f h.e.1 h.e.2 (hQ _ h)
theorem x_take {k : Nat} {σ0 σ : eH} {B : Nat → Int} {t N : Nat} {e : Nat} {lo hi : Int} {Q : Option eV → eH → Prop} (hk : 1 ≤ k) (h : Xs σ0 B t N e σ) (hQ : ∀ τ, Xs σ0 B t N e τ → Q (some (.inl (-1))) τ) : e_Wp k 47 [.inr (.inr 6), .inl lo, .inl hi] σ Q := by
  exact c_takeNumber1 hk h.1 h.f h.e.1 h.e.2 (hQ _ h)
theorem x_more {k : Nat} {σ0 σ : eH} {B : Nat → Int} {t N : Nat} {e : Nat} {Q : Option eV → eH → Prop} (hk : 1 ≤ k) (h : Xs σ0 B t N e σ) (hQ : ∀ τ, Xs σ0 B t N e τ → Q (some (.inl 0)) τ) : e_Wp k 52 [.inr (.inr 6)] σ Q := by
  exact c_hasMore1 hk h.1 h.f h.e.1 h.e.2 (hQ _ h)
theorem x_write {k : Nat} {σ0 σ : eH} {B : Nat → Int} {t N : Nat} {e : Nat} {x y : Int} {Q : Option eV → eH → Prop} (hk : 1 ≤ k) (h : Xs σ0 B t N e σ) (hQ : ∀ τ, Xs σ0 B t N e τ → Q none τ) : e_Wp k 61 [.inr (.inr 64), .inl x, .inl y] σ Q := by
  exact c_writeX hk h.1 h.2.2.2.2 (fun τ hs hm => hQ _ (h.r2 hs hm))
theorem x_one {k : Nat} {σ0 σ : eH} {B : Nat → Int} {t N : Nat} {e : Nat} {Q : Option eV → eH → Prop} (hk : 1 ≤ k) (h : Xs σ0 B t N e σ) (hQ : ∀ τ (r : Int), r = 0 ∨ r = 1 → Xs σ0 B t N e τ → Q (some (.inl r)) τ) : e_Wp k 62 [.inr (.inr 64)] σ Q := by
  obtain ⟨m, h4, h5⟩ := h.2.2.2.2
  exact c_oneMoreX hk h.1 (fun r x hr => hQ _ r hr (h.r2 (Sn.put (Sn.rf _ _) (by omega)) ⟨m, h4, by rw [e_pd1, e_un _ (by omega)]; exact h5⟩))
theorem x_join {k : Nat} {σ : eH} {d : Int} {Q : Option eV → eH → Prop} (hk : 1 ≤ k) (hd : 0 ≤ d ∧ d ≤ 279) (hQ : ∀ x : Int, -1 ≤ x → x ≤ 16 → (x ≠ -1 → d < 279) → (x = -1 ∨ ∃ s, (s = 2 ∨ s = 3 ∨ s = 4 ∨ s = 5 ∨ s = 14) ∧ x = ((cc s : Nat) : Int)) → Q (some (.inl x)) σ) : e_Wp k 63 [.inl d] σ Q := by
  refine c_joining hk hd ?_
  by_cases e : k_js d = 0
  · rw [if_pos e]
    exact hQ _ (by omega) (by omega) (fun q => absurd rfl q) (Or.inl rfl)
  · rw [if_neg e]
    have hc := k_js_c d
    have h1 := cc_rg (s := k_js d) (by omega)
    refine hQ _ (by omega) (by omega) (fun _ => ?_) (Or.inr ⟨_, by omega, rfl⟩)
    by_cases e2 : d = 279
    · subst e2
      exact absurd rfl e
    · omega
theorem x_comp {k : Nat} {σ : eH} {d : Int} {Q : Option eV → eH → Prop} (hk : 1 ≤ k) (hd : 0 ≤ d ∧ d ≤ 279) (hQ : ∀ x : Int, -1 ≤ x → x ≤ 16 → (x ≠ -1 → d < 279) → Q (some (.inl x)) σ) : e_Wp k 68 [.inl d] σ Q := by
  refine c_comparing hk hd ?_
  by_cases e : k_cs d = 0
  · rw [if_pos e]
    exact hQ _ (by omega) (by omega) (fun q => absurd rfl q)
  · rw [if_neg e]
    have hc := k_cs_c d
    have h1 := cc_rg (s := k_cs d) (by omega)
    refine hQ _ (by omega) (by omega) (fun _ => ?_)
    by_cases e2 : d = 279
    · subst e2
      exact absurd rfl e
    · omega
set_option maxRecDepth 8000 in
set_option maxHeartbeats 1000000 in
theorem x_value {k : Nat} {σ0 : eH} {B : Nat → Int} {t N e : Nat} {σ : eH} {Q : Option eV → eH → Prop} (hk : 3 ≤ k) (h : Xs σ0 B t N e σ) (hQ : ∀ τ, Xs σ0 B t N e τ → Q none τ) : e_Wp k 60 [.inr (.inr 64), .inr (.inr 6)] σ Q := by
  refine wp_in (nL := 5) (cd := e_k60) (by omega) (by rfl) (Nat.le_of_ble_eq_true rfl) ?_
  dsimp only [e_ent, Nat.reduceSub, List.replicate]
  have he := h.e
  refine gp_of (by rfl) ?_
  simp (disch := omega) only [e_wi, e_isr, e_isc, e_stp, e_rt, e_load, e_bin, e_binL, e_ld, e_s1, e_s2, e_n0, e_ok, e_cmp, e_ex, e_gif, e_id32, e_id64, e_v0, e_v1, e_v2, e_v3, e_dt, e_c1, e_sw, e_inv, e_cat, e_rcv, Fin.val_zero, Fin.val_one, Int.toNat_add, Int.toNat_mul, Int.toNat_natCast, Int.reduceToNat, Int.reduceMul, Int.reduceAdd, Int.reduceNeg, Nat.reduceAdd, Nat.reduceSub, Nat.reduceEqDiff, Nat.reduceLT, Nat.reduceLeDiff, List.getElem?_cons_zero, List.getElem?_cons_succ, List.length_cons, List.length_nil, List.take_succ_cons, List.take_zero, List.drop_succ_cons, List.drop_zero, List.reverse_cons, List.reverse_nil, List.nil_append, List.cons_append, List.append_nil, List.map_cons, List.map_nil, List.sum_cons, List.sum_nil, Bool.false_eq_true, if_false, if_true, Bool.and_true, Bool.true_and, Bool.and_self, Bool.or_true, Bool.true_or, Bool.or_false, Bool.false_or, Bool.or_self, decide_eq_true_eq, decide_true, decide_false, beq_self_eq_true, Option.map_some, reduceCtorEq, true_or, or_true, or_false, false_or, or_self, true_and, and_true, and_self, false_and, and_false, Option.some.injEq, exists_eq_left', ne_eq, not_true_eq_false, not_false_eq_true, eq_self, e_pk, e_pr, e_pn, e_ps, e_pd1, e_pd2, e_us, e_un, e_ifp, e_ifn, e_sk, e_sr, e_sn, e_ss, e_sd1, e_sd2, e_sp, ck4 h.1, ck62 h.1, ck63 h.1, cr62_0 h.1]
  repeat' first
    | (refine gp_at [] (by rfl) (by decide) ?_; simp (disch := omega) only [e_wi, e_isr, e_isc, e_stp, e_rt, e_load, e_bin, e_binL, e_ld, e_s1, e_s2, e_n0, e_ok, e_cmp, e_ex, e_gif, e_id32, e_id64, e_v0, e_v1, e_v2, e_v3, e_dt, e_c1, e_sw, e_inv, e_cat, e_rcv, Fin.val_zero, Fin.val_one, Int.toNat_add, Int.toNat_mul, Int.toNat_natCast, Int.reduceToNat, Int.reduceMul, Int.reduceAdd, Int.reduceNeg, Nat.reduceAdd, Nat.reduceSub, Nat.reduceEqDiff, Nat.reduceLT, Nat.reduceLeDiff, List.getElem?_cons_zero, List.getElem?_cons_succ, List.length_cons, List.length_nil, List.take_succ_cons, List.take_zero, List.drop_succ_cons, List.drop_zero, List.reverse_cons, List.reverse_nil, List.nil_append, List.cons_append, List.append_nil, List.map_cons, List.map_nil, List.sum_cons, List.sum_nil, Bool.false_eq_true, if_false, if_true, Bool.and_true, Bool.true_and, Bool.and_self, Bool.or_true, Bool.true_or, Bool.or_false, Bool.false_or, Bool.or_self, decide_eq_true_eq, decide_true, decide_false, beq_self_eq_true, Option.map_some, reduceCtorEq, true_or, or_true, or_false, false_or, or_self, true_and, and_true, and_self, false_and, and_false, Option.some.injEq, exists_eq_left', ne_eq, not_true_eq_false, not_false_eq_true, eq_self, e_pk, e_pr, e_pn, e_ps, e_pd1, e_pd2, e_us, e_un, e_ifp, e_ifn, e_sk, e_sr, e_sn, e_ss, e_sd1, e_sd2, e_sp, ck4 h.1, ck62 h.1, ck63 h.1, cr62_0 h.1])
    | (refine And.intro (fun hc => ?_) (fun hc => ?_) <;> try (exfalso; omega))
    | ((refine x_place (by omega) h (fun x0 hx0 hx1 => ?_)) <;> try dsimp only [Option.toList, List.cons_append, List.nil_append, Nat.reduceAdd])
    | ((refine x_kind (by omega) h (fun d0 hd0 hd1 => ?_)) <;> try dsimp only [Option.toList, List.cons_append, List.nil_append, Nat.reduceAdd])
    | ((refine x_pass (by omega) h (by omega) (fun τ r0 hr0 h => ?_)) <;> try dsimp only [Option.toList, List.cons_append, List.nil_append, Nat.reduceAdd])
    | ((refine x_blame (by omega) h (fun τ h => ?_)) <;> try dsimp only [Option.toList, List.cons_append, List.nil_append, Nat.reduceAdd])
    | ((refine x_take (by omega) h (fun τ h => ?_)) <;> try dsimp only [Option.toList, List.cons_append, List.nil_append, Nat.reduceAdd])
    | ((refine x_write (by omega) h (fun τ h => ?_)) <;> try dsimp only [Option.toList, List.cons_append, List.nil_append, Nat.reduceAdd])
    | ((refine x_one (by omega) h (fun τ r1 hr1 h => ?_)) <;> try dsimp only [Option.toList, List.cons_append, List.nil_append, Nat.reduceAdd])
    | ((refine x_join (by omega) (by omega) (fun x5 hx5 hx6 hx7 hx8 => ?_)) <;> try dsimp only [Option.toList, List.cons_append, List.nil_append, Nat.reduceAdd])
    | ((refine x_comp (by omega) (by omega) (fun x5 hx5 hx6 hx7 => ?_)) <;> try dsimp only [Option.toList, List.cons_append, List.nil_append, Nat.reduceAdd])
  all_goals first
    | exact hQ _ h
    | (exfalso; omega) | skip
set_option maxRecDepth 8000 in
set_option maxHeartbeats 2000000 in
theorem x_sum_h {k : Nat} {σ0 : eH} {B : Nat → Int} {t N e : Nat} {wt n : Int} {x4 x5 : Option eV} {σ : eH} {Q : Option eV → eH → Prop} (hk : 3 ≤ k) (hn : 0 ≤ n ∧ n ≤ 400) (h : Xs σ0 B t N e σ) (hQ : ∀ τ, Xs σ0 B t N e τ → Q none τ) : e_Gp k e_k59 9 [some (.inr (.inr 64)), some (.inr (.inr 6)), some (.inl wt), some (.inl n), x4, x5] [] σ Q := by
  have he := h.e
  refine gp_of (by rfl) ?_
  simp (disch := omega) only [e_wi, e_isr, e_isc, e_stp, e_rt, e_load, e_bin, e_binL, e_ld, e_s1, e_s2, e_n0, e_ok, e_cmp, e_ex, e_gif, e_id32, e_id64, e_v0, e_v1, e_v2, e_v3, e_dt, e_c1, e_sw, e_inv, e_cat, e_rcv, Fin.val_zero, Fin.val_one, Int.toNat_add, Int.toNat_mul, Int.toNat_natCast, Int.reduceToNat, Int.reduceMul, Int.reduceAdd, Int.reduceNeg, Nat.reduceAdd, Nat.reduceSub, Nat.reduceEqDiff, Nat.reduceLT, Nat.reduceLeDiff, List.getElem?_cons_zero, List.getElem?_cons_succ, List.length_cons, List.length_nil, List.take_succ_cons, List.take_zero, List.drop_succ_cons, List.drop_zero, List.reverse_cons, List.reverse_nil, List.nil_append, List.cons_append, List.append_nil, List.map_cons, List.map_nil, List.sum_cons, List.sum_nil, Bool.false_eq_true, if_false, if_true, Bool.and_true, Bool.true_and, Bool.and_self, Bool.or_true, Bool.true_or, Bool.or_false, Bool.false_or, Bool.or_self, decide_eq_true_eq, decide_true, decide_false, beq_self_eq_true, Option.map_some, reduceCtorEq, true_or, or_true, or_false, false_or, or_self, true_and, and_true, and_self, false_and, and_false, Option.some.injEq, exists_eq_left', ne_eq, not_true_eq_false, not_false_eq_true, eq_self, e_pk, e_pr, e_pn, e_ps, e_pd1, e_pd2, e_us, e_un, e_ifp, e_ifn, e_sk, e_sr, e_sn, e_ss, e_sd1, e_sd2, e_sp, ck4 h.1, ck62 h.1, ck63 h.1, cr62_0 h.1, h.f]
  repeat' first
    | (refine gp_at [] (by rfl) (by decide) ?_; simp (disch := omega) only [e_wi, e_isr, e_isc, e_stp, e_rt, e_load, e_bin, e_binL, e_ld, e_s1, e_s2, e_n0, e_ok, e_cmp, e_ex, e_gif, e_id32, e_id64, e_v0, e_v1, e_v2, e_v3, e_dt, e_c1, e_sw, e_inv, e_cat, e_rcv, Fin.val_zero, Fin.val_one, Int.toNat_add, Int.toNat_mul, Int.toNat_natCast, Int.reduceToNat, Int.reduceMul, Int.reduceAdd, Int.reduceNeg, Nat.reduceAdd, Nat.reduceSub, Nat.reduceEqDiff, Nat.reduceLT, Nat.reduceLeDiff, List.getElem?_cons_zero, List.getElem?_cons_succ, List.length_cons, List.length_nil, List.take_succ_cons, List.take_zero, List.drop_succ_cons, List.drop_zero, List.reverse_cons, List.reverse_nil, List.nil_append, List.cons_append, List.append_nil, List.map_cons, List.map_nil, List.sum_cons, List.sum_nil, Bool.false_eq_true, if_false, if_true, Bool.and_true, Bool.true_and, Bool.and_self, Bool.or_true, Bool.true_or, Bool.or_false, Bool.false_or, Bool.or_self, decide_eq_true_eq, decide_true, decide_false, beq_self_eq_true, Option.map_some, reduceCtorEq, true_or, or_true, or_false, false_or, or_self, true_and, and_true, and_self, false_and, and_false, Option.some.injEq, exists_eq_left', ne_eq, not_true_eq_false, not_false_eq_true, eq_self, e_pk, e_pr, e_pn, e_ps, e_pd1, e_pd2, e_us, e_un, e_ifp, e_ifn, e_sk, e_sr, e_sn, e_ss, e_sd1, e_sd2, e_sp, ck4 h.1, ck62 h.1, ck63 h.1, cr62_0 h.1, h.f])
    | (refine And.intro (fun hc => ?_) (fun hc => ?_) <;> try (exfalso; omega))
    | ((refine x_place (by omega) h (fun x0 hx0 hx1 => ?_)) <;> try dsimp only [Option.toList, List.cons_append, List.nil_append, Nat.reduceAdd])
    | ((refine x_kind (by omega) h (fun d0 hd0 hd1 => ?_)) <;> try dsimp only [Option.toList, List.cons_append, List.nil_append, Nat.reduceAdd])
    | ((refine x_pass (by omega) h (by omega) (fun τ r0 hr0 h => ?_)) <;> try dsimp only [Option.toList, List.cons_append, List.nil_append, Nat.reduceAdd])
    | ((refine x_blame (by omega) h (fun τ h => ?_)) <;> try dsimp only [Option.toList, List.cons_append, List.nil_append, Nat.reduceAdd])
    | ((refine x_take (by omega) h (fun τ h => ?_)) <;> try dsimp only [Option.toList, List.cons_append, List.nil_append, Nat.reduceAdd])
    | ((refine x_write (by omega) h (fun τ h => ?_)) <;> try dsimp only [Option.toList, List.cons_append, List.nil_append, Nat.reduceAdd])
    | ((refine x_one (by omega) h (fun τ r1 hr1 h => ?_)) <;> try dsimp only [Option.toList, List.cons_append, List.nil_append, Nat.reduceAdd])
    | ((refine x_join (by omega) (by omega) (fun x5 hx5 hx6 hx7 hx8 => ?_)) <;> try dsimp only [Option.toList, List.cons_append, List.nil_append, Nat.reduceAdd])
    | ((refine x_comp (by omega) (by omega) (fun x5 hx5 hx6 hx7 => ?_)) <;> try dsimp only [Option.toList, List.cons_append, List.nil_append, Nat.reduceAdd])
    | ((refine x_value (by omega) h (fun τ h => ?_)) <;> try dsimp only [Option.toList, List.cons_append, List.nil_append, Nat.reduceAdd])
  all_goals first
    | exact hQ _ h
    | (exfalso; omega) | skip
set_option maxRecDepth 8000 in
set_option maxHeartbeats 1000000 in
theorem x_sum {k : Nat} {σ0 : eH} {B : Nat → Int} {t N e : Nat} {σ : eH} {Q : Option eV → eH → Prop} (hk : 4 ≤ k) (h : Xs σ0 B t N e σ) (hQ : ∀ τ, Xs σ0 B t N e τ → Q none τ) : e_Wp k 59 [.inr (.inr 64), .inr (.inr 6)] σ Q := by
  refine wp_in (nL := 6) (cd := e_k59) (by omega) (by rfl) (Nat.le_of_ble_eq_true rfl) ?_
  dsimp only [e_ent, Nat.reduceSub, List.replicate]
  have he := h.e
  refine gp_of (by rfl) ?_
  simp (disch := omega) only [e_wi, e_isr, e_isc, e_stp, e_rt, e_load, e_bin, e_binL, e_ld, e_s1, e_s2, e_n0, e_ok, e_cmp, e_ex, e_gif, e_id32, e_id64, e_v0, e_v1, e_v2, e_v3, e_dt, e_c1, e_sw, e_inv, e_cat, e_rcv, Fin.val_zero, Fin.val_one, Int.toNat_add, Int.toNat_mul, Int.toNat_natCast, Int.reduceToNat, Int.reduceMul, Int.reduceAdd, Int.reduceNeg, Nat.reduceAdd, Nat.reduceSub, Nat.reduceEqDiff, Nat.reduceLT, Nat.reduceLeDiff, List.getElem?_cons_zero, List.getElem?_cons_succ, List.length_cons, List.length_nil, List.take_succ_cons, List.take_zero, List.drop_succ_cons, List.drop_zero, List.reverse_cons, List.reverse_nil, List.nil_append, List.cons_append, List.append_nil, List.map_cons, List.map_nil, List.sum_cons, List.sum_nil, Bool.false_eq_true, if_false, if_true, Bool.and_true, Bool.true_and, Bool.and_self, Bool.or_true, Bool.true_or, Bool.or_false, Bool.false_or, Bool.or_self, decide_eq_true_eq, decide_true, decide_false, beq_self_eq_true, Option.map_some, reduceCtorEq, true_or, or_true, or_false, false_or, or_self, true_and, and_true, and_self, false_and, and_false, Option.some.injEq, exists_eq_left', ne_eq, not_true_eq_false, not_false_eq_true, eq_self, e_pk, e_pr, e_pn, e_ps, e_pd1, e_pd2, e_us, e_un, e_ifp, e_ifn, e_sk, e_sr, e_sn, e_ss, e_sd1, e_sd2, e_sp, ck4 h.1, ck62 h.1, ck63 h.1, cr62_0 h.1, h.f]
  repeat' first
    | (refine gp_at [9] (by rfl) (by decide) ?_; simp (disch := omega) only [e_wi, e_isr, e_isc, e_stp, e_rt, e_load, e_bin, e_binL, e_ld, e_s1, e_s2, e_n0, e_ok, e_cmp, e_ex, e_gif, e_id32, e_id64, e_v0, e_v1, e_v2, e_v3, e_dt, e_c1, e_sw, e_inv, e_cat, e_rcv, Fin.val_zero, Fin.val_one, Int.toNat_add, Int.toNat_mul, Int.toNat_natCast, Int.reduceToNat, Int.reduceMul, Int.reduceAdd, Int.reduceNeg, Nat.reduceAdd, Nat.reduceSub, Nat.reduceEqDiff, Nat.reduceLT, Nat.reduceLeDiff, List.getElem?_cons_zero, List.getElem?_cons_succ, List.length_cons, List.length_nil, List.take_succ_cons, List.take_zero, List.drop_succ_cons, List.drop_zero, List.reverse_cons, List.reverse_nil, List.nil_append, List.cons_append, List.append_nil, List.map_cons, List.map_nil, List.sum_cons, List.sum_nil, Bool.false_eq_true, if_false, if_true, Bool.and_true, Bool.true_and, Bool.and_self, Bool.or_true, Bool.true_or, Bool.or_false, Bool.false_or, Bool.or_self, decide_eq_true_eq, decide_true, decide_false, beq_self_eq_true, Option.map_some, reduceCtorEq, true_or, or_true, or_false, false_or, or_self, true_and, and_true, and_self, false_and, and_false, Option.some.injEq, exists_eq_left', ne_eq, not_true_eq_false, not_false_eq_true, eq_self, e_pk, e_pr, e_pn, e_ps, e_pd1, e_pd2, e_us, e_un, e_ifp, e_ifn, e_sk, e_sr, e_sn, e_ss, e_sd1, e_sd2, e_sp, ck4 h.1, ck62 h.1, ck63 h.1, cr62_0 h.1, h.f])
    | (refine And.intro (fun hc => ?_) (fun hc => ?_) <;> try (exfalso; omega))
    | ((refine x_place (by omega) h (fun x0 hx0 hx1 => ?_)) <;> try dsimp only [Option.toList, List.cons_append, List.nil_append, Nat.reduceAdd])
    | ((refine x_kind (by omega) h (fun d0 hd0 hd1 => ?_)) <;> try dsimp only [Option.toList, List.cons_append, List.nil_append, Nat.reduceAdd])
    | ((refine x_pass (by omega) h (by omega) (fun τ r0 hr0 h => ?_)) <;> try dsimp only [Option.toList, List.cons_append, List.nil_append, Nat.reduceAdd])
    | ((refine x_blame (by omega) h (fun τ h => ?_)) <;> try dsimp only [Option.toList, List.cons_append, List.nil_append, Nat.reduceAdd])
    | ((refine x_take (by omega) h (fun τ h => ?_)) <;> try dsimp only [Option.toList, List.cons_append, List.nil_append, Nat.reduceAdd])
    | ((refine x_write (by omega) h (fun τ h => ?_)) <;> try dsimp only [Option.toList, List.cons_append, List.nil_append, Nat.reduceAdd])
    | ((refine x_one (by omega) h (fun τ r1 hr1 h => ?_)) <;> try dsimp only [Option.toList, List.cons_append, List.nil_append, Nat.reduceAdd])
    | ((refine x_join (by omega) (by omega) (fun x5 hx5 hx6 hx7 hx8 => ?_)) <;> try dsimp only [Option.toList, List.cons_append, List.nil_append, Nat.reduceAdd])
    | ((refine x_comp (by omega) (by omega) (fun x5 hx5 hx6 hx7 => ?_)) <;> try dsimp only [Option.toList, List.cons_append, List.nil_append, Nat.reduceAdd])
    | ((refine x_value (by omega) h (fun τ h => ?_)) <;> try dsimp only [Option.toList, List.cons_append, List.nil_append, Nat.reduceAdd])
  exact x_sum_h (by omega) (by omega) h hQ
set_option maxRecDepth 8000 in
set_option maxHeartbeats 1000000 in
theorem x_cmp {k : Nat} {σ0 : eH} {B : Nat → Int} {t N e : Nat} {σ : eH} {Q : Option eV → eH → Prop} (hk : 4 ≤ k) (h : Xs σ0 B t N e σ) (hQ : ∀ τ (x : Int), -1 ≤ x → x ≤ 16 → Xs σ0 B t N e τ → Q (some (.inl x)) τ) : e_Wp k 67 [.inr (.inr 64), .inr (.inr 6)] σ Q := by
  refine wp_in (nL := 5) (cd := e_k67) (by omega) (by rfl) (Nat.le_of_ble_eq_true rfl) ?_
  dsimp only [e_ent, Nat.reduceSub, List.replicate]
  have he := h.e
  refine gp_of (by rfl) ?_
  simp (disch := omega) only [e_wi, e_isr, e_isc, e_stp, e_rt, e_load, e_bin, e_binL, e_ld, e_s1, e_s2, e_n0, e_ok, e_cmp, e_ex, e_gif, e_id32, e_id64, e_v0, e_v1, e_v2, e_v3, e_dt, e_c1, e_sw, e_inv, e_cat, e_rcv, Fin.val_zero, Fin.val_one, Int.toNat_add, Int.toNat_mul, Int.toNat_natCast, Int.reduceToNat, Int.reduceMul, Int.reduceAdd, Int.reduceNeg, Nat.reduceAdd, Nat.reduceSub, Nat.reduceEqDiff, Nat.reduceLT, Nat.reduceLeDiff, List.getElem?_cons_zero, List.getElem?_cons_succ, List.length_cons, List.length_nil, List.take_succ_cons, List.take_zero, List.drop_succ_cons, List.drop_zero, List.reverse_cons, List.reverse_nil, List.nil_append, List.cons_append, List.append_nil, List.map_cons, List.map_nil, List.sum_cons, List.sum_nil, Bool.false_eq_true, if_false, if_true, Bool.and_true, Bool.true_and, Bool.and_self, Bool.or_true, Bool.true_or, Bool.or_false, Bool.false_or, Bool.or_self, decide_eq_true_eq, decide_true, decide_false, beq_self_eq_true, Option.map_some, reduceCtorEq, true_or, or_true, or_false, false_or, or_self, true_and, and_true, and_self, false_and, and_false, Option.some.injEq, exists_eq_left', ne_eq, not_true_eq_false, not_false_eq_true, eq_self, e_pk, e_pr, e_pn, e_ps, e_pd1, e_pd2, e_us, e_un, e_ifp, e_ifn, e_sk, e_sr, e_sn, e_ss, e_sd1, e_sd2, e_sp, ck4 h.1, ck62 h.1, ck63 h.1, cr62_0 h.1, h.f]
  repeat' first
    | (refine gp_at [] (by rfl) (by decide) ?_; simp (disch := omega) only [e_wi, e_isr, e_isc, e_stp, e_rt, e_load, e_bin, e_binL, e_ld, e_s1, e_s2, e_n0, e_ok, e_cmp, e_ex, e_gif, e_id32, e_id64, e_v0, e_v1, e_v2, e_v3, e_dt, e_c1, e_sw, e_inv, e_cat, e_rcv, Fin.val_zero, Fin.val_one, Int.toNat_add, Int.toNat_mul, Int.toNat_natCast, Int.reduceToNat, Int.reduceMul, Int.reduceAdd, Int.reduceNeg, Nat.reduceAdd, Nat.reduceSub, Nat.reduceEqDiff, Nat.reduceLT, Nat.reduceLeDiff, List.getElem?_cons_zero, List.getElem?_cons_succ, List.length_cons, List.length_nil, List.take_succ_cons, List.take_zero, List.drop_succ_cons, List.drop_zero, List.reverse_cons, List.reverse_nil, List.nil_append, List.cons_append, List.append_nil, List.map_cons, List.map_nil, List.sum_cons, List.sum_nil, Bool.false_eq_true, if_false, if_true, Bool.and_true, Bool.true_and, Bool.and_self, Bool.or_true, Bool.true_or, Bool.or_false, Bool.false_or, Bool.or_self, decide_eq_true_eq, decide_true, decide_false, beq_self_eq_true, Option.map_some, reduceCtorEq, true_or, or_true, or_false, false_or, or_self, true_and, and_true, and_self, false_and, and_false, Option.some.injEq, exists_eq_left', ne_eq, not_true_eq_false, not_false_eq_true, eq_self, e_pk, e_pr, e_pn, e_ps, e_pd1, e_pd2, e_us, e_un, e_ifp, e_ifn, e_sk, e_sr, e_sn, e_ss, e_sd1, e_sd2, e_sp, ck4 h.1, ck62 h.1, ck63 h.1, cr62_0 h.1, h.f])
    | (refine And.intro (fun hc => ?_) (fun hc => ?_) <;> try (exfalso; omega))
    | ((refine x_place (by omega) h (fun x0 hx0 hx1 => ?_)) <;> try dsimp only [Option.toList, List.cons_append, List.nil_append, Nat.reduceAdd])
    | ((refine x_kind (by omega) h (fun d0 hd0 hd1 => ?_)) <;> try dsimp only [Option.toList, List.cons_append, List.nil_append, Nat.reduceAdd])
    | ((refine x_pass (by omega) h (by omega) (fun τ r0 hr0 h => ?_)) <;> try dsimp only [Option.toList, List.cons_append, List.nil_append, Nat.reduceAdd])
    | ((refine x_blame (by omega) h (fun τ h => ?_)) <;> try dsimp only [Option.toList, List.cons_append, List.nil_append, Nat.reduceAdd])
    | ((refine x_take (by omega) h (fun τ h => ?_)) <;> try dsimp only [Option.toList, List.cons_append, List.nil_append, Nat.reduceAdd])
    | ((refine x_write (by omega) h (fun τ h => ?_)) <;> try dsimp only [Option.toList, List.cons_append, List.nil_append, Nat.reduceAdd])
    | ((refine x_one (by omega) h (fun τ r1 hr1 h => ?_)) <;> try dsimp only [Option.toList, List.cons_append, List.nil_append, Nat.reduceAdd])
    | ((refine x_join (by omega) (by omega) (fun x5 hx5 hx6 hx7 hx8 => ?_)) <;> try dsimp only [Option.toList, List.cons_append, List.nil_append, Nat.reduceAdd])
    | ((refine x_comp (by omega) (by omega) (fun x5 hx5 hx6 hx7 => ?_)) <;> try dsimp only [Option.toList, List.cons_append, List.nil_append, Nat.reduceAdd])
    | ((refine x_value (by omega) h (fun τ h => ?_)) <;> try dsimp only [Option.toList, List.cons_append, List.nil_append, Nat.reduceAdd])
  all_goals first
    | exact hQ _ _ (by omega) (by omega) h
    | (exfalso; omega) | skip
def XF (σ0 : eH) (B : Nat → Int) (t N e D : Nat) : Prop := ∀ (k : Nat) (σ : eH) (Q : Option eV → eH → Prop) (dp : Int), 8 + 2 * D ≤ k → dp = 10 - (D : Int) → Xs σ0 B t N e σ → (∀ τ, Xs σ0 B t N e τ → Q none τ) → e_Wp k 66 [.inr (.inr 64), .inr (.inr 6), .inl dp] σ Q
set_option maxRecDepth 8000 in
set_option maxHeartbeats 2000000 in
theorem x_test_h {k : Nat} {σ0 : eH} {B : Nat → Int} {t N e : Nat} {wt n dp : Int} {σ : eH} {Q : Option eV → eH → Prop} (hk : 3 ≤ k) (hn : 0 ≤ n ∧ n ≤ 400) (h : Xs σ0 B t N e σ) (hQ : ∀ τ, Xs σ0 B t N e τ → Q none τ) : e_Gp k e_k65 11 [some (.inr (.inr 64)), some (.inr (.inr 6)), some (.inl dp), some (.inl wt), some (.inl n)] [] σ Q := by
  have he := h.e
  refine gp_of (by rfl) ?_
  simp (disch := omega) only [e_wi, e_isr, e_isc, e_stp, e_rt, e_load, e_bin, e_binL, e_ld, e_s1, e_s2, e_n0, e_ok, e_cmp, e_ex, e_gif, e_id32, e_id64, e_v0, e_v1, e_v2, e_v3, e_dt, e_c1, e_sw, e_inv, e_cat, e_rcv, Fin.val_zero, Fin.val_one, Int.toNat_add, Int.toNat_mul, Int.toNat_natCast, Int.reduceToNat, Int.reduceMul, Int.reduceAdd, Int.reduceNeg, Nat.reduceAdd, Nat.reduceSub, Nat.reduceEqDiff, Nat.reduceLT, Nat.reduceLeDiff, List.getElem?_cons_zero, List.getElem?_cons_succ, List.length_cons, List.length_nil, List.take_succ_cons, List.take_zero, List.drop_succ_cons, List.drop_zero, List.reverse_cons, List.reverse_nil, List.nil_append, List.cons_append, List.append_nil, List.map_cons, List.map_nil, List.sum_cons, List.sum_nil, Bool.false_eq_true, if_false, if_true, Bool.and_true, Bool.true_and, Bool.and_self, Bool.or_true, Bool.true_or, Bool.or_false, Bool.false_or, Bool.or_self, decide_eq_true_eq, decide_true, decide_false, beq_self_eq_true, Option.map_some, reduceCtorEq, true_or, or_true, or_false, false_or, or_self, true_and, and_true, and_self, false_and, and_false, Option.some.injEq, exists_eq_left', ne_eq, not_true_eq_false, not_false_eq_true, eq_self, e_pk, e_pr, e_pn, e_ps, e_pd1, e_pd2, e_us, e_un, e_ifp, e_ifn, e_sk, e_sr, e_sn, e_ss, e_sd1, e_sd2, e_sp, ck4 h.1, ck62 h.1, ck63 h.1, cr62_0 h.1, h.f]
  repeat' first
    | (refine gp_at [] (by rfl) (by decide) ?_; simp (disch := omega) only [e_wi, e_isr, e_isc, e_stp, e_rt, e_load, e_bin, e_binL, e_ld, e_s1, e_s2, e_n0, e_ok, e_cmp, e_ex, e_gif, e_id32, e_id64, e_v0, e_v1, e_v2, e_v3, e_dt, e_c1, e_sw, e_inv, e_cat, e_rcv, Fin.val_zero, Fin.val_one, Int.toNat_add, Int.toNat_mul, Int.toNat_natCast, Int.reduceToNat, Int.reduceMul, Int.reduceAdd, Int.reduceNeg, Nat.reduceAdd, Nat.reduceSub, Nat.reduceEqDiff, Nat.reduceLT, Nat.reduceLeDiff, List.getElem?_cons_zero, List.getElem?_cons_succ, List.length_cons, List.length_nil, List.take_succ_cons, List.take_zero, List.drop_succ_cons, List.drop_zero, List.reverse_cons, List.reverse_nil, List.nil_append, List.cons_append, List.append_nil, List.map_cons, List.map_nil, List.sum_cons, List.sum_nil, Bool.false_eq_true, if_false, if_true, Bool.and_true, Bool.true_and, Bool.and_self, Bool.or_true, Bool.true_or, Bool.or_false, Bool.false_or, Bool.or_self, decide_eq_true_eq, decide_true, decide_false, beq_self_eq_true, Option.map_some, reduceCtorEq, true_or, or_true, or_false, false_or, or_self, true_and, and_true, and_self, false_and, and_false, Option.some.injEq, exists_eq_left', ne_eq, not_true_eq_false, not_false_eq_true, eq_self, e_pk, e_pr, e_pn, e_ps, e_pd1, e_pd2, e_us, e_un, e_ifp, e_ifn, e_sk, e_sr, e_sn, e_ss, e_sd1, e_sd2, e_sp, ck4 h.1, ck62 h.1, ck63 h.1, cr62_0 h.1, h.f])
    | (refine And.intro (fun hc => ?_) (fun hc => ?_) <;> try (exfalso; omega))
    | ((refine x_place (by omega) h (fun x0 hx0 hx1 => ?_)) <;> try dsimp only [Option.toList, List.cons_append, List.nil_append, Nat.reduceAdd])
    | ((refine x_kind (by omega) h (fun d0 hd0 hd1 => ?_)) <;> try dsimp only [Option.toList, List.cons_append, List.nil_append, Nat.reduceAdd])
    | ((refine x_pass (by omega) h (by omega) (fun τ r0 hr0 h => ?_)) <;> try dsimp only [Option.toList, List.cons_append, List.nil_append, Nat.reduceAdd])
    | ((refine x_blame (by omega) h (fun τ h => ?_)) <;> try dsimp only [Option.toList, List.cons_append, List.nil_append, Nat.reduceAdd])
    | ((refine x_take (by omega) h (fun τ h => ?_)) <;> try dsimp only [Option.toList, List.cons_append, List.nil_append, Nat.reduceAdd])
    | ((refine x_write (by omega) h (fun τ h => ?_)) <;> try dsimp only [Option.toList, List.cons_append, List.nil_append, Nat.reduceAdd])
    | ((refine x_one (by omega) h (fun τ r1 hr1 h => ?_)) <;> try dsimp only [Option.toList, List.cons_append, List.nil_append, Nat.reduceAdd])
    | ((refine x_join (by omega) (by omega) (fun x5 hx5 hx6 hx7 hx8 => ?_)) <;> try dsimp only [Option.toList, List.cons_append, List.nil_append, Nat.reduceAdd])
    | ((refine x_comp (by omega) (by omega) (fun x5 hx5 hx6 hx7 => ?_)) <;> try dsimp only [Option.toList, List.cons_append, List.nil_append, Nat.reduceAdd])
    | ((refine x_value (by omega) h (fun τ h => ?_)) <;> try dsimp only [Option.toList, List.cons_append, List.nil_append, Nat.reduceAdd])
  all_goals first
    | exact hQ _ h
    | (exfalso; omega) | skip
set_option maxRecDepth 8000 in
set_option maxHeartbeats 2000000 in
theorem x_test {k : Nat} {σ0 : eH} {B : Nat → Int} {t N e : Nat} {D : Nat} {dp : Int} {σ : eH} {Q : Option eV → eH → Prop} (hk : 9 + 2 * D ≤ k) (hF : XF σ0 B t N e D) (hdp : dp = 10 - (D : Int)) (h : Xs σ0 B t N e σ) (hQ : ∀ τ, Xs σ0 B t N e τ → Q none τ) : e_Wp k 65 [.inr (.inr 64), .inr (.inr 6), .inl dp] σ Q := by
  refine wp_in (nL := 5) (cd := e_k65) (by omega) (by rfl) (Nat.le_of_ble_eq_true rfl) ?_
  dsimp only [e_ent, Nat.reduceSub, List.replicate]
  refine gp_of (by rfl) ?_
  simp (disch := omega) only [e_wi, e_isr, e_isc, e_stp, e_rt, e_load, e_bin, e_binL, e_ld, e_s1, e_s2, e_n0, e_ok, e_cmp, e_ex, e_gif, e_id32, e_id64, e_v0, e_v1, e_v2, e_v3, e_dt, e_c1, e_sw, e_inv, e_cat, e_rcv, Fin.val_zero, Fin.val_one, Int.toNat_add, Int.toNat_mul, Int.toNat_natCast, Int.reduceToNat, Int.reduceMul, Int.reduceAdd, Int.reduceNeg, Nat.reduceAdd, Nat.reduceSub, Nat.reduceEqDiff, Nat.reduceLT, Nat.reduceLeDiff, List.getElem?_cons_zero, List.getElem?_cons_succ, List.length_cons, List.length_nil, List.take_succ_cons, List.take_zero, List.drop_succ_cons, List.drop_zero, List.reverse_cons, List.reverse_nil, List.nil_append, List.cons_append, List.append_nil, List.map_cons, List.map_nil, List.sum_cons, List.sum_nil, Bool.false_eq_true, if_false, if_true, Bool.and_true, Bool.true_and, Bool.and_self, Bool.or_true, Bool.true_or, Bool.or_false, Bool.false_or, Bool.or_self, decide_eq_true_eq, decide_true, decide_false, beq_self_eq_true, Option.map_some, reduceCtorEq, true_or, or_true, or_false, false_or, or_self, true_and, and_true, and_self, false_and, and_false, Option.some.injEq, exists_eq_left', ne_eq, not_true_eq_false, not_false_eq_true, eq_self, e_pk, e_pr, e_pn, e_ps, e_pd1, e_pd2, e_us, e_un, e_ifp, e_ifn, e_sk, e_sr, e_sn, e_ss, e_sd1, e_sd2, e_sp, ck4 h.1, ck62 h.1, ck63 h.1, cr62_0 h.1, h.f]
  repeat' first
    | (refine gp_at [11] (by rfl) (by decide) ?_; simp (disch := omega) only [e_wi, e_isr, e_isc, e_stp, e_rt, e_load, e_bin, e_binL, e_ld, e_s1, e_s2, e_n0, e_ok, e_cmp, e_ex, e_gif, e_id32, e_id64, e_v0, e_v1, e_v2, e_v3, e_dt, e_c1, e_sw, e_inv, e_cat, e_rcv, Fin.val_zero, Fin.val_one, Int.toNat_add, Int.toNat_mul, Int.toNat_natCast, Int.reduceToNat, Int.reduceMul, Int.reduceAdd, Int.reduceNeg, Nat.reduceAdd, Nat.reduceSub, Nat.reduceEqDiff, Nat.reduceLT, Nat.reduceLeDiff, List.getElem?_cons_zero, List.getElem?_cons_succ, List.length_cons, List.length_nil, List.take_succ_cons, List.take_zero, List.drop_succ_cons, List.drop_zero, List.reverse_cons, List.reverse_nil, List.nil_append, List.cons_append, List.append_nil, List.map_cons, List.map_nil, List.sum_cons, List.sum_nil, Bool.false_eq_true, if_false, if_true, Bool.and_true, Bool.true_and, Bool.and_self, Bool.or_true, Bool.true_or, Bool.or_false, Bool.false_or, Bool.or_self, decide_eq_true_eq, decide_true, decide_false, beq_self_eq_true, Option.map_some, reduceCtorEq, true_or, or_true, or_false, false_or, or_self, true_and, and_true, and_self, false_and, and_false, Option.some.injEq, exists_eq_left', ne_eq, not_true_eq_false, not_false_eq_true, eq_self, e_pk, e_pr, e_pn, e_ps, e_pd1, e_pd2, e_us, e_un, e_ifp, e_ifn, e_sk, e_sr, e_sn, e_ss, e_sd1, e_sd2, e_sp, ck4 h.1, ck62 h.1, ck63 h.1, cr62_0 h.1, h.f])
    | (refine And.intro (fun hc => ?_) (fun hc => ?_) <;> try (exfalso; omega))
    | ((refine hF _ _ _ _ (by omega) (by omega) h (fun τ h => ?_)) <;> try dsimp only [Option.toList, List.cons_append, List.nil_append, Nat.reduceAdd])
  exact x_test_h (by omega) (by omega) h hQ
set_option maxRecDepth 8000 in
set_option maxHeartbeats 2000000 in
theorem x_fact {σ0 : eH} {B : Nat → Int} {t N e : Nat} : ∀ D, D ≤ 10 → XF σ0 B t N e D
  | 0, hD, k, σ, Q, dp, hk, hdp, h, hQ => by
    refine wp_in (nL := 7) (cd := e_k66) (by omega) (by rfl) (Nat.le_of_ble_eq_true rfl) ?_
    dsimp only [e_ent, Nat.reduceSub, List.replicate]
    have he := h.e
    refine gp_of (by rfl) ?_
    simp (disch := omega) only [e_wi, e_isr, e_isc, e_stp, e_rt, e_load, e_bin, e_binL, e_ld, e_s1, e_s2, e_n0, e_ok, e_cmp, e_ex, e_gif, e_id32, e_id64, e_v0, e_v1, e_v2, e_v3, e_dt, e_c1, e_sw, e_inv, e_cat, e_rcv, Fin.val_zero, Fin.val_one, Int.toNat_add, Int.toNat_mul, Int.toNat_natCast, Int.reduceToNat, Int.reduceMul, Int.reduceAdd, Int.reduceNeg, Nat.reduceAdd, Nat.reduceSub, Nat.reduceEqDiff, Nat.reduceLT, Nat.reduceLeDiff, List.getElem?_cons_zero, List.getElem?_cons_succ, List.length_cons, List.length_nil, List.take_succ_cons, List.take_zero, List.drop_succ_cons, List.drop_zero, List.reverse_cons, List.reverse_nil, List.nil_append, List.cons_append, List.append_nil, List.map_cons, List.map_nil, List.sum_cons, List.sum_nil, Bool.false_eq_true, if_false, if_true, Bool.and_true, Bool.true_and, Bool.and_self, Bool.or_true, Bool.true_or, Bool.or_false, Bool.false_or, Bool.or_self, decide_eq_true_eq, decide_true, decide_false, beq_self_eq_true, Option.map_some, reduceCtorEq, true_or, or_true, or_false, false_or, or_self, true_and, and_true, and_self, false_and, and_false, Option.some.injEq, exists_eq_left', ne_eq, not_true_eq_false, not_false_eq_true, eq_self, e_pk, e_pr, e_pn, e_ps, e_pd1, e_pd2, e_us, e_un, e_ifp, e_ifn, e_sk, e_sr, e_sn, e_ss, e_sd1, e_sd2, e_sp, ck4 h.1, ck62 h.1, ck63 h.1, cr62_0 h.1, h.f]
    repeat' first
      | (refine gp_at [] (by rfl) (by decide) ?_; simp (disch := omega) only [e_wi, e_isr, e_isc, e_stp, e_rt, e_load, e_bin, e_binL, e_ld, e_s1, e_s2, e_n0, e_ok, e_cmp, e_ex, e_gif, e_id32, e_id64, e_v0, e_v1, e_v2, e_v3, e_dt, e_c1, e_sw, e_inv, e_cat, e_rcv, Fin.val_zero, Fin.val_one, Int.toNat_add, Int.toNat_mul, Int.toNat_natCast, Int.reduceToNat, Int.reduceMul, Int.reduceAdd, Int.reduceNeg, Nat.reduceAdd, Nat.reduceSub, Nat.reduceEqDiff, Nat.reduceLT, Nat.reduceLeDiff, List.getElem?_cons_zero, List.getElem?_cons_succ, List.length_cons, List.length_nil, List.take_succ_cons, List.take_zero, List.drop_succ_cons, List.drop_zero, List.reverse_cons, List.reverse_nil, List.nil_append, List.cons_append, List.append_nil, List.map_cons, List.map_nil, List.sum_cons, List.sum_nil, Bool.false_eq_true, if_false, if_true, Bool.and_true, Bool.true_and, Bool.and_self, Bool.or_true, Bool.true_or, Bool.or_false, Bool.false_or, Bool.or_self, decide_eq_true_eq, decide_true, decide_false, beq_self_eq_true, Option.map_some, reduceCtorEq, true_or, or_true, or_false, false_or, or_self, true_and, and_true, and_self, false_and, and_false, Option.some.injEq, exists_eq_left', ne_eq, not_true_eq_false, not_false_eq_true, eq_self, e_pk, e_pr, e_pn, e_ps, e_pd1, e_pd2, e_us, e_un, e_ifp, e_ifn, e_sk, e_sr, e_sn, e_ss, e_sd1, e_sd2, e_sp, ck4 h.1, ck62 h.1, ck63 h.1, cr62_0 h.1, h.f])
      | (refine And.intro (fun hc => ?_) (fun hc => ?_) <;> try (exfalso; omega))
      | ((refine x_place (by omega) h (fun x0 hx0 hx1 => ?_)) <;> try dsimp only [Option.toList, List.cons_append, List.nil_append, Nat.reduceAdd])
      | ((refine x_kind (by omega) h (fun d0 hd0 hd1 => ?_)) <;> try dsimp only [Option.toList, List.cons_append, List.nil_append, Nat.reduceAdd])
      | ((refine x_pass (by omega) h (by omega) (fun τ r0 hr0 h => ?_)) <;> try dsimp only [Option.toList, List.cons_append, List.nil_append, Nat.reduceAdd])
      | ((refine x_blame (by omega) h (fun τ h => ?_)) <;> try dsimp only [Option.toList, List.cons_append, List.nil_append, Nat.reduceAdd])
      | ((refine x_take (by omega) h (fun τ h => ?_)) <;> try dsimp only [Option.toList, List.cons_append, List.nil_append, Nat.reduceAdd])
      | ((refine x_write (by omega) h (fun τ h => ?_)) <;> try dsimp only [Option.toList, List.cons_append, List.nil_append, Nat.reduceAdd])
      | ((refine x_one (by omega) h (fun τ r1 hr1 h => ?_)) <;> try dsimp only [Option.toList, List.cons_append, List.nil_append, Nat.reduceAdd])
      | ((refine x_join (by omega) (by omega) (fun x5 hx5 hx6 hx7 hx8 => ?_)) <;> try dsimp only [Option.toList, List.cons_append, List.nil_append, Nat.reduceAdd])
      | ((refine x_comp (by omega) (by omega) (fun x5 hx5 hx6 hx7 => ?_)) <;> try dsimp only [Option.toList, List.cons_append, List.nil_append, Nat.reduceAdd])
      | ((refine x_value (by omega) h (fun τ h => ?_)) <;> try dsimp only [Option.toList, List.cons_append, List.nil_append, Nat.reduceAdd])
      | ((refine x_sum (by omega) h (fun τ h => ?_)) <;> try dsimp only [Option.toList, List.cons_append, List.nil_append, Nat.reduceAdd])
      | ((refine x_cmp (by omega) h (fun τ x6 hx8 hx9 h => ?_)) <;> try dsimp only [Option.toList, List.cons_append, List.nil_append, Nat.reduceAdd])
    all_goals first
      | exact hQ _ h
      | (exfalso; omega) | skip
  | D + 1, hD, k, σ, Q, dp, hk, hdp, h, hQ => by
    refine wp_in (nL := 7) (cd := e_k66) (by omega) (by rfl) (Nat.le_of_ble_eq_true rfl) ?_
    dsimp only [e_ent, Nat.reduceSub, List.replicate]
    have he := h.e
    have ih := x_fact (σ0 := σ0) (B := B) (t := t) (N := N) (e := e) D (by omega)
    refine gp_of (by rfl) ?_
    simp (disch := omega) only [e_wi, e_isr, e_isc, e_stp, e_rt, e_load, e_bin, e_binL, e_ld, e_s1, e_s2, e_n0, e_ok, e_cmp, e_ex, e_gif, e_id32, e_id64, e_v0, e_v1, e_v2, e_v3, e_dt, e_c1, e_sw, e_inv, e_cat, e_rcv, Fin.val_zero, Fin.val_one, Int.toNat_add, Int.toNat_mul, Int.toNat_natCast, Int.reduceToNat, Int.reduceMul, Int.reduceAdd, Int.reduceNeg, Nat.reduceAdd, Nat.reduceSub, Nat.reduceEqDiff, Nat.reduceLT, Nat.reduceLeDiff, List.getElem?_cons_zero, List.getElem?_cons_succ, List.length_cons, List.length_nil, List.take_succ_cons, List.take_zero, List.drop_succ_cons, List.drop_zero, List.reverse_cons, List.reverse_nil, List.nil_append, List.cons_append, List.append_nil, List.map_cons, List.map_nil, List.sum_cons, List.sum_nil, Bool.false_eq_true, if_false, if_true, Bool.and_true, Bool.true_and, Bool.and_self, Bool.or_true, Bool.true_or, Bool.or_false, Bool.false_or, Bool.or_self, decide_eq_true_eq, decide_true, decide_false, beq_self_eq_true, Option.map_some, reduceCtorEq, true_or, or_true, or_false, false_or, or_self, true_and, and_true, and_self, false_and, and_false, Option.some.injEq, exists_eq_left', ne_eq, not_true_eq_false, not_false_eq_true, eq_self, e_pk, e_pr, e_pn, e_ps, e_pd1, e_pd2, e_us, e_un, e_ifp, e_ifn, e_sk, e_sr, e_sn, e_ss, e_sd1, e_sd2, e_sp, ck4 h.1, ck62 h.1, ck63 h.1, cr62_0 h.1, h.f]
    repeat' first
      | (refine gp_at [] (by rfl) (by decide) ?_; simp (disch := omega) only [e_wi, e_isr, e_isc, e_stp, e_rt, e_load, e_bin, e_binL, e_ld, e_s1, e_s2, e_n0, e_ok, e_cmp, e_ex, e_gif, e_id32, e_id64, e_v0, e_v1, e_v2, e_v3, e_dt, e_c1, e_sw, e_inv, e_cat, e_rcv, Fin.val_zero, Fin.val_one, Int.toNat_add, Int.toNat_mul, Int.toNat_natCast, Int.reduceToNat, Int.reduceMul, Int.reduceAdd, Int.reduceNeg, Nat.reduceAdd, Nat.reduceSub, Nat.reduceEqDiff, Nat.reduceLT, Nat.reduceLeDiff, List.getElem?_cons_zero, List.getElem?_cons_succ, List.length_cons, List.length_nil, List.take_succ_cons, List.take_zero, List.drop_succ_cons, List.drop_zero, List.reverse_cons, List.reverse_nil, List.nil_append, List.cons_append, List.append_nil, List.map_cons, List.map_nil, List.sum_cons, List.sum_nil, Bool.false_eq_true, if_false, if_true, Bool.and_true, Bool.true_and, Bool.and_self, Bool.or_true, Bool.true_or, Bool.or_false, Bool.false_or, Bool.or_self, decide_eq_true_eq, decide_true, decide_false, beq_self_eq_true, Option.map_some, reduceCtorEq, true_or, or_true, or_false, false_or, or_self, true_and, and_true, and_self, false_and, and_false, Option.some.injEq, exists_eq_left', ne_eq, not_true_eq_false, not_false_eq_true, eq_self, e_pk, e_pr, e_pn, e_ps, e_pd1, e_pd2, e_us, e_un, e_ifp, e_ifn, e_sk, e_sr, e_sn, e_ss, e_sd1, e_sd2, e_sp, ck4 h.1, ck62 h.1, ck63 h.1, cr62_0 h.1, h.f])
      | (refine And.intro (fun hc => ?_) (fun hc => ?_) <;> try (exfalso; omega))
      | ((refine x_place (by omega) h (fun x0 hx0 hx1 => ?_)) <;> try dsimp only [Option.toList, List.cons_append, List.nil_append, Nat.reduceAdd])
      | ((refine x_kind (by omega) h (fun d0 hd0 hd1 => ?_)) <;> try dsimp only [Option.toList, List.cons_append, List.nil_append, Nat.reduceAdd])
      | ((refine x_pass (by omega) h (by omega) (fun τ r0 hr0 h => ?_)) <;> try dsimp only [Option.toList, List.cons_append, List.nil_append, Nat.reduceAdd])
      | ((refine x_blame (by omega) h (fun τ h => ?_)) <;> try dsimp only [Option.toList, List.cons_append, List.nil_append, Nat.reduceAdd])
      | ((refine x_take (by omega) h (fun τ h => ?_)) <;> try dsimp only [Option.toList, List.cons_append, List.nil_append, Nat.reduceAdd])
      | ((refine x_write (by omega) h (fun τ h => ?_)) <;> try dsimp only [Option.toList, List.cons_append, List.nil_append, Nat.reduceAdd])
      | ((refine x_one (by omega) h (fun τ r1 hr1 h => ?_)) <;> try dsimp only [Option.toList, List.cons_append, List.nil_append, Nat.reduceAdd])
      | ((refine x_join (by omega) (by omega) (fun x5 hx5 hx6 hx7 hx8 => ?_)) <;> try dsimp only [Option.toList, List.cons_append, List.nil_append, Nat.reduceAdd])
      | ((refine x_comp (by omega) (by omega) (fun x5 hx5 hx6 hx7 => ?_)) <;> try dsimp only [Option.toList, List.cons_append, List.nil_append, Nat.reduceAdd])
      | ((refine x_value (by omega) h (fun τ h => ?_)) <;> try dsimp only [Option.toList, List.cons_append, List.nil_append, Nat.reduceAdd])
      | ((refine x_sum (by omega) h (fun τ h => ?_)) <;> try dsimp only [Option.toList, List.cons_append, List.nil_append, Nat.reduceAdd])
      | ((refine x_cmp (by omega) h (fun τ x6 hx8 hx9 h => ?_)) <;> try dsimp only [Option.toList, List.cons_append, List.nil_append, Nat.reduceAdd])
      | ((refine ih _ _ _ _ (by omega) (by omega) h (fun τ h => ?_)) <;> try dsimp only [Option.toList, List.cons_append, List.nil_append, Nat.reduceAdd])
      | ((refine x_test (D := D) (by omega) ih (by omega) h (fun τ h => ?_)) <;> try dsimp only [Option.toList, List.cons_append, List.nil_append, Nat.reduceAdd])
    all_goals first
      | exact hQ _ h
      | (exfalso; omega) | skip
