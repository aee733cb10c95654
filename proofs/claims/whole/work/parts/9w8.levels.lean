def k_us (u : Nat) : List Nat := (if 2 ≤ u then [12] else []) ++ (if u % 2 = 1 then [13] else [])
def k_fr : List (Nat × Nat) → List Nat
  | [] => []
  | l :: lv => 91 :: k_fl lv l.1 l.2
theorem k_fl_n (lv : List (Nat × Nat)) (u n : Nat) : k_fl lv u n = List.replicate n 11 ++ k_fl lv u 0 := by
  cases lv <;> rfl
theorem k_fl_0 (lv : List (Nat × Nat)) (u : Nat) : k_fl lv u 0 = k_us u ++ k_fr lv := by
  unfold k_us
  cases lv with
  | nil => rw [List.append_assoc]; rfl
  | cons l lv => rw [List.append_assoc]; rfl
theorem k_us_c (u : Nat) (hu : u < 4) : u = 0 ∧ k_us u = [] ∨ u = 1 ∧ k_us u = [13] ∨ u = 2 ∧ k_us u = [12] ∨ u = 3 ∧ k_us u = [12, 13] := by
  obtain rfl | rfl | rfl | rfl : u = 0 ∨ u = 1 ∨ u = 2 ∨ u = 3 := by omega
  · exact Or.inl ⟨rfl, rfl⟩
  · exact Or.inr (Or.inl ⟨rfl, rfl⟩)
  · exact Or.inr (Or.inr (Or.inl ⟨rfl, rfl⟩))
  · exact Or.inr (Or.inr (Or.inr ⟨rfl, rfl⟩))
theorem k_us_ok {u x : Nat} (h : x ∈ k_us u) : x = 12 ∨ x = 13 := by
  unfold k_us at h
  rcases List.mem_append.1 h with h | h
  · split at h
    · exact Or.inl (List.mem_singleton.1 h)
    · cases h
  · split at h
    · exact Or.inr (List.mem_singleton.1 h)
    · cases h
theorem k_fl_ok : ∀ (lv : List (Nat × Nat)) (u n : Nat), k_ok (k_fl lv u n)
  | [], u, n, x, hx => by
    rw [k_fl_n, k_fl_0] at hx
    rcases List.mem_append.1 hx with h | h
    · exact Or.inl (List.eq_of_mem_replicate h)
    · rcases List.mem_append.1 h with h | h
      · have := k_us_ok h
        omega
      · cases h
  | l :: lv, u, n, x, hx => by
    rw [k_fl_n, k_fl_0] at hx
    rcases List.mem_append.1 hx with h | h
    · exact Or.inl (List.eq_of_mem_replicate h)
    · rcases List.mem_append.1 h with h | h
      · have := k_us_ok h
        omega
      · rcases List.mem_cons.1 h with h | h
        · omega
        · exact k_fl_ok lv l.1 l.2 x h
theorem k_fr_ok (lv : List (Nat × Nat)) : k_ok (k_fr lv) := by
  cases lv with
  | nil => exact fun x hx => by cases hx
  | cons l lv =>
    intro x hx
    rcases List.mem_cons.1 hx with h | h
    · omega
    · exact k_fl_ok _ _ _ x h
theorem k_fl_91 : ∀ (lv : List (Nat × Nat)) (u n : Nat), 91 ∈ k_fl lv u n ↔ lv ≠ []
  | [], u, n => by
    constructor
    · intro h
      rw [k_fl_n, k_fl_0] at h
      rcases List.mem_append.1 h with h | h
      · have := List.eq_of_mem_replicate h
        omega
      · rcases List.mem_append.1 h with h | h
        · have := k_us_ok h
          omega
        · cases h
    · intro h
      exact absurd rfl h
  | l :: lv, u, n => by
    constructor
    · intro h q
      cases q
    · intro h
      rw [k_fl_n, k_fl_0]
      exact List.mem_append.2 (Or.inr (List.mem_append.2 (Or.inr (List.mem_cons_self ..))))
theorem k_fr_h (lv : List (Nat × Nat)) {le : Nat} (h : 1 ≤ le) : k_fr lv = [] ∨ ∃ x s', k_fr lv = x :: s' ∧ k_st x < le := by
  cases lv with
  | nil => exact Or.inl rfl
  | cons l lv => exact Or.inr ⟨91, _, rfl, by show (0 : Nat) < le; omega⟩
theorem k_fl_h (lv : List (Nat × Nat)) (u : Nat) (hu : u < 4) : k_fl lv u 0 = [] ∨ ∃ x s', k_fl lv u 0 = x :: s' ∧ k_st x < 3 := by
  rw [k_fl_0]
  rcases k_us_c u hu with ⟨_, e⟩ | ⟨_, e⟩ | ⟨_, e⟩ | ⟨_, e⟩ <;> rw [e]
  · exact k_fr_h lv (by omega)
  · exact Or.inr ⟨13, _, rfl, by decide⟩
  · exact Or.inr ⟨12, _, rfl, by decide⟩
  · exact Or.inr ⟨12, _, rfl, by decide⟩
def k_dl : List (Nat × Nat) → Nat
  | [] => 0
  | l :: lv => 1 + l.2 + k_dl lv
theorem r_sN_g {f : Nat → Int} : ∀ (s : List Nat), k_ok s → r_sN f s → ∀ j, j < s.length → 0 ≤ f j ∧ f j ≤ 91
  | [], _, _, j, hj => by cases hj
  | x :: s, hk, hs, j, hj => by
    rw [List.length_cons] at hj
    by_cases e : j = s.length
    · rw [e, hs.1]
      have := hk x (List.mem_cons_self ..)
      omega
    · exact r_sN_g s (fun y hy => hk y (List.mem_cons_of_mem _ hy)) hs.2 j (by omega)
theorem r_sN_m {f : Nat → Int} : ∀ (s : List Nat), r_sN f s → (91 ∈ s ↔ ∃ j, j < s.length ∧ f j = 91)
  | [], _ => by
    constructor
    · intro h; cases h
    · intro ⟨j, h, _⟩; cases h
  | x :: s, hs => by
    have ih := r_sN_m s hs.2
    constructor
    · intro h
      rcases List.mem_cons.1 h with h | h
      · exact ⟨s.length, by rw [List.length_cons]; omega, by rw [hs.1, ← h]; rfl⟩
      · obtain ⟨j, h1, h2⟩ := ih.1 h
        exact ⟨j, by rw [List.length_cons]; omega, h2⟩
    · intro ⟨j, h1, h2⟩
      rw [List.length_cons] at h1
      by_cases e : j = s.length
      · rw [e, hs.1] at h2
        have : x = 91 := by omega
        rw [this]
        exact List.mem_cons_self ..
      · exact List.mem_cons_of_mem _ (ih.2 ⟨j, by omega, h2⟩)
set_option maxRecDepth 8000 in
set_option maxHeartbeats 2000000 in
theorem w_isInside_l {k : Nat} {σ σ0 : eH} {r t b q v D : Nat} {B : Nat → Int} {c : List (Nat × Nat)} {st : List Nat} {Q : Option eV → eH → Prop} (h : Mt σ0 r B t b q v c st D σ) (hk : k_ok st) (hQ : Q (some (.inl (if 91 ∈ st then 1 else 0))) σ) : ∀ (j y : Nat) (z : Int), z = (y : Int) → y + j = st.length → (∀ x, x < y → σ.2.2.2.1 168 x ≠ 91) → e_Gp k e_k191 2 [some (.inr (.inr 163)), some (.inl z)] [] σ Q
  | 0, y, z, hz, hj, hn => by
    subst hz
    have hdd := h.dd
    rw [if_neg (fun q => by
      obtain ⟨x, h1, h2⟩ := (r_sN_m st h.2.2.1.2.2.2).1 q
      exact hn x (by omega) h2)] at hQ
    refine gp_of (by rfl) ?_
    simp (disch := omega) only [e_wi, e_isr, e_isc, e_stp, e_rt, e_load, e_bin, e_binL, e_ld, e_s1, e_s2, e_n0, e_ok, e_cmp, e_ex, e_gif, e_id32, e_id64, e_v0, e_v1, e_v2, e_v3, e_dt, e_c1, e_sw, e_inv, e_cat, e_rcv, Fin.val_zero, Fin.val_one, Int.toNat_add, Int.toNat_mul, Int.toNat_natCast, Int.reduceToNat, Int.reduceMul, Int.reduceAdd, Int.reduceNeg, Nat.reduceAdd, Nat.reduceSub, Nat.reduceEqDiff, Nat.reduceLT, Nat.reduceLeDiff, List.getElem?_cons_zero, List.getElem?_cons_succ, List.length_cons, List.length_nil, List.take_succ_cons, List.take_zero, List.drop_succ_cons, List.drop_zero, List.reverse_cons, List.reverse_nil, List.nil_append, List.cons_append, List.append_nil, List.map_cons, List.map_nil, List.sum_cons, List.sum_nil, Bool.false_eq_true, if_false, if_true, Bool.and_true, Bool.true_and, Bool.and_self, Bool.or_true, Bool.true_or, Bool.or_false, Bool.false_or, Bool.or_self, decide_eq_true_eq, decide_true, decide_false, beq_self_eq_true, Option.map_some, reduceCtorEq, true_or, or_true, or_false, false_or, or_self, true_and, and_true, and_self, false_and, and_false, Option.some.injEq, exists_eq_left', ne_eq, not_true_eq_false, not_false_eq_true, eq_self, e_pk, e_pr, e_pn, e_ps, e_pd1, e_pd2, e_us, e_un, e_ifp, e_ifn, e_sk, e_sr, e_sn, e_ss, e_sd1, e_sd2, e_sp, mk161 h.2.1.1.1, mk162 h.2.1.1.1, mk163 h.2.1.1.1, mk164 h.2.1.1.1, mk168 h.2.1.1.1, mr0 h.2.1.1.1, mr3 h.2.1.1.1, mr4 h.2.1.1.1, mr15 h.2.1.1.1, h.2.1.1.t1, h.2.1.1.b8, h.2.1.1.q8, h.o6, h.d3]
    repeat' first
      | (refine gp_at [] (by rfl) (by decide) ?_; simp (disch := omega) only [e_wi, e_isr, e_isc, e_stp, e_rt, e_load, e_bin, e_binL, e_ld, e_s1, e_s2, e_n0, e_ok, e_cmp, e_ex, e_gif, e_id32, e_id64, e_v0, e_v1, e_v2, e_v3, e_dt, e_c1, e_sw, e_inv, e_cat, e_rcv, Fin.val_zero, Fin.val_one, Int.toNat_add, Int.toNat_mul, Int.toNat_natCast, Int.reduceToNat, Int.reduceMul, Int.reduceAdd, Int.reduceNeg, Nat.reduceAdd, Nat.reduceSub, Nat.reduceEqDiff, Nat.reduceLT, Nat.reduceLeDiff, List.getElem?_cons_zero, List.getElem?_cons_succ, List.length_cons, List.length_nil, List.take_succ_cons, List.take_zero, List.drop_succ_cons, List.drop_zero, List.reverse_cons, List.reverse_nil, List.nil_append, List.cons_append, List.append_nil, List.map_cons, List.map_nil, List.sum_cons, List.sum_nil, Bool.false_eq_true, if_false, if_true, Bool.and_true, Bool.true_and, Bool.and_self, Bool.or_true, Bool.true_or, Bool.or_false, Bool.false_or, Bool.or_self, decide_eq_true_eq, decide_true, decide_false, beq_self_eq_true, Option.map_some, reduceCtorEq, true_or, or_true, or_false, false_or, or_self, true_and, and_true, and_self, false_and, and_false, Option.some.injEq, exists_eq_left', ne_eq, not_true_eq_false, not_false_eq_true, eq_self, e_pk, e_pr, e_pn, e_ps, e_pd1, e_pd2, e_us, e_un, e_ifp, e_ifn, e_sk, e_sr, e_sn, e_ss, e_sd1, e_sd2, e_sp, mk161 h.2.1.1.1, mk162 h.2.1.1.1, mk163 h.2.1.1.1, mk164 h.2.1.1.1, mk168 h.2.1.1.1, mr0 h.2.1.1.1, mr3 h.2.1.1.1, mr4 h.2.1.1.1, mr15 h.2.1.1.1, h.2.1.1.t1, h.2.1.1.b8, h.2.1.1.q8, h.o6, h.d3])
      | (refine And.intro (fun hc => ?_) (fun hc => ?_) <;> try (exfalso; omega))
    all_goals first | exact hQ | (exfalso; omega) | skip
  | j + 1, y, z, hz, hj, hn => by
    subst hz
    have hdd := h.dd
    have hg := r_sN_g st hk h.2.2.1.2.2.2 y (by omega)
    by_cases e : σ.2.2.2.1 168 y = 91
    · rw [if_pos ((r_sN_m st h.2.2.1.2.2.2).2 ⟨y, by omega, e⟩)] at hQ
      refine gp_of (by rfl) ?_
      simp (disch := omega) only [e_wi, e_isr, e_isc, e_stp, e_rt, e_load, e_bin, e_binL, e_ld, e_s1, e_s2, e_n0, e_ok, e_cmp, e_ex, e_gif, e_id32, e_id64, e_v0, e_v1, e_v2, e_v3, e_dt, e_c1, e_sw, e_inv, e_cat, e_rcv, Fin.val_zero, Fin.val_one, Int.toNat_add, Int.toNat_mul, Int.toNat_natCast, Int.reduceToNat, Int.reduceMul, Int.reduceAdd, Int.reduceNeg, Nat.reduceAdd, Nat.reduceSub, Nat.reduceEqDiff, Nat.reduceLT, Nat.reduceLeDiff, List.getElem?_cons_zero, List.getElem?_cons_succ, List.length_cons, List.length_nil, List.take_succ_cons, List.take_zero, List.drop_succ_cons, List.drop_zero, List.reverse_cons, List.reverse_nil, List.nil_append, List.cons_append, List.append_nil, List.map_cons, List.map_nil, List.sum_cons, List.sum_nil, Bool.false_eq_true, if_false, if_true, Bool.and_true, Bool.true_and, Bool.and_self, Bool.or_true, Bool.true_or, Bool.or_false, Bool.false_or, Bool.or_self, decide_eq_true_eq, decide_true, decide_false, beq_self_eq_true, Option.map_some, reduceCtorEq, true_or, or_true, or_false, false_or, or_self, true_and, and_true, and_self, false_and, and_false, Option.some.injEq, exists_eq_left', ne_eq, not_true_eq_false, not_false_eq_true, eq_self, e_pk, e_pr, e_pn, e_ps, e_pd1, e_pd2, e_us, e_un, e_ifp, e_ifn, e_sk, e_sr, e_sn, e_ss, e_sd1, e_sd2, e_sp, mk161 h.2.1.1.1, mk162 h.2.1.1.1, mk163 h.2.1.1.1, mk164 h.2.1.1.1, mk168 h.2.1.1.1, mr0 h.2.1.1.1, mr3 h.2.1.1.1, mr4 h.2.1.1.1, mr15 h.2.1.1.1, h.2.1.1.t1, h.2.1.1.b8, h.2.1.1.q8, h.o6, h.d3]
      repeat' first
        | (refine gp_at [2] (by rfl) (by decide) ?_; simp (disch := omega) only [e_wi, e_isr, e_isc, e_stp, e_rt, e_load, e_bin, e_binL, e_ld, e_s1, e_s2, e_n0, e_ok, e_cmp, e_ex, e_gif, e_id32, e_id64, e_v0, e_v1, e_v2, e_v3, e_dt, e_c1, e_sw, e_inv, e_cat, e_rcv, Fin.val_zero, Fin.val_one, Int.toNat_add, Int.toNat_mul, Int.toNat_natCast, Int.reduceToNat, Int.reduceMul, Int.reduceAdd, Int.reduceNeg, Nat.reduceAdd, Nat.reduceSub, Nat.reduceEqDiff, Nat.reduceLT, Nat.reduceLeDiff, List.getElem?_cons_zero, List.getElem?_cons_succ, List.length_cons, List.length_nil, List.take_succ_cons, List.take_zero, List.drop_succ_cons, List.drop_zero, List.reverse_cons, List.reverse_nil, List.nil_append, List.cons_append, List.append_nil, List.map_cons, List.map_nil, List.sum_cons, List.sum_nil, Bool.false_eq_true, if_false, if_true, Bool.and_true, Bool.true_and, Bool.and_self, Bool.or_true, Bool.true_or, Bool.or_false, Bool.false_or, Bool.or_self, decide_eq_true_eq, decide_true, decide_false, beq_self_eq_true, Option.map_some, reduceCtorEq, true_or, or_true, or_false, false_or, or_self, true_and, and_true, and_self, false_and, and_false, Option.some.injEq, exists_eq_left', ne_eq, not_true_eq_false, not_false_eq_true, eq_self, e_pk, e_pr, e_pn, e_ps, e_pd1, e_pd2, e_us, e_un, e_ifp, e_ifn, e_sk, e_sr, e_sn, e_ss, e_sd1, e_sd2, e_sp, mk161 h.2.1.1.1, mk162 h.2.1.1.1, mk163 h.2.1.1.1, mk164 h.2.1.1.1, mk168 h.2.1.1.1, mr0 h.2.1.1.1, mr3 h.2.1.1.1, mr4 h.2.1.1.1, mr15 h.2.1.1.1, h.2.1.1.t1, h.2.1.1.b8, h.2.1.1.q8, h.o6, h.d3])
        | (refine And.intro (fun hc => ?_) (fun hc => ?_) <;> try (exfalso; omega))
      all_goals first | exact hQ | (exfalso; omega) | skip
    · have ih := w_isInside_l (k := k) h hk hQ j (y + 1) ((y : Int) + 1) (by omega) (by omega) (fun x hx => by
        by_cases e2 : x = y
        · rw [e2]; exact e
        · exact hn x (by omega))
      refine gp_of (by rfl) ?_
      simp (disch := omega) only [e_wi, e_isr, e_isc, e_stp, e_rt, e_load, e_bin, e_binL, e_ld, e_s1, e_s2, e_n0, e_ok, e_cmp, e_ex, e_gif, e_id32, e_id64, e_v0, e_v1, e_v2, e_v3, e_dt, e_c1, e_sw, e_inv, e_cat, e_rcv, Fin.val_zero, Fin.val_one, Int.toNat_add, Int.toNat_mul, Int.toNat_natCast, Int.reduceToNat, Int.reduceMul, Int.reduceAdd, Int.reduceNeg, Nat.reduceAdd, Nat.reduceSub, Nat.reduceEqDiff, Nat.reduceLT, Nat.reduceLeDiff, List.getElem?_cons_zero, List.getElem?_cons_succ, List.length_cons, List.length_nil, List.take_succ_cons, List.take_zero, List.drop_succ_cons, List.drop_zero, List.reverse_cons, List.reverse_nil, List.nil_append, List.cons_append, List.append_nil, List.map_cons, List.map_nil, List.sum_cons, List.sum_nil, Bool.false_eq_true, if_false, if_true, Bool.and_true, Bool.true_and, Bool.and_self, Bool.or_true, Bool.true_or, Bool.or_false, Bool.false_or, Bool.or_self, decide_eq_true_eq, decide_true, decide_false, beq_self_eq_true, Option.map_some, reduceCtorEq, true_or, or_true, or_false, false_or, or_self, true_and, and_true, and_self, false_and, and_false, Option.some.injEq, exists_eq_left', ne_eq, not_true_eq_false, not_false_eq_true, eq_self, e_pk, e_pr, e_pn, e_ps, e_pd1, e_pd2, e_us, e_un, e_ifp, e_ifn, e_sk, e_sr, e_sn, e_ss, e_sd1, e_sd2, e_sp, mk161 h.2.1.1.1, mk162 h.2.1.1.1, mk163 h.2.1.1.1, mk164 h.2.1.1.1, mk168 h.2.1.1.1, mr0 h.2.1.1.1, mr3 h.2.1.1.1, mr4 h.2.1.1.1, mr15 h.2.1.1.1, h.2.1.1.t1, h.2.1.1.b8, h.2.1.1.q8, h.o6, h.d3]
      repeat' first
        | (refine gp_at [2] (by rfl) (by decide) ?_; simp (disch := omega) only [e_wi, e_isr, e_isc, e_stp, e_rt, e_load, e_bin, e_binL, e_ld, e_s1, e_s2, e_n0, e_ok, e_cmp, e_ex, e_gif, e_id32, e_id64, e_v0, e_v1, e_v2, e_v3, e_dt, e_c1, e_sw, e_inv, e_cat, e_rcv, Fin.val_zero, Fin.val_one, Int.toNat_add, Int.toNat_mul, Int.toNat_natCast, Int.reduceToNat, Int.reduceMul, Int.reduceAdd, Int.reduceNeg, Nat.reduceAdd, Nat.reduceSub, Nat.reduceEqDiff, Nat.reduceLT, Nat.reduceLeDiff, List.getElem?_cons_zero, List.getElem?_cons_succ, List.length_cons, List.length_nil, List.take_succ_cons, List.take_zero, List.drop_succ_cons, List.drop_zero, List.reverse_cons, List.reverse_nil, List.nil_append, List.cons_append, List.append_nil, List.map_cons, List.map_nil, List.sum_cons, List.sum_nil, Bool.false_eq_true, if_false, if_true, Bool.and_true, Bool.true_and, Bool.and_self, Bool.or_true, Bool.true_or, Bool.or_false, Bool.false_or, Bool.or_self, decide_eq_true_eq, decide_true, decide_false, beq_self_eq_true, Option.map_some, reduceCtorEq, true_or, or_true, or_false, false_or, or_self, true_and, and_true, and_self, false_and, and_false, Option.some.injEq, exists_eq_left', ne_eq, not_true_eq_false, not_false_eq_true, eq_self, e_pk, e_pr, e_pn, e_ps, e_pd1, e_pd2, e_us, e_un, e_ifp, e_ifn, e_sk, e_sr, e_sn, e_ss, e_sd1, e_sd2, e_sp, mk161 h.2.1.1.1, mk162 h.2.1.1.1, mk163 h.2.1.1.1, mk164 h.2.1.1.1, mk168 h.2.1.1.1, mr0 h.2.1.1.1, mr3 h.2.1.1.1, mr4 h.2.1.1.1, mr15 h.2.1.1.1, h.2.1.1.t1, h.2.1.1.b8, h.2.1.1.q8, h.o6, h.d3])
        | (refine And.intro (fun hc => ?_) (fun hc => ?_) <;> try (exfalso; omega))
      all_goals first | exact ih | (exfalso; omega) | skip
set_option maxRecDepth 8000 in
set_option maxHeartbeats 1000000 in
theorem w_isInside {k : Nat} {σ0 : eH} {r t b q v D u n : Nat} {B : Nat → Int} {c : List (Nat × Nat)} {lv : List (Nat × Nat)} {σ : eH} {Q : Option eV → eH → Prop} (hk : 1 ≤ k) (h : Mt σ0 r B t b q v c (k_fl lv u n) D σ) (hQ : Q (some (.inl (if lv = [] then 0 else 1))) σ) : e_Wp k 191 [.inr (.inr 163)] σ Q := by
  refine wp_in (nL := 2) (cd := e_k191) (by omega) (by rfl) (Nat.le_of_ble_eq_true rfl) ?_
  dsimp only [e_ent, Nat.reduceSub, List.replicate]
  refine gp_of (by rfl) ?_
  simp (disch := omega) only [e_wi, e_isr, e_isc, e_stp, e_rt, e_load, e_bin, e_binL, e_ld, e_s1, e_s2, e_n0, e_ok, e_cmp, e_ex, e_gif, e_id32, e_id64, e_v0, e_v1, e_v2, e_v3, e_dt, e_c1, e_sw, e_inv, e_cat, e_rcv, Fin.val_zero, Fin.val_one, Int.toNat_add, Int.toNat_mul, Int.toNat_natCast, Int.reduceToNat, Int.reduceMul, Int.reduceAdd, Int.reduceNeg, Nat.reduceAdd, Nat.reduceSub, Nat.reduceEqDiff, Nat.reduceLT, Nat.reduceLeDiff, List.getElem?_cons_zero, List.getElem?_cons_succ, List.length_cons, List.length_nil, List.take_succ_cons, List.take_zero, List.drop_succ_cons, List.drop_zero, List.reverse_cons, List.reverse_nil, List.nil_append, List.cons_append, List.append_nil, List.map_cons, List.map_nil, List.sum_cons, List.sum_nil, Bool.false_eq_true, if_false, if_true, Bool.and_true, Bool.true_and, Bool.and_self, Bool.or_true, Bool.true_or, Bool.or_false, Bool.false_or, Bool.or_self, decide_eq_true_eq, decide_true, decide_false, beq_self_eq_true, Option.map_some, reduceCtorEq, true_or, or_true, or_false, false_or, or_self, true_and, and_true, and_self, false_and, and_false, Option.some.injEq, exists_eq_left', ne_eq, not_true_eq_false, not_false_eq_true, eq_self, e_pk, e_pr, e_pn, e_ps, e_pd1, e_pd2, e_us, e_un, e_ifp, e_ifn, e_sk, e_sr, e_sn, e_ss, e_sd1, e_sd2, e_sp, mk161 h.2.1.1.1, mk162 h.2.1.1.1, mk163 h.2.1.1.1, mk164 h.2.1.1.1, mk168 h.2.1.1.1, mr0 h.2.1.1.1, mr3 h.2.1.1.1, mr4 h.2.1.1.1, mr15 h.2.1.1.1, h.2.1.1.t1, h.2.1.1.b8, h.2.1.1.q8, h.o6, h.d3]
  repeat' first
    | (refine gp_at [2] (by rfl) (by decide) ?_; simp (disch := omega) only [e_wi, e_isr, e_isc, e_stp, e_rt, e_load, e_bin, e_binL, e_ld, e_s1, e_s2, e_n0, e_ok, e_cmp, e_ex, e_gif, e_id32, e_id64, e_v0, e_v1, e_v2, e_v3, e_dt, e_c1, e_sw, e_inv, e_cat, e_rcv, Fin.val_zero, Fin.val_one, Int.toNat_add, Int.toNat_mul, Int.toNat_natCast, Int.reduceToNat, Int.reduceMul, Int.reduceAdd, Int.reduceNeg, Nat.reduceAdd, Nat.reduceSub, Nat.reduceEqDiff, Nat.reduceLT, Nat.reduceLeDiff, List.getElem?_cons_zero, List.getElem?_cons_succ, List.length_cons, List.length_nil, List.take_succ_cons, List.take_zero, List.drop_succ_cons, List.drop_zero, List.reverse_cons, List.reverse_nil, List.nil_append, List.cons_append, List.append_nil, List.map_cons, List.map_nil, List.sum_cons, List.sum_nil, Bool.false_eq_true, if_false, if_true, Bool.and_true, Bool.true_and, Bool.and_self, Bool.or_true, Bool.true_or, Bool.or_false, Bool.false_or, Bool.or_self, decide_eq_true_eq, decide_true, decide_false, beq_self_eq_true, Option.map_some, reduceCtorEq, true_or, or_true, or_false, false_or, or_self, true_and, and_true, and_self, false_and, and_false, Option.some.injEq, exists_eq_left', ne_eq, not_true_eq_false, not_false_eq_true, eq_self, e_pk, e_pr, e_pn, e_ps, e_pd1, e_pd2, e_us, e_un, e_ifp, e_ifn, e_sk, e_sr, e_sn, e_ss, e_sd1, e_sd2, e_sp, mk161 h.2.1.1.1, mk162 h.2.1.1.1, mk163 h.2.1.1.1, mk164 h.2.1.1.1, mk168 h.2.1.1.1, mr0 h.2.1.1.1, mr3 h.2.1.1.1, mr4 h.2.1.1.1, mr15 h.2.1.1.1, h.2.1.1.t1, h.2.1.1.b8, h.2.1.1.q8, h.o6, h.d3])
    | (refine And.intro (fun hc => ?_) (fun hc => ?_) <;> try (exfalso; omega))
  refine w_isInside_l h (k_fl_ok _ _ _) ?_ (k_fl lv u n).length 0 0 rfl (by omega) (fun x hx => by omega)
  by_cases e : lv = []
  · rw [if_pos e] at hQ
    rw [if_neg (fun q => (k_fl_91 lv u n).1 q e)]
    exact hQ
  · rw [if_neg e] at hQ
    rw [if_pos ((k_fl_91 lv u n).2 e)]
    exact hQ
theorem w_settle3 {k : Nat} {σ σ0 : eH} {r t b q v D u n : Nat} {B : Nat → Int} {c : List (Nat × Nat)} {lv : List (Nat × Nat)} {Q : Option eV → eH → Prop} (hk : 2 ≤ k) (h : Mt σ0 r B t b q v c (k_fl lv u n) D σ) (hu : u < 4) (hD : D + n ≤ 10) (hQ : ∀ τ, Mt σ0 r B t b q v (c ++ List.replicate n (11, 0)) (k_fl lv u 0) (D + n) τ → Q none τ) : e_Wp k 189 [.inr (.inr 163), .inl 3] σ Q := by
  rw [k_fl_n] at h
  refine w_settles (le := 3) (A := List.replicate n 11) (s := k_fl lv u 0) hk (by omega) (k_fl_h lv u hu) (k_fl_ok _ _ _) h (fun x hx => ?_) (by rw [List.count_replicate_self]; exact hD) (fun τ hτ => hQ τ ?_)
  · rw [List.eq_of_mem_replicate hx]
    exact ⟨Or.inl rfl, by decide⟩
  · rw [List.map_replicate, List.count_replicate_self] at hτ
    exact hτ
theorem w_settle1 {k : Nat} {σ σ0 : eH} {r t b q v D u : Nat} {B : Nat → Int} {c : List (Nat × Nat)} {lv : List (Nat × Nat)} {Q : Option eV → eH → Prop} (hk : 2 ≤ k) (h : Mt σ0 r B t b q v c (k_fl lv u 0) D σ) (hu : u < 4) (hQ : ∀ τ, Mt σ0 r B t b q v (c ++ k_ue u ++ k_uw u) (k_fr lv) D τ → Q none τ) : e_Wp k 189 [.inr (.inr 163), .inl 1] σ Q := by
  have hdd := h.dd
  rw [k_fl_0] at h
  have key : (k_us u).count 11 = 0 ∧ c ++ (k_us u).map (fun x => (x, 0)) = c ++ k_ue u ++ k_uw u := by
    rw [List.append_assoc]
    rcases k_us_c u hu with ⟨rfl, e⟩ | ⟨rfl, e⟩ | ⟨rfl, e⟩ | ⟨rfl, e⟩ <;> rw [e] <;> exact ⟨rfl, rfl⟩
  refine w_settles (le := 1) (A := k_us u) (s := k_fr lv) hk (by omega) (k_fr_h lv (by omega)) (k_fr_ok lv) h (fun x hx => ?_) (by rw [key.1]; omega) (fun τ hτ => hQ τ ?_)
  · rcases k_us_ok hx with rfl | rfl
    · exact ⟨Or.inr (Or.inl rfl), by decide⟩
    · exact ⟨Or.inr (Or.inr rfl), by decide⟩
  · rw [key.1, key.2, Nat.add_zero] at hτ
    exact hτ
theorem w_settle2 {k : Nat} {σ σ0 : eH} {r t b q v D u : Nat} {B : Nat → Int} {c : List (Nat × Nat)} {lv : List (Nat × Nat)} {Q : Option eV → eH → Prop} (hk : 2 ≤ k) (h : Mt σ0 r B t b q v c (k_fl lv u 0) D σ) (hu : u < 4) (hQ : ∀ τ s, 12 :: s = k_fl lv (2 + u % 2) 0 → Mt σ0 r B t b q v (c ++ k_ue u) s D τ → Q none τ) : e_Wp k 189 [.inr (.inr 163), .inl 2] σ Q := by
  have hdd := h.dd
  have e0 := k_fl_0 lv u
  rcases k_us_c u hu with ⟨rfl, e⟩ | ⟨rfl, e⟩ | ⟨rfl, e⟩ | ⟨rfl, e⟩ <;> rw [e] at e0 <;> rw [e0] at h
  · refine w_settles (le := 2) (A := []) (s := k_fr lv) hk (by omega) (k_fr_h lv (by omega)) (k_fr_ok lv) h (fun x hx => by cases hx) (by rw [List.count_nil]; omega) (fun τ hτ => hQ τ (k_fr lv) ?_ hτ)
    rw [k_fl_0]
    rfl
  · refine w_settles (le := 2) (A := []) (s := 13 :: k_fr lv) hk (by omega) (Or.inr ⟨13, _, rfl, by decide⟩) (by rw [← List.singleton_append, ← e0]; exact k_fl_ok _ _ _) h (fun x hx => by cases hx) (by rw [List.count_nil]; omega) (fun τ hτ => hQ τ (13 :: k_fr lv) ?_ hτ)
    rw [k_fl_0]
    rfl
  · refine w_settles (le := 2) (A := [12]) (s := k_fr lv) hk (by omega) (k_fr_h lv (by omega)) (k_fr_ok lv) h (fun x hx => by rw [List.mem_singleton.1 hx]; exact ⟨Or.inr (Or.inl rfl), by decide⟩) (by show D + 0 ≤ 10; omega) (fun τ hτ => hQ τ (k_fr lv) ?_ hτ)
    rw [k_fl_0]
    rfl
  · refine w_settles (le := 2) (A := [12]) (s := 13 :: k_fr lv) hk (by omega) (Or.inr ⟨13, _, rfl, by decide⟩) (fun x hx => by
      rcases List.mem_cons.1 hx with h1 | h1
      · omega
      · exact k_fr_ok lv x h1) h (fun x hx => by rw [List.mem_singleton.1 hx]; exact ⟨Or.inr (Or.inl rfl), by decide⟩) (by show D + 0 ≤ 10; omega) (fun τ hτ => hQ τ (13 :: k_fr lv) ?_ hτ)
    rw [k_fl_0]
    rfl
