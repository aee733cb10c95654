def Ft (P : Nat) (σ0 τ : eH) : Prop := Sm [163, 164, 168] [8, 9, 10, 12, 13, 16] σ0 τ ∧ ∀ j, j < P → τ.2.2.2.1 163 j = σ0.2.2.2.1 163 j
theorem Ft.rf (P : Nat) (σ : eH) : Ft P σ σ := ⟨Sm.rf _ _ _, fun _ _ => rfl⟩
theorem Ft.tr {P : Nat} {σ τ ρ : eH} (h : Ft P σ τ) (g : Ft P τ ρ) : Ft P σ ρ := ⟨h.1.tr g.1, fun j hj => (g.2 j hj).trans (h.2 j hj)⟩
theorem Fs.ft {P : Nat} {σ τ : eH} (h : Fs P σ τ) : Ft P σ τ := ⟨h.1.mn (by decide) (by decide), h.2⟩
/-- a stack, its top first -/
def r_sN (f : Nat → Int) : List Nat → Prop
  | [] => True
  | x :: s => f s.length = (x : Int) ∧ r_sN f s
theorem r_sN_up {f : Nat → Int} {x : Int} : ∀ (s : List Nat) (m : Nat), s.length ≤ m → r_sN f s → r_sN (va_up f m x) s
  | [], _, _, _ => trivial
  | y :: s, m, h, hs => by
    rw [List.length_cons] at h
    exact ⟨by rw [e_un _ (by omega)]; exact hs.1, r_sN_up s m (by omega) hs.2⟩
/-- the stack st of signs, D levels may still be opened -/
def Ss (τ : eH) (st : List Nat) (D : Nat) : Prop := τ.2.2.2.1 161 16 = (st.length : Int) ∧ τ.2.2.2.1 161 13 = 10 - (D : Int) ∧ D ≤ 10 ∧ r_sN (τ.2.2.2.1 168) st
def Mt (σ0 : eH) (r : Nat) (B : Nat → Int) (t b q v : Nat) (c : List (Nat × Nat)) (st : List Nat) (D : Nat) (τ : eH) : Prop := Ft (400 * r + b) σ0 τ ∧ Ms τ r B t b q v c τ ∧ Ss τ st D ∧ b + c.length + st.length ≤ k_sk B t q
def Mg (σ0 : eH) (P e : Nat) (τ : eH) : Prop := Mo τ ∧ Ft P σ0 τ ∧ τ.2.2.2.1 161 9 = (e : Int) ∧ e ≠ 0 ∧ e < 4000
theorem Ms.re {σ0 τ : eH} {r t b q v : Nat} {B : Nat → Int} {c : List (Nat × Nat)} (h : Ms σ0 r B t b q v c τ) : Ms τ r B t b q v c τ := ⟨h.1, Fs.rf _ _, h.2.2⟩
theorem Ss.fs {σ τ : eH} {st : List Nat} {D P : Nat} (h : Ss σ st D) (g : Fs P σ τ) : Ss τ st D := by
  unfold Ss
  rw [g.1.fd 16 (by decide), g.1.fd 13 (by decide), g.1.at 168 (by decide) (by decide)]
  exact h
/-- a step of the reading that leaves the stack -/
theorem Mt.s {σ0 σ τ : eH} {r t b q v q' v' : Nat} {B : Nat → Int} {c c' : List (Nat × Nat)} {st : List Nat} {D : Nat} (h : Mt σ0 r B t b q v c st D σ) (g : Ms σ r B t b q' v' c' τ) (hb : b + c'.length + st.length ≤ k_sk B t q') : Mt σ0 r B t b q' v' c' st D τ := ⟨h.1.tr g.2.1.ft, g.re, h.2.2.1.fs g.2.1, hb⟩
theorem Mt.f {σ0 σ τ : eH} {r t b q v e : Nat} {B : Nat → Int} {c : List (Nat × Nat)} {st : List Nat} {D : Nat} (h : Mt σ0 r B t b q v c st D σ) (g : Mf σ (400 * r + b) e τ) : Mg σ0 (400 * r + b) e τ := ⟨g.1, h.1.tr g.2.1.ft, g.2.2⟩
theorem Mt.at {σ0 τ : eH} {r t b q v x : Nat} {B : Nat → Int} {c : List (Nat × Nat)} {st : List Nat} {D : Nat} (h : Mt σ0 r B t b q v c st D τ) (hx : q ≤ x) (hxt : x ≤ t) : Mt σ0 r B t b x v c st D (k_at τ x) := h.s (h.2.1.at hx hxt) (Nat.le_trans h.2.2.2 (k_sk_m hx hxt))
theorem Mt.o6 {σ0 τ : eH} {r t b q v : Nat} {B : Nat → Int} {c : List (Nat × Nat)} {st : List Nat} {D : Nat} (h : Mt σ0 r B t b q v c st D τ) : τ.2.2.2.1 161 16 = (st.length : Int) := h.2.2.1.1
theorem Mt.d3 {σ0 τ : eH} {r t b q v : Nat} {B : Nat → Int} {c : List (Nat × Nat)} {st : List Nat} {D : Nat} (h : Mt σ0 r B t b q v c st D τ) : τ.2.2.2.1 161 13 = 10 - (D : Int) := h.2.2.1.2.1
theorem Mt.dd {σ0 τ : eH} {r t b q v : Nat} {B : Nat → Int} {c : List (Nat × Nat)} {st : List Nat} {D : Nat} (h : Mt σ0 r B t b q v c st D τ) : D ≤ 10 ∧ b + c.length + st.length ≤ k_sk B t q ∧ k_sk B t q ≤ t ∧ t ≤ 400 ∧ q ≤ k_sk B t q := ⟨h.2.2.1.2.2.1, h.2.2.2, h.2.1.en.2, h.2.1.1.qt.2, h.2.1.en.1⟩
/-- pushing a sign -/
theorem Mt.pu {σ0 τ ρ : eH} {r t b q v x D D' : Nat} {B : Nat → Int} {c : List (Nat × Nat)} {st : List Nat} (h : Mt σ0 r B t b q v c st D τ) (hs : Sm [168] [13, 16] τ ρ) (h16 : ρ.2.2.2.1 161 16 = (st.length : Int) + 1) (h13 : ρ.2.2.2.1 161 13 = 10 - (D' : Int)) (hD : D' ≤ 10) (h168 : ρ.2.2.2.1 168 = va_up (τ.2.2.2.1 168) st.length (x : Int)) (hb : b + c.length + st.length + 1 ≤ k_sk B t q) : Mt σ0 r B t b q v c (x :: st) D' ρ := by
  obtain ⟨⟨k1, k2⟩, ⟨⟨m0, m1, m2, m3, m4⟩, m5, m6, m7, m8, m9, m10, m11, m12, m13⟩, ⟨s1, s2, s3, s4⟩, hb0⟩ := h
  refine ⟨⟨k1.tr (hs.mn (by decide) (by decide)), fun j hj => ?_⟩, ⟨⟨hs.mo m0, ?_, ?_, ?_, m4⟩, Fs.rf _ _, ?_, ?_, m8, ?_, m10, ?_, ?_, m13⟩, ⟨?_, h13, hD, ?_⟩, ?_⟩
  · rw [hs.at 163 (by decide) (by decide)]; exact k2 j hj
  · rw [hs.fd _ (by decide)]; exact m1
  · rw [hs.at _ (by decide) (by decide)]; exact m2
  · rw [hs.fd _ (by decide)]; exact m3
  · rw [hs.fd _ (by decide)]; exact m6
  · rw [hs.fd _ (by decide)]; exact m7
  · rw [hs.fd _ (by decide)]; exact m9
  · rw [hs.at 164 (by decide) (by decide)]; exact m11
  · rw [hs.at 163 (by decide) (by decide)]; exact m12
  · rw [h16, List.length_cons]; omega
  · rw [h168]
    exact ⟨e_us _ _ _, r_sN_up st _ (Nat.le_refl _) s4⟩
  · rw [List.length_cons]
    omega
/-- popping one -/
theorem Mt.po {σ0 τ ρ : eH} {r t b q v x D D' : Nat} {B : Nat → Int} {c : List (Nat × Nat)} {st : List Nat} (h : Mt σ0 r B t b q v c (x :: st) D τ) (hs : Sm [] [13, 16] τ ρ) (h16 : ρ.2.2.2.1 161 16 = (st.length : Int)) (h13 : ρ.2.2.2.1 161 13 = 10 - (D' : Int)) (hD : D' ≤ 10) : Mt σ0 r B t b q v c st D' ρ := by
  obtain ⟨⟨k1, k2⟩, ⟨⟨m0, m1, m2, m3, m4⟩, m5, m6, m7, m8, m9, m10, m11, m12, m13⟩, ⟨s1, s2, s3, s4⟩, hb0⟩ := h
  rw [List.length_cons] at hb0
  refine ⟨⟨k1.tr (hs.mn (by decide) (by decide)), fun j hj => ?_⟩, ⟨⟨hs.mo m0, ?_, ?_, ?_, m4⟩, Fs.rf _ _, ?_, ?_, m8, ?_, m10, ?_, ?_, m13⟩, ⟨h16, h13, hD, ?_⟩, by omega⟩
  · rw [hs.at 163 (by decide) (by decide)]; exact k2 j hj
  · rw [hs.fd _ (by decide)]; exact m1
  · rw [hs.at _ (by decide) (by decide)]; exact m2
  · rw [hs.fd _ (by decide)]; exact m3
  · rw [hs.fd _ (by decide)]; exact m6
  · rw [hs.fd _ (by decide)]; exact m7
  · rw [hs.fd _ (by decide)]; exact m9
  · rw [hs.at 164 (by decide) (by decide)]; exact m11
  · rw [hs.at 163 (by decide) (by decide)]; exact m12
  · rw [hs.at 168 (by decide) (by decide)]; exact s4.2
theorem k_at_sm {σ ρ : eH} {L F : List Nat} (h : Sm L F σ ρ) (y : Nat) : Sm L F (k_at σ y) (k_at ρ y) := by
  refine ⟨h.1, h.2.1, h.2.2.1, h.2.2.2.1, fun a ha hb => ?_, fun i hi => ?_⟩
  · unfold k_at
    rw [e_pd2 _ hb, e_pd2 _ hb]
    exact h.at a ha hb
  · unfold k_at
    rw [e_pd1, e_pd1]
    by_cases e : i = 8
    · rw [e, e_us, e_us]
    · rw [e_un _ e, e_un _ e]
      exact h.fd i hi
set_option maxRecDepth 8000 in
set_option maxHeartbeats 1000000 in
theorem w_strength {k : Nat} {x : Nat} {σ : eH} {Q : Option eV → eH → Prop} (hk : 1 ≤ k) (hx : x = 11 ∨ x = 12 ∨ x = 13 ∨ x = 91) (hQ : Q (some (.inl (if x = 13 then 1 else if x = 12 then 2 else if x = 11 then 3 else 0))) σ) : e_Wp k 190 [.inl (x : Int)] σ Q := by
  refine wp_in (nL := 1) (cd := e_k190) (by omega) (by rfl) (Nat.le_of_ble_eq_true rfl) ?_
  dsimp only [e_ent, Nat.reduceSub, List.replicate]
  rcases hx with rfl | rfl | rfl | rfl
  all_goals
    refine gp_of (by rfl) ?_
    simp (disch := omega) only [e_wi, e_isr, e_isc, e_stp, e_rt, e_load, e_bin, e_binL, e_ld, e_s1, e_s2, e_n0, e_ok, e_cmp, e_ex, e_gif, e_id32, e_id64, e_v0, e_v1, e_v2, e_v3, e_dt, e_c1, e_sw, e_inv, e_cat, e_rcv, Fin.val_zero, Fin.val_one, Int.toNat_add, Int.toNat_mul, Int.toNat_natCast, Int.reduceToNat, Int.reduceMul, Int.reduceAdd, Int.reduceNeg, Nat.reduceAdd, Nat.reduceSub, Nat.reduceEqDiff, Nat.reduceLT, Nat.reduceLeDiff, List.getElem?_cons_zero, List.getElem?_cons_succ, List.length_cons, List.length_nil, List.take_succ_cons, List.take_zero, List.drop_succ_cons, List.drop_zero, List.reverse_cons, List.reverse_nil, List.nil_append, List.cons_append, List.append_nil, List.map_cons, List.map_nil, List.sum_cons, List.sum_nil, Bool.false_eq_true, if_false, if_true, Bool.and_true, Bool.true_and, Bool.and_self, Bool.or_true, Bool.true_or, Bool.or_false, Bool.false_or, Bool.or_self, decide_eq_true_eq, decide_true, decide_false, beq_self_eq_true, Option.map_some, reduceCtorEq, true_or, or_true, or_false, false_or, or_self, true_and, and_true, and_self, false_and, and_false, Option.some.injEq, exists_eq_left', ne_eq, not_true_eq_false, not_false_eq_true, eq_self, e_pk, e_pr, e_pn, e_ps, e_pd1, e_pd2, e_us, e_un, e_ifp, e_ifn, e_sk, e_sr, e_sn, e_ss, e_sd1, e_sd2, e_sp]
    repeat' first
      | (refine gp_at [] (by rfl) (by decide) ?_; simp (disch := omega) only [e_wi, e_isr, e_isc, e_stp, e_rt, e_load, e_bin, e_binL, e_ld, e_s1, e_s2, e_n0, e_ok, e_cmp, e_ex, e_gif, e_id32, e_id64, e_v0, e_v1, e_v2, e_v3, e_dt, e_c1, e_sw, e_inv, e_cat, e_rcv, Fin.val_zero, Fin.val_one, Int.toNat_add, Int.toNat_mul, Int.toNat_natCast, Int.reduceToNat, Int.reduceMul, Int.reduceAdd, Int.reduceNeg, Nat.reduceAdd, Nat.reduceSub, Nat.reduceEqDiff, Nat.reduceLT, Nat.reduceLeDiff, List.getElem?_cons_zero, List.getElem?_cons_succ, List.length_cons, List.length_nil, List.take_succ_cons, List.take_zero, List.drop_succ_cons, List.drop_zero, List.reverse_cons, List.reverse_nil, List.nil_append, List.cons_append, List.append_nil, List.map_cons, List.map_nil, List.sum_cons, List.sum_nil, Bool.false_eq_true, if_false, if_true, Bool.and_true, Bool.true_and, Bool.and_self, Bool.or_true, Bool.true_or, Bool.or_false, Bool.false_or, Bool.or_self, decide_eq_true_eq, decide_true, decide_false, beq_self_eq_true, Option.map_some, reduceCtorEq, true_or, or_true, or_false, false_or, or_self, true_and, and_true, and_self, false_and, and_false, Option.some.injEq, exists_eq_left', ne_eq, not_true_eq_false, not_false_eq_true, eq_self, e_pk, e_pr, e_pn, e_ps, e_pd1, e_pd2, e_us, e_un, e_ifp, e_ifn, e_sk, e_sr, e_sn, e_ss, e_sd1, e_sd2, e_sp])
      | (refine And.intro (fun hc => ?_) (fun hc => ?_) <;> try (exfalso; omega))
    all_goals first | exact hQ | (exfalso; omega) | skip
/-- another depth -/
theorem Mt.d5 {σ0 τ ρ : eH} {r t b q v D D' : Nat} {B : Nat → Int} {c : List (Nat × Nat)} {st : List Nat} (h : Mt σ0 r B t b q v c st D τ) (hs : Sm [] [13, 16] τ ρ) (h16 : ρ.2.2.2.1 161 16 = (st.length : Int)) (h13 : ρ.2.2.2.1 161 13 = 10 - (D' : Int)) (hD : D' ≤ 10) : Mt σ0 r B t b q v c st D' ρ := by
  obtain ⟨⟨k1, k2⟩, ⟨⟨m0, m1, m2, m3, m4⟩, m5, m6, m7, m8, m9, m10, m11, m12, m13⟩, ⟨s1, s2, s3, s4⟩, hb0⟩ := h
  refine ⟨⟨k1.tr (hs.mn (by decide) (by decide)), fun j hj => ?_⟩, ⟨⟨hs.mo m0, ?_, ?_, ?_, m4⟩, Fs.rf _ _, ?_, ?_, m8, ?_, m10, ?_, ?_, m13⟩, ⟨h16, h13, hD, ?_⟩, hb0⟩
  · rw [hs.at 163 (by decide) (by decide)]; exact k2 j hj
  · rw [hs.fd _ (by decide)]; exact m1
  · rw [hs.at _ (by decide) (by decide)]; exact m2
  · rw [hs.fd _ (by decide)]; exact m3
  · rw [hs.fd _ (by decide)]; exact m6
  · rw [hs.fd _ (by decide)]; exact m7
  · rw [hs.fd _ (by decide)]; exact m9
  · rw [hs.at 164 (by decide) (by decide)]; exact m11
  · rw [hs.at 163 (by decide) (by decide)]; exact m12
  · rw [hs.at 168 (by decide) (by decide)]; exact s4
set_option maxRecDepth 8000 in
set_option maxHeartbeats 1000000 in
theorem w_opens {k : Nat} {σ0 : eH} {r t b q v D : Nat} {B : Nat → Int} {c : List (Nat × Nat)} {st : List Nat} {x : Nat} {σ : eH} {Q : Option eV → eH → Prop} (hk : 2 ≤ k) (h : Mt σ0 r B t b q v c st D σ) (hq : k_sk B t q = q) (hqt : q < t) (hF : D = 0 → ∀ τ, Mg σ0 (400 * r + b) (3 + 8 * q) τ → Q (some (.inl 0)) τ) (hG : ∀ D', D = D' + 1 → ∀ τ, (∀ y, q < y → y ≤ t → Mt σ0 r B t b y v c (x :: st) D' (k_at τ y)) → Mr τ B t q → Q (some (.inl 1)) τ) : e_Wp k 186 [.inr (.inr 163), .inl (x : Int)] σ Q := by
  refine wp_in (nL := 2) (cd := e_k186) (by omega) (by rfl) (Nat.le_of_ble_eq_true rfl) ?_
  dsimp only [e_ent, Nat.reduceSub, List.replicate]
  have hdd := h.dd
  by_cases hD : D = 0
  · have hm := h.f (h.2.1.bl (x := 1 + 8 * (q : Int) + 2) (f := 3 + 8 * q) (by omega) (by omega) (by omega))
    have hQ := hF hD _ hm
    refine gp_of (by rfl) ?_
    simp (disch := omega) only [e_wi, e_isr, e_isc, e_stp, e_rt, e_load, e_bin, e_binL, e_ld, e_s1, e_s2, e_n0, e_ok, e_cmp, e_ex, e_gif, e_id32, e_id64, e_v0, e_v1, e_v2, e_v3, e_dt, e_c1, e_sw, e_inv, e_cat, e_rcv, Fin.val_zero, Fin.val_one, Int.toNat_add, Int.toNat_mul, Int.toNat_natCast, Int.reduceToNat, Int.reduceMul, Int.reduceAdd, Int.reduceNeg, Nat.reduceAdd, Nat.reduceSub, Nat.reduceEqDiff, Nat.reduceLT, Nat.reduceLeDiff, List.getElem?_cons_zero, List.getElem?_cons_succ, List.length_cons, List.length_nil, List.take_succ_cons, List.take_zero, List.drop_succ_cons, List.drop_zero, List.reverse_cons, List.reverse_nil, List.nil_append, List.cons_append, List.append_nil, List.map_cons, List.map_nil, List.sum_cons, List.sum_nil, Bool.false_eq_true, if_false, if_true, Bool.and_true, Bool.true_and, Bool.and_self, Bool.or_true, Bool.true_or, Bool.or_false, Bool.false_or, Bool.or_self, decide_eq_true_eq, decide_true, decide_false, beq_self_eq_true, Option.map_some, reduceCtorEq, true_or, or_true, or_false, false_or, or_self, true_and, and_true, and_self, false_and, and_false, Option.some.injEq, exists_eq_left', ne_eq, not_true_eq_false, not_false_eq_true, eq_self, e_pk, e_pr, e_pn, e_ps, e_pd1, e_pd2, e_us, e_un, e_ifp, e_ifn, e_sk, e_sr, e_sn, e_ss, e_sd1, e_sd2, e_sp, mk161 h.2.1.1.1, mk162 h.2.1.1.1, mk163 h.2.1.1.1, mk164 h.2.1.1.1, mk168 h.2.1.1.1, mr0 h.2.1.1.1, mr3 h.2.1.1.1, mr4 h.2.1.1.1, mr15 h.2.1.1.1, h.2.1.1.t1, h.2.1.1.b8, h.2.1.1.q8, h.o6, h.d3]
    repeat' first
      | (refine gp_at [] (by rfl) (by decide) ?_; simp (disch := omega) only [e_wi, e_isr, e_isc, e_stp, e_rt, e_load, e_bin, e_binL, e_ld, e_s1, e_s2, e_n0, e_ok, e_cmp, e_ex, e_gif, e_id32, e_id64, e_v0, e_v1, e_v2, e_v3, e_dt, e_c1, e_sw, e_inv, e_cat, e_rcv, Fin.val_zero, Fin.val_one, Int.toNat_add, Int.toNat_mul, Int.toNat_natCast, Int.reduceToNat, Int.reduceMul, Int.reduceAdd, Int.reduceNeg, Nat.reduceAdd, Nat.reduceSub, Nat.reduceEqDiff, Nat.reduceLT, Nat.reduceLeDiff, List.getElem?_cons_zero, List.getElem?_cons_succ, List.length_cons, List.length_nil, List.take_succ_cons, List.take_zero, List.drop_succ_cons, List.drop_zero, List.reverse_cons, List.reverse_nil, List.nil_append, List.cons_append, List.append_nil, List.map_cons, List.map_nil, List.sum_cons, List.sum_nil, Bool.false_eq_true, if_false, if_true, Bool.and_true, Bool.true_and, Bool.and_self, Bool.or_true, Bool.true_or, Bool.or_false, Bool.false_or, Bool.or_self, decide_eq_true_eq, decide_true, decide_false, beq_self_eq_true, Option.map_some, reduceCtorEq, true_or, or_true, or_false, false_or, or_self, true_and, and_true, and_self, false_and, and_false, Option.some.injEq, exists_eq_left', ne_eq, not_true_eq_false, not_false_eq_true, eq_self, e_pk, e_pr, e_pn, e_ps, e_pd1, e_pd2, e_us, e_un, e_ifp, e_ifn, e_sk, e_sr, e_sn, e_ss, e_sd1, e_sd2, e_sp, mk161 h.2.1.1.1, mk162 h.2.1.1.1, mk163 h.2.1.1.1, mk164 h.2.1.1.1, mk168 h.2.1.1.1, mr0 h.2.1.1.1, mr3 h.2.1.1.1, mr4 h.2.1.1.1, mr15 h.2.1.1.1, h.2.1.1.t1, h.2.1.1.b8, h.2.1.1.q8, h.o6, h.d3])
      | (refine And.intro (fun hc => ?_) (fun hc => ?_) <;> try (exfalso; omega))
      | ((refine w_fails (by omega) h.2.1.1.1 h.2.1.w9 ?_) <;> try dsimp only [Option.toList, List.cons_append, List.nil_append, Nat.reduceAdd])
    all_goals first | exact hQ | (exfalso; omega) | skip
  · obtain ⟨D', rfl⟩ : ∃ z, D = z + 1 := ⟨D - 1, by omega⟩
    have hs : Sm [168] [13, 16] σ (e_put (e_put (e_put σ 161 13 (10 - ((D' + 1 : Nat) : Int) + 1)) 168 st.length (x : Int)) 161 16 ((st.length : Int) + 1)) := (((Sm.rf [168] [13, 16] σ).pf (by decide)).put (by decide) (by decide)).pf (by decide)
    have hQ := hG D' rfl _ (fun y hy hyt => by
      have hsm := k_sk_b (B := B) hyt
      have h2 : Mt σ0 r B t b y v c st (D' + 1) (k_at σ y) := h.at (by omega) hyt
      refine h2.pu (ρ := k_at _ y) ?_ ?_ ?_ (by omega) ?_ (by omega)
      · exact k_at_sm hs y
      · unfold k_at
        rw [e_pd1, e_un _ (by omega), e_pd1, e_us]
      · unfold k_at
        rw [e_pd1, e_un _ (by omega), e_pd1, e_un _ (by omega), e_pd2 _ (by omega), e_pd1, e_us]
        omega
      · unfold k_at
        rw [e_pd2 _ (by omega), e_pd2 _ (by omega), e_pd1, e_pd2 _ (by omega), e_pd2 _ (by omega)]) ⟨hs.mo h.2.1.1.1, by rw [hs.fd _ (by decide)]; exact h.2.1.1.t1, by rw [hs.at _ (by decide) (by decide)]; exact h.2.1.1.b8, by rw [hs.fd _ (by decide)]; exact h.2.1.1.q8, h.2.1.1.2.2.2.2⟩
    refine gp_of (by rfl) ?_
    simp (disch := omega) only [e_wi, e_isr, e_isc, e_stp, e_rt, e_load, e_bin, e_binL, e_ld, e_s1, e_s2, e_n0, e_ok, e_cmp, e_ex, e_gif, e_id32, e_id64, e_v0, e_v1, e_v2, e_v3, e_dt, e_c1, e_sw, e_inv, e_cat, e_rcv, Fin.val_zero, Fin.val_one, Int.toNat_add, Int.toNat_mul, Int.toNat_natCast, Int.reduceToNat, Int.reduceMul, Int.reduceAdd, Int.reduceNeg, Nat.reduceAdd, Nat.reduceSub, Nat.reduceEqDiff, Nat.reduceLT, Nat.reduceLeDiff, List.getElem?_cons_zero, List.getElem?_cons_succ, List.length_cons, List.length_nil, List.take_succ_cons, List.take_zero, List.drop_succ_cons, List.drop_zero, List.reverse_cons, List.reverse_nil, List.nil_append, List.cons_append, List.append_nil, List.map_cons, List.map_nil, List.sum_cons, List.sum_nil, Bool.false_eq_true, if_false, if_true, Bool.and_true, Bool.true_and, Bool.and_self, Bool.or_true, Bool.true_or, Bool.or_false, Bool.false_or, Bool.or_self, decide_eq_true_eq, decide_true, decide_false, beq_self_eq_true, Option.map_some, reduceCtorEq, true_or, or_true, or_false, false_or, or_self, true_and, and_true, and_self, false_and, and_false, Option.some.injEq, exists_eq_left', ne_eq, not_true_eq_false, not_false_eq_true, eq_self, e_pk, e_pr, e_pn, e_ps, e_pd1, e_pd2, e_us, e_un, e_ifp, e_ifn, e_sk, e_sr, e_sn, e_ss, e_sd1, e_sd2, e_sp, mk161 h.2.1.1.1, mk162 h.2.1.1.1, mk163 h.2.1.1.1, mk164 h.2.1.1.1, mk168 h.2.1.1.1, mr0 h.2.1.1.1, mr3 h.2.1.1.1, mr4 h.2.1.1.1, mr15 h.2.1.1.1, h.2.1.1.t1, h.2.1.1.b8, h.2.1.1.q8, h.o6, h.d3]
    repeat' first
      | (refine gp_at [] (by rfl) (by decide) ?_; simp (disch := omega) only [e_wi, e_isr, e_isc, e_stp, e_rt, e_load, e_bin, e_binL, e_ld, e_s1, e_s2, e_n0, e_ok, e_cmp, e_ex, e_gif, e_id32, e_id64, e_v0, e_v1, e_v2, e_v3, e_dt, e_c1, e_sw, e_inv, e_cat, e_rcv, Fin.val_zero, Fin.val_one, Int.toNat_add, Int.toNat_mul, Int.toNat_natCast, Int.reduceToNat, Int.reduceMul, Int.reduceAdd, Int.reduceNeg, Nat.reduceAdd, Nat.reduceSub, Nat.reduceEqDiff, Nat.reduceLT, Nat.reduceLeDiff, List.getElem?_cons_zero, List.getElem?_cons_succ, List.length_cons, List.length_nil, List.take_succ_cons, List.take_zero, List.drop_succ_cons, List.drop_zero, List.reverse_cons, List.reverse_nil, List.nil_append, List.cons_append, List.append_nil, List.map_cons, List.map_nil, List.sum_cons, List.sum_nil, Bool.false_eq_true, if_false, if_true, Bool.and_true, Bool.true_and, Bool.and_self, Bool.or_true, Bool.true_or, Bool.or_false, Bool.false_or, Bool.or_self, decide_eq_true_eq, decide_true, decide_false, beq_self_eq_true, Option.map_some, reduceCtorEq, true_or, or_true, or_false, false_or, or_self, true_and, and_true, and_self, false_and, and_false, Option.some.injEq, exists_eq_left', ne_eq, not_true_eq_false, not_false_eq_true, eq_self, e_pk, e_pr, e_pn, e_ps, e_pd1, e_pd2, e_us, e_un, e_ifp, e_ifn, e_sk, e_sr, e_sn, e_ss, e_sd1, e_sd2, e_sp, mk161 h.2.1.1.1, mk162 h.2.1.1.1, mk163 h.2.1.1.1, mk164 h.2.1.1.1, mk168 h.2.1.1.1, mr0 h.2.1.1.1, mr3 h.2.1.1.1, mr4 h.2.1.1.1, mr15 h.2.1.1.1, h.2.1.1.t1, h.2.1.1.b8, h.2.1.1.q8, h.o6, h.d3])
      | (refine And.intro (fun hc => ?_) (fun hc => ?_) <;> try (exfalso; omega))
    all_goals first | exact hQ | (exfalso; omega) | skip
/-- how strong a sign is -/
def k_st (x : Nat) : Nat := if x = 13 then 1 else if x = 12 then 2 else if x = 11 then 3 else 0
def k_ok (st : List Nat) : Prop := ∀ x, x ∈ st → x = 11 ∨ x = 12 ∨ x = 13 ∨ x = 91
set_option maxRecDepth 8000 in
set_option maxHeartbeats 4000000 in
theorem w_settles_l {k : Nat} {σ0 : eH} {r t b q v le : Nat} {B : Nat → Int} {s : List Nat} {Q : Option eV → eH → Prop} (hk : 1 ≤ k) (hle : 1 ≤ le ∧ le ≤ 3) (hs : s = [] ∨ ∃ x s', s = x :: s' ∧ k_st x < le) (hks : k_ok s) : ∀ (A : List Nat) (D : Nat) (c : List (Nat × Nat)) (σ : eH), Mt σ0 r B t b q v c (A ++ s) D σ → (∀ x, x ∈ A → (x = 11 ∨ x = 12 ∨ x = 13) ∧ le ≤ k_st x) → D + A.count 11 ≤ 10 → (∀ τ, Mt σ0 r B t b q v (c ++ A.map (fun x => (x, 0))) s (D + A.count 11) τ → Q none τ) → e_Gp k e_k189 0 [some (.inr (.inr 163)), some (.inl (le : Int))] [] σ Q
  | [], D, c, σ, h, hA, hD, hQ => by
    have hQ0 := hQ σ (by
      rw [List.map_nil, List.append_nil, List.count_nil, Nat.add_zero]
      exact h)
    have h : Mt σ0 r B t b q v c s D σ := h
    clear hQ
    have hdd := h.dd
    rcases hs with rfl | ⟨x, s', rfl, hx⟩
    · have h16 : σ.2.2.2.1 161 16 = 0 := h.o6
      refine gp_of (by rfl) ?_
      simp (disch := omega) only [e_wi, e_isr, e_isc, e_stp, e_rt, e_load, e_bin, e_binL, e_ld, e_s1, e_s2, e_n0, e_ok, e_cmp, e_ex, e_gif, e_id32, e_id64, e_v0, e_v1, e_v2, e_v3, e_dt, e_c1, e_sw, e_inv, e_cat, e_rcv, Fin.val_zero, Fin.val_one, Int.toNat_add, Int.toNat_mul, Int.toNat_natCast, Int.reduceToNat, Int.reduceMul, Int.reduceAdd, Int.reduceNeg, Nat.reduceAdd, Nat.reduceSub, Nat.reduceEqDiff, Nat.reduceLT, Nat.reduceLeDiff, List.getElem?_cons_zero, List.getElem?_cons_succ, List.length_cons, List.length_nil, List.take_succ_cons, List.take_zero, List.drop_succ_cons, List.drop_zero, List.reverse_cons, List.reverse_nil, List.nil_append, List.cons_append, List.append_nil, List.map_cons, List.map_nil, List.sum_cons, List.sum_nil, Bool.false_eq_true, if_false, if_true, Bool.and_true, Bool.true_and, Bool.and_self, Bool.or_true, Bool.true_or, Bool.or_false, Bool.false_or, Bool.or_self, decide_eq_true_eq, decide_true, decide_false, beq_self_eq_true, Option.map_some, reduceCtorEq, true_or, or_true, or_false, false_or, or_self, true_and, and_true, and_self, false_and, and_false, Option.some.injEq, exists_eq_left', ne_eq, not_true_eq_false, not_false_eq_true, eq_self, e_pk, e_pr, e_pn, e_ps, e_pd1, e_pd2, e_us, e_un, e_ifp, e_ifn, e_sk, e_sr, e_sn, e_ss, e_sd1, e_sd2, e_sp, mk161 h.2.1.1.1, mk162 h.2.1.1.1, mk163 h.2.1.1.1, mk164 h.2.1.1.1, mk168 h.2.1.1.1, mr0 h.2.1.1.1, mr3 h.2.1.1.1, mr4 h.2.1.1.1, mr15 h.2.1.1.1, h.2.1.1.t1, h.2.1.1.b8, h.2.1.1.q8, h.d3, h16]
      repeat' first
        | (refine gp_at [] (by rfl) (by decide) ?_; simp (disch := omega) only [e_wi, e_isr, e_isc, e_stp, e_rt, e_load, e_bin, e_binL, e_ld, e_s1, e_s2, e_n0, e_ok, e_cmp, e_ex, e_gif, e_id32, e_id64, e_v0, e_v1, e_v2, e_v3, e_dt, e_c1, e_sw, e_inv, e_cat, e_rcv, Fin.val_zero, Fin.val_one, Int.toNat_add, Int.toNat_mul, Int.toNat_natCast, Int.reduceToNat, Int.reduceMul, Int.reduceAdd, Int.reduceNeg, Nat.reduceAdd, Nat.reduceSub, Nat.reduceEqDiff, Nat.reduceLT, Nat.reduceLeDiff, List.getElem?_cons_zero, List.getElem?_cons_succ, List.length_cons, List.length_nil, List.take_succ_cons, List.take_zero, List.drop_succ_cons, List.drop_zero, List.reverse_cons, List.reverse_nil, List.nil_append, List.cons_append, List.append_nil, List.map_cons, List.map_nil, List.sum_cons, List.sum_nil, Bool.false_eq_true, if_false, if_true, Bool.and_true, Bool.true_and, Bool.and_self, Bool.or_true, Bool.true_or, Bool.or_false, Bool.false_or, Bool.or_self, decide_eq_true_eq, decide_true, decide_false, beq_self_eq_true, Option.map_some, reduceCtorEq, true_or, or_true, or_false, false_or, or_self, true_and, and_true, and_self, false_and, and_false, Option.some.injEq, exists_eq_left', ne_eq, not_true_eq_false, not_false_eq_true, eq_self, e_pk, e_pr, e_pn, e_ps, e_pd1, e_pd2, e_us, e_un, e_ifp, e_ifn, e_sk, e_sr, e_sn, e_ss, e_sd1, e_sd2, e_sp, mk161 h.2.1.1.1, mk162 h.2.1.1.1, mk163 h.2.1.1.1, mk164 h.2.1.1.1, mk168 h.2.1.1.1, mr0 h.2.1.1.1, mr3 h.2.1.1.1, mr4 h.2.1.1.1, mr15 h.2.1.1.1, h.2.1.1.t1, h.2.1.1.b8, h.2.1.1.q8, h.d3, h16])
        | (refine And.intro (fun hc => ?_) (fun hc => ?_) <;> try (exfalso; omega))
      all_goals first | exact hQ0 | (exfalso; omega) | skip
    · have hxx := hks x (List.mem_cons_self ..)
      have htop : σ.2.2.2.1 168 s'.length = (x : Int) := h.2.2.1.2.2.2.1
      have h16 : σ.2.2.2.1 161 16 = (s'.length : Int) + 1 := by rw [h.o6, List.length_cons]; omega
      have e1 : (s'.length : Int) + 1 - 1 = (s'.length : Int) := by omega
      rw [List.length_cons] at hdd
      unfold k_st at hx
      refine gp_of (by rfl) ?_
      simp (disch := omega) only [e_wi, e_isr, e_isc, e_stp, e_rt, e_load, e_bin, e_binL, e_ld, e_s1, e_s2, e_n0, e_ok, e_cmp, e_ex, e_gif, e_id32, e_id64, e_v0, e_v1, e_v2, e_v3, e_dt, e_c1, e_sw, e_inv, e_cat, e_rcv, Fin.val_zero, Fin.val_one, Int.toNat_add, Int.toNat_mul, Int.toNat_natCast, Int.reduceToNat, Int.reduceMul, Int.reduceAdd, Int.reduceNeg, Nat.reduceAdd, Nat.reduceSub, Nat.reduceEqDiff, Nat.reduceLT, Nat.reduceLeDiff, List.getElem?_cons_zero, List.getElem?_cons_succ, List.length_cons, List.length_nil, List.take_succ_cons, List.take_zero, List.drop_succ_cons, List.drop_zero, List.reverse_cons, List.reverse_nil, List.nil_append, List.cons_append, List.append_nil, List.map_cons, List.map_nil, List.sum_cons, List.sum_nil, Bool.false_eq_true, if_false, if_true, Bool.and_true, Bool.true_and, Bool.and_self, Bool.or_true, Bool.true_or, Bool.or_false, Bool.false_or, Bool.or_self, decide_eq_true_eq, decide_true, decide_false, beq_self_eq_true, Option.map_some, reduceCtorEq, true_or, or_true, or_false, false_or, or_self, true_and, and_true, and_self, false_and, and_false, Option.some.injEq, exists_eq_left', ne_eq, not_true_eq_false, not_false_eq_true, eq_self, e_pk, e_pr, e_pn, e_ps, e_pd1, e_pd2, e_us, e_un, e_ifp, e_ifn, e_sk, e_sr, e_sn, e_ss, e_sd1, e_sd2, e_sp, mk161 h.2.1.1.1, mk162 h.2.1.1.1, mk163 h.2.1.1.1, mk164 h.2.1.1.1, mk168 h.2.1.1.1, mr0 h.2.1.1.1, mr3 h.2.1.1.1, mr4 h.2.1.1.1, mr15 h.2.1.1.1, h.2.1.1.t1, h.2.1.1.b8, h.2.1.1.q8, h.d3, h16, e1, htop]
      repeat' first
        | (refine gp_at [] (by rfl) (by decide) ?_; simp (disch := omega) only [e_wi, e_isr, e_isc, e_stp, e_rt, e_load, e_bin, e_binL, e_ld, e_s1, e_s2, e_n0, e_ok, e_cmp, e_ex, e_gif, e_id32, e_id64, e_v0, e_v1, e_v2, e_v3, e_dt, e_c1, e_sw, e_inv, e_cat, e_rcv, Fin.val_zero, Fin.val_one, Int.toNat_add, Int.toNat_mul, Int.toNat_natCast, Int.reduceToNat, Int.reduceMul, Int.reduceAdd, Int.reduceNeg, Nat.reduceAdd, Nat.reduceSub, Nat.reduceEqDiff, Nat.reduceLT, Nat.reduceLeDiff, List.getElem?_cons_zero, List.getElem?_cons_succ, List.length_cons, List.length_nil, List.take_succ_cons, List.take_zero, List.drop_succ_cons, List.drop_zero, List.reverse_cons, List.reverse_nil, List.nil_append, List.cons_append, List.append_nil, List.map_cons, List.map_nil, List.sum_cons, List.sum_nil, Bool.false_eq_true, if_false, if_true, Bool.and_true, Bool.true_and, Bool.and_self, Bool.or_true, Bool.true_or, Bool.or_false, Bool.false_or, Bool.or_self, decide_eq_true_eq, decide_true, decide_false, beq_self_eq_true, Option.map_some, reduceCtorEq, true_or, or_true, or_false, false_or, or_self, true_and, and_true, and_self, false_and, and_false, Option.some.injEq, exists_eq_left', ne_eq, not_true_eq_false, not_false_eq_true, eq_self, e_pk, e_pr, e_pn, e_ps, e_pd1, e_pd2, e_us, e_un, e_ifp, e_ifn, e_sk, e_sr, e_sn, e_ss, e_sd1, e_sd2, e_sp, mk161 h.2.1.1.1, mk162 h.2.1.1.1, mk163 h.2.1.1.1, mk164 h.2.1.1.1, mk168 h.2.1.1.1, mr0 h.2.1.1.1, mr3 h.2.1.1.1, mr4 h.2.1.1.1, mr15 h.2.1.1.1, h.2.1.1.t1, h.2.1.1.b8, h.2.1.1.q8, h.d3, h16, e1, htop])
        | (refine And.intro (fun hc => ?_) (fun hc => ?_) <;> try (exfalso; omega))
        | ((refine w_strength (by omega) hxx ?_) <;> try dsimp only [Option.toList, List.cons_append, List.nil_append, Nat.reduceAdd])
      all_goals first
        | exact hQ0
        | (exfalso; (repeat' split at hx) <;> (repeat' split at hc) <;> omega)
  | x :: A, D, c, σ, h, hA, hD, hQ => by
    have hdd := h.dd
    have hx := hA x (List.mem_cons_self ..)
    have hxl := hx.2
    have h : Mt σ0 r B t b q v c (x :: (A ++ s)) D σ := h
    have htop : σ.2.2.2.1 168 (A ++ s).length = (x : Int) := h.2.2.1.2.2.2.1
    have h16 : σ.2.2.2.1 161 16 = ((A ++ s).length : Int) + 1 := by rw [h.o6, List.length_cons]; omega
    have e1 : ((A ++ s).length : Int) + 1 - 1 = ((A ++ s).length : Int) := by omega
    have hdd : b + c.length + (x :: (A ++ s)).length ≤ k_sk B t q := h.2.2.2
    rw [List.length_cons] at hdd
    have hd2 := h.dd
    have ih := fun D c σ a1 a3 a4 => w_settles_l (σ0 := σ0) (r := r) (t := t) (b := b) (q := q) (v := v) (B := B) (Q := Q) hk hle hs hks A D c σ a1 (fun y hy => hA y (List.mem_cons_of_mem _ hy)) a3 a4
    have hm : ∀ y, y = x → k_st y = k_st x := fun y hy => by rw [hy]
    unfold k_st at hxl
    refine gp_of (by rfl) ?_
    simp (disch := omega) only [e_wi, e_isr, e_isc, e_stp, e_rt, e_load, e_bin, e_binL, e_ld, e_s1, e_s2, e_n0, e_ok, e_cmp, e_ex, e_gif, e_id32, e_id64, e_v0, e_v1, e_v2, e_v3, e_dt, e_c1, e_sw, e_inv, e_cat, e_rcv, Fin.val_zero, Fin.val_one, Int.toNat_add, Int.toNat_mul, Int.toNat_natCast, Int.reduceToNat, Int.reduceMul, Int.reduceAdd, Int.reduceNeg, Nat.reduceAdd, Nat.reduceSub, Nat.reduceEqDiff, Nat.reduceLT, Nat.reduceLeDiff, List.getElem?_cons_zero, List.getElem?_cons_succ, List.length_cons, List.length_nil, List.take_succ_cons, List.take_zero, List.drop_succ_cons, List.drop_zero, List.reverse_cons, List.reverse_nil, List.nil_append, List.cons_append, List.append_nil, List.map_cons, List.map_nil, List.sum_cons, List.sum_nil, Bool.false_eq_true, if_false, if_true, Bool.and_true, Bool.true_and, Bool.and_self, Bool.or_true, Bool.true_or, Bool.or_false, Bool.false_or, Bool.or_self, decide_eq_true_eq, decide_true, decide_false, beq_self_eq_true, Option.map_some, reduceCtorEq, true_or, or_true, or_false, false_or, or_self, true_and, and_true, and_self, false_and, and_false, Option.some.injEq, exists_eq_left', ne_eq, not_true_eq_false, not_false_eq_true, eq_self, e_pk, e_pr, e_pn, e_ps, e_pd1, e_pd2, e_us, e_un, e_ifp, e_ifn, e_sk, e_sr, e_sn, e_ss, e_sd1, e_sd2, e_sp, mk161 h.2.1.1.1, mk162 h.2.1.1.1, mk163 h.2.1.1.1, mk164 h.2.1.1.1, mk168 h.2.1.1.1, mr0 h.2.1.1.1, mr3 h.2.1.1.1, mr4 h.2.1.1.1, mr15 h.2.1.1.1, h.2.1.1.t1, h.2.1.1.b8, h.2.1.1.q8, h.d3, h16, e1, htop]
    repeat' first
      | (refine gp_at [25] (by rfl) (by decide) ?_; simp (disch := omega) only [e_wi, e_isr, e_isc, e_stp, e_rt, e_load, e_bin, e_binL, e_ld, e_s1, e_s2, e_n0, e_ok, e_cmp, e_ex, e_gif, e_id32, e_id64, e_v0, e_v1, e_v2, e_v3, e_dt, e_c1, e_sw, e_inv, e_cat, e_rcv, Fin.val_zero, Fin.val_one, Int.toNat_add, Int.toNat_mul, Int.toNat_natCast, Int.reduceToNat, Int.reduceMul, Int.reduceAdd, Int.reduceNeg, Nat.reduceAdd, Nat.reduceSub, Nat.reduceEqDiff, Nat.reduceLT, Nat.reduceLeDiff, List.getElem?_cons_zero, List.getElem?_cons_succ, List.length_cons, List.length_nil, List.take_succ_cons, List.take_zero, List.drop_succ_cons, List.drop_zero, List.reverse_cons, List.reverse_nil, List.nil_append, List.cons_append, List.append_nil, List.map_cons, List.map_nil, List.sum_cons, List.sum_nil, Bool.false_eq_true, if_false, if_true, Bool.and_true, Bool.true_and, Bool.and_self, Bool.or_true, Bool.true_or, Bool.or_false, Bool.false_or, Bool.or_self, decide_eq_true_eq, decide_true, decide_false, beq_self_eq_true, Option.map_some, reduceCtorEq, true_or, or_true, or_false, false_or, or_self, true_and, and_true, and_self, false_and, and_false, Option.some.injEq, exists_eq_left', ne_eq, not_true_eq_false, not_false_eq_true, eq_self, e_pk, e_pr, e_pn, e_ps, e_pd1, e_pd2, e_us, e_un, e_ifp, e_ifn, e_sk, e_sr, e_sn, e_ss, e_sd1, e_sd2, e_sp, mk161 h.2.1.1.1, mk162 h.2.1.1.1, mk163 h.2.1.1.1, mk164 h.2.1.1.1, mk168 h.2.1.1.1, mr0 h.2.1.1.1, mr3 h.2.1.1.1, mr4 h.2.1.1.1, mr15 h.2.1.1.1, h.2.1.1.t1, h.2.1.1.b8, h.2.1.1.q8, h.d3, h16, e1, htop])
      | (refine And.intro (fun hc => ?_) (fun hc => ?_) <;> try (exfalso; omega))
      | ((refine w_strength (by omega) (by omega) ?_) <;> try dsimp only [Option.toList, List.cons_append, List.nil_append, Nat.reduceAdd])
    all_goals first | (exfalso; (repeat' split at hxl) <;> (repeat' split at hc) <;> omega) | skip
    have hs1 : Sm [] [13, 16] σ (e_put σ 161 16 ((A ++ s).length : Int)) := (Sm.rf [] [13, 16] σ).pf (by decide)
    have h1 : Mt σ0 r B t b q v c (A ++ s) D (e_put σ 161 16 ((A ++ s).length : Int)) := h.po hs1 (by rw [e_pd1, e_us]) (by rw [e_pd1, e_un _ (by omega)]; exact h.d3) (by omega)
    have htop1 : (e_put σ 161 16 ((A ++ s).length : Int)).2.2.2.1 168 (A ++ s).length = (x : Int) := by rw [e_pd2 _ (by omega)]; exact htop
    refine gp_of (by rfl) ?_
    simp (disch := omega) only [e_wi, e_isr, e_isc, e_stp, e_rt, e_load, e_bin, e_binL, e_ld, e_s1, e_s2, e_n0, e_ok, e_cmp, e_ex, e_gif, e_id32, e_id64, e_v0, e_v1, e_v2, e_v3, e_dt, e_c1, e_sw, e_inv, e_cat, e_rcv, Fin.val_zero, Fin.val_one, Int.toNat_add, Int.toNat_mul, Int.toNat_natCast, Int.reduceToNat, Int.reduceMul, Int.reduceAdd, Int.reduceNeg, Nat.reduceAdd, Nat.reduceSub, Nat.reduceEqDiff, Nat.reduceLT, Nat.reduceLeDiff, List.getElem?_cons_zero, List.getElem?_cons_succ, List.length_cons, List.length_nil, List.take_succ_cons, List.take_zero, List.drop_succ_cons, List.drop_zero, List.reverse_cons, List.reverse_nil, List.nil_append, List.cons_append, List.append_nil, List.map_cons, List.map_nil, List.sum_cons, List.sum_nil, Bool.false_eq_true, if_false, if_true, Bool.and_true, Bool.true_and, Bool.and_self, Bool.or_true, Bool.true_or, Bool.or_false, Bool.false_or, Bool.or_self, decide_eq_true_eq, decide_true, decide_false, beq_self_eq_true, Option.map_some, reduceCtorEq, true_or, or_true, or_false, false_or, or_self, true_and, and_true, and_self, false_and, and_false, Option.some.injEq, exists_eq_left', ne_eq, not_true_eq_false, not_false_eq_true, eq_self, e_pk, e_pr, e_pn, e_ps, e_pd1, e_pd2, e_us, e_un, e_ifp, e_ifn, e_sk, e_sr, e_sn, e_ss, e_sd1, e_sd2, e_sp, mk161 h.2.1.1.1, mk162 h.2.1.1.1, mk163 h.2.1.1.1, mk164 h.2.1.1.1, mk168 h.2.1.1.1, mr0 h.2.1.1.1, mr3 h.2.1.1.1, mr4 h.2.1.1.1, mr15 h.2.1.1.1, h.2.1.1.t1, h.2.1.1.b8, h.2.1.1.q8, h.d3, h16, e1]
    repeat' first
      | (refine gp_at [35] (by rfl) (by decide) ?_; simp (disch := omega) only [e_wi, e_isr, e_isc, e_stp, e_rt, e_load, e_bin, e_binL, e_ld, e_s1, e_s2, e_n0, e_ok, e_cmp, e_ex, e_gif, e_id32, e_id64, e_v0, e_v1, e_v2, e_v3, e_dt, e_c1, e_sw, e_inv, e_cat, e_rcv, Fin.val_zero, Fin.val_one, Int.toNat_add, Int.toNat_mul, Int.toNat_natCast, Int.reduceToNat, Int.reduceMul, Int.reduceAdd, Int.reduceNeg, Nat.reduceAdd, Nat.reduceSub, Nat.reduceEqDiff, Nat.reduceLT, Nat.reduceLeDiff, List.getElem?_cons_zero, List.getElem?_cons_succ, List.length_cons, List.length_nil, List.take_succ_cons, List.take_zero, List.drop_succ_cons, List.drop_zero, List.reverse_cons, List.reverse_nil, List.nil_append, List.cons_append, List.append_nil, List.map_cons, List.map_nil, List.sum_cons, List.sum_nil, Bool.false_eq_true, if_false, if_true, Bool.and_true, Bool.true_and, Bool.and_self, Bool.or_true, Bool.true_or, Bool.or_false, Bool.false_or, Bool.or_self, decide_eq_true_eq, decide_true, decide_false, beq_self_eq_true, Option.map_some, reduceCtorEq, true_or, or_true, or_false, false_or, or_self, true_and, and_true, and_self, false_and, and_false, Option.some.injEq, exists_eq_left', ne_eq, not_true_eq_false, not_false_eq_true, eq_self, e_pk, e_pr, e_pn, e_ps, e_pd1, e_pd2, e_us, e_un, e_ifp, e_ifn, e_sk, e_sr, e_sn, e_ss, e_sd1, e_sd2, e_sp, mk161 h.2.1.1.1, mk162 h.2.1.1.1, mk163 h.2.1.1.1, mk164 h.2.1.1.1, mk168 h.2.1.1.1, mr0 h.2.1.1.1, mr3 h.2.1.1.1, mr4 h.2.1.1.1, mr15 h.2.1.1.1, h.2.1.1.t1, h.2.1.1.b8, h.2.1.1.q8, h.d3, h16, e1])
      | (refine And.intro (fun hc => ?_) (fun hc => ?_) <;> try (exfalso; omega))
    generalize e_put σ 161 16 ((A ++ s).length : Int) = τ1 at *
    have h2 := h1.2.1.re
    refine gp_of (by rfl) ?_
    simp (disch := omega) only [e_wi, e_isr, e_isc, e_stp, e_rt, e_load, e_bin, e_binL, e_ld, e_s1, e_s2, e_n0, e_ok, e_cmp, e_ex, e_gif, e_id32, e_id64, e_v0, e_v1, e_v2, e_v3, e_dt, e_c1, e_sw, e_inv, e_cat, e_rcv, Fin.val_zero, Fin.val_one, Int.toNat_add, Int.toNat_mul, Int.toNat_natCast, Int.reduceToNat, Int.reduceMul, Int.reduceAdd, Int.reduceNeg, Nat.reduceAdd, Nat.reduceSub, Nat.reduceEqDiff, Nat.reduceLT, Nat.reduceLeDiff, List.getElem?_cons_zero, List.getElem?_cons_succ, List.length_cons, List.length_nil, List.take_succ_cons, List.take_zero, List.drop_succ_cons, List.drop_zero, List.reverse_cons, List.reverse_nil, List.nil_append, List.cons_append, List.append_nil, List.map_cons, List.map_nil, List.sum_cons, List.sum_nil, Bool.false_eq_true, if_false, if_true, Bool.and_true, Bool.true_and, Bool.and_self, Bool.or_true, Bool.true_or, Bool.or_false, Bool.false_or, Bool.or_self, decide_eq_true_eq, decide_true, decide_false, beq_self_eq_true, Option.map_some, reduceCtorEq, true_or, or_true, or_false, false_or, or_self, true_and, and_true, and_self, false_and, and_false, Option.some.injEq, exists_eq_left', ne_eq, not_true_eq_false, not_false_eq_true, eq_self, e_pk, e_pr, e_pn, e_ps, e_pd1, e_pd2, e_us, e_un, e_ifp, e_ifn, e_sk, e_sr, e_sn, e_ss, e_sd1, e_sd2, e_sp, mk161 h1.2.1.1.1, mk162 h1.2.1.1.1, mk163 h1.2.1.1.1, mk164 h1.2.1.1.1, mk168 h1.2.1.1.1, mr0 h1.2.1.1.1, mr3 h1.2.1.1.1, mr4 h1.2.1.1.1, mr15 h1.2.1.1.1, h1.2.1.1.t1, h1.2.1.1.b8, h1.2.1.1.q8, h1.o6, h1.d3, htop1]
    repeat' first
      | (refine gp_at [49] (by rfl) (by decide) ?_; simp (disch := omega) only [e_wi, e_isr, e_isc, e_stp, e_rt, e_load, e_bin, e_binL, e_ld, e_s1, e_s2, e_n0, e_ok, e_cmp, e_ex, e_gif, e_id32, e_id64, e_v0, e_v1, e_v2, e_v3, e_dt, e_c1, e_sw, e_inv, e_cat, e_rcv, Fin.val_zero, Fin.val_one, Int.toNat_add, Int.toNat_mul, Int.toNat_natCast, Int.reduceToNat, Int.reduceMul, Int.reduceAdd, Int.reduceNeg, Nat.reduceAdd, Nat.reduceSub, Nat.reduceEqDiff, Nat.reduceLT, Nat.reduceLeDiff, List.getElem?_cons_zero, List.getElem?_cons_succ, List.length_cons, List.length_nil, List.take_succ_cons, List.take_zero, List.drop_succ_cons, List.drop_zero, List.reverse_cons, List.reverse_nil, List.nil_append, List.cons_append, List.append_nil, List.map_cons, List.map_nil, List.sum_cons, List.sum_nil, Bool.false_eq_true, if_false, if_true, Bool.and_true, Bool.true_and, Bool.and_self, Bool.or_true, Bool.true_or, Bool.or_false, Bool.false_or, Bool.or_self, decide_eq_true_eq, decide_true, decide_false, beq_self_eq_true, Option.map_some, reduceCtorEq, true_or, or_true, or_false, false_or, or_self, true_and, and_true, and_self, false_and, and_false, Option.some.injEq, exists_eq_left', ne_eq, not_true_eq_false, not_false_eq_true, eq_self, e_pk, e_pr, e_pn, e_ps, e_pd1, e_pd2, e_us, e_un, e_ifp, e_ifn, e_sk, e_sr, e_sn, e_ss, e_sd1, e_sd2, e_sp, mk161 h1.2.1.1.1, mk162 h1.2.1.1.1, mk163 h1.2.1.1.1, mk164 h1.2.1.1.1, mk168 h1.2.1.1.1, mr0 h1.2.1.1.1, mr3 h1.2.1.1.1, mr4 h1.2.1.1.1, mr15 h1.2.1.1.1, h1.2.1.1.t1, h1.2.1.1.b8, h1.2.1.1.q8, h1.o6, h1.d3, htop1])
      | (refine And.intro (fun hc => ?_) (fun hc => ?_) <;> try (exfalso; omega))
      | ((refine w_puts (s := x) (w := 0) (by omega) h2 rfl rfl (by omega) (by omega) (by omega) (fun τ2 h3 => ?_)) <;> try dsimp only [Option.toList, List.cons_append, List.nil_append, Nat.reduceAdd])
    have h4 : Mt σ0 r B t b q v (c ++ [(x, 0)]) (A ++ s) D τ2 := h1.s h3 (by rw [List.length_append, List.length_cons, List.length_nil]; omega)
    have htop2 : τ2.2.2.2.1 168 (A ++ s).length = (x : Int) := by rw [h3.2.1.1.at 168 (by decide) (by decide)]; exact htop1
    have hcc : c ++ [(x, 0)] ++ A.map (fun x => (x, 0)) = c ++ (x :: A).map (fun x => (x, 0)) := by
      rw [List.map_cons, List.append_assoc]
      rfl
    by_cases h11 : x = 11
    · subst h11
      have hcn : (11 :: A).count 11 = A.count 11 + 1 := List.count_cons_self ..
      rw [hcn] at hQ hD
      have hs5 : Sm [] [13, 16] τ2 (e_put τ2 161 13 (10 - (D : Int) - 1)) := (Sm.rf [] [13, 16] τ2).pf (by decide)
      have h5 : Mt σ0 r B t b q v (c ++ [(11, 0)]) (A ++ s) (D + 1) (e_put τ2 161 13 (10 - (D : Int) - 1)) := h4.d5 hs5 (by rw [e_pd1, e_un _ (by omega)]; exact h4.o6) (by rw [e_pd1, e_us]; omega) (by omega)
      have ih := ih (D + 1) (c ++ [(11, 0)]) _ h5 (by omega) (fun τ hτ => hQ τ (by
        rw [← hcc, show D + (A.count 11 + 1) = D + 1 + A.count 11 by omega]
        exact hτ))
      refine gp_of (by rfl) ?_
      simp (disch := omega) only [e_wi, e_isr, e_isc, e_stp, e_rt, e_load, e_bin, e_binL, e_ld, e_s1, e_s2, e_n0, e_ok, e_cmp, e_ex, e_gif, e_id32, e_id64, e_v0, e_v1, e_v2, e_v3, e_dt, e_c1, e_sw, e_inv, e_cat, e_rcv, Fin.val_zero, Fin.val_one, Int.toNat_add, Int.toNat_mul, Int.toNat_natCast, Int.reduceToNat, Int.reduceMul, Int.reduceAdd, Int.reduceNeg, Nat.reduceAdd, Nat.reduceSub, Nat.reduceEqDiff, Nat.reduceLT, Nat.reduceLeDiff, List.getElem?_cons_zero, List.getElem?_cons_succ, List.length_cons, List.length_nil, List.take_succ_cons, List.take_zero, List.drop_succ_cons, List.drop_zero, List.reverse_cons, List.reverse_nil, List.nil_append, List.cons_append, List.append_nil, List.map_cons, List.map_nil, List.sum_cons, List.sum_nil, Bool.false_eq_true, if_false, if_true, Bool.and_true, Bool.true_and, Bool.and_self, Bool.or_true, Bool.true_or, Bool.or_false, Bool.false_or, Bool.or_self, decide_eq_true_eq, decide_true, decide_false, beq_self_eq_true, Option.map_some, reduceCtorEq, true_or, or_true, or_false, false_or, or_self, true_and, and_true, and_self, false_and, and_false, Option.some.injEq, exists_eq_left', ne_eq, not_true_eq_false, not_false_eq_true, eq_self, e_pk, e_pr, e_pn, e_ps, e_pd1, e_pd2, e_us, e_un, e_ifp, e_ifn, e_sk, e_sr, e_sn, e_ss, e_sd1, e_sd2, e_sp, mk161 h4.2.1.1.1, mk162 h4.2.1.1.1, mk163 h4.2.1.1.1, mk164 h4.2.1.1.1, mk168 h4.2.1.1.1, mr0 h4.2.1.1.1, mr3 h4.2.1.1.1, mr4 h4.2.1.1.1, mr15 h4.2.1.1.1, h4.2.1.1.t1, h4.2.1.1.b8, h4.2.1.1.q8, h4.o6, h4.d3, htop2]
      repeat' first
        | (refine gp_at [0] (by rfl) (by decide) ?_; simp (disch := omega) only [e_wi, e_isr, e_isc, e_stp, e_rt, e_load, e_bin, e_binL, e_ld, e_s1, e_s2, e_n0, e_ok, e_cmp, e_ex, e_gif, e_id32, e_id64, e_v0, e_v1, e_v2, e_v3, e_dt, e_c1, e_sw, e_inv, e_cat, e_rcv, Fin.val_zero, Fin.val_one, Int.toNat_add, Int.toNat_mul, Int.toNat_natCast, Int.reduceToNat, Int.reduceMul, Int.reduceAdd, Int.reduceNeg, Nat.reduceAdd, Nat.reduceSub, Nat.reduceEqDiff, Nat.reduceLT, Nat.reduceLeDiff, List.getElem?_cons_zero, List.getElem?_cons_succ, List.length_cons, List.length_nil, List.take_succ_cons, List.take_zero, List.drop_succ_cons, List.drop_zero, List.reverse_cons, List.reverse_nil, List.nil_append, List.cons_append, List.append_nil, List.map_cons, List.map_nil, List.sum_cons, List.sum_nil, Bool.false_eq_true, if_false, if_true, Bool.and_true, Bool.true_and, Bool.and_self, Bool.or_true, Bool.true_or, Bool.or_false, Bool.false_or, Bool.or_self, decide_eq_true_eq, decide_true, decide_false, beq_self_eq_true, Option.map_some, reduceCtorEq, true_or, or_true, or_false, false_or, or_self, true_and, and_true, and_self, false_and, and_false, Option.some.injEq, exists_eq_left', ne_eq, not_true_eq_false, not_false_eq_true, eq_self, e_pk, e_pr, e_pn, e_ps, e_pd1, e_pd2, e_us, e_un, e_ifp, e_ifn, e_sk, e_sr, e_sn, e_ss, e_sd1, e_sd2, e_sp, mk161 h4.2.1.1.1, mk162 h4.2.1.1.1, mk163 h4.2.1.1.1, mk164 h4.2.1.1.1, mk168 h4.2.1.1.1, mr0 h4.2.1.1.1, mr3 h4.2.1.1.1, mr4 h4.2.1.1.1, mr15 h4.2.1.1.1, h4.2.1.1.t1, h4.2.1.1.b8, h4.2.1.1.q8, h4.o6, h4.d3, htop2])
        | (refine And.intro (fun hc => ?_) (fun hc => ?_) <;> try (exfalso; omega))
      all_goals first | exact ih | (exfalso; omega) | skip
    · have hcn : (x :: A).count 11 = A.count 11 := List.count_cons_of_ne (by intro q; exact h11 (by first | exact q | exact q.symm))
      rw [hcn] at hQ hD
      have ih := ih D (c ++ [(x, 0)]) _ h4 hD (fun τ hτ => hQ τ (by
        rw [← hcc]
        exact hτ))
      refine gp_of (by rfl) ?_
      simp (disch := omega) only [e_wi, e_isr, e_isc, e_stp, e_rt, e_load, e_bin, e_binL, e_ld, e_s1, e_s2, e_n0, e_ok, e_cmp, e_ex, e_gif, e_id32, e_id64, e_v0, e_v1, e_v2, e_v3, e_dt, e_c1, e_sw, e_inv, e_cat, e_rcv, Fin.val_zero, Fin.val_one, Int.toNat_add, Int.toNat_mul, Int.toNat_natCast, Int.reduceToNat, Int.reduceMul, Int.reduceAdd, Int.reduceNeg, Nat.reduceAdd, Nat.reduceSub, Nat.reduceEqDiff, Nat.reduceLT, Nat.reduceLeDiff, List.getElem?_cons_zero, List.getElem?_cons_succ, List.length_cons, List.length_nil, List.take_succ_cons, List.take_zero, List.drop_succ_cons, List.drop_zero, List.reverse_cons, List.reverse_nil, List.nil_append, List.cons_append, List.append_nil, List.map_cons, List.map_nil, List.sum_cons, List.sum_nil, Bool.false_eq_true, if_false, if_true, Bool.and_true, Bool.true_and, Bool.and_self, Bool.or_true, Bool.true_or, Bool.or_false, Bool.false_or, Bool.or_self, decide_eq_true_eq, decide_true, decide_false, beq_self_eq_true, Option.map_some, reduceCtorEq, true_or, or_true, or_false, false_or, or_self, true_and, and_true, and_self, false_and, and_false, Option.some.injEq, exists_eq_left', ne_eq, not_true_eq_false, not_false_eq_true, eq_self, e_pk, e_pr, e_pn, e_ps, e_pd1, e_pd2, e_us, e_un, e_ifp, e_ifn, e_sk, e_sr, e_sn, e_ss, e_sd1, e_sd2, e_sp, mk161 h4.2.1.1.1, mk162 h4.2.1.1.1, mk163 h4.2.1.1.1, mk164 h4.2.1.1.1, mk168 h4.2.1.1.1, mr0 h4.2.1.1.1, mr3 h4.2.1.1.1, mr4 h4.2.1.1.1, mr15 h4.2.1.1.1, h4.2.1.1.t1, h4.2.1.1.b8, h4.2.1.1.q8, h4.o6, h4.d3, htop2]
      repeat' first
        | (refine gp_at [0] (by rfl) (by decide) ?_; simp (disch := omega) only [e_wi, e_isr, e_isc, e_stp, e_rt, e_load, e_bin, e_binL, e_ld, e_s1, e_s2, e_n0, e_ok, e_cmp, e_ex, e_gif, e_id32, e_id64, e_v0, e_v1, e_v2, e_v3, e_dt, e_c1, e_sw, e_inv, e_cat, e_rcv, Fin.val_zero, Fin.val_one, Int.toNat_add, Int.toNat_mul, Int.toNat_natCast, Int.reduceToNat, Int.reduceMul, Int.reduceAdd, Int.reduceNeg, Nat.reduceAdd, Nat.reduceSub, Nat.reduceEqDiff, Nat.reduceLT, Nat.reduceLeDiff, List.getElem?_cons_zero, List.getElem?_cons_succ, List.length_cons, List.length_nil, List.take_succ_cons, List.take_zero, List.drop_succ_cons, List.drop_zero, List.reverse_cons, List.reverse_nil, List.nil_append, List.cons_append, List.append_nil, List.map_cons, List.map_nil, List.sum_cons, List.sum_nil, Bool.false_eq_true, if_false, if_true, Bool.and_true, Bool.true_and, Bool.and_self, Bool.or_true, Bool.true_or, Bool.or_false, Bool.false_or, Bool.or_self, decide_eq_true_eq, decide_true, decide_false, beq_self_eq_true, Option.map_some, reduceCtorEq, true_or, or_true, or_false, false_or, or_self, true_and, and_true, and_self, false_and, and_false, Option.some.injEq, exists_eq_left', ne_eq, not_true_eq_false, not_false_eq_true, eq_self, e_pk, e_pr, e_pn, e_ps, e_pd1, e_pd2, e_us, e_un, e_ifp, e_ifn, e_sk, e_sr, e_sn, e_ss, e_sd1, e_sd2, e_sp, mk161 h4.2.1.1.1, mk162 h4.2.1.1.1, mk163 h4.2.1.1.1, mk164 h4.2.1.1.1, mk168 h4.2.1.1.1, mr0 h4.2.1.1.1, mr3 h4.2.1.1.1, mr4 h4.2.1.1.1, mr15 h4.2.1.1.1, h4.2.1.1.t1, h4.2.1.1.b8, h4.2.1.1.q8, h4.o6, h4.d3, htop2])
        | (refine And.intro (fun hc => ?_) (fun hc => ?_) <;> try (exfalso; omega))
      all_goals first | exact ih | (exfalso; omega) | skip
set_option maxRecDepth 8000 in
set_option maxHeartbeats 1000000 in
theorem w_settles {k : Nat} {σ0 : eH} {r t b q v D le : Nat} {B : Nat → Int} {c : List (Nat × Nat)} {A s : List Nat} {σ : eH} {Q : Option eV → eH → Prop} (hk : 2 ≤ k) (hle : 1 ≤ le ∧ le ≤ 3) (hs : s = [] ∨ ∃ x s', s = x :: s' ∧ k_st x < le) (hks : k_ok s) (h : Mt σ0 r B t b q v c (A ++ s) D σ) (hA : ∀ x, x ∈ A → (x = 11 ∨ x = 12 ∨ x = 13) ∧ le ≤ k_st x) (hD : D + A.count 11 ≤ 10) (hQ : (∀ τ, Mt σ0 r B t b q v (c ++ A.map (fun x => (x, 0))) s (D + A.count 11) τ → Q none τ)) : e_Wp k 189 [.inr (.inr 163), .inl (le : Int)] σ Q := by
  refine wp_in (nL := 2) (cd := e_k189) (by omega) (by rfl) (Nat.le_of_ble_eq_true rfl) ?_
  dsimp only [e_ent, Nat.reduceSub, List.replicate]
  exact w_settles_l (by omega) hle hs hks A D c σ h hA hD hQ
