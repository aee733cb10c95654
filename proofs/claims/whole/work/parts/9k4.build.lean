/-! BUILDING: from a on lie cells of kinds K, with references R and data D, all else null and zero -/
def Bd (a : Nat) (K : List (Nat × Nat)) (R : List (Nat × Nat × Nat)) (D : List (Nat × Nat × Int)) (σ τ : eH) : Prop := τ.1 = a + K.length ∧ τ.2.1 = σ.2.1 + (K.map (fun x => x.2)).sum ∧ Bl a σ τ ∧ (∀ j, j < K.length → τ.2.2.1 (a + j) = K.getD j (0, 0)) ∧ (∀ x, x ∈ R → x.1 < K.length ∧ τ.2.2.2.2 (a + x.1) x.2.1 = a + x.2.2 + 2) ∧ (∀ j i, j < K.length → (K.getD j (0, 0)).1 ≠ 20 → (∀ x, x ∈ R → ¬ (x.1 = j ∧ x.2.1 = i)) → τ.2.2.2.2 (a + j) i = 0) ∧ (∀ x, x ∈ D → x.1 < K.length ∧ τ.2.2.2.1 (a + x.1) x.2.1 = x.2.2) ∧ ∀ j i, j < K.length → (∀ x, x ∈ D → ¬ (x.1 = j ∧ x.2.1 = i)) → τ.2.2.2.1 (a + j) i = 0
theorem Bd.n {a : Nat} {K : List (Nat × Nat)} {R : List (Nat × Nat × Nat)} {D : List (Nat × Nat × Int)} {σ τ : eH} (h : Bd a K R D σ τ) : τ.1 = a + K.length := h.1
theorem Bd.k {a : Nat} {K : List (Nat × Nat)} {R : List (Nat × Nat × Nat)} {D : List (Nat × Nat × Int)} {σ τ : eH} (h : Bd a K R D σ τ) (j : Nat) (hj : j < K.length) : τ.2.2.1 (a + j) = K.getD j (0, 0) := h.2.2.2.1 j hj
theorem Bd.ob {a : Nat} {σ : eH} {kd len : Nat} (h : σ.1 = a) : Bd a [(kd, len)] [] [] σ (e_new σ kd len) := by
  subst h
  refine ⟨rfl, rfl, Bl.new (Bl.rf _ _) (Nat.le_refl _), fun j hj => ?_, fun x hx => (by cases hx), fun j i hj _ _ => ?_, fun x hx => (by cases hx), fun j i hj _ => ?_⟩
  · obtain rfl : j = 0 := by simp at hj; omega
    exact e_us _ _ _
  · obtain rfl : j = 0 := by simp at hj; omega
    show va_up σ.2.2.2.2 σ.1 (fun _ => 0) σ.1 i = 0
    rw [e_us]
  · obtain rfl : j = 0 := by simp at hj; omega
    show va_up σ.2.2.2.1 σ.1 (fun _ => 0) σ.1 i = 0
    rw [e_us]
theorem Bd.sub {a b : Nat} {K K' : List (Nat × Nat)} {R R' : List (Nat × Nat × Nat)} {D D' : List (Nat × Nat × Int)} {σ τ ρ : eH} (h : Bd a K R D σ τ) (g : Bd b K' R' D' τ ρ) (hb : b = a + K.length) : Bd a (K ++ K') (R ++ R'.map (fun x => (K.length + x.1, x.2.1, K.length + x.2.2))) (D ++ D'.map (fun x => (K.length + x.1, x.2.1, x.2.2))) σ ρ := by
  subst hb
  obtain ⟨h1, h2, h3, h4, h5, h6, h7, h8⟩ := h
  obtain ⟨g1, g2, g3, g4, g5, g6, g7, g8⟩ := g
  refine ⟨?_, ?_, h3.tr g3 (by omega), fun j hj => ?_, fun x hx => ?_, fun j i hj hk hn => ?_, fun x hx => ?_, fun j i hj hn => ?_⟩
  · rw [g1, List.length_append]; omega
  · rw [g2, h2, List.map_append, List.sum_append]; omega
  · rw [List.length_append] at hj
    by_cases e : j < K.length
    · rw [(g3 (a + j) (by omega)).1, h4 j e, List.getD_eq_getElem?_getD, List.getD_eq_getElem?_getD, List.getElem?_append_left e]
    · have e2 := g4 (j - K.length) (by omega)
      rw [show a + K.length + (j - K.length) = a + j by omega] at e2
      rw [e2, List.getD_eq_getElem?_getD, List.getD_eq_getElem?_getD, List.getElem?_append_right (by omega)]
  · rcases List.mem_append.1 hx with hx | hx
    · have e := h5 x hx
      refine ⟨by rw [List.length_append]; omega, ?_⟩
      rw [(g3 _ (by omega)).2.2]
      exact e.2
    · obtain ⟨y, hy, rfl⟩ := List.mem_map.1 hx
      have e := g5 y hy
      refine ⟨by rw [List.length_append]; show K.length + y.1 < _; omega, ?_⟩
      show ρ.2.2.2.2 (a + (K.length + y.1)) y.2.1 = a + (K.length + y.2.2) + 2
      rw [show a + (K.length + y.1) = a + K.length + y.1 by omega, e.2]
      omega
  · rw [List.length_append] at hj
    rw [List.getD_eq_getElem?_getD] at hk
    by_cases e : j < K.length
    · rw [List.getElem?_append_left e, ← List.getD_eq_getElem?_getD] at hk
      rw [(g3 (a + j) (by omega)).2.2]
      exact h6 j i e hk (fun x hx => hn x (List.mem_append.2 (Or.inl hx)))
    · rw [List.getElem?_append_right (by omega), ← List.getD_eq_getElem?_getD] at hk
      have e2 := g6 (j - K.length) i (by omega) hk (fun x hx hq => hn (K.length + x.1, x.2.1, K.length + x.2.2) (List.mem_append.2 (Or.inr (List.mem_map.2 ⟨x, hx, rfl⟩))) ⟨by show K.length + x.1 = j; omega, hq.2⟩)
      rw [show a + K.length + (j - K.length) = a + j by omega] at e2
      exact e2
  · rcases List.mem_append.1 hx with hx | hx
    · have e := h7 x hx
      refine ⟨by rw [List.length_append]; omega, ?_⟩
      rw [(g3 _ (by omega)).2.1]
      exact e.2
    · obtain ⟨y, hy, rfl⟩ := List.mem_map.1 hx
      have e := g7 y hy
      refine ⟨by rw [List.length_append]; show K.length + y.1 < _; omega, ?_⟩
      show ρ.2.2.2.1 (a + (K.length + y.1)) y.2.1 = y.2.2
      rw [show a + (K.length + y.1) = a + K.length + y.1 by omega]
      exact e.2
  · rw [List.length_append] at hj
    by_cases e : j < K.length
    · rw [(g3 (a + j) (by omega)).2.1]
      exact h8 j i e (fun x hx => hn x (List.mem_append.2 (Or.inl hx)))
    · have e2 := g8 (j - K.length) i (by omega) (fun x hx hq => hn (K.length + x.1, x.2.1, x.2.2) (List.mem_append.2 (Or.inr (List.mem_map.2 ⟨x, hx, rfl⟩))) ⟨by show K.length + x.1 = j; omega, hq.2⟩)
      rw [show a + K.length + (j - K.length) = a + j by omega] at e2
      exact e2
theorem Bd.nw {a : Nat} {K : List (Nat × Nat)} {R : List (Nat × Nat × Nat)} {D : List (Nat × Nat × Int)} {σ τ : eH} {kd len : Nat} (h : Bd a K R D σ τ) : Bd a (K ++ [(kd, len)]) R D σ (e_new τ kd len) := by
  have := h.sub (Bd.ob (kd := kd) (len := len) (σ := τ) h.1) rfl
  rw [List.map_nil, List.map_nil, List.append_nil, List.append_nil] at this
  exact this
theorem Bd.pr {a c i r : Nat} {K : List (Nat × Nat)} {R : List (Nat × Nat × Nat)} {D : List (Nat × Nat × Int)} {σ τ : eH} (h : Bd a K R D σ τ) (hc : c < K.length) (hR : ∀ x, x ∈ R → ¬ (x.1 = c ∧ x.2.1 = i)) : Bd a K (R ++ [(c, i, r)]) D σ (e_puR τ (a + c) i (a + r + 2)) := by
  obtain ⟨h1, h2, h3, h4, h5, h6, h7, h8⟩ := h
  refine ⟨h1, h2, h3.puR (by omega), h4, fun x hx => ?_, fun j i2 hj hk hn => ?_, h7, h8⟩
  · rcases List.mem_append.1 hx with hx | hx
    · have e := h5 x hx
      have e2 := hR x hx
      refine ⟨e.1, ?_⟩
      by_cases e3 : x.1 = c
      · rw [e3, e_qr1, e_un _ (by omega), ← e3]
        exact e.2
      · rw [e_qr2 _ (by omega)]
        exact e.2
    · rw [List.mem_singleton.1 hx]
      refine ⟨hc, ?_⟩
      show (e_puR τ (a + c) i (a + r + 2)).2.2.2.2 (a + c) i = a + r + 2
      rw [e_qr1, e_us]
  · have hn1 := hn (c, i, r) (List.mem_append.2 (Or.inr (List.mem_singleton.2 rfl)))
    have hn1 : ¬ (c = j ∧ i = i2) := hn1
    have hn2 : ∀ x, x ∈ R → ¬ (x.1 = j ∧ x.2.1 = i2) := fun x hx => hn x (List.mem_append.2 (Or.inl hx))
    by_cases e3 : j = c
    · rw [e3, e_qr1, e_un _ (by omega), ← e3]
      exact h6 j i2 hj hk hn2
    · rw [e_qr2 _ (by omega)]
      exact h6 j i2 hj hk hn2
theorem Bd.pv {a c i : Nat} {v : Int} {K : List (Nat × Nat)} {R : List (Nat × Nat × Nat)} {D : List (Nat × Nat × Int)} {σ τ : eH} (h : Bd a K R D σ τ) (hc : c < K.length) (hD : ∀ x, x ∈ D → ¬ (x.1 = c ∧ x.2.1 = i)) : Bd a K R (D ++ [(c, i, v)]) σ (e_put τ (a + c) i v) := by
  obtain ⟨h1, h2, h3, h4, h5, h6, h7, h8⟩ := h
  refine ⟨h1, h2, h3.put (by omega), h4, h5, h6, fun x hx => ?_, fun j i2 hj hn => ?_⟩
  · rcases List.mem_append.1 hx with hx | hx
    · have e := h7 x hx
      have e2 := hD x hx
      refine ⟨e.1, ?_⟩
      by_cases e3 : x.1 = c
      · rw [e3, e_pd1, e_un _ (by omega), ← e3]
        exact e.2
      · rw [e_pd2 _ (by omega)]
        exact e.2
    · rw [List.mem_singleton.1 hx]
      refine ⟨hc, ?_⟩
      show (e_put τ (a + c) i v).2.2.2.1 (a + c) i = v
      rw [e_pd1, e_us]
  · have hn1 := hn (c, i, v) (List.mem_append.2 (Or.inr (List.mem_singleton.2 rfl)))
    have hn1 : ¬ (c = j ∧ i = i2) := hn1
    have hn2 : ∀ x, x ∈ D → ¬ (x.1 = j ∧ x.2.1 = i2) := fun x hx => hn x (List.mem_append.2 (Or.inl hx))
    by_cases e3 : j = c
    · rw [e3, e_pd1, e_un _ (by omega), ← e3]
      exact h8 j i2 hj hn2
    · rw [e_pd2 _ (by omega)]
      exact h8 j i2 hj hn2
theorem Bd.pz {a c i : Nat} {K : List (Nat × Nat)} {R : List (Nat × Nat × Nat)} {D : List (Nat × Nat × Int)} {σ τ : eH} (h : Bd a K R D σ τ) (hc : c < K.length) (hD : ∀ x, x ∈ D → ¬ (x.1 = c ∧ x.2.1 = i)) : Bd a K R D σ (e_put τ (a + c) i 0) := by
  obtain ⟨h1, h2, h3, h4, h5, h6, h7, h8⟩ := h
  refine ⟨h1, h2, h3.put (by omega), h4, h5, h6, fun x hx => ?_, fun j i2 hj hn => ?_⟩
  · have e := h7 x hx
    have e2 := hD x hx
    refine ⟨e.1, ?_⟩
    by_cases e3 : x.1 = c
    · rw [e3, e_pd1, e_un _ (by omega), ← e3]
      exact e.2
    · rw [e_pd2 _ (by omega)]
      exact e.2
  · by_cases e3 : j = c
    · rw [e3, e_pd1]
      by_cases e4 : i2 = i
      · rw [e4, e_us]
      · rw [e_un _ e4, ← e3]
        exact h8 j i2 hj hn
    · rw [e_pd2 _ (by omega)]
      exact h8 j i2 hj hn
theorem Bd.mo {a N M : Nat} {σ : eH} (h : σ.1 = a) : Bd a ((27, N) :: List.replicate N (20, M)) ((List.range N).map (fun i => (0, i, 1 + i))) [] σ (e_mna σ N M) := by
  subst h
  have hl : ((27, N) :: List.replicate N (20, M)).length = N + 1 := by rw [List.length_cons, List.length_replicate]
  refine ⟨?_, ?_, Bl.mna (Bl.rf _ _) (Nat.le_refl _), fun j hj => ?_, fun x hx => ?_, fun j i hj hk hn => ?_, fun x hx => (by cases hx), fun j i hj _ => ?_⟩
  · rw [hl, z_mn]; omega
  · rw [z_ms, List.map_cons, List.sum_cons, List.map_replicate, List.sum_replicate_nat]
    show σ.2.1 + N + N * M = σ.2.1 + (N + N * M)
    omega
  · rw [hl] at hj
    cases j with
    | zero => exact z_mk1 rfl
    | succ j =>
      rw [z_mk2 (by omega) (by omega), List.getD_cons_succ, List.getD_eq_getElem?_getD, List.getElem?_replicate, if_pos (by omega)]
      rfl
  · obtain ⟨i, hi, rfl⟩ := List.mem_map.1 hx
    have hi := List.mem_range.1 hi
    refine ⟨by rw [hl]; show 0 < _; omega, ?_⟩
    show (e_mna σ N M).2.2.2.2 (σ.1 + 0) i = σ.1 + (1 + i) + 2
    rw [Nat.add_zero, z_mr1 rfl hi]
    omega
  · rw [hl] at hj
    cases j with
    | zero =>
      have hi : ¬ i < N := fun hi => hn (0, i, 1 + i) (List.mem_map.2 ⟨i, List.mem_range.2 hi, rfl⟩) ⟨rfl, rfl⟩
      show va_up σ.2.2.2.2 σ.1 (fun i => if i < N then σ.1 + 1 + i + 2 else 0) σ.1 i = 0
      rw [e_us, if_neg hi]
    | succ j =>
      exfalso
      rw [List.getD_cons_succ, List.getD_eq_getElem?_getD, List.getElem?_replicate, if_pos (by omega)] at hk
      exact hk rfl
  · rw [hl] at hj
    rw [z_md1 (by omega) (by omega)]
