/-! FRAMES: what lies below σ.1 stays, but L's data and Rf's references -/
def Fr (L : Nat → Prop) (Rf : Nat → Nat → Prop) (σ τ : eH) : Prop := σ.1 ≤ τ.1 ∧ (∀ c, c < σ.1 → τ.2.2.1 c = σ.2.2.1 c) ∧ (∀ c i, c < σ.1 → ¬ Rf c i → τ.2.2.2.2 c i = σ.2.2.2.2 c i) ∧ ∀ c, c < σ.1 → ¬ L c → τ.2.2.2.1 c = σ.2.2.2.1 c
theorem Fr.tr {L L' : Nat → Prop} {Rf : Nat → Nat → Prop} {σ τ ρ : eH} (h : Fr L Rf σ τ) (g : Fr L' Rf τ ρ) : Fr (fun c => L c ∨ L' c) Rf σ ρ := by
  obtain ⟨h1, h2, h3, h4⟩ := h
  obtain ⟨g1, g2, g3, g4⟩ := g
  refine ⟨by omega, fun c hc => ?_, fun c i hc hr => ?_, fun c hc hl => ?_⟩
  · rw [g2 c (by omega), h2 c hc]
  · rw [g3 c i (by omega) hr, h3 c i hc hr]
  · rw [g4 c (by omega) (fun q => hl (Or.inr q)), h4 c hc (fun q => hl (Or.inl q))]
theorem Fr.mn {L L' : Nat → Prop} {Rf Rf' : Nat → Nat → Prop} {σ τ : eH} (h : Fr L Rf σ τ) (hL : ∀ c, c < σ.1 → L c → L' c) (hR : ∀ c i, Rf c i → Rf' c i) : Fr L' Rf' σ τ := ⟨h.1, h.2.1, fun c i hc hr => h.2.2.1 c i hc (fun q => hr (hR c i q)), fun c hc hl => h.2.2.2 c hc (fun q => hl (hL c hc q))⟩
theorem Fr.rf (L : Nat → Prop) (Rf : Nat → Nat → Prop) (σ : eH) : Fr L Rf σ σ := ⟨Nat.le_refl _, fun _ _ => rfl, fun _ _ _ _ => rfl, fun _ _ _ => rfl⟩
theorem Sn.f {L : Nat → Prop} {Rf : Nat → Nat → Prop} {σ τ : eH} (h : Sn L σ τ) : Fr L Rf σ τ := ⟨by have := h.1; omega, fun c _ => by rw [h.2.2.1], fun c i _ _ => by rw [h.2.2.2.1], fun c _ hl => h.at c hl⟩
theorem Sg.f {L : Nat → Prop} {Rf : Nat → Nat → Prop} {σ τ : eH} (h : Sg L σ τ) (hR : ∀ c i, (c = 71 ∨ c = 113) ∧ i = 4 → Rf c i) : Fr L Rf σ τ := ⟨by have := h.1; omega, fun c _ => by rw [h.2.2.1], fun c i _ hr => (h.2.2.2.1 c i).resolve_left (fun q => hr (hR c i q)), fun c _ hl => h.at c hl⟩
theorem Sm.f {L F : List Nat} {Rf : Nat → Nat → Prop} {σ τ : eH} (h : Sm L F σ τ) : Fr (fun c => c ∈ L ∨ c = 161) Rf σ τ := ⟨by have := h.1; omega, fun c _ => by rw [h.2.2.1], fun c i _ _ => by rw [h.2.2.2.1], fun c _ hl => h.at c (fun q => hl (Or.inl q)) (fun q => hl (Or.inr q))⟩
theorem Dm.f {own : Nat → Nat} {j rc ri : Nat} {L : Nat → Prop} {Rf : Nat → Nat → Prop} {σ τ : eH} (h : Dm own j rc ri L σ τ) (hR : ∀ c i, c = rc ∧ i = ri → Rf c i) : Fr (fun c => L c ∨ 185 ≤ c ∧ own c = j) Rf σ τ := ⟨h.1, fun c hc => h.kd hc, fun c i hc hr => (h.2.2.2.2.2.1 c i hc).resolve_left (fun q => hr (hR c i q)), fun c hc hl => h.2.2.2.2.2.2 c hc hl⟩
/-- the references that may change -/
def rfs (c i : Nat) : Prop := (c = 71 ∨ c = 113) ∧ i = 4 ∨ c = 44 ∨ c = 64 ∨ c = 66
theorem Fr.kd {L : Nat → Prop} {Rf : Nat → Nat → Prop} {σ τ : eH} (h : Fr L Rf σ τ) {c : Nat} (hc : c < σ.1) : τ.2.2.1 c = σ.2.2.1 c := h.2.1 c hc
theorem Fr.at {L : Nat → Prop} {Rf : Nat → Nat → Prop} {σ τ : eH} (h : Fr L Rf σ τ) {c : Nat} (hc : c < σ.1) (hl : ¬ L c) : τ.2.2.2.1 c = σ.2.2.2.1 c := h.2.2.2 c hc hl
theorem Fr.ref {L : Nat → Prop} {Rf : Nat → Nat → Prop} {σ τ : eH} (h : Fr L Rf σ τ) {c i : Nat} (hc : c < σ.1) (hl : ¬ Rf c i) : τ.2.2.2.2 c i = σ.2.2.2.2 c i := h.2.2.1 c i hc hl
theorem Fr.tx {L : Nat → Prop} {σ τ : eH} (h : Fr L rfs σ τ) (hn : 185 ≤ σ.1) (h1 : ¬ L 1) (h2 : ¬ L 2) (g : Tx σ) : Tx τ := by
  unfold Tx
  rw [h.kd (by omega), h.kd (by omega), h.ref (c := 1) (by omega) (by unfold rfs; omega), h.at (by omega) h1, h.at (by omega) h2]
  exact g
theorem Fr.ck {L : Nat → Prop} {σ τ : eH} (h : Fr L rfs σ τ) (hn : 185 ≤ σ.1) (g : Ck σ) : Ck τ := by
  refine ⟨fun c hc => ?_, fun x hx => ?_⟩
  · rw [h.kd (by omega)]
    exact g.1 c hc
  · have h1 := t_cr_lt x hx
    have h2 := t_cr_n x hx
    have h3 := t_cr_4 x hx
    rw [h.ref (by omega) (by unfold rfs; omega)]
    exact g.2 x hx
theorem Fr.mo {L : Nat → Prop} {σ τ : eH} (h : Fr L rfs σ τ) (hn : 185 ≤ σ.1) (g : Mo σ) : Mo τ := by
  refine ⟨fun c hc => ?_, fun i hi => ?_⟩
  · rw [h.kd (by omega)]
    exact g.1 c hc
  · rw [h.ref (by omega) (by unfold rfs; omega)]
    exact g.2 i hi
theorem Fr.rr {L : Nat → Prop} {σ τ : eH} {r : Nat} {R : rRule} (h : Fr L rfs σ τ) (hn : 185 ≤ σ.1) (h3 : ¬ L 163) (h5 : ¬ L 165) (h6 : ¬ L 166) (g : r_rr σ r R) : r_rr τ r R := by
  unfold r_rr
  rw [h.at (by omega) h3, h.at (by omega) h5, h.at (by omega) h6]
  exact g
/-- of the cells behind the constructors' only those of owner w change -/
def Lw (own : Nat → Nat) (w : Nat) (L : Nat → Prop) (σ : eH) : Prop := ∀ c, 185 ≤ c → c < σ.1 → L c → own c = w
theorem Fr.rn {own own' : Nat → Nat} {w v : Nat} {L : Nat → Prop} {σ τ : eH} {R : rRule} (h : Fr L rfs σ τ) (ho : ∀ c, c < σ.1 → own' c = own c) (hw : Lw own w L σ) (hw4 : w ≠ 24) (g : RuN own σ v R) : RuN own' τ v R := by
  obtain ⟨ρ, u, h1, h2, h3, h4, h5, h6, h7, h8⟩ := g
  have := h.1
  refine ⟨ρ, u, h1, h2, h3, by omega, by omega, by rw [ho _ h4]; exact h6, by rw [ho _ h5]; exact h7, ?_⟩
  unfold RuV
  rw [h.kd h4, h.kd h5, h.ref h4 (by unfold rfs; omega), h.at h5 (fun q => by have := hw u h3 h5 q; omega)]
  exact h8
theorem Fr.ak {own own' : Nat → Nat} {L : Nat → Prop} {σ τ : eH} (h : Fr L rfs σ τ) (ho : ∀ c, c < σ.1 → own' c = own c) (hr : ∀ j, j < 20 → τ.2.2.2.2 66 j = σ.2.2.2.2 66 j) (g : AcK own σ) : AcK own' τ := fun j hj => by
  have h1 := h.1
  rcases g j hj with e | ⟨b, g1, g2, g3, g4, g5⟩
  · exact Or.inl ((hr j hj).trans e)
  · exact Or.inr ⟨b, (hr j hj).trans g1, g2, by omega, g4.fr (fun c c1 c2 => ⟨h.kd (by omega), fun i => h.ref (by omega) (by unfold rfs; omega)⟩), fun c c1 c2 => (ho c (by omega)).trans (g5 c c1 c2)⟩
theorem Fr.av {own : Nat → Nat} {w u p : Nat} {W : Nat → Int} {L : Nat → Prop} {σ τ : eH} (h : Fr L rfs σ τ) (hn : 185 ≤ σ.1) (hw : Lw own w L σ) (hw2 : 20 ≤ w) (hr : ∀ j, j < 20 → τ.2.2.2.2 66 j = σ.2.2.2.2 66 j) (h0 : τ.2.2.2.1 65 = σ.2.2.2.1 65) (gk : AcK own σ) (g : AcV σ u p W) : AcV τ u p W := by
  refine ⟨by rw [h0]; exact g.1, by rw [h0]; exact g.2.1, fun i hi => ?_⟩
  obtain ⟨b, g1, g2, g3⟩ := g.2.2 i hi
  have hj : (p + 20 - u + i) % 20 < 20 := Nat.mod_lt _ (by omega)
  refine ⟨b, (hr _ hj).trans g1, g2, g3.fr (fun c c1 c2 => ?_)⟩
  rcases gk _ hj with e | ⟨b2, f1, f2, f3, f4, f5⟩
  · omega
  · have : b2 = b := by omega
    subst this
    exact h.at (by omega) (fun q => by have := hw c (by omega) (by omega) q; have := f5 c c1 c2; omega)
theorem Fr.ik {own own' : Nat → Nat} {L : Nat → Prop} {σ τ : eH} (h : Fr L rfs σ τ) (ho : ∀ c, c < σ.1 → own' c = own c) (hr : ∀ j, j < 4 → τ.2.2.2.2 44 j = σ.2.2.2.2 44 j) (g : ImK own σ) : ImK own' τ := fun j hj => by
  have h1 := h.1
  rcases g j hj with e | ⟨b, g1, g2, g3, g4, g5⟩
  · exact Or.inl ((hr j hj).trans e)
  · exact Or.inr ⟨b, (hr j hj).trans g1, g2, by omega, g4.fr (fun c c1 c2 => ⟨h.kd (by omega), fun i => h.ref (by omega) (by unfold rfs; omega)⟩), fun c c1 c2 => (ho c (by omega)).trans (g5 c c1 c2)⟩
/-- a state that can be gone back to -/
def Os (T : Nat → Int) (n : Nat) : Prop := (∀ k, 10 ≤ k → k < 63 → e_w32 (T k) = T k) ∧ (0 ≤ T 10 ∧ T 10 ≤ 999) ∧ (∀ i, i < 8 → -1 ≤ T (11 + i) ∧ T (11 + i) < 4) ∧ (∀ i, i < n → -1 ≤ T (19 + i) ∧ T (19 + i) < n) ∧ (∀ i, i < 4 → 0 ≤ T (27 + i) ∧ T (27 + i) ≤ 99999) ∧ ∀ i, i < 32 → 0 ≤ T (31 + i) ∧ T (31 + i) ≤ 99
theorem Ok.os {S : Nat → Int} {n q : Nat} (h : Ok S n q 999) : Os S n := ⟨fun k _ _ => h.w k, by have := h.yr; omega, h.wh, h.fo, h.co, h.li⟩
theorem Os.cg {T X : Nat → Int} {n : Nat} (h : Os T n) (hn : n ≤ 8) (e : ∀ k, 10 ≤ k → k < 63 → T k = X k) : Os X n := by
  obtain ⟨h1, h2, h3, h4, h5, h6⟩ := h
  refine ⟨fun k k1 k2 => ?_, ?_, fun i hi => ?_, fun i hi => ?_, fun i hi => ?_, fun i hi => ?_⟩
  · rw [← e k k1 k2]; exact h1 k k1 k2
  · rw [← e 10 (by omega) (by omega)]; exact h2
  · rw [← e _ (by omega) (by omega)]; exact h3 i hi
  · rw [← e _ (by omega) (by omega)]; exact h4 i hi
  · rw [← e _ (by omega) (by omega)]; exact h5 i hi
  · rw [← e _ (by omega) (by omega)]; exact h6 i hi
theorem Ok.lay {S T X : Nat → Int} {n q : Nat} (h : Ok S n q 999) (g : Os T n) (e : ∀ k, 10 ≤ k → k < 63 → X k = T k) (e2 : ∀ k, k < 10 ∨ 63 ≤ k → X k = S k) : Ok X n q 999 := by
  have hn8 := h.n8
  have hq4 := h.q4
  obtain ⟨g1, g2, g3, g4, g5, g6⟩ := g
  refine ⟨fun j => ?_, ?_, hn8, ?_, hq4, ?_, ?_, ?_, fun i hi => ?_, fun i hi => ?_, fun i hi => ?_, fun i hi => ?_, fun i hi => ?_, fun i hi => ?_, fun i hi => ?_⟩
  · by_cases hj : 10 ≤ j ∧ j < 63
    · rw [e j hj.1 hj.2]; exact g1 j hj.1 hj.2
    · rw [e2 j (by omega)]; exact h.w j
  · rw [e2 _ (by omega)]; exact h.n
  · rw [e2 _ (by omega)]; exact h.q
  · rw [e2 _ (by omega)]; exact h.pr
  · rw [e2 _ (by omega)]; exact h.gr
  · rw [e _ (by omega) (by omega)]; exact g2
  · rw [e _ (by omega) (by omega)]; exact g3 i hi
  · rw [e _ (by omega) (by omega)]; exact g4 i hi
  · rw [e _ (by omega) (by omega)]; exact g5 i hi
  · rw [e _ (by omega) (by omega)]; exact g6 i hi
  · rw [e2 _ (by omega)]; exact h.wo i hi
  · rw [e2 _ (by omega)]; exact h.ha i hi
  · rw [e2 _ (by omega)]; exact h.sa i hi
theorem Ok.cg {T X : Nat → Int} {n q Y : Nat} (h : Ok T n q Y) (e : ∀ k, k < 119 → X k = T k) (hw : ∀ j, e_w32 (X j) = X j) : Ok X n q Y := by
  have hn8 := h.n8
  have hq4 := h.q4
  refine ⟨hw, ?_, hn8, ?_, hq4, ?_, ?_, ?_, fun i hi => ?_, fun i hi => ?_, fun i hi => ?_, fun i hi => ?_, fun i hi => ?_, fun i hi => ?_, fun i hi => ?_⟩
  · rw [e _ (by omega)]; exact h.n
  · rw [e _ (by omega)]; exact h.q
  · rw [e _ (by omega)]; exact h.pr
  · rw [e _ (by omega)]; exact h.gr
  · rw [e _ (by omega)]; exact h.yr
  · rw [e _ (by omega)]; exact h.wh i hi
  · rw [e _ (by omega)]; exact h.fo i hi
  · rw [e _ (by omega)]; exact h.co i hi
  · rw [e _ (by omega)]; exact h.li i hi
  · rw [e _ (by omega)]; exact h.wo i hi
  · rw [e _ (by omega)]; exact h.ha i hi
  · rw [e _ (by omega)]; exact h.sa i hi
theorem Tl.cg {T X : Nat → Int} {n : Nat} (h : Tl T n) (hn : n ≤ 8) (e : ∀ k, 79 ≤ k → k < 119 → X k = T k) : Tl X n := by
  refine ⟨fun i hi => ?_, fun i hi => ?_⟩
  · rw [e _ (by omega) (by omega)]; exact h.1 i hi
  · rw [e _ (by omega) (by omega)]; exact h.2 i hi
theorem Nt.c2 {T X : Nat → Int} {n c : Nat} (h : Nt T n c) (e : ∀ k, 119 ≤ k → k < 150 → X k = T k) : Nt X n c := by
  have := h.2.1
  refine ⟨(e _ (by omega) (by omega)).trans h.1, h.2.1, fun i hi => ?_⟩
  rw [e _ (by omega) (by omega), e _ (by omega) (by omega), e _ (by omega) (by omega)]
  exact h.2.2 i hi
theorem HlV.cg {σ : eH} {a n q : Nat} {T X : Nat → Int} (h : HlV σ a T n q) (hn8 : n ≤ 8) (hq4 : q ≤ 4) (e : ∀ k, k < 10 ∨ 63 ≤ k ∧ k < 119 → X k = T k) : HlV σ a X n q := by
  obtain ⟨h0, h1, h2, h3, h4, h5, h6, h7, Z, h8, h9⟩ := h
  have e0 := e 0 (by omega)
  have e1 := e 1 (by omega)
  refine ⟨by rw [e0]; exact h0, by rw [e0]; exact h1, by rw [e1]; exact h2, h3, h4, fun i hi => ?_, fun i hi => ?_, fun i hi => ?_, ?_⟩
  · rw [e _ (by omega)]; exact h5 i hi
  · rw [e _ (by omega)]; exact h6 i hi
  · rw [e _ (by omega)]; exact h7 i hi
  · by_cases hp : 0 < T 0
    · refine ⟨r_bg X 8 4 32, h8.cg (fun k k1 k2 => ?_), fun _ => rfl⟩
      rw [h9 hp]
      unfold r_bg
      by_cases c1 : k = 10
      · rw [if_pos c1, if_pos c1]
      · rw [if_neg c1, if_neg c1]
        by_cases c2 : 11 ≤ k ∧ k < 11 + 8
        · rw [if_pos c2, if_pos c2]
        · rw [if_neg c2, if_neg c2]
          by_cases c3 : 19 ≤ k ∧ k < 19 + 8
          · rw [if_pos c3, if_pos c3, e _ (by omega)]
          · rw [if_neg c3, if_neg c3]
            by_cases c4 : 27 ≤ k ∧ k < 27 + 4
            · rw [if_pos c4, if_pos c4]
            · rw [if_neg c4, if_neg c4, if_pos (by omega), if_pos (by omega), e _ (by omega)]
    · exact ⟨Z, h8, fun q => absurd q (by omega)⟩
theorem NtV.cg {σ : eH} {a c : Nat} {T X : Nat → Int} (h : NtV σ a T c) (hc : c ≤ 10) (e : ∀ k, 119 ≤ k → k < 149 → X k = T k) : NtV σ a X c := by
  refine ⟨h.1, fun i hi => ?_⟩
  rw [e _ (by omega) (by omega), e _ (by omega) (by omega), e _ (by omega) (by omega)]
  exact h.2 i hi
theorem WoV.cg {σ : eH} {a n q c : Nat} {T X : Nat → Int} {f x : Int} (h : WoV σ a T n q c f x) (hn8 : n ≤ 8) (hq4 : q ≤ 4) (hc : c ≤ 10) (e : ∀ k, k < 150 → X k = T k) : WoV σ a X n q c f x := ⟨h.1.cg hn8 hq4 (fun k hk => e k (by omega)), h.2.1.cg (fun k k1 k2 => (e k (by omega)).symm), h.2.2.1.cg hc (fun k k1 k2 => e k (by omega)), h.2.2.2⟩
/-- the images: made or not, and what they hold -/
def ImV (σ : eH) (M : Nat) : Prop := ∀ j, j < 4 → σ.2.2.2.1 184 j = 0 ∧ σ.2.2.2.2 44 j = 0 ∨ σ.2.2.2.1 184 j = 1 ∧ ∃ (b n q c x : Nat) (f : Int) (T : Nat → Int), σ.2.2.2.2 44 j = b + 2 ∧ 185 ≤ b ∧ WoV σ b T n q c f (x : Int) ∧ (∀ k, k < 150 → T k = σ.2.2.2.1 181 (150 * j + k)) ∧ σ.2.2.2.1 182 j = f ∧ σ.2.2.2.1 183 j = (x : Int) ∧ x < 2147483648 ∧ (-1 ≤ f ∧ f < M) ∧ Ok T n q 999 ∧ Tl T n ∧ Nt T n c
theorem Fr.iv {own : Nat → Nat} {w M M' : Nat} {L : Nat → Prop} {σ τ : eH} (h : Fr L rfs σ τ) (hn : 185 ≤ σ.1) (hw : Lw own w L σ) (hw2 : w < 20 ∨ 24 ≤ w) (hr : ∀ j, j < 4 → τ.2.2.2.2 44 j = σ.2.2.2.2 44 j) (h1 : ¬ L 181) (h2 : ¬ L 182) (h3 : ¬ L 183) (h4 : ¬ L 184) (hM : M ≤ M') (gk : ImK own σ) (g : ImV σ M) : ImV τ M' := fun j hj => by
  rw [h.at (c := 181) (by omega) h1, h.at (c := 182) (by omega) h2, h.at (c := 183) (by omega) h3, h.at (c := 184) (by omega) h4, hr j hj]
  rcases g j hj with e | ⟨e, b, n, q, c, x, f, T, g1, g2, g3, g4, g5, g6, g7, g8, g9⟩
  · exact Or.inl e
  · refine Or.inr ⟨e, b, n, q, c, x, f, T, g1, g2, g3.fr (fun d d1 d2 => ?_), g4, g5, g6, g7, ⟨g8.1, by omega⟩, g9⟩
    rcases gk j hj with e | ⟨b2, f1, f2, f3, f4, f5⟩
    · omega
    · have : b2 = b := by omega
      subst this
      exact h.at (by omega) (fun q => by have := hw d (by omega) (by omega) q; have := f5 d d1 d2; omega)
/-- THE INVARIANT: class and reference hold the same -/
def Iv (L : Nat) (xs : Nat → Int) (own : Nat → Nat) (S : Nat → Int) (n q c t M u p x : Nat) (f : Int) (B : Nat → Int) (RS : Nat → rRule) (σ : eH) : Prop := σ.2.2.1 0 = (28, L) ∧ σ.2.2.2.1 0 = xs ∧ Tx σ ∧ 185 ≤ σ.1 ∧ Ck σ ∧ Mo σ ∧ σ.2.2.2.1 171 = S ∧ σ.2.2.2.1 161 1 = (t : Int) ∧ t ≤ 400 ∧ σ.2.2.2.1 162 = B ∧ (∀ i, -128 ≤ B i ∧ B i < 128) ∧ σ.2.2.2.1 161 2 = (M : Int) ∧ M ≤ 6 ∧ σ.2.2.2.1 161 21 = f ∧ (-1 ≤ f ∧ f < M) ∧ σ.2.2.2.1 161 22 = (x : Int) ∧ x < 2147483648 ∧ σ.2.2.2.1 161 23 = 0 ∧ σ.2.2.2.1 161 26 = (u : Int) ∧ u ≤ 20 ∧ (∀ r, r < M → r_rr σ r (RS r)) ∧ Ok S n q 999 ∧ Tl S n ∧ Nt S n c ∧ σ.2.2.2.1 4 0 = (t : Int) ∧ σ.2.2.2.1 5 = B ∧ σ.2.2.2.1 3 6 = (M : Int) ∧ WoV σ 9 S n q c f (x : Int) ∧ (∀ r, r < M → RuN own σ (σ.2.2.2.2 64 r) (RS r)) ∧ p < 20 ∧ AcK own σ ∧ AcV σ u p (σ.2.2.2.1 173) ∧ (∀ i, i < u → Os (r_row (σ.2.2.2.1 173) i) n) ∧ ImK own σ ∧ ImV σ M
theorem Iv.sc {L : Nat} {xs : Nat → Int} {own : Nat → Nat} {S : Nat → Int} {n q c t M u p x : Nat} {f : Int} {B : Nat → Int} {RS : Nat → rRule} {σ : eH} (h : Iv L xs own S n q c t M u p x f B RS σ) : σ.2.2.1 0 = (28, L) := h.1
theorem Iv.sd {L : Nat} {xs : Nat → Int} {own : Nat → Nat} {S : Nat → Int} {n q c t M u p x : Nat} {f : Int} {B : Nat → Int} {RS : Nat → rRule} {σ : eH} (h : Iv L xs own S n q c t M u p x f B RS σ) : σ.2.2.2.1 0 = xs := h.2.1
theorem Iv.tx {L : Nat} {xs : Nat → Int} {own : Nat → Nat} {S : Nat → Int} {n q c t M u p x : Nat} {f : Int} {B : Nat → Int} {RS : Nat → rRule} {σ : eH} (h : Iv L xs own S n q c t M u p x f B RS σ) : Tx σ := h.2.2.1
theorem Iv.n5 {L : Nat} {xs : Nat → Int} {own : Nat → Nat} {S : Nat → Int} {n q c t M u p x : Nat} {f : Int} {B : Nat → Int} {RS : Nat → rRule} {σ : eH} (h : Iv L xs own S n q c t M u p x f B RS σ) : 185 ≤ σ.1 := h.2.2.2.1
theorem Iv.ck {L : Nat} {xs : Nat → Int} {own : Nat → Nat} {S : Nat → Int} {n q c t M u p x : Nat} {f : Int} {B : Nat → Int} {RS : Nat → rRule} {σ : eH} (h : Iv L xs own S n q c t M u p x f B RS σ) : Ck σ := h.2.2.2.2.1
theorem Iv.mo {L : Nat} {xs : Nat → Int} {own : Nat → Nat} {S : Nat → Int} {n q c t M u p x : Nat} {f : Int} {B : Nat → Int} {RS : Nat → rRule} {σ : eH} (h : Iv L xs own S n q c t M u p x f B RS σ) : Mo σ := h.2.2.2.2.2.1
theorem Iv.S1 {L : Nat} {xs : Nat → Int} {own : Nat → Nat} {S : Nat → Int} {n q c t M u p x : Nat} {f : Int} {B : Nat → Int} {RS : Nat → rRule} {σ : eH} (h : Iv L xs own S n q c t M u p x f B RS σ) : σ.2.2.2.1 171 = S := h.2.2.2.2.2.2.1
theorem Iv.t1 {L : Nat} {xs : Nat → Int} {own : Nat → Nat} {S : Nat → Int} {n q c t M u p x : Nat} {f : Int} {B : Nat → Int} {RS : Nat → rRule} {σ : eH} (h : Iv L xs own S n q c t M u p x f B RS σ) : σ.2.2.2.1 161 1 = (t : Int) := h.2.2.2.2.2.2.2.1
theorem Iv.t4 {L : Nat} {xs : Nat → Int} {own : Nat → Nat} {S : Nat → Int} {n q c t M u p x : Nat} {f : Int} {B : Nat → Int} {RS : Nat → rRule} {σ : eH} (h : Iv L xs own S n q c t M u p x f B RS σ) : t ≤ 400 := h.2.2.2.2.2.2.2.2.1
theorem Iv.b1 {L : Nat} {xs : Nat → Int} {own : Nat → Nat} {S : Nat → Int} {n q c t M u p x : Nat} {f : Int} {B : Nat → Int} {RS : Nat → rRule} {σ : eH} (h : Iv L xs own S n q c t M u p x f B RS σ) : σ.2.2.2.1 162 = B := h.2.2.2.2.2.2.2.2.2.1
theorem Iv.bb {L : Nat} {xs : Nat → Int} {own : Nat → Nat} {S : Nat → Int} {n q c t M u p x : Nat} {f : Int} {B : Nat → Int} {RS : Nat → rRule} {σ : eH} (h : Iv L xs own S n q c t M u p x f B RS σ) : ∀ i, -128 ≤ B i ∧ B i < 128 := h.2.2.2.2.2.2.2.2.2.2.1
theorem Iv.m1 {L : Nat} {xs : Nat → Int} {own : Nat → Nat} {S : Nat → Int} {n q c t M u p x : Nat} {f : Int} {B : Nat → Int} {RS : Nat → rRule} {σ : eH} (h : Iv L xs own S n q c t M u p x f B RS σ) : σ.2.2.2.1 161 2 = (M : Int) := h.2.2.2.2.2.2.2.2.2.2.2.1
theorem Iv.m6 {L : Nat} {xs : Nat → Int} {own : Nat → Nat} {S : Nat → Int} {n q c t M u p x : Nat} {f : Int} {B : Nat → Int} {RS : Nat → rRule} {σ : eH} (h : Iv L xs own S n q c t M u p x f B RS σ) : M ≤ 6 := h.2.2.2.2.2.2.2.2.2.2.2.2.1
theorem Iv.f1 {L : Nat} {xs : Nat → Int} {own : Nat → Nat} {S : Nat → Int} {n q c t M u p x : Nat} {f : Int} {B : Nat → Int} {RS : Nat → rRule} {σ : eH} (h : Iv L xs own S n q c t M u p x f B RS σ) : σ.2.2.2.1 161 21 = f := h.2.2.2.2.2.2.2.2.2.2.2.2.2.1
theorem Iv.fb {L : Nat} {xs : Nat → Int} {own : Nat → Nat} {S : Nat → Int} {n q c t M u p x : Nat} {f : Int} {B : Nat → Int} {RS : Nat → rRule} {σ : eH} (h : Iv L xs own S n q c t M u p x f B RS σ) : -1 ≤ f ∧ f < M := h.2.2.2.2.2.2.2.2.2.2.2.2.2.2.1
theorem Iv.x1 {L : Nat} {xs : Nat → Int} {own : Nat → Nat} {S : Nat → Int} {n q c t M u p x : Nat} {f : Int} {B : Nat → Int} {RS : Nat → rRule} {σ : eH} (h : Iv L xs own S n q c t M u p x f B RS σ) : σ.2.2.2.1 161 22 = (x : Int) := h.2.2.2.2.2.2.2.2.2.2.2.2.2.2.2.1
theorem Iv.xb {L : Nat} {xs : Nat → Int} {own : Nat → Nat} {S : Nat → Int} {n q c t M u p x : Nat} {f : Int} {B : Nat → Int} {RS : Nat → rRule} {σ : eH} (h : Iv L xs own S n q c t M u p x f B RS σ) : x < 2147483648 := h.2.2.2.2.2.2.2.2.2.2.2.2.2.2.2.2.1
theorem Iv.r23 {L : Nat} {xs : Nat → Int} {own : Nat → Nat} {S : Nat → Int} {n q c t M u p x : Nat} {f : Int} {B : Nat → Int} {RS : Nat → rRule} {σ : eH} (h : Iv L xs own S n q c t M u p x f B RS σ) : σ.2.2.2.1 161 23 = 0 := h.2.2.2.2.2.2.2.2.2.2.2.2.2.2.2.2.2.1
theorem Iv.u1 {L : Nat} {xs : Nat → Int} {own : Nat → Nat} {S : Nat → Int} {n q c t M u p x : Nat} {f : Int} {B : Nat → Int} {RS : Nat → rRule} {σ : eH} (h : Iv L xs own S n q c t M u p x f B RS σ) : σ.2.2.2.1 161 26 = (u : Int) := h.2.2.2.2.2.2.2.2.2.2.2.2.2.2.2.2.2.2.1
theorem Iv.u2 {L : Nat} {xs : Nat → Int} {own : Nat → Nat} {S : Nat → Int} {n q c t M u p x : Nat} {f : Int} {B : Nat → Int} {RS : Nat → rRule} {σ : eH} (h : Iv L xs own S n q c t M u p x f B RS σ) : u ≤ 20 := h.2.2.2.2.2.2.2.2.2.2.2.2.2.2.2.2.2.2.2.1
theorem Iv.rr {L : Nat} {xs : Nat → Int} {own : Nat → Nat} {S : Nat → Int} {n q c t M u p x : Nat} {f : Int} {B : Nat → Int} {RS : Nat → rRule} {σ : eH} (h : Iv L xs own S n q c t M u p x f B RS σ) : ∀ r, r < M → r_rr σ r (RS r) := h.2.2.2.2.2.2.2.2.2.2.2.2.2.2.2.2.2.2.2.2.1
theorem Iv.ok {L : Nat} {xs : Nat → Int} {own : Nat → Nat} {S : Nat → Int} {n q c t M u p x : Nat} {f : Int} {B : Nat → Int} {RS : Nat → rRule} {σ : eH} (h : Iv L xs own S n q c t M u p x f B RS σ) : Ok S n q 999 := h.2.2.2.2.2.2.2.2.2.2.2.2.2.2.2.2.2.2.2.2.2.1
theorem Iv.tl {L : Nat} {xs : Nat → Int} {own : Nat → Nat} {S : Nat → Int} {n q c t M u p x : Nat} {f : Int} {B : Nat → Int} {RS : Nat → rRule} {σ : eH} (h : Iv L xs own S n q c t M u p x f B RS σ) : Tl S n := h.2.2.2.2.2.2.2.2.2.2.2.2.2.2.2.2.2.2.2.2.2.2.1
theorem Iv.nt {L : Nat} {xs : Nat → Int} {own : Nat → Nat} {S : Nat → Int} {n q c t M u p x : Nat} {f : Int} {B : Nat → Int} {RS : Nat → rRule} {σ : eH} (h : Iv L xs own S n q c t M u p x f B RS σ) : Nt S n c := h.2.2.2.2.2.2.2.2.2.2.2.2.2.2.2.2.2.2.2.2.2.2.2.1
theorem Iv.c4 {L : Nat} {xs : Nat → Int} {own : Nat → Nat} {S : Nat → Int} {n q c t M u p x : Nat} {f : Int} {B : Nat → Int} {RS : Nat → rRule} {σ : eH} (h : Iv L xs own S n q c t M u p x f B RS σ) : σ.2.2.2.1 4 0 = (t : Int) := h.2.2.2.2.2.2.2.2.2.2.2.2.2.2.2.2.2.2.2.2.2.2.2.2.1
theorem Iv.c5 {L : Nat} {xs : Nat → Int} {own : Nat → Nat} {S : Nat → Int} {n q c t M u p x : Nat} {f : Int} {B : Nat → Int} {RS : Nat → rRule} {σ : eH} (h : Iv L xs own S n q c t M u p x f B RS σ) : σ.2.2.2.1 5 = B := h.2.2.2.2.2.2.2.2.2.2.2.2.2.2.2.2.2.2.2.2.2.2.2.2.2.1
theorem Iv.c3 {L : Nat} {xs : Nat → Int} {own : Nat → Nat} {S : Nat → Int} {n q c t M u p x : Nat} {f : Int} {B : Nat → Int} {RS : Nat → rRule} {σ : eH} (h : Iv L xs own S n q c t M u p x f B RS σ) : σ.2.2.2.1 3 6 = (M : Int) := h.2.2.2.2.2.2.2.2.2.2.2.2.2.2.2.2.2.2.2.2.2.2.2.2.2.2.1
theorem Iv.wo {L : Nat} {xs : Nat → Int} {own : Nat → Nat} {S : Nat → Int} {n q c t M u p x : Nat} {f : Int} {B : Nat → Int} {RS : Nat → rRule} {σ : eH} (h : Iv L xs own S n q c t M u p x f B RS σ) : WoV σ 9 S n q c f (x : Int) := h.2.2.2.2.2.2.2.2.2.2.2.2.2.2.2.2.2.2.2.2.2.2.2.2.2.2.2.1
theorem Iv.rn {L : Nat} {xs : Nat → Int} {own : Nat → Nat} {S : Nat → Int} {n q c t M u p x : Nat} {f : Int} {B : Nat → Int} {RS : Nat → rRule} {σ : eH} (h : Iv L xs own S n q c t M u p x f B RS σ) : ∀ r, r < M → RuN own σ (σ.2.2.2.2 64 r) (RS r) := h.2.2.2.2.2.2.2.2.2.2.2.2.2.2.2.2.2.2.2.2.2.2.2.2.2.2.2.2.1
theorem Iv.p2 {L : Nat} {xs : Nat → Int} {own : Nat → Nat} {S : Nat → Int} {n q c t M u p x : Nat} {f : Int} {B : Nat → Int} {RS : Nat → rRule} {σ : eH} (h : Iv L xs own S n q c t M u p x f B RS σ) : p < 20 := h.2.2.2.2.2.2.2.2.2.2.2.2.2.2.2.2.2.2.2.2.2.2.2.2.2.2.2.2.2.1
theorem Iv.ak {L : Nat} {xs : Nat → Int} {own : Nat → Nat} {S : Nat → Int} {n q c t M u p x : Nat} {f : Int} {B : Nat → Int} {RS : Nat → rRule} {σ : eH} (h : Iv L xs own S n q c t M u p x f B RS σ) : AcK own σ := h.2.2.2.2.2.2.2.2.2.2.2.2.2.2.2.2.2.2.2.2.2.2.2.2.2.2.2.2.2.2.1
theorem Iv.av {L : Nat} {xs : Nat → Int} {own : Nat → Nat} {S : Nat → Int} {n q c t M u p x : Nat} {f : Int} {B : Nat → Int} {RS : Nat → rRule} {σ : eH} (h : Iv L xs own S n q c t M u p x f B RS σ) : AcV σ u p (σ.2.2.2.1 173) := h.2.2.2.2.2.2.2.2.2.2.2.2.2.2.2.2.2.2.2.2.2.2.2.2.2.2.2.2.2.2.2.1
theorem Iv.ar {L : Nat} {xs : Nat → Int} {own : Nat → Nat} {S : Nat → Int} {n q c t M u p x : Nat} {f : Int} {B : Nat → Int} {RS : Nat → rRule} {σ : eH} (h : Iv L xs own S n q c t M u p x f B RS σ) : ∀ i, i < u → Os (r_row (σ.2.2.2.1 173) i) n := h.2.2.2.2.2.2.2.2.2.2.2.2.2.2.2.2.2.2.2.2.2.2.2.2.2.2.2.2.2.2.2.2.1
theorem Iv.ik {L : Nat} {xs : Nat → Int} {own : Nat → Nat} {S : Nat → Int} {n q c t M u p x : Nat} {f : Int} {B : Nat → Int} {RS : Nat → rRule} {σ : eH} (h : Iv L xs own S n q c t M u p x f B RS σ) : ImK own σ := h.2.2.2.2.2.2.2.2.2.2.2.2.2.2.2.2.2.2.2.2.2.2.2.2.2.2.2.2.2.2.2.2.2.1
theorem Iv.iv {L : Nat} {xs : Nat → Int} {own : Nat → Nat} {S : Nat → Int} {n q c t M u p x : Nat} {f : Int} {B : Nat → Int} {RS : Nat → rRule} {σ : eH} (h : Iv L xs own S n q c t M u p x f B RS σ) : ImV σ M := h.2.2.2.2.2.2.2.2.2.2.2.2.2.2.2.2.2.2.2.2.2.2.2.2.2.2.2.2.2.2.2.2.2.2
