theorem r_len_c : ∀ R : rRule, r_len R ≤ c_len R
  | [] => Nat.le_refl _
  | (A, none) :: R => by
    have := r_len_c R
    simp only [r_len, c_len]
    omega
  | (A, some B) :: R => by
    have := r_len_c R
    simp only [r_len, c_len]
    omega
theorem Fu.rr {σ τ : eH} {M r : Nat} {R : rRule} (h : Fu M σ τ) (hr : r < M) (hl : r_len R ≤ 400) (g : r_rr σ r R) : r_rr τ r R := by
  obtain ⟨g1, g2, g3, g4, g5⟩ := g
  obtain ⟨h1, h2, h3, h4⟩ := h
  exact ⟨g1, by rw [h4 r (by omega)]; exact g2, g3, r_cls_cg R 0 0 (fun j hj => h2 j (by omega)) (fun j hj => h3 j (by omega)) g4, g5⟩
set_option maxRecDepth 8000 in
set_option maxHeartbeats 4000000 in
theorem o_rule {k : Nat} {L : Nat} {xs : Nat → Int} {own : Nat → Nat} {S : Nat → Int} {n q c t M u p x : Nat} {f : Int} {B : Nat → Int} {RS : Nat → rRule} {σ : eH} (hk : 60 ≤ k) (h : Iv L xs own S n q c t M u p x f B RS σ) : Op k L xs 57 157 [.inr (.inr 5)] [.inr (.inr 163)] σ := by
  have n5 := h.n5
  have hn8 := h.ok.n8
  have hq4 := h.ok.q4
  have ho : ∀ c, c < σ.1 → own c = own c := fun _ _ => rfl
  have hm6 := h.m6
  have hp2 := h.p2
  have hrl : ∀ r, r < M → r_len (RS r) ≤ 400 := fun r hr => by
    obtain ⟨ρ, u', g1, g2, g3, g4, g5, g6, g7, g8⟩ := h.rn r hr
    have := g8.2.2.2.1
    have := r_len_c (RS r)
    omega
  refine c_rule (B := B) (t := t) (M := M) (by omega) h.ck h.tx h.t4 h.c5 h.bb h.c4 h.c3 h.m6 n5 (fun hM => ?_) (fun τ1 e hM er hs1 z4 => ?_) (fun τ1 R hM er hdm n1 z64 zr z4 z3 => ?_)
  · refine ⟨_, rfl, h.sx, ?_⟩
    exact w_rule (M := M) (t := t) (B := B) (by omega) h.mo h.t1 h.b1 h.t4 h.bb h.m1 h.m6 (fun _ => ⟨rfl, h.x, by omega, by omega⟩) (fun τ R g => absurd g (by omega)) (fun τ e g => absurd g (by omega))
  · have e161 : τ1.2.2.2.1 161 = σ.2.2.2.1 161 := hs1.at 161 (by omega)
    refine ⟨_, rfl, ⟨by rw [hs1.2.2.1]; exact h.sc, by rw [hs1.at 0 (by omega)]; exact h.sd, by rw [hs1.2.2.1]; exact mk161 h.mo⟩, ?_⟩
    refine w_rule (M := M) (t := t) (B := B) (by omega) ⟨fun a ha => by rw [hs1.2.2.1]; exact h.mo.1 a ha, fun i hi => by rw [hs1.2.2.2.1]; exact h.mo.2 i hi⟩ (by rw [e161]; exact h.t1) (by rw [hs1.at 162 (by omega)]; exact h.b1) h.t4 h.bb (by rw [e161]; exact h.m1) h.m6 (fun g => absurd g (by omega)) (fun τ R _ er2 => absurd (er.symm.trans er2) (by intro g; cases g)) (fun τ e' _ er2 hu y1 y2 => ?_)
    have ee : e = e' := by
      have := er.symm.trans er2
      cases this
      rfl
    have hf1 := hs1.f (Rf := rfs)
    have hf2 := hu.1.f (Rf := rfs)
    have hF : Fr (fun c => c = 3 ∨ c = 4 ∨ 6 ≤ c ∧ c < 9 ∨ c = 62 ∨ c = 63 ∨ c = 161 ∨ c = 163 ∨ c = 164 ∨ c = 165 ∨ c = 166 ∨ c = 168) rfs σ τ := (hf1.tr hf2).mn (fun c hc q => by simp only [List.mem_cons, List.not_mem_nil, or_false] at q; omega) (fun _ _ q => q)
    have hR : ∀ c i, ¬ ((c = 71 ∨ c = 113) ∧ i = 4) → τ.2.2.2.2 c i = σ.2.2.2.2 c i := fun c i q => by rw [hu.1.2.2.2.1, hs1.2.2.2.1]
    have hw : Lw own 99 (fun c => c = 3 ∨ c = 4 ∨ 6 ≤ c ∧ c < 9 ∨ c = 62 ∨ c = 63 ∨ c = 161 ∨ c = 163 ∨ c = 164 ∨ c = 165 ∨ c = 166 ∨ c = 168) σ := fun c c1 c2 q => by exfalso; omega
    have hr64 : ∀ r, r < M → τ.2.2.2.2 64 r = σ.2.2.2.2 64 r := fun r _ => hR 64 r (by omega)
    have hr66 : ∀ j, j < 20 → τ.2.2.2.2 66 j = σ.2.2.2.2 66 j := fun j _ => hR 66 j (by omega)
    have hr44 : ∀ j, j < 4 → τ.2.2.2.2 44 j = σ.2.2.2.2 44 j := fun j _ => hR 44 j (by omega)
    have hfd : ∀ i, i ∉ [1, 2, 8, 9, 10, 11, 12, 13, 14, 16] → τ.2.2.2.1 161 i = σ.2.2.2.1 161 i := fun i hi => by rw [hu.1.fd i hi, e161]
    have hr1 : ∀ r, r < M → r_rr τ1 r (RS r) := fun r hr => hf1.rr n5 (by omega) (by omega) (by omega) (h.rr r hr)
    have hI : Iv L xs own S n q c (0) M u p x f B RS τ := by
      refine ⟨?_, ?_, ?_, ?_, ?_, ?_, ?_, ?_, ?_, ?_, ?_, ?_, ?_, ?_, ?_, ?_, ?_, ?_, ?_, ?_, ?_, ?_, ?_, ?_, ?_, ?_, ?_, ?_, ?_, ?_, ?_, ?_, ?_, ?_, ?_⟩
      · rw [hF.kd (by omega)]; exact h.sc
      · rw [hF.at (by omega) (by omega)]; exact h.sd
      · exact hF.tx n5 (by omega) (by omega) h.tx
      · have := hF.1; omega
      · exact hF.ck n5 h.ck
      · exact hF.mo n5 h.mo
      · rw [hF.at (by omega) (by omega)]; exact h.S1
      · rw [y1]; rfl
      · omega
      · rw [hF.at (by omega) (by omega)]; exact h.b1
      · exact h.bb
      · exact y2
      · exact h.m6
      · rw [hfd 21 (by decide)]; exact h.f1
      · exact h.fb
      · rw [hfd 22 (by decide)]; exact h.x1
      · exact h.xb
      · rw [hfd 23 (by decide)]; exact h.r23
      · rw [hfd 26 (by decide)]; exact h.u1
      · exact h.u2
      · exact fun r hr => hu.rr hr (hrl r hr) (hr1 r hr)
      · exact h.ok
      · exact h.tl
      · exact h.nt
      · rw [hu.1.at 4 (by decide) (by decide), z4]; rfl
      · rw [hF.at (by omega) (by omega)]; exact h.c5
      · rw [hu.1.at 3 (by decide) (by decide), hs1.at 3 (by omega)]; exact h.c3
      · exact h.wo.fr (fun d d1 d2 => hF.at (by omega) (by omega))
      · exact fun r hr => by rw [hr64 r hr]; exact hF.rn ho hw (by omega) (h.rn r hr)
      · exact h.p2
      · exact hF.ak ho hr66 h.ak
      · rw [hF.at (c := 173) (by omega) (by omega)]; exact hF.av n5 hw (by omega) hr66 (hF.at (by omega) (by omega)) h.ak h.av
      · rw [hF.at (c := 173) (by omega) (by omega)]; exact h.ar
      · exact hF.ik ho hr44 h.ik
      · exact hF.iv n5 hw (by omega) hr44 (by omega) (by omega) (by omega) (by omega) (by omega) h.ik h.iv
    refine ⟨by rw [ee], hI.x, ?_, ?_⟩
    · have := hs1.1
      have := hu.1.1
      omega
    · have := hs1.2.1
      have := hu.1.2.1
      omega
  · have hd := hdm own
    have hf1 : Fr (fun c => (c = 3 ∨ c = 4 ∨ 6 ≤ c ∧ c < 9 ∨ c = 62 ∨ c = 63) ∨ 185 ≤ c ∧ own c = 99) rfs σ τ1 := hd.f (fun c i q => Or.inr (Or.inr (Or.inl q.1)))
    have e161 : τ1.2.2.2.1 161 = σ.2.2.2.1 161 := hd.at (by omega) (by omega) (by omega)
    have hm1 : Mo τ1 := hf1.mo n5 h.mo
    refine ⟨_, rfl, ⟨by rw [hf1.kd (by omega)]; exact h.sc, by rw [hd.at (by omega) (by omega) (by omega)]; exact h.sd, mk161 hm1⟩, ?_⟩
    refine w_rule (M := M) (t := t) (B := B) (by omega) hm1 (by rw [e161]; exact h.t1) (by rw [hd.at (by omega) (by omega) (by omega)]; exact h.b1) h.t4 h.bb (by rw [e161]; exact h.m1) h.m6 (fun g => absurd g (by omega)) (fun τ R' _ er2 hu yr y1 y2 => ?_) (fun τ e' _ er2 => absurd (er.symm.trans er2) (by intro g; cases g))
    have ee : R = R' := by
      have := er.symm.trans er2
      cases this
      rfl
    subst ee
    have hf2 := hu.1.f (Rf := rfs)
    have hF : Fr (fun c => c = 3 ∨ c = 4 ∨ 6 ≤ c ∧ c < 9 ∨ c = 62 ∨ c = 63 ∨ c = 161 ∨ c = 163 ∨ c = 164 ∨ c = 165 ∨ c = 166 ∨ c = 168 ∨ 185 ≤ c ∧ own c = 99) rfs σ τ := (hf1.tr hf2).mn (fun c hc q => by simp only [List.mem_cons, List.not_mem_nil, or_false] at q; omega) (fun _ _ q => q)
    have hkk : τ.2.2.1 = τ1.2.2.1 := hu.1.2.2.1
    have hrr0 : τ.2.2.2.2 = τ1.2.2.2.2 := hu.1.2.2.2.1
    have hnn : τ.1 = τ1.1 := hu.1.1
    obtain ⟨own', ho'⟩ : ∃ own' : Nat → Nat, ∀ c, own' c = if c < σ.1 then own c else 24 := ⟨fun c => if c < σ.1 then own c else 24, fun _ => rfl⟩
    obtain ⟨RS', hRS'⟩ : ∃ RS' : Nat → rRule, ∀ r, RS' r = if r = M then R else RS r := ⟨fun r => if r = M then R else RS r, fun _ => rfl⟩
    have ho : ∀ c, c < σ.1 → own' c = own c := fun c hc => by rw [ho', if_pos hc]
    have hw : Lw own 99 (fun c => c = 3 ∨ c = 4 ∨ 6 ≤ c ∧ c < 9 ∨ c = 62 ∨ c = 63 ∨ c = 161 ∨ c = 163 ∨ c = 164 ∨ c = 165 ∨ c = 166 ∨ c = 168 ∨ 185 ≤ c ∧ own c = 99) σ := fun c c1 c2 q => by omega
    have hr64 : ∀ r, r < M → τ.2.2.2.2 64 r = σ.2.2.2.2 64 r := fun r hr => by rw [hrr0]; exact hd.ref (by omega) (by omega)
    have hr66 : ∀ j, j < 20 → τ.2.2.2.2 66 j = σ.2.2.2.2 66 j := fun j hj => by rw [hrr0]; exact hd.ref (by omega) (by omega)
    have hr44 : ∀ j, j < 4 → τ.2.2.2.2 44 j = σ.2.2.2.2 44 j := fun j hj => by rw [hrr0]; exact hd.ref (by omega) (by omega)
    have hr1 : ∀ r, r < M → r_rr τ1 r (RS r) := fun r hr => hf1.rr n5 (by omega) (by omega) (by omega) (h.rr r hr)
    have fb := h.fb
    have hfd : ∀ i, i ∉ [1, 2, 8, 9, 10, 11, 12, 13, 14, 16] → τ.2.2.2.1 161 i = σ.2.2.2.1 161 i := fun i hi => by rw [hu.1.fd i hi, e161]
    have hI : Iv L xs (own') S n q c (0) (M + 1) u p x f B (RS') τ := by
      refine ⟨?_, ?_, ?_, ?_, ?_, ?_, ?_, ?_, ?_, ?_, ?_, ?_, ?_, ?_, ?_, ?_, ?_, ?_, ?_, ?_, ?_, ?_, ?_, ?_, ?_, ?_, ?_, ?_, ?_, ?_, ?_, ?_, ?_, ?_, ?_⟩
      · rw [hF.kd (by omega)]; exact h.sc
      · rw [hF.at (by omega) (by omega)]; exact h.sd
      · exact hF.tx n5 (by omega) (by omega) h.tx
      · have := hF.1; omega
      · exact hF.ck n5 h.ck
      · exact hF.mo n5 h.mo
      · rw [hF.at (by omega) (by omega)]; exact h.S1
      · rw [y1]; rfl
      · omega
      · rw [hF.at (by omega) (by omega)]; exact h.b1
      · exact h.bb
      · rw [y2]; omega
      · omega
      · rw [hfd 21 (by decide)]; exact h.f1
      · omega
      · rw [hfd 22 (by decide)]; exact h.x1
      · exact h.xb
      · rw [hfd 23 (by decide)]; exact h.r23
      · rw [hfd 26 (by decide)]; exact h.u1
      · exact h.u2
      · intro r hr
        by_cases e : r = M
        · rw [hRS', if_pos e, e]
          exact yr
        · rw [hRS', if_neg e]
          exact hu.rr (by omega) (hrl r (by omega)) (hr1 r (by omega))
      · exact h.ok
      · exact h.tl
      · exact h.nt
      · rw [hu.1.at 4 (by decide) (by decide), z4]; rfl
      · rw [hF.at (by omega) (by omega)]; exact h.c5
      · rw [hu.1.at 3 (by decide) (by decide), z3]; omega
      · exact h.wo.fr (fun d d1 d2 => hF.at (by omega) (by omega))
      · intro r hr
        by_cases e : r = M
        · rw [hRS', if_pos e, e]
          refine ⟨σ.1, σ.1 + 1, by rw [hrr0]; exact z64, by omega, by omega, by omega, by omega, by rw [ho', if_neg (by omega)], by rw [ho', if_neg (by omega)], ?_⟩
          obtain ⟨q1, q2, q3, q4, q5, q6⟩ := zr
          exact ⟨by rw [hkk]; exact q1, by rw [hrr0]; exact q2, by rw [hkk]; exact q3, q4, by rw [hu.1.at _ (by simp only [List.mem_cons, List.not_mem_nil, or_false]; omega) (by omega)]; exact q5, q6⟩
        · rw [hRS', if_neg e, hr64 r (by omega)]
          exact hF.rn ho hw (by omega) (h.rn r (by omega))
      · exact h.p2
      · exact hF.ak ho hr66 h.ak
      · rw [hF.at (c := 173) (by omega) (by omega)]; exact hF.av n5 hw (by omega) hr66 (hF.at (by omega) (by omega)) h.ak h.av
      · rw [hF.at (c := 173) (by omega) (by omega)]; exact h.ar
      · exact hF.ik ho hr44 h.ik
      · exact hF.iv n5 hw (by omega) hr44 (by omega) (by omega) (by omega) (by omega) (by omega) h.ik h.iv
    refine ⟨rfl, hI.x, ?_, ?_⟩
    · have := hd.2.1
      omega
    · have := hd.2.2.2.1
      have := hu.1.2.1
      omega
