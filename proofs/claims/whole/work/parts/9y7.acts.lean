theorem StV.coi {σ : eH} {a m : Nat} {X : Nat → Int} {v : Int} (h : StV σ a X) (hm : m < 4) : StV (e_put σ (a + 12) m v) a (va_up X (27 + m) v) := by
  obtain ⟨h1, h2, h3, h4, h5⟩ := h
  refine ⟨fun i hi => ?_, fun i hi => ?_, fun s m' hs hm' => ?_, fun m' hm' => ?_, ?_⟩
  · rw [e_pd2 _ (by omega), e_un _ (by omega)]; exact h1 i hi
  · rw [e_pd2 _ (by omega), e_un _ (by omega)]; exact h2 i hi
  · rw [e_pd2 _ (by omega), e_un _ (by omega)]; exact h3 s m' hs hm'
  · rw [e_pd1]
    by_cases e : m' = m
    · rw [e, e_us, e_us]
    · rw [e_un _ e, e_un _ (by omega)]; exact h4 m' hm'
  · rw [e_pd2 _ (by omega), e_un _ (by omega)]; exact h5
theorem Ok.cop {S : Nat → Int} {n q m : Nat} {x : Int} (h : Ok S n q 999) (hm : m < 4) (hx : 0 ≤ x ∧ x ≤ 99999) : Ok (va_up S (27 + m) x) n q 999 := by
  refine h.lay (T := va_up S (27 + m) x) ?_ (fun _ _ _ => rfl) (fun k hk => e_un _ (by omega))
  obtain ⟨g1, g2, g3, g4, g5, g6⟩ := h.os
  have hn8 := h.n8
  refine ⟨fun k k1 k2 => ?_, ?_, fun i hi => ?_, fun i hi => ?_, fun i hi => ?_, fun i hi => ?_⟩
  · simp only [e_va]
    split
    · exact e_id32 (by omega) (by omega)
    · exact g1 k k1 k2
  · rw [e_un _ (by omega)]; exact g2
  · rw [e_un _ (by omega)]; exact g3 i hi
  · rw [e_un _ (by omega)]; exact g4 i hi
  · by_cases e : i = m
    · rw [e, e_us]; exact hx
    · rw [e_un _ (by omega)]; exact g5 i hi
  · rw [e_un _ (by omega)]; exact g6 i hi
theorem Ok.fo1 {S : Nat → Int} {n q s : Nat} {b : Int} (h : Ok S n q 999) (hs : s < n) (hb : -1 ≤ b ∧ b < n) : Ok (va_up S (19 + s) b) n q 999 := by
  have hn8 := h.n8
  refine h.lay (T := va_up S (19 + s) b) ?_ (fun _ _ _ => rfl) (fun k hk => e_un _ (by omega))
  obtain ⟨g1, g2, g3, g4, g5, g6⟩ := h.os
  refine ⟨fun k k1 k2 => ?_, ?_, fun i hi => ?_, fun i hi => ?_, fun i hi => ?_, fun i hi => ?_⟩
  · simp only [e_va]
    split
    · exact e_id32 (by omega) (by omega)
    · exact g1 k k1 k2
  · rw [e_un _ (by omega)]; exact g2
  · rw [e_un _ (by omega)]; exact g3 i hi
  · by_cases e : i = s
    · rw [e, e_us]; exact hb
    · rw [e_un _ (by omega)]; exact g4 i hi
  · rw [e_un _ (by omega)]; exact g5 i hi
  · rw [e_un _ (by omega)]; exact g6 i hi
set_option maxRecDepth 8000 in
set_option maxHeartbeats 4000000 in
theorem o_salt {k : Nat} {L : Nat} {xs : Nat → Int} {own : Nat → Nat} {S : Nat → Int} {n q c t M u p x : Nat} {f : Int} {B : Nat → Int} {RS : Nat → rRule} {σ : eH} {a b d : Int} (hk : 60 ≤ k) (h : Iv L xs own S n q c t M u p x f B RS σ) (w_a : e_w32 a = a) (w_b : e_w32 b = b) (w_d : e_w32 d = d) : Op k L xs 98 224 [.inr (.inr 5), .inl a, .inl b, .inl d] [.inr (.inr 163), .inl a, .inl b, .inl d] σ := by
  have n5 := h.n5
  have hn8 := h.ok.n8
  have hq4 := h.ok.q4
  have ho : ∀ c, c < σ.1 → own c = own c := fun _ _ => rfl
  have hu2 := h.u2
  have hp2 := h.p2
  refine c_salt (Y := 999) (u := u) (p := p) (own := own) (W := σ.2.2.2.1 173) (by omega) h.ck h.ok h.wo w_a w_b w_d n5 h.u2 h.p2 h.ak h.av (fun hn => ?_) (fun t1 s1 g1 g2 g3 g4 g5 g6 g7 τ1 own1 ho hd hA hV y hy => ?_)
  · refine ⟨_, rfl, h.sx, ?_⟩
    refine w_salt (n := n) (q := q) (u := u) (by omega) h.mo (by rw [h.S1]; exact h.ok.w) w_a w_b w_d (by rw [h.S1]; exact h.ok.n) hn8 (by rw [h.S1]; exact h.ok.q) hq4 h.u1 h.u2 (by rw [h.S1]; exact h.ok.li) (fun _ => ⟨rfl, h.x, by omega, by omega⟩) (fun t2 s2 f1 f2 f3 f4 f5 f6 f7 => absurd ?_ hn)
    rw [h.S1] at f7
    refine ⟨by omega, by omega, by omega, by omega, f5, f6, ?_⟩
    rw [f1, Int.toNat_natCast]
    exact f7
  · have hco := h.ok.co t1 (by omega)
    have hli := h.ok.l4 (s := s1) (by omega) t1 (by omega)
    have hy2 : 0 ≤ y ∧ y ≤ 99 := by
      rw [hy]
      split <;> omega
    obtain ⟨τ2, hτ2⟩ : ∃ τ, τ = e_put (e_put τ1 39 t1 (S (27 + t1) - d)) (27 + 4 + s1) t1 y := ⟨_, rfl⟩
    rw [← hτ2]
    have hn2 : Sn (fun c => 27 ≤ c ∧ c < 40) τ1 τ2 := by
      rw [hτ2]
      refine Sn.put ?_ ⟨by omega, by omega⟩
      exact Sn.put (Sn.rf _ _) ⟨by omega, by omega⟩
    have hg : Sg (fun c => 27 ≤ c ∧ c < 40 ∨ 71 ≤ c ∧ c < 111) τ1 τ2 := (Sg.of hn2).mn (fun c hc => Or.inl hc)
    obtain ⟨x1, x2, x3, x4, x5, x6⟩ := h.mid (own1 := own1) hd hg
    have hst1 : StV τ1 27 S := h.wo.2.1.fr (fun c c1 c2 => hd.at (by omega) (by omega) (by omega))
    have hst : StV τ2 27 (va_up (va_up S (27 + t1) (S (27 + t1) - d)) (31 + 4 * s1 + t1) y) := by
      rw [hτ2]
      exact (hst1.coi (by omega)).like (by omega) (by omega)
    refine ⟨_, rfl, x1, ?_⟩
    refine w_salt (n := n) (q := q) (u := u) (by omega) x2 (by rw [x3]; exact h.ok.w) w_a w_b w_d (by rw [x3]; exact h.ok.n) hn8 (by rw [x3]; exact h.ok.q) hq4 (by rw [x5]; exact h.u1) h.u2 (by rw [x3]; exact h.ok.li) (fun g => absurd ?_ g) (fun t2 s2 f1 f2 f3 f4 f5 f6 f7 σ1 hσ1 r hr => ?_)
    · rw [x3]
      refine ⟨by omega, by omega, by omega, by omega, g5, g6, ?_⟩
      rw [g1, Int.toNat_natCast]
      exact g7
    · obtain rfl : t1 = t2 := by omega
      obtain rfl : s1 = s2 := by omega
      rw [x3] at hr hσ1 ⊢
      rw [x4] at hσ1
      have er : r = y := by rw [hr, hy]
      obtain ⟨τ, hτ⟩ : ∃ τ, τ = e_put (e_put σ1 171 (27 + t1) (S (27 + t1) - d)) 171 (31 + 4 * s1 + t1) r := ⟨_, rfl⟩
      rw [← hτ]
      have hm : Sm [169, 170, 171, 172, 173] [18, 23, 26] τ2 τ := by
        rw [hτ, hσ1]
        exact ((((Sm.rf _ _ τ2).set (by decide) (by decide)).pf (by decide)).put (by decide) (by decide)).put (by decide) (by decide)
      have hok' : Ok (va_up (va_up S (27 + t1) (S (27 + t1) - d)) (31 + 4 * s1 + t1) y) n q 999 := (h.ok.cop (by omega) (by omega)).lip (by omega) (by omega) hy2
      obtain ⟨y1, y2, y3⟩ := h.act (τ := τ) ho hd hA hV hg hst hm (by rw [hτ, hσ1, e_pd1, e_pd1, e_pd2 _ (by omega), e_sd2 _ (by omega), x3, er]) (by rw [hτ, hσ1, e_pd2 _ (by omega), e_pd2 _ (by omega), e_pd2 _ (by omega), e_sd1]) (by rw [hτ, hσ1, e_pd2 _ (by omega), e_pd2 _ (by omega), e_pd1, e_us]) (by rw [hτ, hσ1, e_pd2 _ (by omega), e_pd2 _ (by omega), e_pd1, e_un _ (by omega), e_sd2 _ (by omega), x5]; exact h.r23) hok' (fun k hk => by rw [e_un _ (by omega), e_un _ (by omega)])
      exact ⟨by rw [er], y1, y2, y3⟩
set_option maxRecDepth 8000 in
set_option maxHeartbeats 4000000 in
theorem o_teach {k : Nat} {L : Nat} {xs : Nat → Int} {own : Nat → Nat} {S : Nat → Int} {n q c t M u p x : Nat} {f : Int} {B : Nat → Int} {RS : Nat → rRule} {σ : eH} {a b : Int} (hk : 60 ≤ k) (h : Iv L xs own S n q c t M u p x f B RS σ) (w_a : e_w32 a = a) (w_b : e_w32 b = b) : Op k L xs 99 225 [.inr (.inr 5), .inl a, .inl b] [.inr (.inr 163), .inl a, .inl b] σ := by
  have n5 := h.n5
  have hn8 := h.ok.n8
  have hq4 := h.ok.q4
  have ho : ∀ c, c < σ.1 → own c = own c := fun _ _ => rfl
  have hu2 := h.u2
  have hp2 := h.p2
  refine c_teach (Y := 999) (u := u) (p := p) (own := own) (W := σ.2.2.2.1 173) (by omega) h.ck h.ok h.wo w_a w_b n5 h.u2 h.p2 h.ak h.av (fun hn => ?_) (fun s1 g1 g2 g3 g4 g5 τ1 own1 ho hd hA hV => ?_)
  · refine ⟨_, rfl, h.sx, ?_⟩
    refine w_teach (n := n) (q := q) (u := u) (by omega) h.mo (by rw [h.S1]; exact h.ok.w) w_a w_b (by rw [h.S1]; exact h.ok.n) hn8 (by rw [h.S1]; exact h.ok.q) hq4 h.u1 h.u2 (fun _ => ⟨rfl, h.x, by omega, by omega⟩) (fun s2 f1 f2 f3 f4 f5 => absurd ?_ hn)
    rw [h.S1] at f5
    refine ⟨by omega, by omega, f3, by omega, ?_⟩
    rw [f1, Int.toNat_natCast]
    exact f5
  · obtain ⟨τ2, hτ2⟩ : ∃ τ, τ = e_put τ1 29 s1 b := ⟨_, rfl⟩
    rw [← hτ2]
    have hn2 : Sn (fun c => 27 ≤ c ∧ c < 40) τ1 τ2 := by
      rw [hτ2]
      exact Sn.put (Sn.rf _ _) ⟨by omega, by omega⟩
    have hg : Sg (fun c => 27 ≤ c ∧ c < 40 ∨ 71 ≤ c ∧ c < 111) τ1 τ2 := (Sg.of hn2).mn (fun c hc => Or.inl hc)
    obtain ⟨x1, x2, x3, x4, x5, x6⟩ := h.mid (own1 := own1) hd hg
    have hst1 : StV τ1 27 S := h.wo.2.1.fr (fun c c1 c2 => hd.at (by omega) (by omega) (by omega))
    have hst : StV τ2 27 (va_up S (19 + s1) b) := by
      rw [hτ2]
      exact hst1.fol (by omega)
    refine ⟨_, rfl, x1, ?_⟩
    refine w_teach (n := n) (q := q) (u := u) (by omega) x2 (by rw [x3]; exact h.ok.w) w_a w_b (by rw [x3]; exact h.ok.n) hn8 (by rw [x3]; exact h.ok.q) hq4 (by rw [x5]; exact h.u1) h.u2 (fun g => absurd ?_ g) (fun s2 f1 f2 f3 f4 f5 σ1 hσ1 => ?_)
    · rw [x3]
      refine ⟨by omega, by omega, g3, by omega, ?_⟩
      rw [g1, Int.toNat_natCast]
      exact g5
    · obtain rfl : s1 = s2 := by omega
      rw [x3] at hσ1
      rw [x4] at hσ1
      obtain ⟨τ, hτ⟩ : ∃ τ, τ = e_put σ1 171 (19 + s1) b := ⟨_, rfl⟩
      rw [← hτ]
      have hm : Sm [169, 170, 171, 172, 173] [18, 23, 26] τ2 τ := by
        rw [hτ, hσ1]
        exact (((Sm.rf _ _ τ2).set (by decide) (by decide)).pf (by decide)).put (by decide) (by decide)
      have hok' : Ok (va_up S (19 + s1) b) n q 999 := h.ok.fo1 g2 (by omega)
      obtain ⟨y1, y2, y3⟩ := h.act (τ := τ) ho hd hA hV hg hst hm (by rw [hτ, hσ1, e_pd1, e_pd2 _ (by omega), e_sd2 _ (by omega), x3]) (by rw [hτ, hσ1, e_pd2 _ (by omega), e_pd2 _ (by omega), e_sd1]) (by rw [hτ, hσ1, e_pd2 _ (by omega), e_pd1, e_us]) (by rw [hτ, hσ1, e_pd2 _ (by omega), e_pd1, e_un _ (by omega), e_sd2 _ (by omega), x5]; exact h.r23) hok' (fun k hk => by rw [e_un _ (by omega)])
      exact ⟨by rw [x3], y1, y2, y3⟩
set_option maxRecDepth 8000 in
set_option maxHeartbeats 4000000 in
theorem o_lead {k : Nat} {L : Nat} {xs : Nat → Int} {own : Nat → Nat} {S : Nat → Int} {n q c t M u p x : Nat} {f : Int} {B : Nat → Int} {RS : Nat → rRule} {σ : eH} {a b : Int} (hk : 60 ≤ k) (h : Iv L xs own S n q c t M u p x f B RS σ) (w_a : e_w32 a = a) (w_b : e_w32 b = b) : Op k L xs 100 227 [.inr (.inr 5), .inl a, .inl b] [.inr (.inr 163), .inl a, .inl b] σ := by
  have n5 := h.n5
  have hn8 := h.ok.n8
  have hq4 := h.ok.q4
  have ho : ∀ c, c < σ.1 → own c = own c := fun _ _ => rfl
  have hu2 := h.u2
  have hp2 := h.p2
  refine c_lead (Y := 999) (u := u) (p := p) (own := own) (W := σ.2.2.2.1 173) (by omega) h.ck h.ok h.wo w_a w_b n5 h.u2 h.p2 h.ak h.av (fun hn => ?_) (fun s1 t1 g1 g2 g3 g4 g5 τ1 own1 ho hd hA hV => ?_)
  · refine ⟨_, rfl, h.sx, ?_⟩
    refine w_lead (n := n) (q := q) (u := u) (by omega) h.mo (by rw [h.S1]; exact h.ok.w) w_a w_b (by rw [h.S1]; exact h.ok.n) hn8 (by rw [h.S1]; exact h.ok.q) hq4 h.u1 h.u2 (fun _ => ⟨rfl, h.x, by omega, by omega⟩) (fun s2 t2 f1 f2 f3 f4 f5 => absurd ?_ hn)
    rw [h.S1] at f5
    refine ⟨by omega, by omega, by omega, by omega, ?_⟩
    rw [f1, f3, Int.toNat_natCast]
    exact f5
  · obtain ⟨τ2, hτ2⟩ : ∃ τ, τ = e_put τ1 28 s1 (t1 : Int) := ⟨_, rfl⟩
    rw [← hτ2]
    have hn2 : Sn (fun c => 27 ≤ c ∧ c < 40) τ1 τ2 := by
      rw [hτ2]
      exact Sn.put (Sn.rf _ _) ⟨by omega, by omega⟩
    have hg : Sg (fun c => 27 ≤ c ∧ c < 40 ∨ 71 ≤ c ∧ c < 111) τ1 τ2 := (Sg.of hn2).mn (fun c hc => Or.inl hc)
    obtain ⟨x1, x2, x3, x4, x5, x6⟩ := h.mid (own1 := own1) hd hg
    have hst1 : StV τ1 27 S := h.wo.2.1.fr (fun c c1 c2 => hd.at (by omega) (by omega) (by omega))
    have hst : StV τ2 27 (va_up S (11 + s1) (t1 : Int)) := by
      rw [hτ2]
      exact hst1.who (by omega)
    refine ⟨_, rfl, x1, ?_⟩
    refine w_lead (n := n) (q := q) (u := u) (by omega) x2 (by rw [x3]; exact h.ok.w) w_a w_b (by rw [x3]; exact h.ok.n) hn8 (by rw [x3]; exact h.ok.q) hq4 (by rw [x5]; exact h.u1) h.u2 (fun g => absurd ?_ g) (fun s2 t2 f1 f2 f3 f4 f5 σ1 hσ1 => ?_)
    · rw [x3]
      refine ⟨by omega, by omega, by omega, by omega, ?_⟩
      rw [g1, g3, Int.toNat_natCast]
      exact g5
    · obtain rfl : s1 = s2 := by omega
      obtain rfl : t1 = t2 := by omega
      rw [x3] at hσ1
      rw [x4] at hσ1
      obtain ⟨τ, hτ⟩ : ∃ τ, τ = e_put σ1 171 (11 + s1) (t1 : Int) := ⟨_, rfl⟩
      rw [← hτ]
      have hm : Sm [169, 170, 171, 172, 173] [18, 23, 26] τ2 τ := by
        rw [hτ, hσ1]
        exact (((Sm.rf _ _ τ2).set (by decide) (by decide)).pf (by decide)).put (by decide) (by decide)
      have hok' : Ok (va_up S (11 + s1) (t1 : Int)) n q 999 := h.ok.whp (by omega) g4
      obtain ⟨y1, y2, y3⟩ := h.act (τ := τ) ho hd hA hV hg hst hm (by rw [hτ, hσ1, e_pd1, e_pd2 _ (by omega), e_sd2 _ (by omega), x3]) (by rw [hτ, hσ1, e_pd2 _ (by omega), e_pd2 _ (by omega), e_sd1]) (by rw [hτ, hσ1, e_pd2 _ (by omega), e_pd1, e_us]) (by rw [hτ, hσ1, e_pd2 _ (by omega), e_pd1, e_un _ (by omega), e_sd2 _ (by omega), x5]; exact h.r23) hok' (fun k hk => by rw [e_un _ (by omega)])
      exact ⟨by rw [x3], y1, y2, y3⟩
set_option maxRecDepth 8000 in
set_option maxHeartbeats 4000000 in
theorem o_may {k : Nat} {L : Nat} {xs : Nat → Int} {own : Nat → Nat} {S : Nat → Int} {n q c t M u p x : Nat} {f : Int} {B : Nat → Int} {RS : Nat → rRule} {σ : eH} (hk : 60 ≤ k) (h : Iv L xs own S n q c t M u p x f B RS σ) : Op k L xs 81 207 [.inr (.inr 5)] [.inr (.inr 163)] σ := by
  have n5 := h.n5
  have hn8 := h.ok.n8
  have hq4 := h.ok.q4
  have ho : ∀ c, c < σ.1 → own c = own c := fun _ _ => rfl
  have hu2 := h.u2
  have hp2 := h.p2
  have hyr := h.ok.yr
  refine c_may (Y := 999) (u := u) (p := p) (own := own) (W := σ.2.2.2.1 173) (by omega) h.ck h.ok (by omega) h.wo h.c3 h.m6 h.fb h.rn (by omega) n5 h.u2 h.p2 h.ak h.av (fun hn => ?_) (fun hy τ1 own1 ho hd hA hV τ2 hg hst => ?_)
  · refine ⟨_, rfl, h.sx, ?_⟩
    exact w_may (n := n) (q := q) (Y := 999) (u := u) (by omega) h.mo (by rw [h.S1]; exact h.ok) (by omega) h.fc h.r23 h.u1 h.u2 (fun _ => ⟨rfl, h.x, by omega, by omega⟩) (fun g => absurd (by rw [h.S1] at g; exact g) hn)
  · obtain ⟨x1, x2, x3, x4, x5, x6⟩ := h.mid (own1 := own1) hd hg
    have hfc2 : r_fc τ2 (fR RS f) := by
      have hb := h.fb
      unfold fR
      by_cases e : f < 0
      · rw [if_pos e]
        show τ2.2.2.2.1 161 21 = -1
        rw [x5, h.f1]
        omega
      · rw [if_neg e]
        refine ⟨f.toNat, ?_, x6 _ (by omega)⟩
        rw [x5, h.f1]
        omega
    refine ⟨_, rfl, x1, ?_⟩
    refine w_may (n := n) (q := q) (Y := 999) (u := u) (by omega) x2 (by rw [x3]; exact h.ok) (by omega) hfc2 (by rw [x5]; exact h.r23) (by rw [x5]; exact h.u1) h.u2 (fun g => absurd (by rw [x3]; exact hy) g) (fun _ τ hm e1 e2 e3 e4 => ?_)
    rw [x3] at e1 e2 ⊢
    rw [x4] at e2
    have h998 : Ok S n q 998 := ⟨h.ok.w, h.ok.n, hn8, h.ok.q, hq4, h.ok.pr, h.ok.gr, by omega, h.ok.wh, h.ok.fo, h.ok.co, h.ok.li, h.ok.wo, h.ok.ha, h.ok.sa⟩
    have hok' : Ok (pas S n q (fR RS f) 0) n q 999 := pas_ok h998 (by omega)
    obtain ⟨y1, y2, y3⟩ := h.act (τ := τ) ho hd hA hV hg hst hm e1 e2 e3 e4 hok' (fun k hk => pas_o hn8 hq4 hk)
    exact ⟨rfl, y1, y2, y3⟩
