set_option maxRecDepth 8000 in
set_option maxHeartbeats 4000000 in
theorem o_note {k : Nat} {L : Nat} {xs : Nat → Int} {own : Nat → Nat} {S : Nat → Int} {n q c t M u p x : Nat} {f : Int} {B : Nat → Int} {RS : Nat → rRule} {σ : eH} {a b d : Int} (hk : 60 ≤ k) (h : Iv L xs own S n q c t M u p x f B RS σ) (w_a : e_w32 a = a) (w_b : e_w32 b = b) (w_d : e_w32 d = d) : Op k L xs 130 250 [.inr (.inr 5), .inl a, .inl b, .inl d] [.inr (.inr 163), .inl a, .inl b, .inl d] σ := by
  have n5 := h.n5
  have hn8 := h.ok.n8
  have hq4 := h.ok.q4
  have ho : ∀ c, c < σ.1 → own c = own c := fun _ _ => rfl
  have hc10 := h.nt.2.1
  have ra := e_r32 a
  rw [w_a] at ra
  refine c_note (Y := 999) (by omega) h.ck h.ok h.wo hc10 w_a w_b w_d (fun ht => ?_) (fun hn ht => ?_) (fun g1 g2 g3 g4 g5 g6 => ?_)
  · obtain ⟨τ1, hτ1⟩ : ∃ τ, τ = e_put σ 40 0 0 := ⟨_, rfl⟩
    rw [← hτ1]
    have hs1 : Sn (fun c => c = 40) σ τ1 := by
      rw [hτ1]
      exact Sn.put (Sn.rf _ _) rfl
    have e171 : τ1.2.2.2.1 171 = S := by rw [hs1.at 171 (by omega)]; exact h.S1
    refine ⟨_, rfl, ⟨by rw [hs1.2.2.1]; exact h.sc, by rw [hs1.at 0 (by omega)]; exact h.sd, by rw [hs1.2.2.1]; exact mk161 h.mo⟩, ?_⟩
    refine w_note (n := n) (q := q) (t := c) (by omega) ⟨fun a ha => by rw [hs1.2.2.1]; exact h.mo.1 a ha, fun i hi => by rw [hs1.2.2.2.1]; exact h.mo.2 i hi⟩ (by rw [e171]; exact h.ok.w) w_a w_b w_d (by rw [e171]; exact h.ok.n) hn8 (by rw [e171]; exact h.ok.q) hq4 (by rw [e171]; exact h.nt.1) hc10 (fun _ => ?_) (fun g => absurd ht g) (fun g => absurd g (by omega))
    obtain ⟨τ, hτ⟩ : ∃ τ, τ = e_put τ1 171 149 0 := ⟨_, rfl⟩
    rw [← hτ]
    have hs2 : Sn (fun c => c = 171) τ1 τ := by
      rw [hτ]
      exact Sn.put (Sn.rf _ _) rfl
    have hs : Sn (fun c => 40 ≤ c ∧ c < 44 ∨ c = 171) σ τ := (hs1.mn (fun c hc => by omega)).tr (hs2.mn (fun c hc => by omega))
    have hfd : ∀ i, i ≠ 100000 → τ.2.2.2.1 161 i = σ.2.2.2.1 161 i := fun i hi => by rw [hs.at 161 (by omega)]
    have hF := hs.f (Rf := rfs)
    have hR : ∀ c i, ¬ ((c = 71 ∨ c = 113) ∧ i = 4) → τ.2.2.2.2 c i = σ.2.2.2.2 c i := fun c i q => by rw [hs.2.2.2.1]
    have hw : Lw own 99 (fun c => 40 ≤ c ∧ c < 44 ∨ c = 171) σ := fun c c1 c2 q => by exfalso; omega
    have hr64 : ∀ r, r < M → τ.2.2.2.2 64 r = σ.2.2.2.2 64 r := fun r _ => hR 64 r (by omega)
    have hr66 : ∀ j, j < 20 → τ.2.2.2.2 66 j = σ.2.2.2.2 66 j := fun j _ => hR 66 j (by omega)
    have hr44 : ∀ j, j < 4 → τ.2.2.2.2 44 j = σ.2.2.2.2 44 j := fun j _ => hR 44 j (by omega)
    have hI : Iv L xs own (va_up S 149 0) n q (0) t M u p x f B RS τ := by
      refine ⟨?_, ?_, ?_, ?_, ?_, ?_, ?_, ?_, ?_, ?_, ?_, ?_, ?_, ?_, ?_, ?_, ?_, ?_, ?_, ?_, ?_, ?_, ?_, ?_, ?_, ?_, ?_, ?_, ?_, ?_, ?_, ?_, ?_, ?_, ?_⟩
      · rw [hF.kd (by omega)]; exact h.sc
      · rw [hF.at (by omega) (by omega)]; exact h.sd
      · exact hF.tx n5 (by omega) (by omega) h.tx
      · have := hF.1; omega
      · exact hF.ck n5 h.ck
      · exact hF.mo n5 h.mo
      · rw [hτ, e_pd1, e171]
      · rw [hfd _ (by omega)]; exact h.t1
      · exact h.t4
      · rw [hF.at (by omega) (by omega)]; exact h.b1
      · exact h.bb
      · rw [hfd _ (by omega)]; exact h.m1
      · exact h.m6
      · rw [hfd _ (by omega)]; exact h.f1
      · exact h.fb
      · rw [hfd _ (by omega)]; exact h.x1
      · exact h.xb
      · rw [hfd _ (by omega)]; exact h.r23
      · rw [hfd _ (by omega)]; exact h.u1
      · exact h.u2
      · exact fun r hr => hF.rr n5 (by omega) (by omega) (by omega) (h.rr r hr)
      · exact h.ok.cg (fun k hk => e_un _ (by omega)) (fun j => by
          simp only [e_va]
          split
          · exact e_id32 (by omega) (by omega)
          · exact h.ok.w j)
      · exact h.tl.cg hn8 (fun k k1 k2 => e_un _ (by omega))
      · exact ⟨e_us _ _ _, by omega, fun i hi => absurd hi (by omega)⟩
      · rw [hF.at (by omega) (by omega)]; exact h.c4
      · rw [hF.at (by omega) (by omega)]; exact h.c5
      · rw [hF.at (by omega) (by omega)]; exact h.c3
      · exact ⟨(h.wo.1.sn hs (fun c c1 c2 => by omega)).cg hn8 hq4 (fun k hk => e_un _ (by omega)), (h.wo.2.1.sn hs (fun c c1 c2 => by omega)).cg (fun k k1 k2 => (e_un _ (by omega)).symm), ⟨by rw [hs2.at 40 (by omega), hτ1, e_pd1, e_us]; rfl, fun i hi => absurd hi (by omega)⟩, by rw [hs.at 9 (by omega)]; exact h.wo.2.2.2.1, by rw [hs.at 9 (by omega)]; exact h.wo.2.2.2.2⟩
      · exact fun r hr => by rw [hr64 r hr]; exact hF.rn ho hw (by omega) (h.rn r hr)
      · exact h.p2
      · exact hF.ak ho hr66 h.ak
      · rw [hF.at (c := 173) (by omega) (by omega)]; exact hF.av n5 hw (by omega) hr66 (hF.at (by omega) (by omega)) h.ak h.av
      · rw [hF.at (c := 173) (by omega) (by omega)]; exact h.ar
      · exact hF.ik ho hr44 h.ik
      · exact hF.iv n5 hw (by omega) hr44 (by omega) (by omega) (by omega) (by omega) (by omega) h.ik h.iv
    exact ⟨rfl, hI.x, by have := hs.1; omega, by have := hs.2.1; omega⟩
  · refine ⟨_, rfl, h.sx, ?_⟩
    exact w_note (n := n) (q := q) (t := c) (by omega) h.mo (by rw [h.S1]; exact h.ok.w) w_a w_b w_d (by rw [h.S1]; exact h.ok.n) hn8 (by rw [h.S1]; exact h.ok.q) hq4 (by rw [h.S1]; exact h.nt.1) hc10 (fun g => absurd g hn) (fun _ _ => ⟨rfl, h.x, by omega, by omega⟩) (fun x1 x2 x3 x4 x5 x6 => absurd ⟨x1, x2, x3, x4, x5, x6⟩ ht)
  · obtain ⟨τ1, hτ1⟩ : ∃ τ, τ = e_put (e_put (e_put (e_put σ 41 c a) 42 c b) 43 c d) 40 0 ((c : Int) + 1) := ⟨_, rfl⟩
    rw [← hτ1]
    have hs1 : Sn (fun c => 40 ≤ c ∧ c < 44) σ τ1 := by
      rw [hτ1]
      refine Sn.put ?_ ⟨by omega, by omega⟩
      refine Sn.put ?_ ⟨by omega, by omega⟩
      refine Sn.put ?_ ⟨by omega, by omega⟩
      exact Sn.put (Sn.rf _ _) ⟨by omega, by omega⟩
    have e171 : τ1.2.2.2.1 171 = S := by rw [hs1.at 171 (by omega)]; exact h.S1
    have rb := e_r32 b
    rw [w_b] at rb
    have rd := e_r32 d
    rw [w_d] at rd
    refine ⟨_, rfl, ⟨by rw [hs1.2.2.1]; exact h.sc, by rw [hs1.at 0 (by omega)]; exact h.sd, by rw [hs1.2.2.1]; exact mk161 h.mo⟩, ?_⟩
    refine w_note (n := n) (q := q) (t := c) (by omega) ⟨fun a ha => by rw [hs1.2.2.1]; exact h.mo.1 a ha, fun i hi => by rw [hs1.2.2.2.1]; exact h.mo.2 i hi⟩ (by rw [e171]; exact h.ok.w) w_a w_b w_d (by rw [e171]; exact h.ok.n) hn8 (by rw [e171]; exact h.ok.q) hq4 (by rw [e171]; exact h.nt.1) hc10 (fun g => absurd g (by omega)) (fun _ g => absurd ⟨g1, g2, g3, g4, g5, g6⟩ g) (fun _ _ _ _ _ _ => ?_)
    obtain ⟨τ, hτ⟩ : ∃ τ, τ = e_put (e_put (e_put (e_put τ1 171 (119 + 3 * c) a) 171 (119 + 3 * c + 1) b) 171 (119 + 3 * c + 2) d) 171 149 ((c : Int) + 1) := ⟨_, rfl⟩
    rw [← hτ]
    have hs2 : Sn (fun c => c = 171) τ1 τ := by
      rw [hτ]
      exact Sn.put (L := fun c => c = 171) (Sn.put (L := fun c => c = 171) (Sn.put (L := fun c => c = 171) (Sn.put (L := fun c => c = 171) (Sn.rf _ _) rfl) rfl) rfl) rfl
    have hS4 : τ.2.2.2.1 171 = va_up (va_up (va_up (va_up S (119 + 3 * c) a) (119 + 3 * c + 1) b) (119 + 3 * c + 2) d) 149 ((c : Int) + 1) := by rw [hτ, e_pd1, e_pd1, e_pd1, e_pd1, e171]
    obtain ⟨S', hS'⟩ : ∃ S', S' = va_up (va_up (va_up (va_up S (119 + 3 * c) a) (119 + 3 * c + 1) b) (119 + 3 * c + 2) d) 149 ((c : Int) + 1) := ⟨_, rfl⟩
    rw [← hS'] at hS4
    have hlo : ∀ k, k < 119 → S' k = S k := fun k hk => by rw [hS', e_un _ (by omega), e_un _ (by omega), e_un _ (by omega), e_un _ (by omega)]
    have hol : ∀ i, i < c → S' (119 + 3 * i) = S (119 + 3 * i) ∧ S' (119 + 3 * i + 1) = S (119 + 3 * i + 1) ∧ S' (119 + 3 * i + 2) = S (119 + 3 * i + 2) := fun i hi => by
      rw [hS', e_un _ (by omega), e_un _ (by omega), e_un _ (by omega), e_un _ (by omega), e_un _ (by omega), e_un _ (by omega), e_un _ (by omega), e_un _ (by omega), e_un _ (by omega), e_un _ (by omega), e_un _ (by omega), e_un _ (by omega)]
      exact ⟨rfl, rfl, rfl⟩
    have hne : S' (119 + 3 * c) = a ∧ S' (119 + 3 * c + 1) = b ∧ S' (119 + 3 * c + 2) = d := by
      rw [hS']
      refine ⟨?_, ?_, ?_⟩
      · rw [e_un _ (by omega), e_un _ (by omega), e_un _ (by omega), e_us]
      · rw [e_un _ (by omega), e_un _ (by omega), e_us]
      · rw [e_un _ (by omega), e_us]
    have h149 : S' 149 = ((c + 1 : Nat) : Int) := by rw [hS', e_us]; omega
    have hw32 : ∀ j, e_w32 (S' j) = S' j := fun j => by
      rw [hS']
      simp only [e_va]
      split
      · exact e_id32 (by omega) (by omega)
      · split
        · exact w_d
        · split
          · exact w_b
          · split
            · exact w_a
            · exact h.ok.w j
    have hs : Sn (fun c => 40 ≤ c ∧ c < 44 ∨ c = 171) σ τ := (hs1.mn (fun c hc => by omega)).tr (hs2.mn (fun c hc => by omega))
    have hfd : ∀ i, i ≠ 100000 → τ.2.2.2.1 161 i = σ.2.2.2.1 161 i := fun i hi => by rw [hs.at 161 (by omega)]
    have hF := hs.f (Rf := rfs)
    have hR : ∀ c i, ¬ ((c = 71 ∨ c = 113) ∧ i = 4) → τ.2.2.2.2 c i = σ.2.2.2.2 c i := fun c i q => by rw [hs.2.2.2.1]
    have hw : Lw own 99 (fun c => 40 ≤ c ∧ c < 44 ∨ c = 171) σ := fun c c1 c2 q => by exfalso; omega
    have hr64 : ∀ r, r < M → τ.2.2.2.2 64 r = σ.2.2.2.2 64 r := fun r _ => hR 64 r (by omega)
    have hr66 : ∀ j, j < 20 → τ.2.2.2.2 66 j = σ.2.2.2.2 66 j := fun j _ => hR 66 j (by omega)
    have hr44 : ∀ j, j < 4 → τ.2.2.2.2 44 j = σ.2.2.2.2 44 j := fun j _ => hR 44 j (by omega)
    have hI : Iv L xs own (S') n q (c + 1) t M u p x f B RS τ := by
      refine ⟨?_, ?_, ?_, ?_, ?_, ?_, ?_, ?_, ?_, ?_, ?_, ?_, ?_, ?_, ?_, ?_, ?_, ?_, ?_, ?_, ?_, ?_, ?_, ?_, ?_, ?_, ?_, ?_, ?_, ?_, ?_, ?_, ?_, ?_, ?_⟩
      · rw [hF.kd (by omega)]; exact h.sc
      · rw [hF.at (by omega) (by omega)]; exact h.sd
      · exact hF.tx n5 (by omega) (by omega) h.tx
      · have := hF.1; omega
      · exact hF.ck n5 h.ck
      · exact hF.mo n5 h.mo
      · exact hS4
      · rw [hfd _ (by omega)]; exact h.t1
      · exact h.t4
      · rw [hF.at (by omega) (by omega)]; exact h.b1
      · exact h.bb
      · rw [hfd _ (by omega)]; exact h.m1
      · exact h.m6
      · rw [hfd _ (by omega)]; exact h.f1
      · exact h.fb
      · rw [hfd _ (by omega)]; exact h.x1
      · exact h.xb
      · rw [hfd _ (by omega)]; exact h.r23
      · rw [hfd _ (by omega)]; exact h.u1
      · exact h.u2
      · exact fun r hr => hF.rr n5 (by omega) (by omega) (by omega) (h.rr r hr)
      · exact h.ok.cg hlo hw32
      · exact h.tl.cg hn8 (fun k k1 k2 => hlo k (by omega))
      · refine ⟨h149, by omega, fun i hi => ?_⟩
        by_cases e : i = c
        · rw [e, hne.1, hne.2.1, hne.2.2]
          omega
        · have e1 := hol i (by omega)
          rw [e1.1, e1.2.1, e1.2.2]
          exact h.nt.2.2 i (by omega)
      · rw [hF.at (by omega) (by omega)]; exact h.c4
      · rw [hF.at (by omega) (by omega)]; exact h.c5
      · rw [hF.at (by omega) (by omega)]; exact h.c3
      · refine ⟨(h.wo.1.sn hs (fun c c1 c2 => by omega)).cg hn8 hq4 (fun k hk => hlo k (by omega)), (h.wo.2.1.sn hs (fun c c1 c2 => by omega)).cg (fun k k1 k2 => (hlo k (by omega)).symm), ⟨?_, fun i hi => ?_⟩, by rw [hs.at 9 (by omega)]; exact h.wo.2.2.2.1, by rw [hs.at 9 (by omega)]; exact h.wo.2.2.2.2⟩
        · rw [hs2.at 40 (by omega), hτ1, e_pd1, e_us]; omega
        · show τ.2.2.2.1 41 i = _ ∧ τ.2.2.2.1 42 i = _ ∧ τ.2.2.2.1 43 i = _
          rw [hs2.at 41 (by omega), hs2.at 42 (by omega), hs2.at 43 (by omega), hτ1, e_pd2 _ (by omega), e_pd2 _ (by omega), e_pd2 _ (by omega), e_pd1, e_pd2 _ (by omega), e_pd2 _ (by omega), e_pd1, e_pd2 _ (by omega), e_pd2 _ (by omega), e_pd1, e_pd2 _ (by omega), e_pd2 _ (by omega)]
          by_cases e : i = c
          · rw [e, e_us, e_us, e_us, hne.1, hne.2.1, hne.2.2]
            exact ⟨rfl, rfl, rfl⟩
          · rw [e_un _ e, e_un _ e, e_un _ e]
            have e1 := hol i (by omega)
            rw [e1.1, e1.2.1, e1.2.2]
            exact h.wo.2.2.1.2 i (by omega)
      · exact fun r hr => by rw [hr64 r hr]; exact hF.rn ho hw (by omega) (h.rn r hr)
      · exact h.p2
      · exact hF.ak ho hr66 h.ak
      · rw [hF.at (c := 173) (by omega) (by omega)]; exact hF.av n5 hw (by omega) hr66 (hF.at (by omega) (by omega)) h.ak h.av
      · rw [hF.at (c := 173) (by omega) (by omega)]; exact h.ar
      · exact hF.ik ho hr44 h.ik
      · exact hF.iv n5 hw (by omega) hr44 (by omega) (by omega) (by omega) (by omega) (by omega) h.ik h.iv
    exact ⟨rfl, hI.x, by have := hs.1; omega, by have := hs.2.1; omega⟩
