set_option maxRecDepth 8000 in
set_option maxHeartbeats 4000000 in
theorem o_image {k : Nat} {L : Nat} {xs : Nat → Int} {own : Nat → Nat} {S : Nat → Int} {n q c t M u p x : Nat} {f : Int} {B : Nat → Int} {RS : Nat → rRule} {σ : eH} {a : Int} (hk : 60 ≤ k) (h : Iv L xs own S n q c t M u p x f B RS σ) (w_a : e_w32 a = a) : Op k L xs 149 261 [.inr (.inr 5), .inl a] [.inr (.inr 163), .inl a] σ := by
  have n5 := h.n5
  have hn8 := h.ok.n8
  have hq4 := h.ok.q4
  have ho : ∀ c, c < σ.1 → own c = own c := fun _ _ => rfl
  have hp2 := h.p2
  have hc10 := h.nt.2.1
  by_cases ha : 0 ≤ a ∧ a ≤ 3
  · obtain ⟨j, rfl⟩ : ∃ z : Nat, a = (z : Int) := ⟨a.toNat, by omega⟩
    have hj : j < 4 := by omega
    refine c_image (own := own) (j := j) (by omega) h.ck n5 hj h.wo hn8 hq4 hc10 h.ik (fun τ1 own1 ho hd hI1 hb => ?_)
    obtain ⟨b, hb1, hb2, hb3⟩ := hb
    have hf1 : Fr (fun c => False ∨ 185 ≤ c ∧ own c = 20 + j) rfs σ τ1 := hd.f (fun c i q => Or.inr (Or.inl q.1))
    have hm1 : Mo τ1 := hf1.mo n5 h.mo
    have hat : ∀ c, c < 185 → τ1.2.2.2.1 c = σ.2.2.2.1 c := fun c hc => hd.at (by omega) (fun q => q) (Or.inl hc)
    refine ⟨_, rfl, ⟨by rw [hf1.kd (by omega)]; exact h.sc, by rw [hat 0 (by omega)]; exact h.sd, mk161 hm1⟩, ?_⟩
    refine w_image (by omega) hm1 (by rw [hat 171 (by omega), h.S1]; exact h.ok.w) w_a (fun g => absurd ha g) (fun t1 ht1 ht4 => ?_)
    obtain rfl : j = t1 := by omega
    rw [hat 171 (by omega), hat 161 (by omega), hat 181 (by omega), h.S1, h.f1, h.x1]
    obtain ⟨τ, hτ⟩ : ∃ τ, τ = e_set (e_put (e_put (e_put τ1 184 j 1) 182 j f) 183 j (x : Int)) 181 (cq (fun k => S k) (σ.2.2.2.1 181) (150 * j) 150) := ⟨_, rfl⟩
    rw [← hτ]
    have hs2 : Sn (fun c => c = 181 ∨ c = 182 ∨ c = 183 ∨ c = 184) τ1 τ := by
      rw [hτ]
      refine Sn.set ?_ (Or.inl rfl)
      refine Sn.put ?_ (Or.inr (Or.inr (Or.inl rfl)))
      refine Sn.put ?_ (Or.inr (Or.inl rfl))
      exact Sn.put (Sn.rf _ _) (Or.inr (Or.inr (Or.inr rfl)))
    have d181 : τ.2.2.2.1 181 = cq (fun k => S k) (σ.2.2.2.1 181) (150 * j) 150 := by rw [hτ, e_sd1]
    have d182 : τ.2.2.2.1 182 = va_up (σ.2.2.2.1 182) j f := by rw [hτ, e_sd2 _ (by omega), e_pd2 _ (by omega), e_pd1, e_pd2 _ (by omega), hat 182 (by omega)]
    have d183 : τ.2.2.2.1 183 = va_up (σ.2.2.2.1 183) j (x : Int) := by rw [hτ, e_sd2 _ (by omega), e_pd1, e_pd2 _ (by omega), e_pd2 _ (by omega), hat 183 (by omega)]
    have d184 : τ.2.2.2.1 184 = va_up (σ.2.2.2.1 184) j 1 := by rw [hτ, e_sd2 _ (by omega), e_pd2 _ (by omega), e_pd2 _ (by omega), e_pd1, hat 184 (by omega)]
    have hf2 := hs2.f (Rf := rfs)
    have hF : Fr (fun c => c = 181 ∨ c = 182 ∨ c = 183 ∨ c = 184 ∨ 185 ≤ c ∧ own c = 20 + j) rfs σ τ := (hf1.tr hf2).mn (fun c hc q => by simp only [false_or] at q; omega) (fun _ _ q => q)
    have hkk : τ.2.2.1 = τ1.2.2.1 := hs2.2.2.1
    have hrr0 : τ.2.2.2.2 = τ1.2.2.2.2 := hs2.2.2.2.1
    have hw : Lw own (20 + j) (fun c => c = 181 ∨ c = 182 ∨ c = 183 ∨ c = 184 ∨ 185 ≤ c ∧ own c = 20 + j) σ := fun c c1 c2 q => by omega
    have hr64 : ∀ r, r < M → τ.2.2.2.2 64 r = σ.2.2.2.2 64 r := fun r hr => by rw [hrr0]; exact hd.ref (by omega) (by omega)
    have hr66 : ∀ i, i < 20 → τ.2.2.2.2 66 i = σ.2.2.2.2 66 i := fun i hi => by rw [hrr0]; exact hd.ref (by omega) (by omega)
    have hfd : ∀ i, i ≠ 100000 → τ.2.2.2.1 161 i = σ.2.2.2.1 161 i := fun i hi => by rw [hs2.at 161 (by omega), hat 161 (by omega)]
    have hI : Iv L xs (own1) S n q c t M u p x f B RS τ := by
      refine ⟨?_, ?_, ?_, ?_, ?_, ?_, ?_, ?_, ?_, ?_, ?_, ?_, ?_, ?_, ?_, ?_, ?_, ?_, ?_, ?_, ?_, ?_, ?_, ?_, ?_, ?_, ?_, ?_, ?_, ?_, ?_, ?_, ?_, ?_, ?_⟩
      · rw [hF.kd (by omega)]; exact h.sc
      · rw [hF.at (by omega) (by omega)]; exact h.sd
      · exact hF.tx n5 (by omega) (by omega) h.tx
      · have := hF.1; omega
      · exact hF.ck n5 h.ck
      · exact hF.mo n5 h.mo
      · rw [hF.at (by omega) (by omega)]; exact h.S1
      · rw [hfd _ (by omega)]; exact h.t1
      · exact h.t4
      · rw [hF.at (by omega) (by omega)]; exact h.b1
      · exact h.bb
      · rw [hfd _ (by omega)]; exact h.m1
      · exact h.m6
      · rw [hfd _ (by omega)]; exact h.f1
      · exact h.fb
      · rw [hfd _ (by omega)]; exact h.x1
      · exact h.xb
      · rw [hfd _ (by omega)]; exact h.r23
      · rw [hfd _ (by omega)]; exact h.u1
      · exact h.u2
      · exact fun r hr => hF.rr n5 (by omega) (by omega) (by omega) (h.rr r hr)
      · exact h.ok
      · exact h.tl
      · exact h.nt
      · rw [hF.at (by omega) (by omega)]; exact h.c4
      · rw [hF.at (by omega) (by omega)]; exact h.c5
      · rw [hF.at (by omega) (by omega)]; exact h.c3
      · exact h.wo.fr (fun d d1 d2 => hF.at (by omega) (by omega))
      · exact fun r hr => by rw [hr64 r hr]; exact hF.rn ho hw (by omega) (h.rn r hr)
      · exact h.p2
      · exact hF.ak ho hr66 h.ak
      · rw [hF.at (c := 173) (by omega) (by omega)]; exact hF.av n5 hw (by omega) hr66 (hF.at (by omega) (by omega)) h.ak h.av
      · rw [hF.at (c := 173) (by omega) (by omega)]; exact h.ar
      · exact hf2.ik (fun _ _ => rfl) (fun i hi => by rw [hrr0]) hI1
      · intro i hi
        rw [d181, d182, d183, d184]
        by_cases e : i = j
        · refine Or.inr ⟨by rw [e, e_us], b, n, q, c, x, f, S, by rw [e, hrr0]; exact hb1, hb2, hb3.sn hs2 (fun d d1 d2 => by omega), fun k hk => ?_, by rw [e, e_us], by rw [e, e_us], h.xb, h.fb, h.ok, h.tl, h.nt⟩
          rw [e, cq_in (by omega) (by omega), show 150 * j + k - 150 * j = k by omega]
        · rw [e_un _ e, e_un _ e, e_un _ e, hrr0, hd.ref (by omega) (Or.inr e)]
          rcases h.iv i hi with g | ⟨g0, b', n', q', c', x', f', T, g1, g2, g3, g4, g5, g6, g7, g8, g9⟩
          · exact Or.inl g
          · refine Or.inr ⟨g0, b', n', q', c', x', f', T, g1, g2, g3.fr (fun d d1 d2 => ?_), fun k hk => ?_, g5, g6, g7, g8, g9⟩
            · rcases h.ik i hi with e2 | ⟨b2, f1, f2, f3, f4, f5⟩
              · omega
              · have : b2 = b' := by omega
                subst this
                exact hF.at (by omega) (fun q => by have := f5 d d1 d2; omega)
            · rw [g4 k hk, cq_out (by omega)]
    refine ⟨rfl, hI.x, ?_, ?_⟩
    · have := hd.2.1
      have := hs2.1
      omega
    · have := hd.2.2.2.1
      have := hs2.2.1
      omega
  · refine c_image0 (by omega) h.ck w_a ha ?_
    refine ⟨_, rfl, h.sx, ?_⟩
    exact w_image (by omega) h.mo (by rw [h.S1]; exact h.ok.w) w_a (fun _ => ⟨rfl, h.x, by omega, by omega⟩) (fun t1 ht1 ht4 => absurd ⟨by omega, by omega⟩ ha)
set_option maxRecDepth 8000 in
set_option maxHeartbeats 4000000 in
theorem o_back {k : Nat} {L : Nat} {xs : Nat → Int} {own : Nat → Nat} {S : Nat → Int} {n q c t M u p x : Nat} {f : Int} {B : Nat → Int} {RS : Nat → rRule} {σ : eH} {a : Int} (hk : 60 ≤ k) (h : Iv L xs own S n q c t M u p x f B RS σ) (w_a : e_w32 a = a) : Op k L xs 152 262 [.inr (.inr 5), .inl a] [.inr (.inr 163), .inl a] σ := by
  have n5 := h.n5
  have hn8 := h.ok.n8
  have hq4 := h.ok.q4
  have ho : ∀ c, c < σ.1 → own c = own c := fun _ _ => rfl
  have hp2 := h.p2
  have h01 : ∀ t, t < 4 → σ.2.2.2.1 184 t = 0 ∨ σ.2.2.2.1 184 t = 1 := fun t ht => by
    rcases h.iv t ht with g | g
    · exact Or.inl g.1
    · exact Or.inr g.1
  by_cases ha : 0 ≤ a ∧ a ≤ 3 ∧ σ.2.2.2.1 184 a.toNat = 1
  · obtain ⟨j, rfl⟩ : ∃ z : Nat, a = (z : Int) := ⟨a.toNat, by omega⟩
    have hj : j < 4 := by omega
    rw [Int.toNat_natCast] at ha
    rcases h.iv j hj with g | ⟨g0, b, n', q', c', x', f', T, g1, g2, g3, g4, g5, g6, g7, g8, g9, g10, g11⟩
    · omega
    · have hkb : WoK σ b := by
        rcases h.ik j hj with e | ⟨b2, f1, f2, f3, f4, f5⟩
        · omega
        · have : b2 = b := by omega
          rw [← this]
          exact f4
      have hn8' := g9.n8
      have hq4' := g9.q4
      refine c_back (j := j) (b := b) (n := n') (q := q') (c := c') (S := T) (f := f') (x := (x' : Int)) (by omega) h.ck hj g1 g2 hkb hn8' hq4' g11.2.1 g3 (fun τ1 hs1 hv1 y0 y1 => ?_)
      have e161 : τ1.2.2.2.1 161 = σ.2.2.2.1 161 := hs1.at 161 (by omega)
      have e171 : τ1.2.2.2.1 171 = S := by rw [hs1.at 171 (by omega)]; exact h.S1
      refine ⟨_, rfl, ⟨by rw [hs1.2.2.1]; exact h.sc, by rw [hs1.at 0 (by omega)]; exact h.sd, by rw [hs1.2.2.1]; exact mk161 h.mo⟩, ?_⟩
      refine w_back (by omega) ⟨fun a ha => by rw [hs1.2.2.1]; exact h.mo.1 a ha, fun i hi => by rw [hs1.2.2.2.1]; exact h.mo.2 i hi⟩ (by rw [e171]; exact h.ok.w) w_a (by rw [hs1.at 184 (by omega)]; exact h01) (fun g => absurd (by rw [hs1.at 184 (by omega), Int.toNat_natCast]; exact ha) g) (fun t1 ht1 ht4 ht5 => ?_)
      obtain rfl : j = t1 := by omega
      rw [hs1.at 181 (by omega), hs1.at 182 (by omega), hs1.at 183 (by omega), e171, g5, g6]
      obtain ⟨τ, hτ⟩ : ∃ τ, τ = e_set (e_put (e_put (e_put τ1 161 21 f') 161 22 (x' : Int)) 161 26 0) 171 (cq (fun k => σ.2.2.2.1 181 (150 * j + k)) S 0 150) := ⟨_, rfl⟩
      rw [← hτ]
      have hs2 : Sn (fun c => c = 161 ∨ c = 171) τ1 τ := by
        rw [hτ]
        refine Sn.set ?_ (Or.inr rfl)
        refine Sn.put ?_ (Or.inl rfl)
        refine Sn.put ?_ (Or.inl rfl)
        exact Sn.put (Sn.rf _ _) (Or.inl rfl)
      have hs : Sn (fun c => 9 ≤ c ∧ c < 44 ∨ c = 65 ∨ c = 161 ∨ c = 171) σ τ := (hs1.mn (fun c hc => by omega)).tr (hs2.mn (fun c hc => by omega))
      have hfd : ∀ i, ¬ (i = 21 ∨ i = 22 ∨ i = 26) → τ.2.2.2.1 161 i = σ.2.2.2.1 161 i := fun i hi => by rw [hτ, e_sd2 _ (by omega), e_pd1, e_un _ (by omega), e_pd1, e_un _ (by omega), e_pd1, e_un _ (by omega), e161]
      have hS : τ.2.2.2.1 171 = cq (fun k => σ.2.2.2.1 181 (150 * j + k)) S 0 150 := by rw [hτ, e_sd1]
      obtain ⟨S', hS'⟩ : ∃ S', S' = cq (fun k => σ.2.2.2.1 181 (150 * j + k)) S 0 150 := ⟨_, rfl⟩
      rw [← hS'] at hS
      have hin : ∀ k, k < 150 → S' k = T k := fun k hk => by rw [hS', cq_in (by omega) (by omega), g4 k hk]; rfl
      have hw32 : ∀ i, e_w32 (S' i) = S' i := fun i => by
        by_cases e : i < 150
        · rw [hin i e]; exact g9.w i
        · rw [hS', cq_out (by omega)]; exact h.ok.w i
      have hF := hs.f (Rf := rfs)
      have hR : ∀ c i, ¬ ((c = 71 ∨ c = 113) ∧ i = 4) → τ.2.2.2.2 c i = σ.2.2.2.2 c i := fun c i q => by rw [hs.2.2.2.1]
      have hw : Lw own 99 (fun c => 9 ≤ c ∧ c < 44 ∨ c = 65 ∨ c = 161 ∨ c = 171) σ := fun c c1 c2 q => by exfalso; omega
      have hr64 : ∀ r, r < M → τ.2.2.2.2 64 r = σ.2.2.2.2 64 r := fun r _ => hR 64 r (by omega)
      have hr66 : ∀ j, j < 20 → τ.2.2.2.2 66 j = σ.2.2.2.2 66 j := fun j _ => hR 66 j (by omega)
      have hr44 : ∀ j, j < 4 → τ.2.2.2.2 44 j = σ.2.2.2.2 44 j := fun j _ => hR 44 j (by omega)
      have hI : Iv L xs own (S') (n') (q') (c') t M (0) p (x') (f') B RS τ := by
        refine ⟨?_, ?_, ?_, ?_, ?_, ?_, ?_, ?_, ?_, ?_, ?_, ?_, ?_, ?_, ?_, ?_, ?_, ?_, ?_, ?_, ?_, ?_, ?_, ?_, ?_, ?_, ?_, ?_, ?_, ?_, ?_, ?_, ?_, ?_, ?_⟩
        · rw [hF.kd (by omega)]; exact h.sc
        · rw [hF.at (by omega) (by omega)]; exact h.sd
        · exact hF.tx n5 (by omega) (by omega) h.tx
        · have := hF.1; omega
        · exact hF.ck n5 h.ck
        · exact hF.mo n5 h.mo
        · exact hS
        · rw [hfd _ (by omega)]; exact h.t1
        · exact h.t4
        · rw [hF.at (by omega) (by omega)]; exact h.b1
        · exact h.bb
        · rw [hfd _ (by omega)]; exact h.m1
        · exact h.m6
        · rw [hτ, e_sd2 _ (by omega), e_pd1, e_un _ (by omega), e_pd1, e_un _ (by omega), e_pd1, e_us]
        · exact g8
        · rw [hτ, e_sd2 _ (by omega), e_pd1, e_un _ (by omega), e_pd1, e_us]
        · exact g7
        · rw [hfd _ (by omega)]; exact h.r23
        · rw [hτ, e_sd2 _ (by omega), e_pd1, e_us]; rfl
        · omega
        · exact fun r hr => hF.rr n5 (by omega) (by omega) (by omega) (h.rr r hr)
        · exact g9.cg (fun k hk => hin k (by omega)) hw32
        · exact g10.cg hn8' (fun k k1 k2 => hin k (by omega))
        · exact g11.c2 (fun k k1 k2 => hin k (by omega))
        · rw [hF.at (by omega) (by omega)]; exact h.c4
        · rw [hF.at (by omega) (by omega)]; exact h.c5
        · rw [hF.at (by omega) (by omega)]; exact h.c3
        · exact (hv1.sn hs2 (fun c c1 c2 => by omega)).cg hn8' hq4' g11.2.1 hin
        · exact fun r hr => by rw [hr64 r hr]; exact hF.rn ho hw (by omega) (h.rn r hr)
        · exact h.p2
        · exact hF.ak ho hr66 h.ak
        · exact ⟨by rw [hs2.at 65 (by omega), y0]; rfl, by rw [hs2.at 65 (by omega), y1]; exact h.av.2.1, fun i hi => absurd hi (by omega)⟩
        · exact fun i hi => absurd hi (by omega)
        · exact hF.ik ho hr44 h.ik
        · exact hF.iv n5 hw (by omega) hr44 (by omega) (by omega) (by omega) (by omega) (by omega) h.ik h.iv
      exact ⟨by rw [g4 10 (by omega)], hI.x, by have := hs.1; omega, by have := hs.2.1; omega⟩
  · refine c_back0 (by omega) h.ck w_a (fun g => ?_) ?_
    · obtain ⟨j, rfl⟩ : ∃ z : Nat, a = (z : Int) := ⟨a.toNat, by omega⟩
      have hj : j < 4 := by omega
      rw [Int.toNat_natCast] at ha g
      rcases h.iv j hj with e | e
      · exact g.2.2 e.2
      · exact ha ⟨g.1, g.2.1, e.1⟩
    · refine ⟨_, rfl, h.sx, ?_⟩
      refine w_back (by omega) h.mo (by rw [h.S1]; exact h.ok.w) w_a h01 (fun _ => ⟨rfl, h.x, by omega, by omega⟩) (fun t1 ht1 ht4 ht5 => absurd ⟨by omega, by omega, ?_⟩ ha)
      rw [ht1, Int.toNat_natCast]
      exact ht5
