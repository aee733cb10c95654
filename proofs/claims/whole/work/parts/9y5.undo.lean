set_option maxRecDepth 8000 in
set_option maxHeartbeats 4000000 in
theorem o_undo {k : Nat} {L : Nat} {xs : Nat → Int} {own : Nat → Nat} {S : Nat → Int} {n q c t M u p x : Nat} {f : Int} {B : Nat → Int} {RS : Nat → rRule} {σ : eH} (hk : 60 ≤ k) (h : Iv L xs own S n q c t M u p x f B RS σ) : Op k L xs 101 206 [.inr (.inr 5)] [.inr (.inr 163)] σ := by
  have n5 := h.n5
  have hn8 := h.ok.n8
  have hq4 := h.ok.q4
  have ho : ∀ c, c < σ.1 → own c = own c := fun _ _ => rfl
  have hu2 := h.u2
  have hp2 := h.p2
  have hu0 : u = 0 ∨ ∃ v, u = v + 1 := by
    cases u with
    | zero => exact Or.inl rfl
    | succ v => exact Or.inr ⟨v, rfl⟩
  rcases hu0 with hu0 | ⟨v, hv⟩
  · refine c_undo0 (p := p) (by omega) h.ck (by rw [h.av.1, hu0]; rfl) h.av.2.1 h.p2 ?_
    refine ⟨_, rfl, h.sx, ?_⟩
    exact w_undo (u := u) (by omega) h.mo h.u1 h.u2 (fun _ => ⟨rfl, h.x, by omega, by omega⟩) (fun v hv => absurd hv (by omega))
  · obtain ⟨b, g1, g2, g3⟩ := h.av.2.2 v (by omega)
    rw [show p + 20 - u + v = p + 19 by omega] at g1
    have hj : (p + 19) % 20 < 20 := Nat.mod_lt _ (by omega)
    have hkb : StK σ b := by
      rcases h.ak _ hj with e | ⟨b2, f1, f2, f3, f4, f5⟩
      · omega
      · have : b2 = b := by omega
        rw [← this]
        exact f4
    refine c_undo (u := v) (p := p) (b := b) (X := r_row (σ.2.2.2.1 173) v) (by omega) h.ck (by rw [h.av.1]; omega) (by omega) h.av.2.1 h.p2 g1 g2 hkb g3 (fun τ1 hs1 hv1 y0 y1 => ?_)
    have e173 : τ1.2.2.2.1 173 = σ.2.2.2.1 173 := hs1.at 173 (by omega)
    have e171 : τ1.2.2.2.1 171 = S := by rw [hs1.at 171 (by omega)]; exact h.S1
    refine ⟨_, rfl, ⟨by rw [hs1.2.2.1]; exact h.sc, by rw [hs1.at 0 (by omega)]; exact h.sd, by rw [hs1.2.2.1]; exact mk161 h.mo⟩, ?_⟩
    refine w_undo (u := u) (by omega) ⟨fun a ha => by rw [hs1.2.2.1]; exact h.mo.1 a ha, fun i hi => by rw [hs1.2.2.2.1]; exact h.mo.2 i hi⟩ (by rw [hs1.at 161 (by omega)]; exact h.u1) h.u2 (fun g => absurd g (by omega)) (fun v' hv' => ?_)
    obtain rfl : v = v' := by omega
    rw [e173, e171]
    obtain ⟨τ, hτ⟩ : ∃ τ, τ = e_set (e_put τ1 161 26 (v : Int)) 171 (cq (fun k => σ.2.2.2.1 173 (53 * v + k)) S 10 53) := ⟨_, rfl⟩
    rw [← hτ]
    have hs2 : Sn (fun c => c = 161 ∨ c = 171) τ1 τ := by
      rw [hτ]
      exact Sn.set (L := fun c => c = 161 ∨ c = 171) (Sn.put (L := fun c => c = 161 ∨ c = 171) (Sn.rf _ _) (Or.inl rfl)) (Or.inr rfl)
    have hs : Sn (fun c => 27 ≤ c ∧ c < 40 ∨ c = 65 ∨ c = 161 ∨ c = 171) σ τ := (hs1.mn (fun c hc => by omega)).tr (hs2.mn (fun c hc => by omega))
    have hfd : ∀ i, i ≠ 26 → τ.2.2.2.1 161 i = σ.2.2.2.1 161 i := fun i hi => by rw [hτ, e_sd2 _ (by omega), e_pd1, e_un _ hi, hs1.at 161 (by omega)]
    have hS : τ.2.2.2.1 171 = cq (fun k => σ.2.2.2.1 173 (53 * v + k)) S 10 53 := by rw [hτ, e_sd1]
    obtain ⟨S', hS'⟩ : ∃ S', S' = cq (fun k => σ.2.2.2.1 173 (53 * v + k)) S 10 53 := ⟨_, rfl⟩
    rw [← hS'] at hS
    have hin : ∀ k, 10 ≤ k → k < 63 → S' k = r_row (σ.2.2.2.1 173) v k := fun k k1 k2 => by
      rw [hS', cq_in (by omega) (by omega)]
      rfl
    have hout : ∀ k, k < 10 ∨ 63 ≤ k → S' k = S k := fun k hk => by rw [hS', cq_out (by omega)]
    have hF := hs.f (Rf := rfs)
    have hR : ∀ c i, ¬ ((c = 71 ∨ c = 113) ∧ i = 4) → τ.2.2.2.2 c i = σ.2.2.2.2 c i := fun c i q => by rw [hs.2.2.2.1]
    have hw : Lw own 99 (fun c => 27 ≤ c ∧ c < 40 ∨ c = 65 ∨ c = 161 ∨ c = 171) σ := fun c c1 c2 q => by exfalso; omega
    have hr64 : ∀ r, r < M → τ.2.2.2.2 64 r = σ.2.2.2.2 64 r := fun r _ => hR 64 r (by omega)
    have hr66 : ∀ j, j < 20 → τ.2.2.2.2 66 j = σ.2.2.2.2 66 j := fun j _ => hR 66 j (by omega)
    have hr44 : ∀ j, j < 4 → τ.2.2.2.2 44 j = σ.2.2.2.2 44 j := fun j _ => hR 44 j (by omega)
    have hI : Iv L xs own (S') n q c t M (v) ((p + 19) % 20) x f B RS τ := by
      refine ⟨?_, ?_, ?_, ?_, ?_, ?_, ?_, ?_, ?_, ?_, ?_, ?_, ?_, ?_, ?_, ?_, ?_, ?_, ?_, ?_, ?_, ?_, ?_, ?_, ?_, ?_, ?_, ?_, ?_, ?_, ?_, ?_, ?_, ?_, ?_⟩
      · rw [hF.kd (by omega)]; exact h.sc
      · rw [hF.at (by omega) (by omega)]; exact h.sd
      · exact hF.tx n5 (by omega) (by omega) h.tx
      · have := hF.1; omega
      · exact hF.ck n5 h.ck
      · exact hF.mo n5 h.mo
      · exact hS
      · rw [hfd _ (by omega)]; exact h.t1
      · exact h.t4
      · rw [hF.at (by omega) (by omega)]; exact h.b1
      · exact h.bb
      · rw [hfd _ (by omega)]; exact h.m1
      · exact h.m6
      · rw [hfd _ (by omega)]; exact h.f1
      · exact h.fb
      · rw [hfd _ (by omega)]; exact h.x1
      · exact h.xb
      · rw [hfd _ (by omega)]; exact h.r23
      · rw [hτ, e_sd2 _ (by omega), e_pd1, e_us]
      · omega
      · exact fun r hr => hF.rr n5 (by omega) (by omega) (by omega) (h.rr r hr)
      · exact h.ok.lay (h.ar v (by omega)) hin hout
      · exact h.tl.cg hn8 (fun k k1 k2 => hout k (by omega))
      · exact h.nt.c2 (fun k k1 k2 => hout k (by omega))
      · rw [hF.at (by omega) (by omega)]; exact h.c4
      · rw [hF.at (by omega) (by omega)]; exact h.c5
      · rw [hF.at (by omega) (by omega)]; exact h.c3
      · exact ⟨(h.wo.1.sn hs (fun c c1 c2 => by omega)).cg hn8 hq4 (fun k hk => hout k (by omega)), (hv1.sn hs2 (fun c c1 c2 => by omega)).cg (fun k k1 k2 => (hin k k1 k2).symm), (h.wo.2.2.1.sn hs (fun c c1 c2 => by omega)).cg h.nt.2.1 (fun k k1 k2 => hout k (by omega)), by rw [hs.at 9 (by omega)]; exact h.wo.2.2.2.1, by rw [hs.at 9 (by omega)]; exact h.wo.2.2.2.2⟩
      · exact fun r hr => by rw [hr64 r hr]; exact hF.rn ho hw (by omega) (h.rn r hr)
      · exact hj
      · exact hF.ak ho hr66 h.ak
      · rw [hs.at 173 (by omega)]
        refine ⟨by rw [hs2.at 65 (by omega)]; exact y0, by rw [hs2.at 65 (by omega)]; exact y1, fun i hi => ?_⟩
        obtain ⟨b', f1, f2, f3⟩ := h.av.2.2 i (by omega)
        rw [show ((p + 19) % 20 + 20 - v + i) % 20 = (p + 20 - u + i) % 20 by omega, hs.2.2.2.1]
        refine ⟨b', f1, f2, f3.sn hs (fun c c1 c2 => by omega)⟩
      · rw [hs.at 173 (by omega)]; exact fun i hi => h.ar i (by omega)
      · exact hF.ik ho hr44 h.ik
      · exact hF.iv n5 hw (by omega) hr44 (by omega) (by omega) (by omega) (by omega) (by omega) h.ik h.iv
    exact ⟨rfl, hI.x, by have := hs.1; omega, by have := hs.2.1; omega⟩
