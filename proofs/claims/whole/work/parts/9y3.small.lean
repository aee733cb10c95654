theorem r_fd_b {a b c d e : Int} {B : Nat → Int} {t : Nat} (hB : ∀ i, -128 ≤ B i ∧ B i < 128) : ∀ i, -128 ≤ r_fd a b c d e B t i ∧ r_fd a b c d e B t i < 128 := by
  have hr : ∀ v k, -128 ≤ r_by v k ∧ r_by v k < 128 := fun v k => by
    unfold r_by
    have h1 := Int.le_bmod (x := e_w32 v / 2 ^ (24 - 8 * k)) (m := 256) (by omega)
    have h2 := Int.bmod_lt (x := e_w32 v / 2 ^ (24 - 8 * k)) (m := 256) (by omega)
    omega
  have hc : ∀ (v : Int) (T : Nat → Int) (p : Nat), (∀ i, -128 ≤ T i ∧ T i < 128) → ∀ i, -128 ≤ cq (r_by v) T p 4 i ∧ cq (r_by v) T p 4 i < 128 := fun v T p hT i => by
    unfold cq
    split
    · exact hr v _
    · exact hT i
  exact hc _ _ _ (hc _ _ _ (hc _ _ _ (hc _ _ _ (hc _ _ _ hB))))
set_option maxRecDepth 8000 in
set_option maxHeartbeats 2000000 in
theorem o_feed {k : Nat} {L : Nat} {xs : Nat → Int} {own : Nat → Nat} {S : Nat → Int} {n q c t M u p x : Nat} {f : Int} {B : Nat → Int} {RS : Nat → rRule} {σ : eH} {a b d e g : Int} (hk : 60 ≤ k) (h : Iv L xs own S n q c t M u p x f B RS σ) (w_a : e_w32 a = a) (w_b : e_w32 b = b) (w_d : e_w32 d = d) (w_e : e_w32 e = e) (w_g : e_w32 g = g) : Op k L xs 11 154 [.inr (.inr 5), .inl a, .inl b, .inl d, .inl e, .inl g] [.inr (.inr 163), .inl a, .inl b, .inl d, .inl e, .inl g] σ := by
  have n5 := h.n5
  have hn8 := h.ok.n8
  have hq4 := h.ok.q4
  have ho : ∀ c, c < σ.1 → own c = own c := fun _ _ => rfl
  refine c_feed (t := t) (by omega) h.ck h.c4 h.t4 (fun ht => ?_) (fun ht τ1 hs1 z4 z5 zi => ?_)
  · refine ⟨_, rfl, h.sx, ?_⟩
    exact w_feed (by omega) h.mo h.t1 h.t4 (fun _ => ⟨rfl, h.x, by omega, by omega⟩) (fun g => absurd g (by omega))
  · refine ⟨_, rfl, ⟨by rw [hs1.2.2.1]; exact h.sc, by rw [hs1.at 0 (by omega)]; exact h.sd, by rw [hs1.2.2.1]; exact mk161 h.mo⟩, ?_⟩
    refine w_feed (t := t) (by omega) ⟨fun a ha => by rw [hs1.2.2.1]; exact h.mo.1 a ha, fun i hi => by rw [hs1.2.2.2.1]; exact h.mo.2 i hi⟩ (by rw [hs1.at 161 (by omega)]; exact h.t1) h.t4 (fun g => absurd g (by omega)) (fun _ => ?_)
    obtain ⟨τ, hτ⟩ : ∃ τ, τ = e_put (e_set τ1 162 (r_fd a b d e g (τ1.2.2.2.1 162) t)) 161 1 ((t : Int) + 20) := ⟨_, rfl⟩
    rw [← hτ]
    have hs2 : Sn (fun c => c = 161 ∨ c = 162) τ1 τ := by
      rw [hτ]
      exact Sn.put (L := fun c => c = 161 ∨ c = 162) (Sn.set (L := fun c => c = 161 ∨ c = 162) (Sn.rf _ _) (Or.inr rfl)) (Or.inl rfl)
    have hs : Sn (fun c => c = 4 ∨ c = 5 ∨ c = 161 ∨ c = 162) σ τ := (hs1.mn (fun c hc => by omega)).tr (hs2.mn (fun c hc => by omega))
    have hfd : ∀ i, i ≠ 1 → τ.2.2.2.1 161 i = σ.2.2.2.1 161 i := fun i hi => by rw [hτ, e_pd1, e_un _ hi, e_sd2 _ (by omega), hs1.at 161 (by omega)]
    have q1 : τ.2.2.2.1 161 1 = ((t + 20 : Nat) : Int) := by rw [hτ, e_pd1, e_us]; omega
    have q2 : τ.2.2.2.1 162 = r_fd a b d e g B t := by rw [hτ, e_pd2 _ (by omega), e_sd1, hs1.at 162 (by omega), h.b1]
    have hF := hs.f (Rf := rfs)
    have hR : ∀ c i, ¬ ((c = 71 ∨ c = 113) ∧ i = 4) → τ.2.2.2.2 c i = σ.2.2.2.2 c i := fun c i q => by rw [hs.2.2.2.1]
    have hw : Lw own 99 (fun c => c = 4 ∨ c = 5 ∨ c = 161 ∨ c = 162) σ := fun c c1 c2 q => by exfalso; omega
    have hr64 : ∀ r, r < M → τ.2.2.2.2 64 r = σ.2.2.2.2 64 r := fun r _ => hR 64 r (by omega)
    have hr66 : ∀ j, j < 20 → τ.2.2.2.2 66 j = σ.2.2.2.2 66 j := fun j _ => hR 66 j (by omega)
    have hr44 : ∀ j, j < 4 → τ.2.2.2.2 44 j = σ.2.2.2.2 44 j := fun j _ => hR 44 j (by omega)
    have hI : Iv L xs own S n q c (t + 20) M u p x f (r_fd a b d e g B t) RS τ := by
      refine ⟨?_, ?_, ?_, ?_, ?_, ?_, ?_, ?_, ?_, ?_, ?_, ?_, ?_, ?_, ?_, ?_, ?_, ?_, ?_, ?_, ?_, ?_, ?_, ?_, ?_, ?_, ?_, ?_, ?_, ?_, ?_, ?_, ?_, ?_, ?_⟩
      · rw [hF.kd (by omega)]; exact h.sc
      · rw [hF.at (by omega) (by omega)]; exact h.sd
      · exact hF.tx n5 (by omega) (by omega) h.tx
      · have := hF.1; omega
      · exact hF.ck n5 h.ck
      · exact hF.mo n5 h.mo
      · rw [hF.at (by omega) (by omega)]; exact h.S1
      · exact q1
      · omega
      · exact q2
      · exact r_fd_b h.bb
      · rw [hfd _ (by omega)]; exact h.m1
      · exact h.m6
      · rw [hfd _ (by omega)]; exact h.f1
      · exact h.fb
      · rw [hfd _ (by omega)]; exact h.x1
      · exact h.xb
      · rw [hfd _ (by omega)]; exact h.r23
      · rw [hfd _ (by omega)]; exact h.u1
      · exact h.u2
      · exact fun r hr => hF.rr n5 (by omega) (by omega) (by omega) (h.rr r hr)
      · exact h.ok
      · exact h.tl
      · exact h.nt
      · rw [hs2.at 4 (by omega), z4]; omega
      · rw [hs2.at 5 (by omega), z5, h.c5]
      · rw [hF.at (by omega) (by omega)]; exact h.c3
      · exact h.wo.fr (fun d d1 d2 => hF.at (by omega) (by omega))
      · exact fun r hr => by rw [hr64 r hr]; exact hF.rn ho hw (by omega) (h.rn r hr)
      · exact h.p2
      · exact hF.ak ho hr66 h.ak
      · rw [hF.at (c := 173) (by omega) (by omega)]; exact hF.av n5 hw (by omega) hr66 (hF.at (by omega) (by omega)) h.ak h.av
      · rw [hF.at (c := 173) (by omega) (by omega)]; exact h.ar
      · exact hF.ik ho hr44 h.ik
      · exact hF.iv n5 hw (by omega) hr44 (by omega) (by omega) (by omega) (by omega) (by omega) h.ik h.iv
    exact ⟨rfl, hI.x, by have := hs.1; omega, by have := hs.2.1; omega⟩
set_option maxRecDepth 8000 in
set_option maxHeartbeats 2000000 in
theorem o_end {k : Nat} {L : Nat} {xs : Nat → Int} {own : Nat → Nat} {S : Nat → Int} {n q c t M u p x : Nat} {f : Int} {B : Nat → Int} {RS : Nat → rRule} {σ : eH} {a : Int} (hk : 60 ≤ k) (h : Iv L xs own S n q c t M u p x f B RS σ) (w_a : e_w32 a = a) : Op k L xs 14 156 [.inr (.inr 5), .inl a] [.inr (.inr 163), .inl a] σ := by
  have n5 := h.n5
  have hn8 := h.ok.n8
  have hq4 := h.ok.q4
  have ho : ∀ c, c < σ.1 → own c = own c := fun _ _ => rfl
  have ra := e_r32 a
  rw [w_a] at ra
  have ht4 := h.t4
  refine c_end (t := t) (by omega) h.ck h.c4 h.t4 w_a (fun ht => ?_) (fun ht => ?_)
  · refine ⟨_, rfl, h.sx, ?_⟩
    refine w_end (by omega) h.mo w_a (by rw [h.t1]; exact e_id32 (by omega) (by omega)) (fun _ => ⟨rfl, h.x, by omega, by omega⟩) (fun g => absurd ?_ ht)
    rw [h.t1] at g
    exact g
  · obtain ⟨j, rfl⟩ : ∃ j : Nat, a = (j : Int) := ⟨a.toNat, by omega⟩
    obtain ⟨τ1, hτ1⟩ : ∃ τ, τ = e_put σ 4 0 (j : Int) := ⟨_, rfl⟩
    rw [← hτ1]
    have hs1 : Sn (fun c => c = 4) σ τ1 := by
      rw [hτ1]
      exact Sn.put (Sn.rf _ _) rfl
    have q0 : τ1.2.2.2.1 161 1 = (t : Int) := by rw [hs1.at 161 (by omega)]; exact h.t1
    refine ⟨_, rfl, ⟨by rw [hs1.2.2.1]; exact h.sc, by rw [hs1.at 0 (by omega)]; exact h.sd, by rw [hs1.2.2.1]; exact mk161 h.mo⟩, ?_⟩
    refine w_end (by omega) ⟨fun a ha => by rw [hs1.2.2.1]; exact h.mo.1 a ha, fun i hi => by rw [hs1.2.2.2.1]; exact h.mo.2 i hi⟩ w_a (by rw [q0]; exact e_id32 (by omega) (by omega)) (fun g => absurd (by rw [q0]; exact ht) g) (fun _ => ?_)
    obtain ⟨τ, hτ⟩ : ∃ τ, τ = e_put τ1 161 1 (j : Int) := ⟨_, rfl⟩
    rw [← hτ]
    have hs2 : Sn (fun c => c = 161) τ1 τ := by
      rw [hτ]
      exact Sn.put (Sn.rf _ _) rfl
    have hs : Sn (fun c => c = 4 ∨ c = 161) σ τ := (hs1.mn (fun c hc => by omega)).tr (hs2.mn (fun c hc => by omega))
    have hfd : ∀ i, i ≠ 1 → τ.2.2.2.1 161 i = σ.2.2.2.1 161 i := fun i hi => by rw [hτ, e_pd1, e_un _ hi, hs1.at 161 (by omega)]
    have hF := hs.f (Rf := rfs)
    have hR : ∀ c i, ¬ ((c = 71 ∨ c = 113) ∧ i = 4) → τ.2.2.2.2 c i = σ.2.2.2.2 c i := fun c i q => by rw [hs.2.2.2.1]
    have hw : Lw own 99 (fun c => c = 4 ∨ c = 161) σ := fun c c1 c2 q => by exfalso; omega
    have hr64 : ∀ r, r < M → τ.2.2.2.2 64 r = σ.2.2.2.2 64 r := fun r _ => hR 64 r (by omega)
    have hr66 : ∀ j, j < 20 → τ.2.2.2.2 66 j = σ.2.2.2.2 66 j := fun j _ => hR 66 j (by omega)
    have hr44 : ∀ j, j < 4 → τ.2.2.2.2 44 j = σ.2.2.2.2 44 j := fun j _ => hR 44 j (by omega)
    have hI : Iv L xs own S n q c (j) M u p x f B RS τ := by
      refine ⟨?_, ?_, ?_, ?_, ?_, ?_, ?_, ?_, ?_, ?_, ?_, ?_, ?_, ?_, ?_, ?_, ?_, ?_, ?_, ?_, ?_, ?_, ?_, ?_, ?_, ?_, ?_, ?_, ?_, ?_, ?_, ?_, ?_, ?_, ?_⟩
      · rw [hF.kd (by omega)]; exact h.sc
      · rw [hF.at (by omega) (by omega)]; exact h.sd
      · exact hF.tx n5 (by omega) (by omega) h.tx
      · have := hF.1; omega
      · exact hF.ck n5 h.ck
      · exact hF.mo n5 h.mo
      · rw [hF.at (by omega) (by omega)]; exact h.S1
      · rw [hτ, e_pd1, e_us]
      · omega
      · rw [hF.at (by omega) (by omega)]; exact h.b1
      · exact h.bb
      · rw [hfd _ (by omega)]; exact h.m1
      · exact h.m6
      · rw [hfd _ (by omega)]; exact h.f1
      · exact h.fb
      · rw [hfd _ (by omega)]; exact h.x1
      · exact h.xb
      · rw [hfd _ (by omega)]; exact h.r23
      · rw [hfd _ (by omega)]; exact h.u1
      · exact h.u2
      · exact fun r hr => hF.rr n5 (by omega) (by omega) (by omega) (h.rr r hr)
      · exact h.ok
      · exact h.tl
      · exact h.nt
      · rw [hs2.at 4 (by omega), hτ1, e_pd1, e_us]
      · rw [hF.at (by omega) (by omega)]; exact h.c5
      · rw [hF.at (by omega) (by omega)]; exact h.c3
      · exact h.wo.fr (fun d d1 d2 => hF.at (by omega) (by omega))
      · exact fun r hr => by rw [hr64 r hr]; exact hF.rn ho hw (by omega) (h.rn r hr)
      · exact h.p2
      · exact hF.ak ho hr66 h.ak
      · rw [hF.at (c := 173) (by omega) (by omega)]; exact hF.av n5 hw (by omega) hr66 (hF.at (by omega) (by omega)) h.ak h.av
      · rw [hF.at (c := 173) (by omega) (by omega)]; exact h.ar
      · exact hF.ik ho hr44 h.ik
      · exact hF.iv n5 hw (by omega) hr44 (by omega) (by omega) (by omega) (by omega) (by omega) h.ik h.iv
    exact ⟨rfl, hI.x, by have := hs.1; omega, by have := hs.2.1; omega⟩
set_option maxRecDepth 8000 in
set_option maxHeartbeats 2000000 in
theorem o_force {k : Nat} {L : Nat} {xs : Nat → Int} {own : Nat → Nat} {S : Nat → Int} {n q c t M u p x : Nat} {f : Int} {B : Nat → Int} {RS : Nat → rRule} {σ : eH} {a : Int} (hk : 60 ≤ k) (h : Iv L xs own S n q c t M u p x f B RS σ) (w_a : e_w32 a = a) : Op k L xs 72 194 [.inr (.inr 5), .inl a] [.inr (.inr 163), .inl a] σ := by
  have n5 := h.n5
  have hn8 := h.ok.n8
  have hq4 := h.ok.q4
  have ho : ∀ c, c < σ.1 → own c = own c := fun _ _ => rfl
  have hm6 := h.m6
  refine c_force (M := M) (by omega) h.ck h.wo.2.2.2.1 h.c3 h.m6 w_a (fun ht => ?_) (fun ht => ?_)
  · refine ⟨_, rfl, h.sx, ?_⟩
    refine w_force (by omega) h.mo w_a (by rw [h.m1]; exact e_id32 (by omega) (by omega)) (fun _ => ⟨rfl, h.x, by omega, by omega⟩) (fun g => absurd ?_ ht)
    rw [h.m1] at g
    exact g
  · obtain ⟨τ1, hτ1⟩ : ∃ τ, τ = e_put σ 9 3 a := ⟨_, rfl⟩
    rw [← hτ1]
    have hs1 : Sn (fun c => c = 9) σ τ1 := by
      rw [hτ1]
      exact Sn.put (Sn.rf _ _) rfl
    have q0 : τ1.2.2.2.1 161 2 = (M : Int) := by rw [hs1.at 161 (by omega)]; exact h.m1
    refine ⟨_, rfl, ⟨by rw [hs1.2.2.1]; exact h.sc, by rw [hs1.at 0 (by omega)]; exact h.sd, by rw [hs1.2.2.1]; exact mk161 h.mo⟩, ?_⟩
    refine w_force (by omega) ⟨fun a ha => by rw [hs1.2.2.1]; exact h.mo.1 a ha, fun i hi => by rw [hs1.2.2.2.1]; exact h.mo.2 i hi⟩ w_a (by rw [q0]; exact e_id32 (by omega) (by omega)) (fun g => absurd (by rw [q0]; exact ht) g) (fun _ => ?_)
    obtain ⟨τ, hτ⟩ : ∃ τ, τ = e_put τ1 161 21 a := ⟨_, rfl⟩
    rw [← hτ]
    have hs2 : Sn (fun c => c = 161) τ1 τ := by
      rw [hτ]
      exact Sn.put (Sn.rf _ _) rfl
    have hs : Sn (fun c => c = 9 ∨ c = 161) σ τ := (hs1.mn (fun c hc => by omega)).tr (hs2.mn (fun c hc => by omega))
    have hfd : ∀ i, i ≠ 21 → τ.2.2.2.1 161 i = σ.2.2.2.1 161 i := fun i hi => by rw [hτ, e_pd1, e_un _ hi, hs1.at 161 (by omega)]
    have hF := hs.f (Rf := rfs)
    have hR : ∀ c i, ¬ ((c = 71 ∨ c = 113) ∧ i = 4) → τ.2.2.2.2 c i = σ.2.2.2.2 c i := fun c i q => by rw [hs.2.2.2.1]
    have hw : Lw own 99 (fun c => c = 9 ∨ c = 161) σ := fun c c1 c2 q => by exfalso; omega
    have hr64 : ∀ r, r < M → τ.2.2.2.2 64 r = σ.2.2.2.2 64 r := fun r _ => hR 64 r (by omega)
    have hr66 : ∀ j, j < 20 → τ.2.2.2.2 66 j = σ.2.2.2.2 66 j := fun j _ => hR 66 j (by omega)
    have hr44 : ∀ j, j < 4 → τ.2.2.2.2 44 j = σ.2.2.2.2 44 j := fun j _ => hR 44 j (by omega)
    have hI : Iv L xs own S n q c t M u p x (a) B RS τ := by
      refine ⟨?_, ?_, ?_, ?_, ?_, ?_, ?_, ?_, ?_, ?_, ?_, ?_, ?_, ?_, ?_, ?_, ?_, ?_, ?_, ?_, ?_, ?_, ?_, ?_, ?_, ?_, ?_, ?_, ?_, ?_, ?_, ?_, ?_, ?_, ?_⟩
      · rw [hF.kd (by omega)]; exact h.sc
      · rw [hF.at (by omega) (by omega)]; exact h.sd
      · exact hF.tx n5 (by omega) (by omega) h.tx
      · have := hF.1; omega
      · exact hF.ck n5 h.ck
      · exact hF.mo n5 h.mo
      · rw [hF.at (by omega) (by omega)]; exact h.S1
      · rw [hfd _ (by omega)]; exact h.t1
      · exact h.t4
      · rw [hF.at (by omega) (by omega)]; exact h.b1
      · exact h.bb
      · rw [hfd _ (by omega)]; exact h.m1
      · exact h.m6
      · rw [hτ, e_pd1, e_us]
      · omega
      · rw [hfd _ (by omega)]; exact h.x1
      · exact h.xb
      · rw [hfd _ (by omega)]; exact h.r23
      · rw [hfd _ (by omega)]; exact h.u1
      · exact h.u2
      · exact fun r hr => hF.rr n5 (by omega) (by omega) (by omega) (h.rr r hr)
      · exact h.ok
      · exact h.tl
      · exact h.nt
      · rw [hF.at (by omega) (by omega)]; exact h.c4
      · rw [hF.at (by omega) (by omega)]; exact h.c5
      · rw [hF.at (by omega) (by omega)]; exact h.c3
      · exact ⟨h.wo.1.sn hs (fun c c1 c2 => by omega), h.wo.2.1.sn hs (fun c c1 c2 => by omega), h.wo.2.2.1.sn hs (fun c c1 c2 => by omega), by rw [hs2.at 9 (by omega), hτ1, e_pd1, e_us], by rw [hs2.at 9 (by omega), hτ1, e_pd1, e_un _ (by omega)]; exact h.wo.2.2.2.2⟩
      · exact fun r hr => by rw [hr64 r hr]; exact hF.rn ho hw (by omega) (h.rn r hr)
      · exact h.p2
      · exact hF.ak ho hr66 h.ak
      · rw [hF.at (c := 173) (by omega) (by omega)]; exact hF.av n5 hw (by omega) hr66 (hF.at (by omega) (by omega)) h.ak h.av
      · rw [hF.at (c := 173) (by omega) (by omega)]; exact h.ar
      · exact hF.ik ho hr44 h.ik
      · exact hF.iv n5 hw (by omega) hr44 (by omega) (by omega) (by omega) (by omega) (by omega) h.ik h.iv
    exact ⟨by rw [hs1.at 161 (by omega), h.f1], hI.x, by have := hs.1; omega, by have := hs.2.1; omega⟩
set_option maxRecDepth 8000 in
set_option maxHeartbeats 2000000 in
theorem o_seed {k : Nat} {L : Nat} {xs : Nat → Int} {own : Nat → Nat} {S : Nat → Int} {n q c t M u p x : Nat} {f : Int} {B : Nat → Int} {RS : Nat → rRule} {σ : eH} {a : Int} (hk : 60 ≤ k) (h : Iv L xs own S n q c t M u p x f B RS σ) (w_a : e_w32 a = a) : Op k L xs 142 256 [.inr (.inr 5), .inl a] [.inr (.inr 163), .inl a] σ := by
  have n5 := h.n5
  have hn8 := h.ok.n8
  have hq4 := h.ok.q4
  have ho : ∀ c, c < σ.1 → own c = own c := fun _ _ => rfl
  have ra := e_r32 a
  rw [w_a] at ra
  refine c_seed (by omega) h.ck h.wo.2.2.2.2 w_a (fun ht => ?_) (fun ht => ?_)
  · refine ⟨_, rfl, h.sx, ?_⟩
    exact w_seed (by omega) h.mo w_a (fun _ => ⟨rfl, h.x, by omega, by omega⟩) (fun g => absurd g (by omega))
  · obtain ⟨j, rfl⟩ : ∃ j : Nat, a = (j : Int) := ⟨a.toNat, by omega⟩
    obtain ⟨τ1, hτ1⟩ : ∃ τ, τ = e_put σ 9 4 (j : Int) := ⟨_, rfl⟩
    rw [← hτ1]
    have hs1 : Sn (fun c => c = 9) σ τ1 := by
      rw [hτ1]
      exact Sn.put (Sn.rf _ _) rfl
    refine ⟨_, rfl, ⟨by rw [hs1.2.2.1]; exact h.sc, by rw [hs1.at 0 (by omega)]; exact h.sd, by rw [hs1.2.2.1]; exact mk161 h.mo⟩, ?_⟩
    refine w_seed (by omega) ⟨fun a ha => by rw [hs1.2.2.1]; exact h.mo.1 a ha, fun i hi => by rw [hs1.2.2.2.1]; exact h.mo.2 i hi⟩ w_a (fun g => absurd g (by omega)) (fun _ => ?_)
    obtain ⟨τ, hτ⟩ : ∃ τ, τ = e_put τ1 161 22 (j : Int) := ⟨_, rfl⟩
    rw [← hτ]
    have hs2 : Sn (fun c => c = 161) τ1 τ := by
      rw [hτ]
      exact Sn.put (Sn.rf _ _) rfl
    have hs : Sn (fun c => c = 9 ∨ c = 161) σ τ := (hs1.mn (fun c hc => by omega)).tr (hs2.mn (fun c hc => by omega))
    have hfd : ∀ i, i ≠ 22 → τ.2.2.2.1 161 i = σ.2.2.2.1 161 i := fun i hi => by rw [hτ, e_pd1, e_un _ hi, hs1.at 161 (by omega)]
    have hF := hs.f (Rf := rfs)
    have hR : ∀ c i, ¬ ((c = 71 ∨ c = 113) ∧ i = 4) → τ.2.2.2.2 c i = σ.2.2.2.2 c i := fun c i q => by rw [hs.2.2.2.1]
    have hw : Lw own 99 (fun c => c = 9 ∨ c = 161) σ := fun c c1 c2 q => by exfalso; omega
    have hr64 : ∀ r, r < M → τ.2.2.2.2 64 r = σ.2.2.2.2 64 r := fun r _ => hR 64 r (by omega)
    have hr66 : ∀ j, j < 20 → τ.2.2.2.2 66 j = σ.2.2.2.2 66 j := fun j _ => hR 66 j (by omega)
    have hr44 : ∀ j, j < 4 → τ.2.2.2.2 44 j = σ.2.2.2.2 44 j := fun j _ => hR 44 j (by omega)
    have hI : Iv L xs own S n q c t M u p (j) f B RS τ := by
      refine ⟨?_, ?_, ?_, ?_, ?_, ?_, ?_, ?_, ?_, ?_, ?_, ?_, ?_, ?_, ?_, ?_, ?_, ?_, ?_, ?_, ?_, ?_, ?_, ?_, ?_, ?_, ?_, ?_, ?_, ?_, ?_, ?_, ?_, ?_, ?_⟩
      · rw [hF.kd (by omega)]; exact h.sc
      · rw [hF.at (by omega) (by omega)]; exact h.sd
      · exact hF.tx n5 (by omega) (by omega) h.tx
      · have := hF.1; omega
      · exact hF.ck n5 h.ck
      · exact hF.mo n5 h.mo
      · rw [hF.at (by omega) (by omega)]; exact h.S1
      · rw [hfd _ (by omega)]; exact h.t1
      · exact h.t4
      · rw [hF.at (by omega) (by omega)]; exact h.b1
      · exact h.bb
      · rw [hfd _ (by omega)]; exact h.m1
      · exact h.m6
      · rw [hfd _ (by omega)]; exact h.f1
      · exact h.fb
      · rw [hτ, e_pd1, e_us]
      · omega
      · rw [hfd _ (by omega)]; exact h.r23
      · rw [hfd _ (by omega)]; exact h.u1
      · exact h.u2
      · exact fun r hr => hF.rr n5 (by omega) (by omega) (by omega) (h.rr r hr)
      · exact h.ok
      · exact h.tl
      · exact h.nt
      · rw [hF.at (by omega) (by omega)]; exact h.c4
      · rw [hF.at (by omega) (by omega)]; exact h.c5
      · rw [hF.at (by omega) (by omega)]; exact h.c3
      · exact ⟨h.wo.1.sn hs (fun c c1 c2 => by omega), h.wo.2.1.sn hs (fun c c1 c2 => by omega), h.wo.2.2.1.sn hs (fun c c1 c2 => by omega), by rw [hs2.at 9 (by omega), hτ1, e_pd1, e_un _ (by omega)]; exact h.wo.2.2.2.1, by rw [hs2.at 9 (by omega), hτ1, e_pd1, e_us]⟩
      · exact fun r hr => by rw [hr64 r hr]; exact hF.rn ho hw (by omega) (h.rn r hr)
      · exact h.p2
      · exact hF.ak ho hr66 h.ak
      · rw [hF.at (c := 173) (by omega) (by omega)]; exact hF.av n5 hw (by omega) hr66 (hF.at (by omega) (by omega)) h.ak h.av
      · rw [hF.at (c := 173) (by omega) (by omega)]; exact h.ar
      · exact hF.ik ho hr44 h.ik
      · exact hF.iv n5 hw (by omega) hr44 (by omega) (by omega) (by omega) (by omega) (by omega) h.ik h.iv
    exact ⟨by rw [hs1.at 161 (by omega), h.x1], hI.x, by have := hs.1; omega, by have := hs.2.1; omega⟩
