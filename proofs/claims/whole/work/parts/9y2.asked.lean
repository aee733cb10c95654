def IV (L : Nat) (xs : Nat → Int) (σ : eH) : Prop := ∃ (own : Nat → Nat) (S : Nat → Int) (n q c t M u p x : Nat) (f : Int) (B : Nat → Int) (RS : Nat → rRule), Iv L xs own S n q c t M u p x f B RS σ
theorem Iv.x {L : Nat} {xs : Nat → Int} {own : Nat → Nat} {S : Nat → Int} {n q c t M u p x : Nat} {f : Int} {B : Nat → Int} {RS : Nat → rRule} {σ : eH} (h : Iv L xs own S n q c t M u p x f B RS σ) : IV L xs σ := ⟨own, S, n, q, c, t, M, u, p, x, f, B, RS, h⟩
/-- what the law's walk wants between the two calls -/
def Sx (L : Nat) (xs : Nat → Int) (σ : eH) : Prop := σ.2.2.1 0 = (28, L) ∧ σ.2.2.2.1 0 = xs ∧ σ.2.2.1 161 = (12, 39)
def Op (k : Nat) (L : Nat) (xs : Nat → Int) (ic im : Nat) (va vm : List eV) (σ : eH) : Prop := e_Wp k ic va σ (fun v τ1 => ∃ r, v = some (.inl r) ∧ Sx L xs τ1 ∧ e_Wp k im vm τ1 (fun v2 τ2 => v2 = some (.inl r) ∧ IV L xs τ2 ∧ τ2.1 ≤ σ.1 + 40 ∧ τ2.2.1 ≤ σ.2.1 + 600))
theorem Iv.sx {L : Nat} {xs : Nat → Int} {own : Nat → Nat} {S : Nat → Int} {n q c t M u p x : Nat} {f : Int} {B : Nat → Int} {RS : Nat → rRule} {σ : eH} (h : Iv L xs own S n q c t M u p x f B RS σ) : Sx L xs σ := ⟨h.sc, h.sd, mk161 h.mo⟩
theorem Iv.fc {L : Nat} {xs : Nat → Int} {own : Nat → Nat} {S : Nat → Int} {n q c t M u p x : Nat} {f : Int} {B : Nat → Int} {RS : Nat → rRule} {σ : eH} (h : Iv L xs own S n q c t M u p x f B RS σ) : r_fc σ (fR RS f) := by
  unfold fR
  have hb := h.fb
  by_cases e : f < 0
  · rw [if_pos e]
    show σ.2.2.2.1 161 21 = -1
    rw [h.f1]
    omega
  · rw [if_neg e]
    refine ⟨f.toNat, ?_, h.rr _ (by omega)⟩
    rw [h.f1]
    omega
theorem Iv.ro {L : Nat} {xs : Nat → Int} {own : Nat → Nat} {S : Nat → Int} {n q c t M u p x : Nat} {f : Int} {B : Nat → Int} {RS : Nat → rRule} {σ : eH} (h : Iv L xs own S n q c t M u p x f B RS σ) : ∀ r, r < M → RuO σ (σ.2.2.2.2 64 r) (some (RS r)) := fun r hr => (h.rn r hr).o
theorem Iv.sg {L : Nat} {xs : Nat → Int} {own : Nat → Nat} {S : Nat → Int} {n q c t M u p x : Nat} {f : Int} {B : Nat → Int} {RS : Nat → rRule} {σ τ : eH} (h : Iv L xs own S n q c t M u p x f B RS σ) (hs : Sg (fun c => 67 ≤ c ∧ c < 161) σ τ) : Iv L xs own S n q c t M u p x f B RS τ := by
  have n5 := h.n5
  have hn8 := h.ok.n8
  have hq4 := h.ok.q4
  have ho : ∀ c, c < σ.1 → own c = own c := fun _ _ => rfl
  have hF : Fr (fun c => 67 ≤ c ∧ c < 161) rfs σ τ := hs.f (fun c i q => Or.inl q)
  have hR : ∀ c i, ¬ ((c = 71 ∨ c = 113) ∧ i = 4) → τ.2.2.2.2 c i = σ.2.2.2.2 c i := fun c i q => (hs.2.2.2.1 c i).resolve_left q
  have hfd : ∀ i, ¬ (i = 100000) → τ.2.2.2.1 161 i = σ.2.2.2.1 161 i := fun i _ => by rw [hs.at 161 (by omega)]
  have hw : Lw own 99 (fun c => 67 ≤ c ∧ c < 161) σ := fun c c1 c2 q => by exfalso; omega
  have hr64 : ∀ r, r < M → τ.2.2.2.2 64 r = σ.2.2.2.2 64 r := fun r _ => hR 64 r (by omega)
  have hr66 : ∀ j, j < 20 → τ.2.2.2.2 66 j = σ.2.2.2.2 66 j := fun j _ => hR 66 j (by omega)
  have hr44 : ∀ j, j < 4 → τ.2.2.2.2 44 j = σ.2.2.2.2 44 j := fun j _ => hR 44 j (by omega)
  refine ⟨?_, ?_, ?_, ?_, ?_, ?_, ?_, ?_, ?_, ?_, ?_, ?_, ?_, ?_, ?_, ?_, ?_, ?_, ?_, ?_, ?_, ?_, ?_, ?_, ?_, ?_, ?_, ?_, ?_, ?_, ?_, ?_, ?_, ?_, ?_⟩
  · rw [hF.kd (by omega)]; exact h.sc
  · rw [hF.at (by omega) (by omega)]; exact h.sd
  · exact hF.tx n5 (by omega) (by omega) h.tx
  · have := hF.1; omega
  · exact hF.ck n5 h.ck
  · exact hF.mo n5 h.mo
  · rw [hF.at (by omega) (by omega)]; exact h.S1
  · rw [hs.at 161 (by omega)]; exact h.t1
  · exact h.t4
  · rw [hF.at (by omega) (by omega)]; exact h.b1
  · exact h.bb
  · rw [hs.at 161 (by omega)]; exact h.m1
  · exact h.m6
  · rw [hs.at 161 (by omega)]; exact h.f1
  · exact h.fb
  · rw [hs.at 161 (by omega)]; exact h.x1
  · exact h.xb
  · rw [hs.at 161 (by omega)]; exact h.r23
  · rw [hs.at 161 (by omega)]; exact h.u1
  · exact h.u2
  · exact fun r hr => hF.rr n5 (by omega) (by omega) (by omega) (h.rr r hr)
  · exact h.ok
  · exact h.tl
  · exact h.nt
  · rw [hF.at (by omega) (by omega)]; exact h.c4
  · rw [hF.at (by omega) (by omega)]; exact h.c5
  · rw [hF.at (by omega) (by omega)]; exact h.c3
  · exact h.wo.fr (fun d d1 d2 => hF.at (by omega) (by omega))
  · exact fun r hr => by rw [hr64 r hr]; exact hF.rn ho hw (by omega) (h.rn r hr)
  · exact h.p2
  · exact hF.ak ho hr66 h.ak
  · rw [hF.at (c := 173) (by omega) (by omega)]; exact hF.av n5 hw (by omega) hr66 (hF.at (by omega) (by omega)) h.ak h.av
  · rw [hF.at (c := 173) (by omega) (by omega)]; exact h.ar
  · exact hF.ik ho hr44 h.ik
  · exact hF.iv n5 hw (by omega) hr44 (by omega) (by omega) (by omega) (by omega) (by omega) h.ik h.iv
theorem Iv.sc2 {L : Nat} {xs : Nat → Int} {own : Nat → Nat} {S : Nat → Int} {n q c t M u p x : Nat} {f : Int} {B : Nat → Int} {RS : Nat → rRule} {σ τ : eH} (h : Iv L xs own S n q c t M u p x f B RS σ) (hs : Sc σ τ) : Iv L xs own S n q c t M u p x f B RS τ := by
  have n5 := h.n5
  have hn8 := h.ok.n8
  have hq4 := h.ok.q4
  have ho : ∀ c, c < σ.1 → own c = own c := fun _ _ => rfl
  have hF : Fr (fun c => c = 169 ∨ c = 170 ∨ c = 172 ∨ c = 174 ∨ c = 175 ∨ c = 176 ∨ c = 177 ∨ c = 178 ∨ c = 179 ∨ c = 180 ∨ c = 161) rfs σ τ := hs.f.mn (fun c hc q => by simp only [lSc, List.mem_cons, List.not_mem_nil, or_false] at q; omega) (fun _ _ q => q)
  have hR : ∀ c i, ¬ ((c = 71 ∨ c = 113) ∧ i = 4) → τ.2.2.2.2 c i = σ.2.2.2.2 c i := fun c i q => by rw [hs.2.2.2.1]
  have hw : Lw own 99 (fun c => c = 169 ∨ c = 170 ∨ c = 172 ∨ c = 174 ∨ c = 175 ∨ c = 176 ∨ c = 177 ∨ c = 178 ∨ c = 179 ∨ c = 180 ∨ c = 161) σ := fun c c1 c2 q => by exfalso; omega
  have hr64 : ∀ r, r < M → τ.2.2.2.2 64 r = σ.2.2.2.2 64 r := fun r _ => hR 64 r (by omega)
  have hr66 : ∀ j, j < 20 → τ.2.2.2.2 66 j = σ.2.2.2.2 66 j := fun j _ => hR 66 j (by omega)
  have hr44 : ∀ j, j < 4 → τ.2.2.2.2 44 j = σ.2.2.2.2 44 j := fun j _ => hR 44 j (by omega)
  refine ⟨?_, ?_, ?_, ?_, ?_, ?_, ?_, ?_, ?_, ?_, ?_, ?_, ?_, ?_, ?_, ?_, ?_, ?_, ?_, ?_, ?_, ?_, ?_, ?_, ?_, ?_, ?_, ?_, ?_, ?_, ?_, ?_, ?_, ?_, ?_⟩
  · rw [hF.kd (by omega)]; exact h.sc
  · rw [hF.at (by omega) (by omega)]; exact h.sd
  · exact hF.tx n5 (by omega) (by omega) h.tx
  · have := hF.1; omega
  · exact hF.ck n5 h.ck
  · exact hF.mo n5 h.mo
  · rw [hF.at (by omega) (by omega)]; exact h.S1
  · rw [hs.fd 1 (by decide)]; exact h.t1
  · exact h.t4
  · rw [hF.at (by omega) (by omega)]; exact h.b1
  · exact h.bb
  · rw [hs.fd 2 (by decide)]; exact h.m1
  · exact h.m6
  · rw [hs.fd 21 (by decide)]; exact h.f1
  · exact h.fb
  · rw [hs.fd 22 (by decide)]; exact h.x1
  · exact h.xb
  · rw [hs.fd 23 (by decide)]; exact h.r23
  · rw [hs.fd 26 (by decide)]; exact h.u1
  · exact h.u2
  · exact fun r hr => hF.rr n5 (by omega) (by omega) (by omega) (h.rr r hr)
  · exact h.ok
  · exact h.tl
  · exact h.nt
  · rw [hF.at (by omega) (by omega)]; exact h.c4
  · rw [hF.at (by omega) (by omega)]; exact h.c5
  · rw [hF.at (by omega) (by omega)]; exact h.c3
  · exact h.wo.fr (fun d d1 d2 => hF.at (by omega) (by omega))
  · exact fun r hr => by rw [hr64 r hr]; exact hF.rn ho hw (by omega) (h.rn r hr)
  · exact h.p2
  · exact hF.ak ho hr66 h.ak
  · rw [hF.at (c := 173) (by omega) (by omega)]; exact hF.av n5 hw (by omega) hr66 (hF.at (by omega) (by omega)) h.ak h.av
  · rw [hF.at (c := 173) (by omega) (by omega)]; exact h.ar
  · exact hF.ik ho hr44 h.ik
  · exact hF.iv n5 hw (by omega) hr44 (by omega) (by omega) (by omega) (by omega) (by omega) h.ik h.iv
set_option maxRecDepth 8000 in
set_option maxHeartbeats 1000000 in
theorem o_sheep {k : Nat} {L : Nat} {xs : Nat → Int} {own : Nat → Nat} {S : Nat → Int} {n q c t M u p x : Nat} {f : Int} {B : Nat → Int} {RS : Nat → rRule} {σ : eH} {a b : Int} (hk : 60 ≤ k) (h : Iv L xs own S n q c t M u p x f B RS σ) (w_a : e_w32 a = a) (w_b : e_w32 b = b) : Op k L xs 73 196 [.inr (.inr 5), .inl a, .inl b] [.inr (.inr 163), .inl a, .inl b] σ := by
  refine c_sheep (Y := 999) (by omega) h.ck h.ok h.wo w_a w_b (fun τ1 hs1 => ?_)
  have h1 := h.sg hs1
  have e1 := hs1.1
  have s1 := hs1.2.1
  refine ⟨_, rfl, h1.sx, ?_⟩
  refine w_sheep (n := n) (by omega) h1.mo (by rw [h1.S1]; exact h1.ok.w) w_a w_b (by rw [h1.S1]; exact h1.ok.n) h1.ok.n8 (by rw [h1.S1]; exact h1.ok.F) ?_
  refine ⟨by rw [h1.S1], h1.x, by omega, by omega⟩
set_option maxRecDepth 8000 in
set_option maxHeartbeats 1000000 in
theorem o_ahead {k : Nat} {L : Nat} {xs : Nat → Int} {own : Nat → Nat} {S : Nat → Int} {n q c t M u p x : Nat} {f : Int} {B : Nat → Int} {RS : Nat → rRule} {σ : eH} {a b d : Int} (hk : 60 ≤ k) (h : Iv L xs own S n q c t M u p x f B RS σ) (w_a : e_w32 a = a) (w_b : e_w32 b = b) (w_d : e_w32 d = d) : Op k L xs 103 228 [.inr (.inr 5), .inl a, .inl b, .inl d] [.inr (.inr 163), .inl a, .inl b, .inl d] σ := by
  refine c_ahead (Y := 999) (by omega) h.ck h.ok (by omega) h.wo h.c3 h.m6 h.fb h.ro w_a w_b w_d (fun τ1 hs1 => ?_)
  have h1 := h.sg hs1
  have e1 := hs1.1
  have s1 := hs1.2.1
  refine ⟨_, rfl, h1.sx, ?_⟩
  refine w_ahead (Y := 999) (by omega) h1.mo (by rw [h1.S1]; exact h1.ok) (by omega) h1.fc h1.r23 w_a w_b w_d (fun τ2 hs2 => ?_)
  have h2 := h1.sc2 hs2
  have e2 := hs2.1
  have s2 := hs2.2.1
  refine ⟨by rw [h1.S1], h2.x, by omega, by omega⟩
set_option maxRecDepth 8000 in
set_option maxHeartbeats 1000000 in
theorem o_won {k : Nat} {L : Nat} {xs : Nat → Int} {own : Nat → Nat} {S : Nat → Int} {n q c t M u p x : Nat} {f : Int} {B : Nat → Int} {RS : Nat → rRule} {σ : eH} {a b d : Int} (hk : 60 ≤ k) (h : Iv L xs own S n q c t M u p x f B RS σ) (w_a : e_w32 a = a) (w_b : e_w32 b = b) (w_d : e_w32 d = d) : Op k L xs 104 231 [.inr (.inr 5), .inl a, .inl b, .inl d] [.inr (.inr 163), .inl a, .inl b, .inl d] σ := by
  refine c_won (Y := 999) (by omega) h.ck h.ok (by omega) h.wo h.c3 h.m6 h.fb h.ro w_a w_b w_d (fun τ1 hs1 => ?_)
  have h1 := h.sg hs1
  have e1 := hs1.1
  have s1 := hs1.2.1
  refine ⟨_, rfl, h1.sx, ?_⟩
  refine w_won (Y := 999) (by omega) h1.mo (by rw [h1.S1]; exact h1.ok) (by omega) h1.fc h1.r23 w_a w_b w_d (fun τ2 hs2 => ?_)
  have h2 := h1.sc2 hs2
  have e2 := hs2.1
  have s2 := hs2.2.1
  refine ⟨by rw [h1.S1], h2.x, by omega, by omega⟩
set_option maxRecDepth 8000 in
set_option maxHeartbeats 1000000 in
theorem o_least {k : Nat} {L : Nat} {xs : Nat → Int} {own : Nat → Nat} {S : Nat → Int} {n q c t M u p x : Nat} {f : Int} {B : Nat → Int} {RS : Nat → rRule} {σ : eH} {a b d : Int} (hk : 60 ≤ k) (h : Iv L xs own S n q c t M u p x f B RS σ) (w_a : e_w32 a = a) (w_b : e_w32 b = b) (w_d : e_w32 d = d) : Op k L xs 109 233 [.inr (.inr 5), .inl a, .inl b, .inl d] [.inr (.inr 163), .inl a, .inl b, .inl d] σ := by
  refine c_least (Y := 999) (by omega) h.ck h.ok (by omega) h.wo h.c3 h.m6 h.fb h.ro w_a w_b w_d (fun τ1 hs1 => ?_)
  have h1 := h.sg hs1
  have e1 := hs1.1
  have s1 := hs1.2.1
  refine ⟨_, rfl, h1.sx, ?_⟩
  refine w_least (Y := 999) (by omega) h1.mo (by rw [h1.S1]; exact h1.ok) w_a w_b w_d (fun τ2 hs2 => ?_)
  have h2 := h1.sc2 hs2
  have e2 := hs2.1
  have s2 := hs2.2.1
  refine ⟨by rw [h1.S1], h2.x, by omega, by omega⟩
set_option maxRecDepth 8000 in
set_option maxHeartbeats 1000000 in
theorem o_men {k : Nat} {L : Nat} {xs : Nat → Int} {own : Nat → Nat} {S : Nat → Int} {n q c t M u p x : Nat} {f : Int} {B : Nat → Int} {RS : Nat → rRule} {σ : eH} {a : Int} (hk : 60 ≤ k) (h : Iv L xs own S n q c t M u p x f B RS σ) (w_a : e_w32 a = a) : Op k L xs 112 237 [.inr (.inr 5), .inl a] [.inr (.inr 163), .inl a] σ := by
  refine c_men (Y := 999) (by omega) h.ck h.ok (by omega) h.wo h.c3 h.m6 h.fb h.ro w_a (fun τ1 hs1 => ?_)
  have h1 := h.sg hs1
  have e1 := hs1.1
  have s1 := hs1.2.1
  refine ⟨_, rfl, h1.sx, ?_⟩
  refine w_men (Y := 999) (by omega) h1.mo (by rw [h1.S1]; exact h1.ok) w_a ?_
  refine ⟨by rw [h1.S1], h1.x, by omega, by omega⟩
set_option maxRecDepth 8000 in
set_option maxHeartbeats 1000000 in
theorem o_rests {k : Nat} {L : Nat} {xs : Nat → Int} {own : Nat → Nat} {S : Nat → Int} {n q c t M u p x : Nat} {f : Int} {B : Nat → Int} {RS : Nat → rRule} {σ : eH} {a b d e : Int} (hk : 60 ≤ k) (h : Iv L xs own S n q c t M u p x f B RS σ) (w_a : e_w32 a = a) (w_b : e_w32 b = b) (w_d : e_w32 d = d) (w_e : e_w32 e = e) : Op k L xs 115 239 [.inr (.inr 5), .inl a, .inl b, .inl d, .inl e] [.inr (.inr 163), .inl a, .inl b, .inl d, .inl e] σ := by
  refine c_rests (Y := 999) (by omega) h.ck h.ok (by omega) h.wo h.c3 h.m6 h.fb h.ro w_a w_b w_d w_e (fun τ1 hs1 => ?_)
  have h1 := h.sg hs1
  have e1 := hs1.1
  have s1 := hs1.2.1
  refine ⟨_, rfl, h1.sx, ?_⟩
  refine w_rests (Y := 999) (by omega) h1.mo (by rw [h1.S1]; exact h1.ok) (by omega) h1.fc h1.r23 w_a w_b w_d w_e (fun τ2 hs2 => ?_)
  have h2 := h1.sc2 hs2
  have e2 := hs2.1
  have s2 := hs2.2.1
  refine ⟨by rw [h1.S1], h2.x, by omega, by omega⟩
set_option maxRecDepth 8000 in
set_option maxHeartbeats 1000000 in
theorem o_stranger {k : Nat} {L : Nat} {xs : Nat → Int} {own : Nat → Nat} {S : Nat → Int} {n q c t M u p x : Nat} {f : Int} {B : Nat → Int} {RS : Nat → rRule} {σ : eH} {a b : Int} (hk : 60 ≤ k) (h : Iv L xs own S n q c t M u p x f B RS σ) (w_a : e_w32 a = a) (w_b : e_w32 b = b) : Op k L xs 118 241 [.inr (.inr 5), .inl a, .inl b] [.inr (.inr 163), .inl a, .inl b] σ := by
  refine c_stranger (Y := 999) (by omega) h.ck h.ok (by omega) h.wo h.c3 h.m6 h.fb h.ro w_a w_b (fun τ1 hs1 => ?_)
  have h1 := h.sg hs1
  have e1 := hs1.1
  have s1 := hs1.2.1
  refine ⟨_, rfl, h1.sx, ?_⟩
  refine w_stranger (Y := 999) (by omega) h1.mo (by rw [h1.S1]; exact h1.ok) w_a w_b ?_
  refine ⟨by rw [h1.S1], h1.x, by omega, by omega⟩
set_option maxRecDepth 8000 in
set_option maxHeartbeats 1000000 in
theorem o_settled {k : Nat} {L : Nat} {xs : Nat → Int} {own : Nat → Nat} {S : Nat → Int} {n q c t M u p x : Nat} {f : Int} {B : Nat → Int} {RS : Nat → rRule} {σ : eH} {a : Int} (hk : 60 ≤ k) (h : Iv L xs own S n q c t M u p x f B RS σ) (w_a : e_w32 a = a) : Op k L xs 121 242 [.inr (.inr 5), .inl a] [.inr (.inr 163), .inl a] σ := by
  refine c_settled (Y := 999) (by omega) h.ck h.ok (by omega) h.wo h.c3 h.m6 h.fb h.ro w_a (fun τ1 hs1 => ?_)
  have h1 := h.sg hs1
  have e1 := hs1.1
  have s1 := hs1.2.1
  refine ⟨_, rfl, h1.sx, ?_⟩
  refine w_settled (Y := 999) (by omega) h1.mo (by rw [h1.S1]; exact h1.ok) (by omega) h1.fc h1.r23 w_a (fun τ2 hs2 => ?_)
  have h2 := h1.sc2 hs2
  have e2 := hs2.1
  have s2 := hs2.2.1
  refine ⟨by rw [h1.S1], h2.x, by omega, by omega⟩
set_option maxRecDepth 8000 in
set_option maxHeartbeats 1000000 in
theorem o_shared {k : Nat} {L : Nat} {xs : Nat → Int} {own : Nat → Nat} {S : Nat → Int} {n q c t M u p x : Nat} {f : Int} {B : Nat → Int} {RS : Nat → rRule} {σ : eH} {a : Int} (hk : 60 ≤ k) (h : Iv L xs own S n q c t M u p x f B RS σ) (w_a : e_w32 a = a) : Op k L xs 124 244 [.inr (.inr 5), .inl a] [.inr (.inr 163), .inl a] σ := by
  refine c_shared (Y := 999) (by omega) h.ck h.ok (by omega) h.wo h.c3 h.m6 h.fb h.ro w_a (fun τ1 hs1 => ?_)
  have h1 := h.sg hs1
  have e1 := hs1.1
  have s1 := hs1.2.1
  refine ⟨_, rfl, h1.sx, ?_⟩
  refine w_shared (Y := 999) (by omega) h1.mo (by rw [h1.S1]; exact h1.ok) w_a ?_
  refine ⟨by rw [h1.S1], h1.x, by omega, by omega⟩
set_option maxRecDepth 8000 in
set_option maxHeartbeats 1000000 in
theorem o_taught {k : Nat} {L : Nat} {xs : Nat → Int} {own : Nat → Nat} {S : Nat → Int} {n q c t M u p x : Nat} {f : Int} {B : Nat → Int} {RS : Nat → rRule} {σ : eH} {a b : Int} (hk : 60 ≤ k) (h : Iv L xs own S n q c t M u p x f B RS σ) (w_a : e_w32 a = a) (w_b : e_w32 b = b) : Op k L xs 126 247 [.inr (.inr 5), .inl a, .inl b] [.inr (.inr 163), .inl a, .inl b] σ := by
  refine c_taught (Y := 999) (by omega) h.ck h.ok (by omega) h.wo h.c3 h.m6 h.fb h.ro w_a w_b (fun τ1 hs1 => ?_)
  have h1 := h.sg hs1
  have e1 := hs1.1
  have s1 := hs1.2.1
  refine ⟨_, rfl, h1.sx, ?_⟩
  refine w_taught (Y := 999) (by omega) h1.mo (by rw [h1.S1]; exact h1.ok) (by omega) h1.fc h1.r23 w_a w_b (fun τ2 hs2 => ?_)
  have h2 := h1.sc2 hs2
  have e2 := hs2.1
  have s2 := hs2.2.1
  refine ⟨by rw [h1.S1], h2.x, by omega, by omega⟩
set_option maxRecDepth 8000 in
set_option maxHeartbeats 1000000 in
theorem o_worth {k : Nat} {L : Nat} {xs : Nat → Int} {own : Nat → Nat} {S : Nat → Int} {n q c t M u p x : Nat} {f : Int} {B : Nat → Int} {RS : Nat → rRule} {σ : eH} {a b d : Int} (hk : 60 ≤ k) (h : Iv L xs own S n q c t M u p x f B RS σ) (w_a : e_w32 a = a) (w_b : e_w32 b = b) (w_d : e_w32 d = d) : Op k L xs 129 248 [.inr (.inr 5), .inl a, .inl b, .inl d] [.inr (.inr 163), .inl a, .inl b, .inl d] σ := by
  refine c_worth (Y := 999) (by omega) h.ck h.ok (by omega) h.wo h.c3 h.m6 h.fb h.ro w_a w_b w_d (fun τ1 hs1 => ?_)
  have h1 := h.sg hs1
  have e1 := hs1.1
  have s1 := hs1.2.1
  refine ⟨_, rfl, h1.sx, ?_⟩
  refine w_worth (Y := 999) (by omega) h1.mo (by rw [h1.S1]; exact h1.ok) (by omega) h1.fc h1.r23 w_a w_b w_d (fun τ2 hs2 => ?_)
  have h2 := h1.sc2 hs2
  have e2 := hs2.1
  have s2 := hs2.2.1
  refine ⟨by rw [h1.S1], h2.x, by omega, by omega⟩
set_option maxRecDepth 8000 in
set_option maxHeartbeats 1000000 in
theorem o_ruled {k : Nat} {L : Nat} {xs : Nat → Int} {own : Nat → Nat} {S : Nat → Int} {n q c t M u p x : Nat} {f : Int} {B : Nat → Int} {RS : Nat → rRule} {σ : eH} {a : Int} (hk : 60 ≤ k) (h : Iv L xs own S n q c t M u p x f B RS σ) (w_a : e_w32 a = a) : Op k L xs 133 251 [.inr (.inr 5), .inl a] [.inr (.inr 163), .inl a] σ := by
  refine c_ruled (Y := 999) (by omega) h.ck h.ok (by omega) h.wo h.c3 h.m6 h.fb h.ro h.tl h.nt w_a (fun τ1 hs1 => ?_)
  have h1 := h.sg hs1
  have e1 := hs1.1
  have s1 := hs1.2.1
  refine ⟨_, rfl, h1.sx, ?_⟩
  refine w_ruled (Y := 999) (by omega) h1.mo (by rw [h1.S1]; exact h1.ok) (by omega) (by rw [h1.S1]; exact h1.nt) (by rw [h1.S1]; exact h1.tl) h1.rr h1.m1 h1.m6 h1.r23 w_a (fun τ2 hs2 => ?_)
  have h2 := h1.sc2 hs2
  have e2 := hs2.1
  have s2 := hs2.2.1
  refine ⟨by rw [h1.S1], h2.x, by omega, by omega⟩
set_option maxRecDepth 8000 in
set_option maxHeartbeats 1000000 in
theorem o_look {k : Nat} {L : Nat} {xs : Nat → Int} {own : Nat → Nat} {S : Nat → Int} {n q c t M u p x : Nat} {f : Int} {B : Nat → Int} {RS : Nat → rRule} {σ : eH} {a b : Int} (hk : 60 ≤ k) (h : Iv L xs own S n q c t M u p x f B RS σ) (w_a : e_w32 a = a) (w_b : e_w32 b = b) : Op k L xs 138 254 [.inr (.inr 5), .inl a, .inl b] [.inr (.inr 163), .inl a, .inl b] σ := by
  refine c_look (Y := 999) (by omega) h.ck h.ok (by omega) h.wo h.c3 h.m6 h.fb h.ro h.tl h.nt w_a w_b (fun τ1 hs1 => ?_)
  have h1 := h.sg hs1
  have e1 := hs1.1
  have s1 := hs1.2.1
  refine ⟨_, rfl, h1.sx, ?_⟩
  refine w_look (Y := 999) (by omega) h1.mo (by rw [h1.S1]; exact h1.ok) (by omega) (by rw [h1.S1]; exact h1.nt) (by rw [h1.S1]; exact h1.tl) h1.rr h1.m1 h1.m6 h1.r23 w_a w_b (fun τ2 hs2 => ?_)
  have h2 := h1.sc2 hs2
  have e2 := hs2.1
  have s2 := hs2.2.1
  refine ⟨by rw [h1.S1], h2.x, by omega, by omega⟩
set_option maxRecDepth 8000 in
set_option maxHeartbeats 1000000 in
theorem o_frights {k : Nat} {L : Nat} {xs : Nat → Int} {own : Nat → Nat} {S : Nat → Int} {n q c t M u p x : Nat} {f : Int} {B : Nat → Int} {RS : Nat → rRule} {σ : eH} {a b d e : Int} (hk : 60 ≤ k) (h : Iv L xs own S n q c t M u p x f B RS σ) (w_a : e_w32 a = a) (w_b : e_w32 b = b) (w_d : e_w32 d = d) (w_e : e_w32 e = e) : Op k L xs 143 257 [.inr (.inr 5), .inl a, .inl b, .inl d, .inl e] [.inr (.inr 163), .inl a, .inl b, .inl d, .inl e] σ := by
  refine c_frights (Y := 999) (by omega) h.ck h.ok (by omega) h.wo h.c3 h.m6 h.fb h.ro rfl h.xb w_a w_b w_d w_e (fun τ1 hs1 => ?_)
  have h1 := h.sg hs1
  have e1 := hs1.1
  have s1 := hs1.2.1
  refine ⟨_, rfl, h1.sx, ?_⟩
  refine w_frights (Y := 999) (by omega) h1.mo (by rw [h1.S1]; exact h1.ok) (by omega) h1.fc h1.r23 h1.x1 h1.xb w_a w_b w_d w_e (fun τ2 hs2 => ?_)
  have h2 := h1.sc2 hs2
  have e2 := hs2.1
  have s2 := hs2.2.1
  refine ⟨by rw [h1.S1], h2.x, by omega, by omega⟩
set_option maxRecDepth 8000 in
set_option maxHeartbeats 1000000 in
theorem o_count {k : Nat} {L : Nat} {xs : Nat → Int} {own : Nat → Nat} {S : Nat → Int} {n q c t M u p x : Nat} {f : Int} {B : Nat → Int} {RS : Nat → rRule} {σ : eH} {a : Int} (hk : 60 ≤ k) (h : Iv L xs own S n q c t M u p x f B RS σ) (w_a : e_w32 a = a) : Op k L xs 147 260 [.inr (.inr 5), .inl a] [.inr (.inr 163), .inl a] σ := by
  refine c_count (Y := 999) (by omega) h.ck h.ok h.wo h.c3 h.av.1 h.c4 h.nt.1 w_a (fun τ1 hs1 => ?_)
  have h1 := h.sg hs1
  have e1 := hs1.1
  have s1 := hs1.2.1
  refine ⟨_, rfl, h1.sx, ?_⟩
  refine w_count (n := n) (q := q) (by omega) h1.mo (by rw [h1.S1]; exact h1.ok.w) w_a (by rw [h1.S1]; exact h1.ok.n) h1.ok.n8 (by rw [h1.S1]; exact h1.ok.F) (by rw [h1.S1]; exact h1.ok.q) h1.ok.q4 ?_
  refine ⟨by rw [h1.S1, h1.m1, h1.f1, h1.u1, h1.x1, h1.t1], h1.x, by omega, by omega⟩
set_option maxRecDepth 8000 in
set_option maxHeartbeats 1000000 in
theorem o_man {k : Nat} {L : Nat} {xs : Nat → Int} {own : Nat → Nat} {S : Nat → Int} {n q c t M u p x : Nat} {f : Int} {B : Nat → Int} {RS : Nat → rRule} {σ : eH} {a b : Int} (hk : 60 ≤ k) (h : Iv L xs own S n q c t M u p x f B RS σ) (w_a : e_w32 a = a) (w_b : e_w32 b = b) : Op k L xs 77 201 [.inr (.inr 5), .inl a, .inl b] [.inr (.inr 163), .inl a, .inl b] σ := by
  refine c_man (Y := 999) (by omega) h.ck h.ok h.wo w_a w_b ?_
  refine ⟨_, rfl, h.sx, ?_⟩
  refine w_man (n := n) (q := q) (by omega) h.mo (by rw [h.S1]; exact h.ok.w) w_a w_b (by rw [h.S1]; exact h.ok.n) h.ok.n8 (by rw [h.S1]; exact h.ok.q) h.ok.q4 (fun g => ?_) (fun t1 g1 g2 g3 => ?_) (fun t1 g1 g2 g3 => ?_) (fun t1 g1 g2 g3 => ?_) (fun t1 g1 g2 g3 => ?_)
  · exact ⟨by rw [if_neg g], h.x, by omega, by omega⟩
  · refine ⟨?_, h.x, by omega, by omega⟩
    rw [if_pos (by omega), if_pos g3, h.S1, g1, Int.toNat_natCast]
  · refine ⟨?_, h.x, by omega, by omega⟩
    rw [if_pos (by omega), if_neg (by omega), if_pos g3, h.S1, g1, Int.toNat_natCast]
  · refine ⟨?_, h.x, by omega, by omega⟩
    rw [if_pos (by omega), if_neg (by omega), if_neg (by omega), if_pos g3, h.S1, g1, Int.toNat_natCast]
  · refine ⟨?_, h.x, by omega, by omega⟩
    rw [if_pos (by omega), if_neg (by omega), if_neg (by omega), if_neg (by omega), h.S1, g1]
set_option maxRecDepth 8000 in
set_option maxHeartbeats 1000000 in
theorem o_likes {k : Nat} {L : Nat} {xs : Nat → Int} {own : Nat → Nat} {S : Nat → Int} {n q c t M u p x : Nat} {f : Int} {B : Nat → Int} {RS : Nat → rRule} {σ : eH} {a b : Int} (hk : 60 ≤ k) (h : Iv L xs own S n q c t M u p x f B RS σ) (w_a : e_w32 a = a) (w_b : e_w32 b = b) : Op k L xs 80 204 [.inr (.inr 5), .inl a, .inl b] [.inr (.inr 163), .inl a, .inl b] σ := by
  refine c_likes (Y := 999) (by omega) h.ck h.ok h.wo w_a w_b ?_
  refine ⟨_, rfl, h.sx, ?_⟩
  refine w_likes (n := n) (q := q) (by omega) h.mo (by rw [h.S1]; exact h.ok.w) w_a w_b (by rw [h.S1]; exact h.ok.n) h.ok.n8 (by rw [h.S1]; exact h.ok.q) h.ok.q4 (fun g => ?_) (fun s1 t1 g1 g2 g3 g4 => ?_)
  · exact ⟨by rw [if_neg g], h.x, by omega, by omega⟩
  · refine ⟨?_, h.x, by omega, by omega⟩
    rw [if_pos (by omega), h.S1, g1, g2, Int.toNat_natCast, Int.toNat_natCast]
