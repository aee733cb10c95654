/-! OWNERS: cells behind the constructors' belong to a kept state j (j), an image k (20 + k) or a rule (24) -/
theorem StK.fr {σ τ : eH} {b : Nat} (h : StK σ b) (e : ∀ c, b ≤ c → c < b + 13 → τ.2.2.1 c = σ.2.2.1 c ∧ ∀ i, τ.2.2.2.2 c i = σ.2.2.2.2 c i) : StK τ b := by
  obtain ⟨h0, h1, h2, h3, h4, h5, h6, h7, h8, h9, h10⟩ := h
  refine ⟨?_, ?_, ?_, ?_, ?_, fun s hs => ?_, ?_, ?_, ?_, ?_, fun s hs => ?_⟩
  · rw [(e _ (by omega) (by omega)).1]; exact h0
  · rw [(e _ (by omega) (by omega)).1]; exact h1
  · rw [(e _ (by omega) (by omega)).1]; exact h2
  · rw [(e _ (by omega) (by omega)).1]; exact h3
  · rw [(e _ (by omega) (by omega)).1]; exact h4
  · rw [(e _ (by omega) (by omega)).1]; exact h5 s hs
  · rw [(e _ (by omega) (by omega)).2]; exact h6
  · rw [(e _ (by omega) (by omega)).2]; exact h7
  · rw [(e _ (by omega) (by omega)).2]; exact h8
  · rw [(e _ (by omega) (by omega)).2]; exact h9
  · rw [(e _ (by omega) (by omega)).2]; exact h10 s hs
theorem StV.fr {σ τ : eH} {b : Nat} {S : Nat → Int} (h : StV σ b S) (e : ∀ c, b ≤ c → c < b + 13 → τ.2.2.2.1 c = σ.2.2.2.1 c) : StV τ b S := by
  obtain ⟨h1, h2, h3, h4, h5⟩ := h
  refine ⟨fun i hi => ?_, fun i hi => ?_, fun s m hs hm => ?_, fun m hm => ?_, ?_⟩
  · rw [e _ (by omega) (by omega)]; exact h1 i hi
  · rw [e _ (by omega) (by omega)]; exact h2 i hi
  · rw [e _ (by omega) (by omega)]; exact h3 s m hs hm
  · rw [e _ (by omega) (by omega)]; exact h4 m hm
  · rw [e _ (by omega) (by omega)]; exact h5
/-- cells may be new; of the old ones L and those of owner j have changed, and one reference -/
def Dm (own : Nat → Nat) (j rc ri : Nat) (L : Nat → Prop) (σ τ : eH) : Prop := σ.1 ≤ τ.1 ∧ τ.1 ≤ σ.1 + 40 ∧ σ.2.1 ≤ τ.2.1 ∧ τ.2.1 ≤ σ.2.1 + 600 ∧ (∀ c, c < σ.1 → τ.2.2.1 c = σ.2.2.1 c) ∧ (∀ c i, c < σ.1 → c = rc ∧ i = ri ∨ τ.2.2.2.2 c i = σ.2.2.2.2 c i) ∧ ∀ c, c < σ.1 → ¬ (L c ∨ 185 ≤ c ∧ own c = j) → τ.2.2.2.1 c = σ.2.2.2.1 c
theorem Dm.at {own : Nat → Nat} {j rc ri : Nat} {L : Nat → Prop} {σ τ : eH} (h : Dm own j rc ri L σ τ) {c : Nat} (h1 : c < σ.1) (h2 : ¬ L c) (h3 : c < 185 ∨ own c ≠ j) : τ.2.2.2.1 c = σ.2.2.2.1 c := h.2.2.2.2.2.2 c h1 (fun q => q.elim h2 (fun r => by omega))
theorem Dm.ref {own : Nat → Nat} {j rc ri : Nat} {L : Nat → Prop} {σ τ : eH} (h : Dm own j rc ri L σ τ) {c i : Nat} (h1 : c < σ.1) (h2 : c ≠ rc ∨ i ≠ ri) : τ.2.2.2.2 c i = σ.2.2.2.2 c i := (h.2.2.2.2.2.1 c i h1).elim (fun q => by omega) (fun e => e)
theorem Dm.kd {own : Nat → Nat} {j rc ri : Nat} {L : Nat → Prop} {σ τ : eH} (h : Dm own j rc ri L σ τ) {c : Nat} (h1 : c < σ.1) : τ.2.2.1 c = σ.2.2.1 c := h.2.2.2.2.1 c h1
theorem Dm.sd {own : Nat → Nat} {j rc ri : Nat} {L : Nat → Prop} {σ τ : eH} (h : Dm own j rc ri L σ τ) : Sn (fun c => σ.1 ≤ c ∨ L c ∨ 185 ≤ c ∧ own c = j) (τ.1, τ.2.1, τ.2.2.1, σ.2.2.2.1, τ.2.2.2.2) τ := ⟨rfl, rfl, rfl, rfl, fun c hc => h.2.2.2.2.2.2 c (by omega) (fun q => hc (Or.inr q))⟩
theorem Dm.ck {own : Nat → Nat} {j rc ri : Nat} {L : Nat → Prop} {σ τ : eH} (h : Dm own j rc ri L σ τ) (h185 : 185 ≤ σ.1) (hr : rc = 44 ∨ rc = 64 ∨ rc = 66) (hc : Ck σ) : Ck τ := by
  refine ⟨fun c hc1 => ?_, fun x hx => ?_⟩
  · rw [h.kd (by omega)]
    exact hc.1 c hc1
  · have h1 := t_cr_lt x hx
    have h2 := t_cr_n x hx
    rw [h.ref (by omega) (by omega)]
    exact hc.2 x hx
theorem Dm.mo {own : Nat → Nat} {j rc ri : Nat} {L : Nat → Prop} {σ τ : eH} (h : Dm own j rc ri L σ τ) (h185 : 185 ≤ σ.1) (hr : rc = 44 ∨ rc = 64 ∨ rc = 66) (hm : Mo σ) : Mo τ := by
  refine ⟨fun c hc1 => ?_, fun i hi => ?_⟩
  · rw [h.kd (by omega)]
    exact hm.1 c hc1
  · rw [h.ref (by omega) (by omega)]
    exact hm.2 i hi
theorem Dm.stk {own : Nat → Nat} {j rc ri b : Nat} {L : Nat → Prop} {σ τ : eH} (h : Dm own j rc ri L σ τ) (hb : b + 13 ≤ σ.1) (hr : rc < b) (hk : StK σ b) : StK τ b := hk.fr (fun c h1 h2 => ⟨h.kd (by omega), fun i => h.ref (by omega) (by omega)⟩)
/-- the acts' states -/
def AcK (own : Nat → Nat) (σ : eH) : Prop := ∀ j, j < 20 → σ.2.2.2.2 66 j = 0 ∨ ∃ b, σ.2.2.2.2 66 j = b + 2 ∧ 185 ≤ b ∧ b + 13 ≤ σ.1 ∧ StK σ b ∧ ∀ c, b ≤ c → c < b + 13 → own c = j
def r_row (W : Nat → Int) (i : Nat) : Nat → Int := fun k => W (53 * i + (k - 10))
/-- the acts: u of them, the next at p -/
def AcV (σ : eH) (u p : Nat) (W : Nat → Int) : Prop := σ.2.2.2.1 65 0 = (u : Int) ∧ σ.2.2.2.1 65 1 = (p : Int) ∧ ∀ i, i < u → ∃ b, σ.2.2.2.2 66 ((p + 20 - u + i) % 20) = b + 2 ∧ 185 ≤ b ∧ StV σ b (r_row W i)
theorem r_row_new {S W : Nat → Int} {u i k : Nat} (hu : u ≤ 20) (hi : i + 1 = if u = 20 then 20 else u + 1) (h1 : 10 ≤ k) (h2 : k < 63) : S k = r_row (r_ka S W u) i k := by
  show S k = r_ka S W u (53 * i + (k - 10))
  unfold r_ka cq
  have e : i = if u = 20 then 19 else u := by split at hi <;> split <;> omega
  rw [← e, if_pos (by omega)]
  show S k = S (10 + (53 * i + (k - 10) - 53 * i))
  rw [show 10 + (53 * i + (k - 10) - 53 * i) = k by omega]
theorem r_row_old {S W : Nat → Int} {u i k : Nat} (hu : u ≤ 20) (hi : i + 1 < if u = 20 then 20 else u + 1) (h1 : 10 ≤ k) (h2 : k < 63) : r_row W (if u = 20 then i + 1 else i) k = r_row (r_ka S W u) i k := by
  show W (53 * (if u = 20 then i + 1 else i) + (k - 10)) = r_ka S W u (53 * i + (k - 10))
  unfold r_ka cq
  by_cases e : u = 20
  · rw [if_pos e] at hi
    rw [if_pos e, if_pos e, if_pos e, if_neg (by omega)]
    unfold r_sh
    rw [if_pos (by omega)]
    exact congrArg W (by omega)
  · rw [if_neg e] at hi
    rw [if_neg e, if_neg e, if_neg e, if_neg (by omega)]
theorem ac_key {own own' : Nat → Nat} {u p b : Nat} {S W : Nat → Int} {σ τ : eH} (h185 : 185 ≤ σ.1) (hu : u ≤ 20) (hp : p < 20) (hA : AcK own σ) (hV : AcV σ u p W) (ho : ∀ c, c < σ.1 → own' c = own c) (hd : Dm own p 66 p (fun c => c = 65) σ τ) (hb : τ.2.2.2.2 66 p = b + 2) (hb5 : 185 ≤ b) (hbt : b + 13 ≤ τ.1) (hkb : StK τ b) (hvb : StV τ b S) (hob : ∀ c, b ≤ c → c < b + 13 → own' c = p) (h0 : τ.2.2.2.1 65 0 = ((if u = 20 then 20 else u + 1 : Nat) : Int)) (h1 : τ.2.2.2.1 65 1 = (((p + 1) % 20 : Nat) : Int)) : AcK own' τ ∧ AcV τ (if u = 20 then 20 else u + 1) ((p + 1) % 20) (r_ka S W u) := by
  refine ⟨fun j hj => ?_, h0, h1, fun i hi => ?_⟩
  · by_cases e : j = p
    · exact Or.inr ⟨b, by rw [e]; exact hb, hb5, hbt, hkb, fun c c1 c2 => by rw [e]; exact hob c c1 c2⟩
    · have hr := hd.ref (c := 66) (i := j) (by omega) (Or.inr e)
      rcases hA j hj with h | ⟨b', g1, g2, g3, g4, g5⟩
      · exact Or.inl (hr.trans h)
      · exact Or.inr ⟨b', hr.trans g1, g2, by have := hd.1; omega, hd.stk g3 (by omega) g4, fun c c1 c2 => (ho c (by omega)).trans (g5 c c1 c2)⟩
  · by_cases e : i + 1 = if u = 20 then 20 else u + 1
    · have ej : ((p + 1) % 20 + 20 - (if u = 20 then 20 else u + 1) + i) % 20 = p := by
        have h20 : i + 1 ≤ 20 := by split at e <;> omega
        rw [← e]
        omega
      rw [ej]
      exact ⟨b, hb, hb5, hvb.cg (fun k k1 k2 => r_row_new hu e k1 k2)⟩
    · have ei : i + 1 < if u = 20 then 20 else u + 1 := by omega
      have hi0 : (if u = 20 then i + 1 else i) < u := by split at ei <;> split <;> omega
      have ej : ((p + 1) % 20 + 20 - (if u = 20 then 20 else u + 1) + i) % 20 = (p + 20 - u + (if u = 20 then i + 1 else i)) % 20 := by
        split <;> omega
      have en : (p + 20 - u + (if u = 20 then i + 1 else i)) % 20 ≠ p := by
        split at ei
        · rw [if_pos (by assumption)]; omega
        · rw [if_neg (by assumption)]; omega
      have el : (p + 20 - u + (if u = 20 then i + 1 else i)) % 20 < 20 := Nat.mod_lt _ (by omega)
      obtain ⟨b', g1, g2, g3⟩ := hV.2.2 _ hi0
      rw [ej]
      generalize (p + 20 - u + (if u = 20 then i + 1 else i)) % 20 = j at *
      have hr := hd.ref (c := 66) (i := j) (by omega) (Or.inr en)
      refine ⟨b', hr.trans g1, g2, (g3.fr (fun c c1 c2 => ?_)).cg (fun k k1 k2 => r_row_old hu ei k1 k2)⟩
      rcases hA j el with h | ⟨b2, f1, f2, f3, f4, f5⟩
      · omega
      · have : b2 = b' := by omega
        subst this
        exact hd.at (by omega) (by omega) (Or.inr (by rw [f5 c c1 c2]; exact en))
set_option maxRecDepth 8000 in
set_option maxHeartbeats 2000000 in
theorem c_keep {k : Nat} {own : Nat → Nat} {u p : Nat} {S W : Nat → Int} {σ : eH} {Q : Option eV → eH → Prop} (hk : 2 ≤ k) (hck : Ck σ) (h185 : 185 ≤ σ.1) (hu : u ≤ 20) (hp : p < 20) (hA : AcK own σ) (hV : AcV σ u p W) (hst : StV σ 27 S) (hQ : ∀ τ own', (∀ c, c < σ.1 → own' c = own c) → Dm own p 66 p (fun c => c = 65) σ τ → AcK own' τ → AcV τ (if u = 20 then 20 else u + 1) ((p + 1) % 20) (r_ka S W u) → Q none τ) : e_Wp k 82 [.inr (.inr 67), .inr (.inr 29)] σ Q := by
  rcases hA p hp with h | ⟨b, g1, g2, g3, g4, g5⟩
  · refine c_keepA hk hck hV.1 hu hV.2.1 hp h h185 hst (fun τ1 τ n1 s1 b1 k1 hs hv e0 e1 => ?_)
    have hn : τ.1 = σ.1 + 13 := by rw [hs.1]; exact n1
    have hsl : τ.2.1 = σ.2.1 + 65 := by rw [hs.2.1]; exact s1
    have hd : Dm own p 66 p (fun c => c = 65) σ τ := by
      refine ⟨by omega, by omega, by omega, by omega, fun c hc => ?_, fun c i hc => ?_, fun c hc hn1 => ?_⟩
      · rw [hs.2.2.1, e_qk]
        exact (b1 c hc).1
      · rw [hs.2.2.2.1]
        by_cases e : c = 66
        · subst e
          by_cases e2 : i = p
          · exact Or.inl ⟨rfl, e2⟩
          · rw [e_qr1, e_un _ e2, (b1 66 hc).2.2]
            exact Or.inr rfl
        · rw [e_qr2 _ e, (b1 c hc).2.2]
          exact Or.inr rfl
      · rw [hs.at c (by omega), e_qd]
        exact (b1 c hc).2.1
    have hk2 : StK τ σ.1 := hs.stk (k1.puR (Or.inl (by omega)))
    have key := ac_key (b := σ.1) (own' := fun c => if c < σ.1 then own c else p) h185 hu hp hA hV (fun c hc => if_pos hc) hd (by rw [hs.2.2.2.1, e_qr1, e_us]) h185 (by omega) hk2 hv (fun c c1 c2 => if_neg (by omega)) e0 e1
    exact hQ τ _ (fun c hc => if_pos hc) hd key.1 key.2
  · refine c_keepB hk hck hV.1 hu hV.2.1 hp g1 g2 g4 hst (fun τ hs hv e0 e1 => ?_)
    have hd : Dm own p 66 p (fun c => c = 65) σ τ := by
      refine ⟨by rw [hs.1]; exact Nat.le_refl _, by rw [hs.1]; omega, by rw [hs.2.1]; exact Nat.le_refl _, by rw [hs.2.1]; omega, fun c hc => by rw [hs.2.2.1], fun c i hc => Or.inr (by rw [hs.2.2.2.1]), fun c hc hn1 => hs.at c (fun q => hn1 ?_)⟩
      rcases q with q | q
      · exact Or.inr ⟨by omega, g5 c q.1 q.2⟩
      · exact Or.inl q
    have key := ac_key (b := b) (own' := own) h185 hu hp hA hV (fun c hc => rfl) hd (by rw [hs.2.2.2.1]; exact g1) g2 (by rw [hs.1]; exact g3) (hs.stk g4) hv g5 e0 e1
    exact hQ τ own (fun c hc => rfl) hd key.1 key.2
