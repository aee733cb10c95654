theorem HlV.f3 {σ τ : eH} {b n q : Nat} {S : Nat → Int} (h : HlV σ b S n q) (e : ∀ d, b ≤ d → d < b + 17 → τ.2.2.2.1 d = σ.2.2.2.1 d) : HlV τ b S n q := HlV.sn (σ := (τ.1, τ.2.1, τ.2.2.1, σ.2.2.2.1, τ.2.2.2.2)) (L := fun d => ¬ (b ≤ d ∧ d < b + 17)) h ⟨rfl, rfl, rfl, rfl, fun d hd => by
  have : b ≤ d ∧ d < b + 17 := Classical.not_not.1 hd
  exact e d this.1 this.2⟩ (fun d h1 h2 q => q ⟨h1, h2⟩)
theorem NtV.f3 {σ τ : eH} {b c : Nat} {S : Nat → Int} (h : NtV σ b S c) (e : ∀ d, b ≤ d → d < b + 4 → τ.2.2.2.1 d = σ.2.2.2.1 d) : NtV τ b S c := NtV.sn (σ := (τ.1, τ.2.1, τ.2.2.1, σ.2.2.2.1, τ.2.2.2.2)) (L := fun d => ¬ (b ≤ d ∧ d < b + 4)) h ⟨rfl, rfl, rfl, rfl, fun d hd => by
  have : b ≤ d ∧ d < b + 4 := Classical.not_not.1 hd
  exact e d this.1 this.2⟩ (fun d h1 h2 q => q ⟨h1, h2⟩)
theorem Iv.mid {L : Nat} {xs : Nat → Int} {own : Nat → Nat} {S : Nat → Int} {n q c t M u p x : Nat} {f : Int} {B : Nat → Int} {RS : Nat → rRule} {own1 : Nat → Nat} {σ τ1 τ2 : eH} (h : Iv L xs own S n q c t M u p x f B RS σ) (hd : Dm own p 66 p (fun c => c = 65) σ τ1) (hg : Sg (fun c => 27 ≤ c ∧ c < 40 ∨ 71 ≤ c ∧ c < 111) τ1 τ2) : Sx L xs τ2 ∧ Mo τ2 ∧ τ2.2.2.2.1 171 = S ∧ τ2.2.2.2.1 173 = σ.2.2.2.1 173 ∧ τ2.2.2.2.1 161 = σ.2.2.2.1 161 ∧ ∀ r, r < M → r_rr τ2 r (RS r) := by
  have n5 := h.n5
  have hf1 : Fr (fun c => c = 65 ∨ 185 ≤ c ∧ own c = p) rfs σ τ1 := hd.f (fun c i q => Or.inr (Or.inr (Or.inr q.1)))
  have hf2 : Fr (fun c => 27 ≤ c ∧ c < 40 ∨ 71 ≤ c ∧ c < 111) rfs τ1 τ2 := hg.f (fun c i q => Or.inl q)
  have hF : Fr (fun c => (c = 65 ∨ 185 ≤ c ∧ own c = p) ∨ (27 ≤ c ∧ c < 40 ∨ 71 ≤ c ∧ c < 111)) rfs σ τ2 := hf1.tr hf2
  have hm : Mo τ2 := hF.mo n5 h.mo
  refine ⟨⟨?_, ?_, mk161 hm⟩, hm, ?_, ?_, ?_, fun r hr => hF.rr n5 (by omega) (by omega) (by omega) (h.rr r hr)⟩
  · rw [hF.kd (by omega)]; exact h.sc
  · rw [hF.at (by omega) (by omega)]; exact h.sd
  · rw [hF.at (by omega) (by omega)]; exact h.S1
  · rw [hF.at (by omega) (by omega)]
  · rw [hF.at (by omega) (by omega)]
set_option maxRecDepth 8000 in
set_option maxHeartbeats 4000000 in
theorem Iv.act {L : Nat} {xs : Nat → Int} {own : Nat → Nat} {S : Nat → Int} {n q c t M u p x : Nat} {f : Int} {B : Nat → Int} {RS : Nat → rRule} {own1 : Nat → Nat} {S' : Nat → Int} {σ τ1 τ2 τ : eH} (h : Iv L xs own S n q c t M u p x f B RS σ) (ho : ∀ c, c < σ.1 → own1 c = own c) (hd : Dm own p 66 p (fun c => c = 65) σ τ1) (hA : AcK own1 τ1) (hV : AcV τ1 (if u = 20 then 20 else u + 1) ((p + 1) % 20) (r_ka S (σ.2.2.2.1 173) u)) (hg : Sg (fun c => 27 ≤ c ∧ c < 40 ∨ 71 ≤ c ∧ c < 111) τ1 τ2) (hst : StV τ2 27 S') (hm : Sm [169, 170, 171, 172, 173] [18, 23, 26] τ2 τ) (hS : τ.2.2.2.1 171 = S') (hW : τ.2.2.2.1 173 = r_ka S (σ.2.2.2.1 173) u) (hu3 : τ.2.2.2.1 161 26 = ((if u = 20 then 20 else u + 1 : Nat) : Int)) (h23 : τ.2.2.2.1 161 23 = 0) (hok' : Ok S' n q 999) (hS' : ∀ k, k < 10 ∨ 63 ≤ k → S' k = S k) : IV L xs τ ∧ τ.1 ≤ σ.1 + 40 ∧ τ.2.1 ≤ σ.2.1 + 600 := by
  have n5 := h.n5
  have hn8 := h.ok.n8
  have hq4 := h.ok.q4
  have hu2 := h.u2
  have hf1 : Fr (fun c => c = 65 ∨ 185 ≤ c ∧ own c = p) rfs σ τ1 := hd.f (fun c i q => Or.inr (Or.inr (Or.inr q.1)))
  have hf2 : Fr (fun c => 27 ≤ c ∧ c < 40 ∨ 71 ≤ c ∧ c < 111) rfs τ1 τ2 := hg.f (fun c i q => Or.inl q)
  have hf3 : Fr (fun c => c = 169 ∨ c = 170 ∨ c = 171 ∨ c = 172 ∨ c = 173 ∨ c = 161) rfs τ2 τ := hm.f.mn (fun c hc q => by simp only [lSc, List.mem_cons, List.not_mem_nil, or_false] at q; omega) (fun _ _ q => q)
  have hF : Fr (fun c => 27 ≤ c ∧ c < 40 ∨ 71 ≤ c ∧ c < 111 ∨ c = 65 ∨ c = 169 ∨ c = 170 ∨ c = 171 ∨ c = 172 ∨ c = 173 ∨ c = 161 ∨ 185 ≤ c ∧ own c = p) rfs σ τ := ((hf1.tr hf2).tr hf3).mn (fun c hc q => by (try dsimp only at q); omega) (fun _ _ q => q)
  have hf23 : Fr (fun c => 27 ≤ c ∧ c < 40 ∨ 71 ≤ c ∧ c < 111 ∨ c = 169 ∨ c = 170 ∨ c = 171 ∨ c = 172 ∨ c = 173 ∨ c = 161) rfs τ1 τ := (hf2.tr hf3).mn (fun c hc q => by (try dsimp only at q); omega) (fun _ _ q => q)
  have n1 : 185 ≤ τ1.1 := by have := hd.1; omega
  have n2 : τ2.1 = τ1.1 := hg.1
  have hw : Lw own p (fun c => 27 ≤ c ∧ c < 40 ∨ 71 ≤ c ∧ c < 111 ∨ c = 65 ∨ c = 169 ∨ c = 170 ∨ c = 171 ∨ c = 172 ∨ c = 173 ∨ c = 161 ∨ 185 ≤ c ∧ own c = p) σ := fun c c1 c2 q => by omega
  have hp2 := h.p2
  have hR : ∀ c i, ¬ (c = 66 ∧ i = p) → ¬ ((c = 71 ∨ c = 113) ∧ i = 4) → c < σ.1 → τ.2.2.2.2 c i = σ.2.2.2.2 c i := fun c i q1 q2 hc => by
    rw [hm.2.2.2.1, (hg.2.2.2.1 c i).resolve_left q2, (hd.2.2.2.2.2.1 c i hc).resolve_left q1]
  have hr64 : ∀ r, r < M → τ.2.2.2.2 64 r = σ.2.2.2.2 64 r := fun r _ => hR 64 r (by omega) (by omega) (by omega)
  have hr44 : ∀ j, j < 4 → τ.2.2.2.2 44 j = σ.2.2.2.2 44 j := fun j _ => hR 44 j (by omega) (by omega) (by omega)
  have hr66 : ∀ j, j < 20 → τ.2.2.2.2 66 j = τ1.2.2.2.2 66 j := fun j _ => by rw [hm.2.2.2.1, (hg.2.2.2.1 66 j).resolve_left (by omega)]
  have hfd : ∀ i, ¬ (i = 18 ∨ i = 23 ∨ i = 26) → τ.2.2.2.1 161 i = σ.2.2.2.1 161 i := fun i hi => by
    rw [hm.fd i (by simp only [List.mem_cons, List.not_mem_nil, or_false]; omega), hg.at 161 (by omega), hd.at (by omega) (by omega) (by omega)]
  have w23 : Lw own1 99 (fun c => 27 ≤ c ∧ c < 40 ∨ 71 ≤ c ∧ c < 111 ∨ c = 169 ∨ c = 170 ∨ c = 171 ∨ c = 172 ∨ c = 173 ∨ c = 161) τ1 := fun c c1 c2 q => by exfalso; omega
  have hI : Iv L xs (own1) (S') n q c t M (if u = 20 then 20 else u + 1) ((p + 1) % 20) x f B RS τ := by
    refine ⟨?_, ?_, ?_, ?_, ?_, ?_, ?_, ?_, ?_, ?_, ?_, ?_, ?_, ?_, ?_, ?_, ?_, ?_, ?_, ?_, ?_, ?_, ?_, ?_, ?_, ?_, ?_, ?_, ?_, ?_, ?_, ?_, ?_, ?_, ?_⟩
    · rw [hF.kd (by omega)]; exact h.sc
    · rw [hF.at (by omega) (by omega)]; exact h.sd
    · exact hF.tx n5 (by omega) (by omega) h.tx
    · have := hF.1; omega
    · exact hF.ck n5 h.ck
    · exact hF.mo n5 h.mo
    · exact hS
    · rw [hfd _ (by omega)]; exact h.t1
    · exact h.t4
    · rw [hF.at (by omega) (by omega)]; exact h.b1
    · exact h.bb
    · rw [hfd _ (by omega)]; exact h.m1
    · exact h.m6
    · rw [hfd _ (by omega)]; exact h.f1
    · exact h.fb
    · rw [hfd _ (by omega)]; exact h.x1
    · exact h.xb
    · exact h23
    · exact hu3
    · split <;> omega
    · exact fun r hr => hF.rr n5 (by omega) (by omega) (by omega) (h.rr r hr)
    · exact hok'
    · exact h.tl.cg hn8 (fun k k1 k2 => hS' k (by omega))
    · exact h.nt.c2 (fun k k1 k2 => hS' k (by omega))
    · rw [hF.at (by omega) (by omega)]; exact h.c4
    · rw [hF.at (by omega) (by omega)]; exact h.c5
    · rw [hF.at (by omega) (by omega)]; exact h.c3
    · exact ⟨HlV.cg (HlV.f3 h.wo.1 (fun d d1 d2 => hF.at (by omega) (by omega))) hn8 hq4 (fun k hk => hS' k (by omega)), hst.fr (fun d d1 d2 => hf3.at (by omega) (by omega)), NtV.cg (NtV.f3 (h.wo.2.2.1) (fun d d1 d2 => hF.at (by omega) (by omega))) h.nt.2.1 (fun k k1 k2 => hS' k (by omega)), by rw [hF.at (by omega) (by omega)]; exact h.wo.2.2.2.1, by rw [hF.at (by omega) (by omega)]; exact h.wo.2.2.2.2⟩
    · exact fun r hr => by rw [hr64 r hr]; exact hF.rn ho hw (by omega) (h.rn r hr)
    · exact Nat.mod_lt _ (by omega)
    · exact hf23.ak (fun _ _ => rfl) hr66 hA
    · rw [hW]; exact hf23.av n1 w23 (by omega) hr66 (hf23.at (by omega) (by omega)) hA hV
    · rw [hW]
      intro i hi
      by_cases e : i + 1 = if u = 20 then 20 else u + 1
      · exact (h.ok.os).cg hn8 (fun k k1 k2 => r_row_new hu2 e k1 k2)
      · have ei : i + 1 < if u = 20 then 20 else u + 1 := by omega
        have hi0 : (if u = 20 then i + 1 else i) < u := by split at ei <;> split <;> omega
        exact (h.ar _ hi0).cg hn8 (fun k k1 k2 => r_row_old hu2 ei k1 k2)
    · exact hF.ik ho hr44 h.ik
    · exact hF.iv n5 hw (by omega) hr44 (by omega) (by omega) (by omega) (by omega) (by omega) h.ik h.iv
  refine ⟨hI.x, ?_, ?_⟩
  · have e1 := hm.1
    have e2 := hg.1
    have e3 := hd.2.1
    omega
  · have e1 := hm.2.1
    have e2 := hg.2.1
    have e3 := hd.2.2.2.1
    omega
