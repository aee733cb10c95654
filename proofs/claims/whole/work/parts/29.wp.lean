/-! WEAKEST PRECONDITIONS over the engine: fuel is taken as enough, depth is counted -/
def e_Wp (k i : Nat) (vs : List eV) (σ : eH) (Q : Option eV → eH → Prop) : Prop := ∃ (f0 : Nat) (r : Option eV) (σ' : eH), (∀ d f, k ≤ d → f0 ≤ f → e_cal e_cs d f i vs σ = some (r, σ')) ∧ Q r σ'
def e_Gp (k : Nat) (cd : List (Option eI)) (pc : Nat) (ls : eL) (st : List eV) (σ : eH) (Q : Option eV → eH → Prop) : Prop := ∃ (f0 : Nat) (r : Option eV) (σ' : eH), (∀ d f g, k ≤ d → f0 ≤ f → f0 ≤ g → e_run (e_cal e_cs d f) cd g pc ls st σ = some (r, σ')) ∧ Q r σ'
theorem e_Wp.mono {k k' i : Nat} {vs : List eV} {σ : eH} {Q Q' : Option eV → eH → Prop} (h : e_Wp k i vs σ Q) (hk : k ≤ k') (hQ : ∀ r σ', Q r σ' → Q' r σ') : e_Wp k' i vs σ Q' := by
  obtain ⟨f0, r, σ', h1, h2⟩ := h
  exact ⟨f0, r, σ', fun d f hd hf => h1 d f (Nat.le_trans hk hd) hf, hQ _ _ h2⟩
theorem e_Gp.mono {k k' : Nat} {cd : List (Option eI)} {pc : Nat} {ls : eL} {st : List eV} {σ : eH} {Q Q' : Option eV → eH → Prop} (h : e_Gp k cd pc ls st σ Q) (hk : k ≤ k') (hQ : ∀ r σ', Q r σ' → Q' r σ') : e_Gp k' cd pc ls st σ Q' := by
  obtain ⟨f0, r, σ', h1, h2⟩ := h
  exact ⟨f0, r, σ', fun d f g hd hf hg => h1 d f g (Nat.le_trans hk hd) hf hg, hQ _ _ h2⟩
section GP
variable {k : Nat} {cd : List (Option eI)} {pc : Nat} {ls : eL} {st : List eV} {σ : eH} {Q : Option eV → eH → Prop} {ins : Instr} {len : Nat} {r : eR}
theorem gp_stp (hc : cd[pc]? = some (some (ins, len, r))) (h1 : e_isr ins = false) (h2 : e_isc ins = false) {q : eT} (hs : e_stp ins r pc ls st σ = some q) (kk : e_Gp k cd q.1 q.2.1 q.2.2.1 q.2.2.2 Q) : e_Gp k cd pc ls st σ Q := by
  obtain ⟨f0, r', σ', h, hq⟩ := kk
  refine ⟨f0 + 1, r', σ', fun d f g hd hf hg => ?_, hq⟩
  obtain ⟨g, rfl⟩ : ∃ g', g = g' + 1 := ⟨g - 1, by omega⟩
  unfold e_run
  rw [hc]
  simp only [h1, h2, Bool.false_eq_true, if_false]
  rw [hs]
  exact h d f g hd (by omega) (by omega)
theorem gp_ret (hc : cd[pc]? = some (some (ins, len, r))) (h1 : e_isr ins = true) {v : Option eV} (hs : e_rt ins r st = some v) (kk : Q v σ) : e_Gp k cd pc ls st σ Q := by
  refine ⟨1, v, σ, fun d f g hd hf hg => ?_, kk⟩
  obtain ⟨g, rfl⟩ : ∃ g', g = g' + 1 := ⟨g - 1, by omega⟩
  unfold e_run
  rw [hc]
  simp only [h1, if_true]
  rw [hs]
  rfl
theorem gp_inv (hc : cd[pc]? = some (some (ins, len, r))) (h1 : e_isr ins = false) (h2 : e_isc ins = true) {q : List eV × eH} (hs : ∀ call, e_inv call r st σ = some q) (kk : e_Gp k cd (pc + 3) ls q.1 q.2 Q) : e_Gp k cd pc ls st σ Q := by
  obtain ⟨f0, r', σ', h, hq⟩ := kk
  refine ⟨f0 + 1, r', σ', fun d f g hd hf hg => ?_, hq⟩
  obtain ⟨g, rfl⟩ : ∃ g', g = g' + 1 := ⟨g - 1, by omega⟩
  unfold e_run
  rw [hc]
  simp only [h1, h2, Bool.false_eq_true, if_false, if_true]
  rw [hs]
  exact h d f g hd (by omega) (by omega)
theorem gp_call (hc : cd[pc]? = some (some (ins, len, r))) (h1 : e_isr ins = false) (h2 : e_isc ins = true) (hk : r.2.2.1 < 10 ∨ 14 < r.2.2.1) {vs rest : List eV} (hv : (st.take r.2.1).reverse = vs) (hr : st.drop r.2.1 = rest) (hl : r.2.1 ≤ st.length) (h8 : (rest.map e_cat).sum ≤ 8) (hrc : e_rcv r.2.2.1 vs σ = true) (kk : e_Wp k r.1 vs σ (fun v σ1 => e_Gp k cd (pc + 3) ls (v.toList ++ rest) σ1 Q)) : e_Gp k cd pc ls st σ Q := by
  obtain ⟨f1, v, σ1, h, f0, r', σ', h', hq⟩ := kk
  refine ⟨max f0 f1 + 1, r', σ', fun d f g hd hf hg => ?_, hq⟩
  obtain ⟨g, rfl⟩ : ∃ g', g = g' + 1 := ⟨g - 1, by omega⟩
  unfold e_run
  rw [hc]
  simp only [h1, h2, Bool.false_eq_true, if_false, if_true]
  have e1 : e_inv (e_cal e_cs d f) r st σ = some (v.toList ++ rest, σ1) := by
    unfold e_inv e_call
    rw [if_neg (by omega), if_neg (by omega), if_neg (by omega), if_neg (by omega), if_neg (by omega), hv, hr, if_pos ⟨hl, h8, hrc⟩, h d f hd (by omega)]
    rfl
  rw [e1]
  exact h' d f g hd (by omega) (by omega)
theorem wp_of {i nL : Nat} {vs : List eV} (hc : e_cs[i]? = some (nL, cd)) (hs : (vs.map e_cat).sum ≤ nL) (kk : e_Gp k cd 0 (e_ent nL vs) [] σ Q) : e_Wp (k + 1) i vs σ Q := by
  obtain ⟨f0, r', σ', h, hq⟩ := kk
  refine ⟨f0, r', σ', fun d f hd hf => ?_, hq⟩
  obtain ⟨d, rfl⟩ : ∃ d', d = d' + 1 := ⟨d - 1, by omega⟩
  unfold e_cal
  rw [hc]
  dsimp only
  rw [if_pos hs]
  exact h d f f (by omega) hf hf
end GP
