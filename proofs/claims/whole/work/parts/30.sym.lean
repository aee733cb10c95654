def e_wi (k : Nat) (cd : List (Option eI)) (ins : Instr) (r : eR) (pc : Nat) (ls : eL) (st : List eV) (σ : eH) (Q : Option eV → eH → Prop) : Prop :=
  if e_isr ins = true then ∃ v, e_rt ins r st = some v ∧ Q v σ
  else if e_isc ins = true then (if 10 ≤ r.2.2.1 ∧ r.2.2.1 ≤ 14 then ∃ q, e_inv (fun _ _ _ => none) r st σ = some q ∧ e_Gp k cd (pc + 3) ls q.1 q.2 Q
    else r.2.1 ≤ st.length ∧ ((st.drop r.2.1).map e_cat).sum ≤ 8 ∧ e_rcv r.2.2.1 (st.take r.2.1).reverse σ = true ∧ e_Wp k r.1 (st.take r.2.1).reverse σ (fun v σ1 => e_Gp k cd (pc + 3) ls (v.toList ++ st.drop r.2.1) σ1 Q))
  else ∃ q, e_stp ins r pc ls st σ = some q ∧ e_Gp k cd q.1 q.2.1 q.2.2.1 q.2.2.2 Q
theorem e_inv_any {call : eF} {r : eR} {st : List eV} {σ : eH} (h : 10 ≤ r.2.2.1 ∧ r.2.2.1 ≤ 14) : e_inv call r st σ = e_inv (fun _ _ _ => none) r st σ := by
  unfold e_inv
  by_cases h1 : r.2.2.1 = 10
  · rw [if_pos h1, if_pos h1]
  · rw [if_neg h1, if_neg h1]
    by_cases h2 : r.2.2.1 = 11
    · rw [if_pos h2, if_pos h2]
    · rw [if_neg h2, if_neg h2]
      by_cases h3 : r.2.2.1 = 12
      · rw [if_pos h3, if_pos h3]
      · rw [if_neg h3, if_neg h3]
        by_cases h4 : r.2.2.1 = 13
        · rw [if_pos h4, if_pos h4]
        · rw [if_neg h4, if_neg h4, if_pos (by omega), if_pos (by omega)]
theorem gp_of {k : Nat} {cd : List (Option eI)} {pc : Nat} {ls : eL} {st : List eV} {σ : eH} {Q : Option eV → eH → Prop} {ins : Instr} {len : Nat} {r : eR} (hc : cd[pc]? = some (some (ins, len, r))) (h : e_wi k cd ins r pc ls st σ Q) : e_Gp k cd pc ls st σ Q := by
  unfold e_wi at h
  split at h
  next h1 =>
    obtain ⟨v, h2, h3⟩ := h
    exact gp_ret hc h1 h2 h3
  next h1 =>
    have h1 : e_isr ins = false := by simpa using h1
    split at h
    next h2 =>
      split at h
      next hk =>
        obtain ⟨q, h3, h4⟩ := h
        exact gp_inv hc h1 h2 (fun call => (e_inv_any hk).trans h3) h4
      next hk =>
        obtain ⟨h3, h4, h5, h6⟩ := h
        exact gp_call hc h1 h2 (by omega) rfl rfl h3 h4 h5 h6
    next h2 =>
      have h2 : e_isc ins = false := by simpa using h2
      obtain ⟨q, h3, h4⟩ := h
      exact gp_stp hc h1 h2 h3 h4
theorem e_ex {α : Type} {a : α} {P : α → Prop} : (∃ q, some a = some q ∧ P q) ↔ P a := ⟨fun ⟨q, h, p⟩ => by cases h; exact p, fun p => ⟨a, rfl, p⟩⟩
theorem e_gif {c : Prop} [Decidable c] {k : Nat} {cd : List (Option eI)} {a b : Nat} {ls : eL} {st : List eV} {σ : eH} {Q : Option eV → eH → Prop} : e_Gp k cd (if c then a else b) ls st σ Q ↔ (c → e_Gp k cd a ls st σ Q) ∧ (¬ c → e_Gp k cd b ls st σ Q) := by
  split
  next h => exact ⟨fun x => ⟨fun _ => x, fun q => absurd h q⟩, fun x => x.1 h⟩
  next h => exact ⟨fun x => ⟨fun q => absurd q h, fun _ => x⟩, fun x => x.2 h⟩
theorem e_v0 : ((0 : Fin 4) : Nat) = 0 := rfl
theorem e_v1 : ((1 : Fin 4) : Nat) = 1 := rfl
theorem e_v2 : ((2 : Fin 4) : Nat) = 2 := rfl
theorem e_v3 : ((3 : Fin 4) : Nat) = 3 := rfl
theorem e_dt {c : Prop} [Decidable c] (h : c) : decide c = true := decide_eq_true h
theorem e_ad0 {p q : Prop} (h : p) : (p ∧ q) ↔ q := ⟨fun x => x.2, fun x => ⟨h, x⟩⟩
