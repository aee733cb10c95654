def e_wi (k : Nat) (cd : List (Option eI)) (ins : Instr) (r : eR) (pc : Nat) (ls : eL) (st : List eV) (σ : eH) (Q : Option eV → eH → Prop) : Prop :=
  if e_isr ins = true then ∃ v, e_rt ins r st = some v ∧ Q v σ
  else if e_isc ins = true then (if 10 ≤ r.2.2.1 ∧ r.2.2.1 ≤ 14 then ∃ q, e_inv (fun _ _ _ => none) r st σ = some q ∧ e_Gp k cd (pc + 3) ls q.1 q.2 Q
    else r.2.1 ≤ st.length ∧ ((st.drop r.2.1).map e_cat).sum ≤ 8 ∧ e_rcv r.2.2.1 (st.take r.2.1).reverse σ = true ∧ e_Wp k r.1 (st.take r.2.1).reverse σ (fun v σ1 => e_Gp k cd (pc + 3) ls (v.toList ++ st.drop r.2.1) σ1 Q))
  else ∃ q, e_stp ins r pc ls st σ = some q ∧ e_Gp k cd q.1 q.2.1 q.2.2.1 q.2.2.2 Q
theorem e_inv_any {call : eF} {r : eR} {st : List eV} {σ : eH} (h : 10 ≤ r.2.2.1 ∧ r.2.2.1 ≤ 14) : e_inv call r st σ = e_inv (fun _ _ _ => none) r st σ := by
  unfold e_inv
  by_cases h1 : r.2.2.1 = 10
  · rw [if_pos h1, if_pos h1]
  · rw [if_neg h1, if_neg h1]
    by_cases h2 : r.2.2.1 = 11
    · rw [if_pos h2, if_pos h2]
    · rw [if_neg h2, if_neg h2]
      by_cases h3 : r.2.2.1 = 12
      · rw [if_pos h3, if_pos h3]
      · rw [if_neg h3, if_neg h3]
        by_cases h4 : r.2.2.1 = 13
        · rw [if_pos h4, if_pos h4]
        · rw [if_neg h4, if_neg h4, if_pos (by omega), if_pos (by omega)]
theorem gp_of {k : Nat} {cd : List (Option eI)} {pc : Nat} {ls : eL} {st : List eV} {σ : eH} {Q : Option eV → eH → Prop} {ins : Instr} {len : Nat} {r : eR} (hc : cd[pc]? = some (some (ins, len, r))) (h : e_wi k cd ins r pc ls st σ Q) : e_Gp k cd pc ls st σ Q := by
  unfold e_wi at h
  split at h
  next h1 =>
    obtain ⟨v, h2, h3⟩ := h
    exact gp_ret hc h1 h2 h3
  next h1 =>
    have h1 : e_isr ins = false := by simpa using h1
    split at h
    next h2 =>
      split at h
      next hk =>
        obtain ⟨q, h3, h4⟩ := h
        exact gp_inv hc h1 h2 (fun call => (e_inv_any hk).trans h3) h4
      next hk =>
        obtain ⟨h3, h4, h5, h6⟩ := h
        exact gp_call hc h1 h2 (by omega) rfl rfl h3 h4 h5 h6
    next h2 =>
      have h2 : e_isc ins = false := by simpa using h2
      obtain ⟨q, h3, h4⟩ := h
      exact gp_stp hc h1 h2 h3 h4
theorem e_ex {α : Type} {a : α} {P : α → Prop} : (∃ q, some a = some q ∧ P q) ↔ P a := ⟨fun ⟨q, h, p⟩ => by cases h; exact p, fun p => ⟨a, rfl, p⟩⟩
theorem e_gif {c : Prop} [Decidable c] {k : Nat} {cd : List (Option eI)} {a b : Nat} {ls : eL} {st : List eV} {σ : eH} {Q : Option eV → eH → Prop} : e_Gp k cd (if c then a else b) ls st σ Q ↔ (c → e_Gp k cd a ls st σ Q) ∧ (¬ c → e_Gp k cd b ls st σ Q) := by
  split
  next h => exact ⟨fun x => ⟨fun _ => x, fun q => absurd h q⟩, fun x => x.1 h⟩
  next h => exact ⟨fun x => ⟨fun q => absurd q h, fun _ => x⟩, fun x => x.2 h⟩
def t_fl (S : Nat → Int) (m : Int) : Nat → Int
  | 0 => 0
  | s + 1 => (Int32.ofInt (t_fl S m s) ||| Int32.ofInt (if S (11 + s) = m then 2 ^ s else 0)).toInt
set_option maxHeartbeats 4000000 in
theorem t_flock {k M A n : Nat} {m : Int} {σ : eH} {Q : Option eV → eH → Prop} (hM : σ.2.2.1 M = (12, 39)) (hR : σ.2.2.2.2 M 20 = A + 2) (hA : σ.2.2.1 A = (20, 150)) (hn : σ.2.2.2.1 A 2 = n) (hn8 : n ≤ 8) (hm : e_w32 m = m) (hw : ∀ j, e_w32 (σ.2.2.2.1 A j) = σ.2.2.2.1 A j) (hQ : Q (some (.inl (t_fl (σ.2.2.2.1 A) m n))) σ) : ∀ (j s : Nat), s + j = n → e_Gp k e_k203 4 [some (.inr (.inr (M + 2))), some (.inl m), some (.inl (t_fl (σ.2.2.2.1 A) m s)), some (.inl s)] [] σ Q
  | 0, s, h => by
    have h8 : s = n := by omega
    subst h8
    iterate 6
      refine gp_of rfl ?_
      simp (disch := omega) only [e_wi, e_isr, e_isc, e_stp, e_load, e_bin, e_ld, e_s1, e_ok, e_cmp, e_ex, e_gif, e_id32, hM, hR, hA, hn, List.getElem?_cons_zero, List.getElem?_cons_succ, Bool.false_eq_true, if_false, if_true, decide_true, Bool.and_true, Bool.or_true, Bool.true_or, decide_eq_true_eq]
    sorry
  | j + 1, s, h => by
    sorry
