theorem e_en_o {h0 : Nat} {B : Nat × Nat × Nat × Option Nat} {aC : Nat → ClassId} {σ : eH} {a k : Nat} (h : (σ.2.2.1 a).1 = k) (hk : k < 13) : e_en h0 B aC σ a = .inr (k, (List.range (e_nf k)).map fun i => e_fv h0 B (e_ft k i) (σ.2.2.2.1 a i) (σ.2.2.2.2 a i)) := by
  unfold e_en
  rw [h, if_pos hk]
theorem e_en_i {h0 : Nat} {B : Nat × Nat × Nat × Option Nat} {aC : Nat → ClassId} {σ : eH} {a k : Nat} (h : (σ.2.2.1 a).1 = k) (hk : k = 20 ∨ k = 22 ∨ k = 23) : e_en h0 B aC σ a = .inl (aC k, (σ.2.2.1 a).2, .inl fun i => Int32.ofInt (σ.2.2.2.1 a i)) := by
  unfold e_en
  rw [h, if_neg (by omega), if_neg (by omega), if_neg (by omega)]
theorem e_en_l {h0 : Nat} {B : Nat × Nat × Nat × Option Nat} {aC : Nat → ClassId} {σ : eH} {a : Nat} (h : (σ.2.2.1 a).1 = 21) : e_en h0 B aC σ a = .inl (aC 21, (σ.2.2.1 a).2, .inr (.inl fun i => Int64.ofInt (σ.2.2.2.1 a i))) := by
  unfold e_en
  rw [h, if_neg (by omega), if_pos rfl]
theorem e_en_r {h0 : Nat} {B : Nat × Nat × Nat × Option Nat} {aC : Nat → ClassId} {σ : eH} {a k : Nat} (h : (σ.2.2.1 a).1 = k) (hk : 24 ≤ k) : e_en h0 B aC σ a = .inl (aC k, (σ.2.2.1 a).2, .inr (.inr (.inr (.inr fun i => e_rf h0 B (σ.2.2.2.2 a i))))) := by
  unfold e_en
  rw [h, if_neg (by omega), if_neg (by omega), if_pos hk]
theorem e_putP {h0 : Nat} {B : Nat × Nat × Nat × Option Nat} {aC : Nat → ClassId} {D : va_G} {σ0 σ : eH} {H H1 : Heap} (hI : e_I h0 B aC D σ0 σ H) {k i : Nat} {x : Int} (hk : k + 3 < σ.1) (hat : va_at D vwCl (h0 + k, e_en h0 B aC (e_put σ (k + 3) i x) (k + 3)) H1) (hz : H1.size = H.size) (oq : ∀ q : Nat, q ≠ h0 + k → H1[q]? = H[q]?) : e_I h0 B aC D σ0 (e_put σ (k + 3) i x) H1 :=
  hI.put hz (by rw [← e_ws_set (σ := σ) (σ' := e_put σ (k + 3) i x) (a := k) rfl (fun b hb => e_en_put hb)]; exact hI.2.2.1.set e_ws_D (e_ws_get hk) hat oq)
theorem e_puRP {h0 : Nat} {B : Nat × Nat × Nat × Option Nat} {aC : Nat → ClassId} {D : va_G} {σ0 σ : eH} {H H1 : Heap} (hI : e_I h0 B aC D σ0 σ H) {k i x : Nat} (hk : k + 3 < σ.1) (hat : va_at D vwCl (h0 + k, e_en h0 B aC (e_puR σ (k + 3) i x) (k + 3)) H1) (hz : H1.size = H.size) (oq : ∀ q : Nat, q ≠ h0 + k → H1[q]? = H[q]?) : e_I h0 B aC D σ0 (e_puR σ (k + 3) i x) H1 :=
  hI.puR hz (by rw [← e_ws_set (σ := σ) (σ' := e_puR σ (k + 3) i x) (a := k) rfl (fun b hb => e_en_puR hb)]; exact hI.2.2.1.set e_ws_D (e_ws_get hk) hat oq)
theorem e_cpyP {h0 : Nat} {B : Nat × Nat × Nat × Option Nat} {aC : Nat → ClassId} {D : va_G} {σ0 σ : eH} {H H1 : Heap} (hI : e_I h0 B aC D σ0 σ H) {k b sp dp n : Nat} (hk : k + 3 < σ.1) (hat : va_at D vwCl (h0 + k, e_en h0 B aC (e_cpy σ b (k + 3) sp dp n) (k + 3)) H1) (hz : H1.size = H.size) (oq : ∀ q : Nat, q ≠ h0 + k → H1[q]? = H[q]?) : e_I h0 B aC D σ0 (e_cpy σ b (k + 3) sp dp n) H1 :=
  hI.cpy hz (by rw [← e_ws_set (σ := σ) (σ' := e_cpy σ b (k + 3) sp dp n) (a := k) rfl (fun b hb => e_en_cpy hb)]; exact hI.2.2.1.set e_ws_D (e_ws_get hk) hat oq)
theorem e_newP {h0 : Nat} {B : Nat × Nat × Nat × Option Nat} {aC : Nat → ClassId} {D : va_G} {σ0 σ : eH} {H H1 : Heap} (hI : e_I h0 B aC D σ0 σ H) {kd len : Nat} (hkd : kd ≠ 13 ∧ kd ≠ 28 ∧ kd ≠ 29) (hat : va_at D vwCl (h0 + (σ.1 - 3), e_en h0 B aC (e_new σ kd len) σ.1) H1) (hz : H1.size = H.size + 1) (oq : ∀ q : Nat, q < H.size → H1[q]? = H[q]?) : e_I h0 B aC D σ0 (e_new σ kd len) H1 := by
  refine hI.new hkd hz ?_
  rw [← e_ws_push (σ := σ) hI.1 rfl (fun b hb => e_en_new hb)]
  refine (hI.2.2.1.kept (fun k x hx => oq x.1 ((hI.2.2.1 k x hx).lt))).app (fun k x hx => ?_)
  have h1 : k < 1 := (List.getElem?_eq_some_iff.mp hx).1
  rw [show k = 0 by omega] at hx
  cases hx
  exact hat
theorem e_S_new {h0 : Nat} {Hl H H1 : Heap} {locs : List Loc} (hS : va_S (fun q => h0 ≤ q) Hl H locs) (hz : H1.size = H.size + 1) (oq : ∀ q : Nat, q < H.size → H1[q]? = H[q]?) : va_S (fun q => h0 ≤ q) Hl H1 locs :=
  ⟨by have := hS.1; omega, fun q h1 h2 => by rw [oq q (Nat.lt_of_lt_of_le h1 hS.1)]; exact hS.2.1 q h1 h2, hS.2.2⟩
theorem e_fs_put {h0 : Nat} {B : Nat × Nat × Nat × Option Nat} {N k j : Nat} {d : Nat → Int} {rr : Nat → Nat} {x : Int} : (List.range N).map (fun i => e_fv h0 B (e_ft k i) (va_up d j x i) (rr i)) = ((List.range N).map fun i => e_fv h0 B (e_ft k i) (d i) (rr i)).set j (e_fv h0 B (e_ft k j) x (rr j)) := by
  apply List.ext_getElem?
  intro i
  by_cases hi : i = j
  · subst hi
    by_cases hl : i < N
    · rw [List.getElem?_set_self (by rw [List.length_map, List.length_range]; exact hl), List.getElem?_map, List.getElem?_range hl]
      simp [va_up]
    · rw [List.getElem?_eq_none (by rw [List.length_map, List.length_range]; omega), List.getElem?_eq_none (by rw [List.length_set, List.length_map, List.length_range]; omega)]
  · rw [List.getElem?_set_ne (Ne.symm hi), List.getElem?_map, List.getElem?_map]
    simp only [va_up, if_neg hi]
    cases hr : (List.range N)[i]? with
    | none => rfl
    | some z =>
      have hz : z = i := by
        have hl := (List.getElem?_eq_some_iff.mp hr).1
        rw [List.length_range] at hl
        rw [List.getElem?_range hl] at hr
        exact (Option.some.inj hr).symm
      subst hz
      simp only [Option.map_some, if_neg hi]
theorem e_fs_puR {h0 : Nat} {B : Nat × Nat × Nat × Option Nat} {N k j : Nat} {d : Nat → Int} {rr : Nat → Nat} {x : Nat} : (List.range N).map (fun i => e_fv h0 B (e_ft k i) (d i) (va_up rr j x i)) = ((List.range N).map fun i => e_fv h0 B (e_ft k i) (d i) (rr i)).set j (e_fv h0 B (e_ft k j) (d j) x) := by
  apply List.ext_getElem?
  intro i
  by_cases hi : i = j
  · subst hi
    by_cases hl : i < N
    · rw [List.getElem?_set_self (by rw [List.length_map, List.length_range]; exact hl), List.getElem?_map, List.getElem?_range hl]
      simp [va_up]
    · rw [List.getElem?_eq_none (by rw [List.length_map, List.length_range]; omega), List.getElem?_eq_none (by rw [List.length_set, List.length_map, List.length_range]; omega)]
  · rw [List.getElem?_set_ne (Ne.symm hi), List.getElem?_map, List.getElem?_map]
    cases hr : (List.range N)[i]? with
    | none => rfl
    | some z =>
      have hz : z = i := by
        have hl := (List.getElem?_eq_some_iff.mp hr).1
        rw [List.length_range] at hl
        rw [List.getElem?_range hl] at hr
        exact (Option.some.inj hr).symm
      subst hz
      simp only [Option.map_some, va_up, if_neg hi]
section EH
variable {p : Program} {l : Launch} {e : Env} {R : Room} {s : State} {m : MethodId} {args : Array Value} {below : List Frame} {meth : Method} {c : Code} {Q : State → Prop} {cc : ByteArray} {nL : Nat} {own : String} {D : va_G} {aC : Nat → ClassId} {B : Nat × Nat × Nat × Option Nat} {Hl : Heap} {σ0 : eH} {n0 s0 : Nat}
variable {H : Heap} {locs : List Loc} {cells slots pc : Nat} {lss : Array Slot} {rest : List Value} {σ : eH} {r : eR} {i k : Nat}
/-- a field read -/
theorem e_get (C : e_Cx p s m args c cc nL own D aC B Hl σ0) (hcls : ∀ i q, vwCl[i]? = some q → ∃ ty0, e_cl i q ty0) (hI : e_I Hl.size B aC D σ0 σ H) (hr : r.1 < 13 ∧ ∃ q, vwCl[r.1]? = some q ∧ r.2.1 < q.2.2 ∧ r.2.2.1 = e_ft r.1 r.2.1 ∧ Cond.fieldLink own i (q.2.1 r.2.1).1 (q.2.1 r.2.1).2.1 (q.2.1 r.2.1).2.2.1 ∈ lw_good) (hkd : (σ.2.2.1 (k + 3)).1 = r.1) (hk : k + 3 < σ.1) (hd : decode cc pc = .ok (.getfield i, 3))
    (kk : W p l e R s m args below meth c H locs cells slots Q (F0 m (pc + 3) lss (e_fv Hl.size B r.2.2.1 (σ.2.2.2.1 (k + 3) r.2.1) (σ.2.2.2.2 (k + 3) r.2.1) :: rest))) : W p l e R s m args below meth c H locs cells slots Q (F0 m pc lss (.ref (Hl.size + k) :: rest)) := by
  obtain ⟨hx, hb, hml, hown, hts, hK, hbl, hX, z0, z1, z2, hStr, hEx⟩ := C
  obtain ⟨h13, ⟨C, T, N⟩, hc, hlt, hft, hlk⟩ := hr
  obtain ⟨ty0, k1, k2, k3, k4, k5, -, -⟩ := hcls _ _ hc
  refine va_get (cl := vwCl) hx hb hts k5 hown hK hI.2.2.1 k (by rw [e_ws_get hk, e_en_o hkd h13]) hc r.2.1 hlt (hts _ hlk) (fun x h => h) ?_ hd kk
  rw [List.getElem?_map, List.getElem?_range (by rw [← k4]; exact hlt), hft]
  rfl
/-- a field written -/
theorem e_pfd (C : e_Cx p s m args c cc nL own D aC B Hl σ0) (hcls : ∀ i q, vwCl[i]? = some q → ∃ ty0, e_cl i q ty0) (hI : e_I Hl.size B aC D σ0 σ H) (hS : va_S (fun q => Hl.size ≤ q) Hl H locs) (hr : e_rok own (meth.name = "<init>") nL pc (.putfield i) r) (hkd : (σ.2.2.1 (k + 3)).1 = r.1) (hk : k + 3 < σ.1) (hd : decode cc pc = .ok (.putfield i, 3)) {v : Value} {σ' : eH}
    (hv : ∀ ty, e_tyk r.2.2.1 ty → narrow ty v = v ∧ fits ty v = true) (hen : e_en Hl.size B aC σ' (k + 3) = .inr (r.1, ((List.range (e_nf r.1)).map fun i => e_fv Hl.size B (e_ft r.1 i) (σ.2.2.2.1 (k + 3) i) (σ.2.2.2.2 (k + 3) i)).set r.2.1 v)) (hset : ∀ H1 : Heap, va_at D vwCl (Hl.size + k, e_en Hl.size B aC σ' (k + 3)) H1 → H1.size = H.size → (∀ q : Nat, q ≠ Hl.size + k → H1[q]? = H[q]?) → e_I Hl.size B aC D σ0 σ' H1)
    (kk : ∀ (H1 : Heap) (locs1 : List Loc), e_I Hl.size B aC D σ0 σ' H1 → va_S (fun q => Hl.size ≤ q) Hl H1 locs1 → W p l e R s m args below meth c H1 locs1 cells slots Q (F0 m (pc + 3) lss rest)) : W p l e R s m args below meth c H locs cells slots Q (F0 m pc lss (v :: .ref (Hl.size + k) :: rest)) := by
  obtain ⟨hx, hb, hml, hown, hts, hK, hbl, hX, z0, z1, z2, hStr, hEx⟩ := C
  obtain ⟨h13, ⟨Cn, T, N⟩, hc, hlt, hft, hlk, hfin⟩ := hr
  obtain ⟨ty0, k1, k2, k3, k4, k5, -, -⟩ := hcls _ _ hc
  dsimp only at k1 k2 k3 k4 k5 hlt hlk hfin
  have hap := va_apart (own := own) hts k5 ty0 k1 k2 hK hc
  have he : (e_ws Hl.size B aC σ)[k]? = some (Hl.size + k, .inr (r.1, (List.range (e_nf r.1)).map fun i => e_fv Hl.size B (e_ft r.1 i) (σ.2.2.2.1 (k + 3) i) (σ.2.2.2.2 (k + 3) i))) := by rw [e_ws_get hk, e_en_o hkd h13]
  obtain ⟨r', h1, cell, q1, q2, q3, q4⟩ := hI.2.2.1 k _ he
  have hr' : r' = (Cn, T, N) := Option.some.inj (h1.symm.trans hc)
  subst hr'
  obtain ⟨hSl, hfc, kC, hkC, hkind⟩ := hK.1 r.1 _ hc
  obtain ⟨cf, kf, fi, f, hi, hsl⟩ := hSl r.2.1 hlt
  have hst := (u_facts hfc hkC (u_lays hts k5 hlt) hi).1
  obtain ⟨hn, hfit⟩ := hv _ (by rw [hft]; exact k3 _ hlt)
  have hl : r.2.1 < ((List.range (e_nf r.1)).map fun i => e_fv Hl.size B (e_ft r.1 i) (σ.2.2.2.1 (k + 3) i) (σ.2.2.2.2 (k + 3) i)).length := by
    rw [List.length_map, List.length_range, ← k4]
    exact hlt
  have fin : ∀ H' : Heap, H'[Hl.size + k]? = some (cell.setSlot f.slot v) → H'.size = H.size → (∀ q, q ≠ Hl.size + k → H'[q]? = H[q]?) → W p l e R s m args below meth c H' (locs ++ [⟨Hl.size + k, f.slot⟩]) cells slots Q (F0 m (pc + 3) lss rest) := by
    intro H' e1 e2 e3
    refine kk H' _ (hset H' ?_ e2 e3) (hS.put e2 e3 (Nat.le_add_right _ _))
    rw [hen]
    rw [hsl] at e1
    exact ⟨_, hc, t_OB.to (V := updV (vp_V _) r.2.1 v) ⟨_, e1, q2, q3, t_set q4 hap hlt v⟩ (fun j _ => vp_updV_set hl v j)⟩
  have hlay := hts _ (k5 _ (u_in_lay hlt))
  rcases hfin with hfin | ⟨hfin, hini, hdecl⟩
  · unfold u_lay at hlay
    rw [if_neg (by rw [hfin]; decide)] at hlay
    have h6 := u_store hfc hkC hkind hlay hi (k1 _ hlt) hn hfit
    exact W.putK hx hb (f := f) ⟨hown, hts _ hlk, ⟨_, _, _, hi⟩, hst⟩ (by rw [q2]; exact h6) q1 q3 (by rw [hsl]; exact k2_hasslot (q4 r.2.1 hlt)) rfl rfl hd fin
  · unfold u_lay at hlay
    rw [if_pos hfin] at hlay
    have hcf : m.cls = cf := by
      obtain ⟨_, _, c', _, _, _, -, -, hf', -, -, -, hown2, -⟩ := Cond.laysFinal_spec hlay
      have e1 : c' = cf := by have := hi.symm.trans hf'; simp at this; exact this.1.symm
      rw [hdecl] at hown2
      rw [← e1]; exact Option.some.inj (hown.symm.trans hown2)
    have h6 := u_fits hfc hkC hkind (Or.inr hlay) hi (k1 _ hlt) hn hfit
    exact W.putFinK hx hb hown (hts _ hlk) hi hst hcf hini (by rw [q2]; exact h6) q1 q3 (by rw [hsl]; exact k2_hasslot (q4 r.2.1 hlt)) rfl rfl hd fin
end EH
