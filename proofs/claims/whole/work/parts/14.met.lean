def e_rtk (ret : Option FieldType) (ins : Instr) (r : eR) : Prop := match ins with
  | .ireturn => (r.1 = 0 ∧ ret = some .int) ∨ (r.1 = 1 ∧ ret = some .boolean) ∨ (r.1 = 2 ∧ (ret = some .char ∨ ret = some .byte))
  | .lreturn => ret = some .long
  | .areturn => (∃ C, ret = some (.object C)) ∨ ∃ t, ret = some (.array t)
  | .return_ => ret = none
  | _ => True
theorem e_ent_has {h0 : Nat} {B : Nat × Nat × Nat × Option Nat} : ∀ (vs : List eV) (n k i : Nat) (v : eV), (e_ent n vs)[i]? = some (some v) → (k + i, e_cv h0 B v) ∈ lv_args k (vs.map (e_cv h0 B))
  | [], n, k, i, v, h => by
    simp only [e_ent] at h
    have := List.eq_of_mem_replicate (List.mem_of_getElem? h)
    cases this
  | w :: vs, n, k, i, v, h => by
    obtain x | x | x := w
    · simp only [e_ent] at h
      show _ ∈ (k, _) :: lv_args (k + 1) _
      cases i with
      | zero => simp at h; subst h; exact List.mem_cons_self
      | succ i =>
        simp only [List.getElem?_cons_succ] at h
        have := e_ent_has (h0 := h0) (B := B) vs (n - 1) (k + 1) i v h
        rw [show k + 1 + i = k + (i + 1) by omega] at this
        exact List.mem_cons_of_mem _ this
    · simp only [e_ent] at h
      show _ ∈ (k, _) :: lv_args (k + 2) _
      cases i with
      | zero => simp at h; subst h; exact List.mem_cons_self
      | succ i =>
        cases i with
        | zero => simp at h
        | succ i =>
          simp only [List.getElem?_cons_succ] at h
          have := e_ent_has (h0 := h0) (B := B) vs (n - 2) (k + 2) i v h
          rw [show k + 2 + i = k + (i + 1 + 1) by omega] at this
          exact List.mem_cons_of_mem _ this
    · simp only [e_ent] at h
      have hc : (if (e_cv h0 B (.inr (.inr x))).category = 2 then k + 2 else k + 1) = k + 1 := by
        show (if (va_rf (e_rf h0 B x)).category = 2 then k + 2 else k + 1) = k + 1
        cases e_rf h0 B x <;> rfl
      show _ ∈ (k, _) :: lv_args (if (e_cv h0 B (.inr (.inr x))).category = 2 then k + 2 else k + 1) _
      rw [hc]
      cases i with
      | zero => simp at h; subst h; exact List.mem_cons_self
      | succ i =>
        simp only [List.getElem?_cons_succ] at h
        have := e_ent_has (h0 := h0) (B := B) vs (n - 1) (k + 1) i v h
        rw [show k + 1 + i = k + (i + 1) by omega] at this
        exact List.mem_cons_of_mem _ this
theorem e_sl_len {h0 : Nat} {B : Nat × Nat × Nat × Option Nat} (vs : List eV) : (lg_sl (vs.map (e_cv h0 B))).length = (vs.map e_cat).sum := by
  induction vs with
  | nil => rfl
  | cons v vs ih =>
    have h1 : (lg_sl ((v :: vs).map (e_cv h0 B))).length = (if (e_cv h0 B v).category = 2 then [Slot.val (e_cv h0 B v), .second] else [.val (e_cv h0 B v)]).length + (lg_sl (vs.map (e_cv h0 B))).length := by
      unfold lg_sl
      rw [List.map_cons, List.flatMap_cons, List.length_append]
    rw [h1, ih, List.map_cons, List.sum_cons]
    congr 1
    obtain x | x | x := v
    · rfl
    · rfl
    · show (if (va_rf (e_rf h0 B x)).category = 2 then _ else _ : List Slot).length = 1
      cases e_rf h0 B x <;> rfl
/-- all that the tables must say of a method and its code -/
def e_tok (ms : List eM) (cs : List (Nat × List (Option eI))) : Prop := ∀ (i : Nat) (M : eM), ms[i]? = some M → ∃ (q : Nat × List (Option eI)) (n : Nat), cs[i]? = some q ∧ q.1 = M.2.2.1 ∧ e_mok M n ∧ ∀ (pc : Nat) (ins : Instr) (len : Nat) (r : eR), q.2[pc]? = some (some (ins, len, r)) → decode M.2.1 pc = .ok (ins, len) ∧ (if e_ln ins = 0 then len else e_ln ins) = len ∧ e_rok M.1.cls (M.1.name = "<init>") M.2.2.1 pc ins r ∧ e_iok ms M.1.cls ins r ∧ e_rtk M.2.2.2.1 ins r
set_option maxHeartbeats 4000000 in
/-- THE ENGINE IS SOUND: what it answers of a call, the machine does -/
theorem e_cal_ok {l : Launch} {D : va_G} {aC : Nat → ClassId} {B : Nat × Nat × Nat × Option Nat} {Hl : Heap} {σ0 : eH} {ms : List eM} {cs : List (Nat × List (Option eI))} (hcls : ∀ i q, vwCl[i]? = some q → ∃ ty0, e_cl i q ty0) (htok : e_tok ms cs) (hbl : B.1 < Hl.size) (z0 : (σ0.2.2.1 0).1 = 28) (z1 : (σ0.2.2.1 1).1 = 13) (z2 : (σ0.2.2.1 2).1 = 29) : ∀ (d f i : Nat) (M : eM) (vs : List eV) (σ : eH) (r : Option eV) (σ' : eH), ms[i]? = some M → e_cal cs d f i vs σ = some (r, σ') → e_Met l D aC B Hl σ0 d M vs σ r σ'
  | 0, _, _, _, _, _, _, _, _, h => by cases h
  | d + 1, f, i, M, vs, σ, r, σ', hM, h => by
    have ih := e_cal_ok (l := l) (D := D) (aC := aC) (B := B) (Hl := Hl) (σ0 := σ0) hcls htok hbl z0 z1 z2 d f
    obtain ⟨q, n, hq, hq1, ⟨m1, m2, m3, m4, m5, m6, m7⟩, hcode⟩ := htok i M hM
    unfold e_cal at h
    rw [hq] at h
    dsimp only at h
    split at h
    next hsum =>
      rw [hq1] at h hsum
      refine Met.ofW (cc := M.2.1) (maxL := M.2.2.1) (ret := M.2.2.2.1) m1 rfl ?_
      intro p e s m args below meth c s₁ Bd hml hv
      obtain ⟨rfl, hI, hS, hPx⟩ := hv
      have hts0 := atoms_spec (ws := Cond.code M.1 M.2.1 M.2.2.1 M.2.2.2.1 :: lw_good) Bd.pre
      have hnm : meth.name = M.1.name := (name_of_methodNamed Bd.named Bd.method).1
      have hr := Bd.returns
      have hlocks := Bd.notSynchronized
      have C : e_Cx p s m (vs.map (e_cv Hl.size B)).toArray c M.2.1 M.2.2.1 M.1.cls D aC B Hl σ0 := ⟨Bd.exec, Bd.bytes, hml, findClass_of_methodNamed Bd.named, fun w hw => hts0 w (List.mem_cons_of_mem _ hw), hPx.1, hbl, hPx.2.1, z0, z1, z2, hPx.2.2.1, hPx.2.2.2⟩
      have key := e_run_ok (l := l) (e := e) (R := e_rm (d + 1) σ σ') (below := below) (Q := MQ below (e_Qc D aC B Hl σ0 r σ') (vs.map (e_cv Hl.size B)).toArray s (σ'.1 - σ.1) (σ'.2.1 - σ.2.1) (fun q => Hl.size ≤ q)) (n0 := σ.1) (s0 := σ.2.1) (meth := meth) rfl C hcls (ms := ms) (cd := q.2)
        (fun pc ins len r0 he => by
          obtain ⟨a1, a2, a3, a4, -⟩ := hcode pc ins len r0 he
          refine ⟨a1, a2, ?_, a4⟩
          rw [hnm]
          exact a3)
        (call := e_cal cs d f) (d := d) (fun i M vs σ r σ' hM h => ih i M vs σ r σ' hM h) (fun i vs σ r σ' h => e_cal_mono d f i vs σ r σ' h) (Nat.le_refl _) (by show 60 * d + 60 ≤ 60 * (d + 1); omega) (rr := r) (σ' := σ') (Nat.le_refl _) (Nat.le_refl _)
        (fun pc ls st ins len r0 he hrt => by
          obtain ⟨a1, a2, -, -, a5⟩ := hcode pc ins len r0 he
          intro lss H locs hL hI1 hS1
          have hQ : ∀ t : State, t.heap = H → s.WarmedH t.vm → e_Qc D aC B Hl σ0 r σ' (vs.map (e_cv Hl.size B)).toArray s (.returned (r.map (e_cv Hl.size B))) t := fun t ht _ => ⟨rfl, by rw [ht]; exact hI1, by rw [ht]; exact ⟨hS1.1, hS1.2.1, fun q h => by cases h⟩⟩
          have hf : ∀ q ∈ locs, Hl.size ≤ q.base := hS1.2.2
          cases ins with
          | ireturn =>
            have hl1 : 1 = len := a2
            subst hl1
            simp only [e_rt] at hrt
            split at hrt
            next x =>
              split at hrt
              next hc =>
                cases hrt
                rcases a5 with ⟨b1, b2⟩ | ⟨b1, b2⟩ | ⟨b1, b2⟩
                · exact W.iret Bd.exec Bd.bytes (hr.trans b2) hQ hf a1
                · have hx : x = 0 ∨ x = 1 := by omega
                  exact W.zret Bd.exec Bd.bytes (hr.trans b2) (e_bit hx).1 hQ hf a1
                · have hx : 0 ≤ x ∧ x < 128 := by omega
                  have hx2 := e_id32 (x := x) (by omega) (by omega)
                  rcases b2 with b2 | b2
                  · refine W.zret Bd.exec Bd.bytes (hr.trans b2) ?_ hQ hf a1
                    have := (pk_charN (q := x.toNat) (by omega)).1
                    have e1 : nI x.toNat = Int32.ofInt x := by
                      rw [← e_of (nI x.toNat), nI_toInt (by omega)]
                      congr 1
                      omega
                    rw [e1] at this
                    exact this
                  · refine W.zret Bd.exec Bd.bytes (hr.trans b2) ?_ hQ hf a1
                    show Value.int (Int32.ofInt x).toInt8.toInt32 = _
                    rw [e_i2b, Int.bmod_def]
                    congr 2
                    split <;> omega
              next => cases hrt
            next => cases hrt
          | lreturn =>
            have hl1 : 1 = len := a2
            subst hl1
            simp only [e_rt] at hrt
            split at hrt
            next x =>
              cases hrt
              exact W.lret Bd.exec Bd.bytes (hr.trans a5) hQ hf a1
            next => cases hrt
          | areturn =>
            have hl1 : 1 = len := a2
            subst hl1
            simp only [e_rt] at hrt
            split at hrt
            next x =>
              cases hrt
              have hv : ∀ o : Option Nat, va_rf o = .null ∨ ∃ a, va_rf o = .ref a := fun o => by
                cases o with
                | none => exact Or.inl rfl
                | some a => exact Or.inr ⟨a, rfl⟩
              rcases a5 with ⟨C, b2⟩ | ⟨t, b2⟩
              · exact W.aret Bd.exec Bd.bytes (hr.trans b2) (Or.inl ⟨C, rfl⟩) (hv _) hQ hf a1
              · exact W.aret Bd.exec Bd.bytes (hr.trans b2) (Or.inr ⟨t, rfl⟩) (hv _) hQ hf a1
            next => cases hrt
          | return_ =>
            have hl1 : 1 = len := a2
            subst hl1
            simp only [e_rt] at hrt
            split at hrt
            next =>
              cases hrt
              exact W.vret Bd.exec Bd.bytes (hr.trans a5) hQ hf a1
            next => cases hrt
          | _ => cases hrt)
        f 0 (e_ent M.2.2.1 vs) [] σ (Nat.le_refl _) (Nat.le_refl _) h
      rw [lg_entry_eq]
      have hent := lv_entry (vs.map (e_cv Hl.size B)) (n := M.2.2.1) (by rw [e_sl_len]; exact hsum)
      have := key _ s.heap [] ⟨hent.1, hent.2.1, fun i v hi => by
        have := e_ent_has (h0 := Hl.size) (B := B) vs M.2.2.1 0 i v hi
        rw [Nat.zero_add] at this
        exact hent.2.2 _ this⟩ hI hS
      rw [Nat.sub_self, Nat.sub_self] at this
      exact this
    next => cases h
