set_option maxHeartbeats 4000000 in
theorem e_stp_mono {ins : Instr} {r : eR} {pc : Nat} {ls : eL} {st : List eV} {σ : eH} {q : eT} (hs : e_stp ins r pc ls st σ = some q) : σ.1 ≤ q.2.2.2.1 ∧ σ.2.1 ≤ q.2.2.2.2.1 := by
  cases ins <;> simp only [e_stp] at hs
  all_goals first
    | (obtain ⟨v, -, -, rfl⟩ := e_load_ok hs; exact ⟨Nat.le_refl _, Nat.le_refl _⟩)
    | (obtain ⟨x, y, t, z, -, -, rfl⟩ := e_bin_ok hs; exact ⟨Nat.le_refl _, Nat.le_refl _⟩)
    | (obtain ⟨x, y, t, z, -, -, rfl⟩ := e_binL_ok hs; exact ⟨Nat.le_refl _, Nat.le_refl _⟩)
    | (cases hs; done)
    | (cases hs; constructor <;> (dsimp only [e_put, e_puR, e_new, e_mna]; omega))
    | (repeat' split at hs
       all_goals first
         | (cases hs; done)
         | (cases hs; constructor <;> (dsimp only [e_put, e_puR, e_new, e_mna]; omega)))
theorem e_inv_mono {call : eF} (hc : ∀ i vs σ r σ', call i vs σ = some (r, σ') → σ.1 ≤ σ'.1 ∧ σ.2.1 ≤ σ'.2.1) {r : eR} {st : List eV} {σ : eH} {q : List eV × eH} (hs : e_inv call r st σ = some q) : σ.1 ≤ q.2.1 ∧ σ.2.1 ≤ q.2.2.1 := by
  unfold e_inv at hs
  split at hs
  · unfold e_acp at hs
    split at hs
    · split at hs
      · cases hs
        exact ⟨Nat.le_refl _, Nat.le_refl _⟩
      · cases hs
    · cases hs
  · split at hs
    · split at hs
      · split at hs
        · cases hs
          exact ⟨Nat.le_refl _, Nat.le_refl _⟩
        · cases hs
      · cases hs
    · iterate 3
        split at hs
        · split at hs
          · split at hs
            · cases hs
              exact ⟨Nat.le_refl _, Nat.le_refl _⟩
            · cases hs
          · cases hs
      unfold e_call at hs
      split at hs
      · obtain ⟨⟨v, σ'⟩, h1, h2⟩ := Option.map_eq_some_iff.mp hs
        cases h2
        exact hc _ _ _ _ _ h1
      · cases hs
theorem e_run_mono {call : eF} (hc : ∀ i vs σ r σ', call i vs σ = some (r, σ') → σ.1 ≤ σ'.1 ∧ σ.2.1 ≤ σ'.2.1) {cd : List (Option eI)} : ∀ (f pc : Nat) (ls : eL) (st : List eV) (σ : eH) (r : Option eV) (σ' : eH), e_run call cd f pc ls st σ = some (r, σ') → σ.1 ≤ σ'.1 ∧ σ.2.1 ≤ σ'.2.1
  | 0, _, _, _, _, _, _, h => by cases h
  | f + 1, pc, ls, st, σ, r, σ', h => by
    unfold e_run at h
    split at h
    next e he =>
      split at h
      · obtain ⟨v, -, h2⟩ := Option.map_eq_some_iff.mp h
        cases h2
        exact ⟨Nat.le_refl _, Nat.le_refl _⟩
      · split at h
        · obtain ⟨q, h1, h2⟩ := Option.bind_eq_some_iff.mp h
          have a := e_inv_mono hc h1
          have b := e_run_mono hc f _ _ _ _ _ _ h2
          omega
        · obtain ⟨q, h1, h2⟩ := Option.bind_eq_some_iff.mp h
          have a := e_stp_mono h1
          have b := e_run_mono hc f _ _ _ _ _ _ h2
          omega
    next => cases h
theorem e_cal_mono {cs : List (Nat × List (Option eI))} : ∀ (d f i : Nat) (vs : List eV) (σ : eH) (r : Option eV) (σ' : eH), e_cal cs d f i vs σ = some (r, σ') → σ.1 ≤ σ'.1 ∧ σ.2.1 ≤ σ'.2.1
  | 0, _, _, _, _, _, _, h => by cases h
  | d + 1, f, i, vs, σ, r, σ', h => by
    unfold e_cal at h
    split at h
    · split at h
      · exact e_run_mono (fun i vs σ r σ' h => e_cal_mono d f i vs σ r σ' h) _ _ _ _ _ _ _ h
      · cases h
    · cases h
/-- what the engine's calls ask of a state -/
def e_Px (D : va_G) (aC : Nat → ClassId) (B : Nat × Nat × Nat × Option Nat) (Hl : Heap) (σ0 : eH) (U : State) : Prop := va_K D vwCl (e_tys aC) U ∧ va_X B.1 (σ0.2.2.1 0).2 (fun j => Int32.ofInt (σ0.2.2.2.1 0 j)) U Hl ∧ e_Sx B Hl σ0 U ∧ ∀ w ∈ lw_ex, va_Nw w U
theorem e_Px.warm {D : va_G} {aC : Nat → ClassId} {B : Nat × Nat × Nat × Option Nat} {Hl : Heap} {σ0 : eH} {s U : State} (hW : s.WarmedH U.vm) (h : e_Px D aC B Hl σ0 s) : e_Px D aC B Hl σ0 U := ⟨h.1.moved hW.alike, h.2.1.moved hW.alike, h.2.2.1.moved hW, lw_ex_warm hW h.2.2.2⟩
theorem e_Sx.same {B : Nat × Nat × Nat × Option Nat} {Hl : Heap} {σ0 : eH} {s U : State} (hv : s.vm = U.vm) (h : e_Sx B Hl σ0 s) : e_Sx B Hl σ0 U := by
  obtain ⟨h1, h2, h3, h4, h5, h6, h7, h8⟩ := h
  have ha : s.vm.Alike U.vm := by rw [hv]; exact Vm.Alike.refl _
  exact ⟨h1.moved ha, h2.moved ha, h3.moved ha, h4.moved ha, h5.moved ha, h6.same hv.symm, h7.moved ha, h8⟩
theorem e_Px.same {D : va_G} {aC : Nat → ClassId} {B : Nat × Nat × Nat × Option Nat} {Hl : Heap} {σ0 : eH} {s U : State} (hv : s.vm = U.vm) (h : e_Px D aC B Hl σ0 s) : e_Px D aC B Hl σ0 U := by
  have ha : s.vm.Alike U.vm := by rw [hv]; exact Vm.Alike.refl _
  exact ⟨h.1.moved ha, h.2.1.moved ha, h.2.2.1.same hv, lw_ex_same hv h.2.2.2⟩
abbrev eM : Type := MethodName × ByteArray × Nat × Option FieldType × Nat
def e_rm (d : Nat) (σ σ' : eH) : Room := { frames := d, cells := σ'.1 - σ.1, slots := σ'.2.1 - σ.2.1, locals := 60 * d }
def e_Pc (D : va_G) (aC : Nat → ClassId) (B : Nat × Nat × Nat × Option Nat) (Hl : Heap) (σ0 : eH) (vs : List eV) (σ : eH) : Array Value → State → Prop := va_Pc (vs.map (e_cv Hl.size B)) (fun U => e_I Hl.size B aC D σ0 σ U.heap ∧ va_S (fun q => Hl.size ≤ q) Hl U.heap [] ∧ e_Px D aC B Hl σ0 U)
def e_Qc (D : va_G) (aC : Nat → ClassId) (B : Nat × Nat × Nat × Option Nat) (Hl : Heap) (σ0 : eH) (r : Option eV) (σ' : eH) : Array Value → State → Outcome → State → Prop := fun _ _ o t => o = .returned (r.map (e_cv Hl.size B)) ∧ e_I Hl.size B aC D σ0 σ' t.heap ∧ va_S (fun q => Hl.size ≤ q) Hl t.heap []
/-- a method's contract at one start -/
def e_Met (l : Launch) (D : va_G) (aC : Nat → ClassId) (B : Nat × Nat × Nat × Option Nat) (Hl : Heap) (σ0 : eH) (d : Nat) (M : eM) (vs : List eV) (σ : eH) (r : Option eV) (σ' : eH) : Prop :=
  Met l M.1 (Cond.code M.1 M.2.1 M.2.2.1 M.2.2.2.1 :: lw_good) (e_rm d σ σ') (e_Pc D aC B Hl σ0 vs σ) (e_Qc D aC B Hl σ0 r σ') (σ'.1 - σ.1) (σ'.2.1 - σ.2.1) (fun q => Hl.size ≤ q)
/-- what the tables must say of a method: its kind: 0 static, 1 constructor, 20 + c a method of class c -/
def e_mok (M : eM) (n : Nat) : Prop := plainName M.1.cls = true ∧ Cond.code M.1 M.2.1 M.2.2.1 M.2.2.2.1 ∈ lw_good ∧ Cond.initialized M.1.cls ∈ lw_good ∧ (M.1.cls ≠ "java/lang/invoke/MethodHandle" ∧ M.1.cls ≠ "java/lang/invoke/VarHandle") ∧ M.2.2.1 ≤ 40 ∧ (parseMethodDescriptor M.1.desc).map (fun d => d.parameters.length) = some n ∧
  ((M.2.2.2.2 = 0 ∧ Cond.static M.1 ∈ lw_good) ∨ (M.2.2.2.2 = 1 ∧ Cond.instanceMethod M.1 ∈ lw_good ∧ M.1.name = "<init>" ∧ M.2.2.2.1 = none) ∨ (20 ≤ M.2.2.2.2 ∧ Cond.instanceMethod M.1 ∈ lw_good ∧ Cond.selects M.1.cls M.1 M.1 ∈ lw_good ∧ ((M.2.2.2.2 = 33 ∧ M.1.cls = "java/lang/String") ∨ M.2.2.2.2 < 33 ∧ ∃ q, vwCl[M.2.2.2.2 - 20]? = some q ∧ q.1 = M.1.cls)))
/-- what they must say of a call -/
def e_iok (ms : List eM) (own : String) (ins : Instr) (r : eR) : Prop := match ins with
  | .invokestatic i => (r.2.2.1 = 10 ∧ Cond.methodLink own i arraycopyName ∈ lw_good ∧ Cond.native arraycopyName ∈ lw_good ∧ Cond.static arraycopyName ∈ lw_good ∧ Cond.initialized "java/lang/System" ∈ lw_good) ∨ (r.2.2.1 = 12 ∧ Cond.methodLink own i Lib.Math.max.name ∈ lw_good ∧ Cond.static Lib.Math.max.name ∈ lw_good ∧ Cond.initialized "java/lang/Math" ∈ lw_good ∧ Cond.code Lib.Math.max.name Lib.Math.max.code 2 (some .int) ∈ lw_good) ∨ (r.2.2.1 = 13 ∧ Cond.methodLink own i Lib.Math.min.name ∈ lw_good ∧ Cond.static Lib.Math.min.name ∈ lw_good ∧ Cond.initialized "java/lang/Math" ∈ lw_good ∧ Cond.code Lib.Math.min.name Lib.Math.min.code 2 (some .int) ∈ lw_good) ∨ (r.2.2.1 = 14 ∧ Cond.methodLink own i Lib.Math.abs.name ∈ lw_good ∧ Cond.static Lib.Math.abs.name ∈ lw_good ∧ Cond.initialized "java/lang/Math" ∈ lw_good ∧ Cond.code Lib.Math.abs.name Lib.Math.abs.code 1 (some .int) ∈ lw_good) ∨ (r.2.2.1 = 0 ∧ ∃ M, ms[r.1]? = some M ∧ e_mok M r.2.1 ∧ M.2.2.2.2 = 0 ∧ Cond.methodLink own i M.1 ∈ lw_good)
  | .invokespecial i => (r.2.2.1 = 11 ∧ Cond.methodLink own i Lib.objectInit ∈ lw_good ∧ Cond.instanceMethod Lib.objectInit ∈ lw_good ∧ Cond.code Lib.objectInit ⟨#[0xb1]⟩ 1 none ∈ lw_good) ∨ (∃ M n, ms[r.1]? = some M ∧ e_mok M n ∧ r.2.1 = n + 1 ∧ M.2.2.2.2 = 1 ∧ ((r.2.2.1 = 1 ∧ Cond.methodLink own i M.1 ∈ lw_good) ∨ (r.2.2.1 = 2 ∧ ∃ host, Cond.methodLinkNest own i M.1 host ∈ lw_ex)))
  | .invokevirtual i => 20 ≤ r.2.2.1 ∧ ∃ M n, ms[r.1]? = some M ∧ e_mok M n ∧ r.2.1 = n + 1 ∧ M.2.2.2.2 = r.2.2.1 ∧ Cond.methodLink own i M.1 ∈ lw_good
  | _ => True
theorem e_ws_good {M : eM} (h : Cond.code M.1 M.2.1 M.2.2.1 M.2.2.2.1 ∈ lw_good) : GoodIn lw_good (Cond.code M.1 M.2.1 M.2.2.1 M.2.2.2.1 :: lw_good) := fun w hw => (List.mem_cons.mp hw).elim (fun e => by subst e; exact lw_good_in _ h) (fun h => lw_good_in _ h)
theorem e_cat_cv {h0 : Nat} {B : Nat × Nat × Nat × Option Nat} (vs : List eV) : ((vs.map (e_cv h0 B)).map fun v => v.category).sum = (vs.map e_cat).sum := by
  induction vs with
  | nil => rfl
  | cons v vs ih =>
    simp only [List.map_cons, List.sum_cons, ih]
    congr 1
    obtain x | x | x := v
    · rfl
    · rfl
    · show (va_rf (e_rf h0 B x)).category = 1
      cases e_rf h0 B x <;> rfl
section ER
variable {p : Program} {l : Launch} {e : Env} {R : Room} {s : State} {m : MethodId} {args : Array Value} {below : List Frame} {meth : Method} {c : Code} {Q : State → Prop} {cc : ByteArray} {nL : Nat} {own : String} {D : va_G} {aC : Nat → ClassId} {B : Nat × Nat × Nat × Option Nat} {Hl : Heap} {σ0 : eH} {n0 s0 : Nat} {G : Nat → eL → List eV → eH → Prop}
theorem e_cont {H : Heap} {locs : List Loc} {cells slots mc ms pc : Nat} {lss : Array Slot} {st0 rest : List Value} {Qa : State → Outcome → State → Prop} {σ1 : eH} {r : Option eV} (hr : va_Run p l e R s m args below meth c H locs cells slots mc ms (F0 m pc lss st0) rest Qa (fun q => Hl.size ≤ q)) (hS : va_S (fun q => Hl.size ≤ q) Hl H locs)
    (hQ : ∀ st₀ v t, Qa st₀ (.returned v) t → v = r.map (e_cv Hl.size B) ∧ e_I Hl.size B aC D σ0 σ1 t.heap ∧ va_S (fun q => Hl.size ≤ q) Hl t.heap [])
    (kk : ∀ (H1 : Heap) (locs1 : List Loc), e_I Hl.size B aC D σ0 σ1 H1 → va_S (fun q => Hl.size ≤ q) Hl H1 locs1 → W p l e R s m args below meth c H1 locs1 (cells + mc) (slots + ms) Q (F0 m (pc + 3) lss ((r.map (e_cv Hl.size B)).toList ++ rest))) : W p l e R s m args below meth c H locs cells slots Q (F0 m pc lss st0) := by
  intro T hT X
  obtain ⟨v, st₀, t, T', L, h0, X', hL, e1, e2, hq, st⟩ := hr T hT X
  obtain ⟨rfl, hI1, hS1⟩ := hQ _ _ _ hq
  obtain ⟨t2, a1, b1⟩ := kk T'.heap (locs ++ L) (by rw [e1]; exact hI1) ⟨by rw [e1]; exact hS1.1, fun q h1 h2 => by rw [e1]; exact hS1.2.1 q h1 h2, fun q hq => (List.mem_append.mp hq).elim (hS.2.2 q) (hL q)⟩ T' rfl X'
  exact ⟨t2, st t2 a1, b1⟩
theorem e_blind {vs : List eV} {σ : eH} : FrameBlind (e_Pc D aC B Hl σ0 vs σ) := fun a U g mk q => ⟨q.1, q.2.1, q.2.2.1, e_Px.same (s := U) (U := U.calling g mk a) rfl q.2.2.2⟩
set_option maxHeartbeats 4000000 in
/-- a call of a method whose contract is known -/
theorem e_call_ok (hG : G = e_Go p l e R s m args below meth c Q nL D aC B Hl σ0 n0 s0) (C : e_Cx p s m args c cc nL own D aC B Hl σ0) {ms : List eM} {call : eF} {d : Nat} (hcall : ∀ i M vs σ r σ', ms[i]? = some M → call i vs σ = some (r, σ') → e_Met l D aC B Hl σ0 d M vs σ r σ') (hmono : ∀ i vs σ r σ', call i vs σ = some (r, σ') → σ.1 ≤ σ'.1 ∧ σ.2.1 ≤ σ'.2.1) (hR1 : d + 1 ≤ R.frames) (hR2 : 60 * d + 60 ≤ R.locals) {ins : Instr} {r : eR} {pc : Nat} {ls : eL} {st : List eV} {σ : eH} {q : List eV × eH} (hd : decode cc pc = .ok (ins, 3)) (hi : e_iok ms own ins r) (hisc : e_isc ins = true) (h10 : r.2.2.1 ≠ 10) (h11 : r.2.2.1 ≠ 11) (h12 : r.2.2.1 ≠ 12) (h13 : r.2.2.1 ≠ 13) (h14 : r.2.2.1 ≠ 14) (hs : e_call call r st σ = some q)
    (hn0 : n0 ≤ σ.1) (hs0 : s0 ≤ σ.2.1) (hr1 : q.2.1 - n0 ≤ R.cells) (hr2 : q.2.2.1 - s0 ≤ R.slots) (kk : G (pc + 3) ls q.1 q.2) : G pc ls st σ := by
  subst hG
  obtain ⟨hx, hb, hml, hown, hts, hK, hbl, hX, z0, z1, z2, hStr, hEx⟩ := C
  intro lss H locs hL hI hS
  unfold e_call at hs
  split at hs
  next hcond =>
    obtain ⟨hlen, hsum, hrcv⟩ := hcond
    obtain ⟨⟨v, σ1⟩, hcl, hq⟩ := Option.map_eq_some_iff.mp hs
    subst hq
    dsimp only at kk hr1 hr2
    have hm := hmono _ _ _ _ _ hcl
    have hst : st = (st.take r.2.1).reverse.reverse ++ st.drop r.2.1 := by rw [List.reverse_reverse, List.take_append_drop]
    generalize hvs : (st.take r.2.1).reverse = vs at hcl hrcv hst
    generalize hrs : st.drop r.2.1 = rest at hst hsum kk
    have hvl : vs.length = r.2.1 := by rw [← hvs, List.length_reverse, List.length_take]; omega
    have hPx : e_Px D aC B Hl σ0 s := ⟨hK, hX, hStr, hEx⟩
    have hW : 2 * (F0 m pc lss (st.map (e_cv Hl.size B))).monitorRoom + ((rest.map (e_cv Hl.size B)).map fun v => v.category).sum ≤ 8 := lv_room (by rw [e_cat_cv]; exact hsum)
    have hSf : CallFix p m c cc nL s args lw_good own := ⟨hx, hb, hml, hown, hts⟩
    have hfit : σ.1 - n0 + (σ1.1 - σ.1) ≤ R.cells ∧ σ.2.1 - s0 + (σ1.2.1 - σ.2.1) ≤ R.slots := by omega
    have hpre : ∀ U : State, U.heap = H → s.WarmedH U.vm → e_Pc D aC B Hl σ0 vs σ (vs.map (e_cv Hl.size B)).toArray U := fun U hU hWU => ⟨rfl, by rw [hU]; exact hI, by rw [hU]; exact ⟨hS.1, hS.2.1, fun q h => by cases h⟩, hPx.warm hWU⟩
    have fin : ∀ {Qa}, va_Run p l e R s m args below meth c H locs (σ.1 - n0) (σ.2.1 - s0) (σ1.1 - σ.1) (σ1.2.1 - σ.2.1) (F0 m pc lss (st.map (e_cv Hl.size B))) (rest.map (e_cv Hl.size B)) (e_Qc D aC B Hl σ0 v σ1 Qa) (fun q => Hl.size ≤ q) → W p l e R s m args below meth c H locs (σ.1 - n0) (σ.2.1 - s0) Q (F0 m pc lss (st.map (e_cv Hl.size B))) := by
      intro Qa hrun
      refine e_cont (r := v) (σ1 := σ1) hrun hS (fun st₀ w t hq => ⟨Outcome.returned.inj hq.1, hq.2⟩) (fun H1 locs1 hI1 hS1 => ?_)
      have kk := kk lss H1 locs1 hL hI1 hS1
      have e1 : (v.toList ++ rest).map (e_cv Hl.size B) = (v.map (e_cv Hl.size B)).toList ++ rest.map (e_cv Hl.size B) := by
        cases v <;> simp
      rw [e1] at kk
      exact W.cs (by omega) (by omega) kk
    have hRR : ∀ {M : eM}, M.2.2.1 ≤ 40 → (e_rm d σ σ1).frames + 1 ≤ R.frames ∧ 8 + (M.2.2.1 + 11) + (e_rm d σ σ1).locals ≤ R.locals := by
      intro M hM
      exact ⟨hR1, by show 8 + (M.2.2.1 + 11) + 60 * d ≤ R.locals; omega⟩
    cases ins with
    | invokestatic i =>
      rcases hi with hi | hi | hi | hi | ⟨hk, M, hM, hmo, hk2, hlk⟩
      · exact absurd hi.1 h10
      · exact absurd hi.1 h12
      · exact absurd hi.1 h13
      · exact absurd hi.1 h14
      · obtain ⟨m1, m2, m3, m4, m5, m6, m7⟩ := hmo
        rcases m7 with ⟨-, m7⟩ | m7 | m7
        · refine fin (va_runS (As := vs.map (e_cv Hl.size B)) (n := r.2.1) hSf (hcall _ M _ _ _ _ hM hcl) ⟨callB_of r.2.1 hts (e_ws_good m2) rfl rfl rfl (hts _ m3) (hts _ hlk) ⟨m4.1, m4.2, m6⟩ (hRR m5), hts _ m7⟩ ⟨e_blind, hpre⟩ rfl (by rw [List.length_map]; exact hvl) hL.1 ?_ hW hd hfit)
          rw [hst, List.map_append, List.map_reverse]
        · omega
        · omega
    | invokespecial i =>
      rcases hi with hi | ⟨M, n, hM, hmo, hn, hk2, hlk⟩
      · exact absurd hi.1 h11
      · obtain ⟨m1, m2, m3, m4, m5, m6, m7⟩ := hmo
        rcases m7 with m7 | ⟨-, m7, m8, m9⟩ | m7
        · omega
        · have hk0 : r.2.2.1 ≠ 0 := by
            rcases hlk with h | h <;> omega
          unfold e_rcv at hrcv
          rw [if_neg hk0] at hrcv
          split at hrcv
          next a ps =>
            have hpl : ps.length = n := by simp only [List.length_cons] at hvl; omega
            have hstk : (F0 m pc lss (st.map (e_cv Hl.size B))).stack = (ps.map (e_cv Hl.size B)).reverse ++ .ref (e_ad Hl.size B a) :: rest.map (e_cv Hl.size B) := by
              show st.map (e_cv Hl.size B) = _
              rw [hst, List.map_append, List.reverse_cons, List.map_append, List.append_assoc, List.map_reverse]
              rfl
            have hMt := hcall _ M _ _ _ _ hM hcl
            rcases hlk with ⟨-, hlk⟩ | ⟨-, host, hlk⟩
            · refine fin (va_runI (As := ps.map (e_cv Hl.size B)) (b := e_ad Hl.size B a) (n := n) (bytes := M.2.1) (maxL := M.2.2.1) hSf hMt ⟨?_, m8, hts _ m7⟩ ⟨e_blind, hpre⟩ rfl (by rw [List.length_map]; exact hpl) hL.1 hstk hW hd hfit)
              have := callB_of (R := R) (s := s) (args := args) (own := own) (index := i) (rm := e_rm d σ σ1) n hts (e_ws_good m2) rfl rfl rfl (hts _ m3) (hts _ hlk) ⟨m4.1, m4.2, m6⟩ (hRR m5)
              rw [m9] at this
              rw [m9]
              exact this
            · refine fin (va_runIN (As := ps.map (e_cv Hl.size B)) (b := e_ad Hl.size B a) (n := n) (bytes := M.2.1) (maxL := M.2.2.1) (host := host) hSf hMt ⟨?_, m8, hts _ m7⟩ ⟨e_blind, hpre⟩ rfl (by rw [List.length_map]; exact hpl) hL.1 hstk hW hd hfit)
              have := va_cnB (R := R) (s := s) (args := args) (own := own) (index := i) (host := host) (rm := e_rm d σ σ1) n hts (e_ws_good m2) rfl rfl rfl (hEx _ hlk) (hts _ m3) ⟨m4.1, m4.2, m6⟩ (hRR m5)
              rw [m9] at this
              rw [m9]
              exact this
          next => cases hrcv
        · omega
    | invokevirtual i =>
      obtain ⟨hk, M, n, hM, hmo, hn, hk2, hlk⟩ := hi
      obtain ⟨m1, m2, m3, m4, m5, m6, m7⟩ := hmo
      rcases m7 with m7 | m7 | ⟨-, m7, m8, m9⟩
      · omega
      · omega
      · unfold e_rcv at hrcv
        rw [if_neg (by omega)] at hrcv
        split at hrcv
        next a ps =>
          have hpl : ps.length = n := by simp only [List.length_cons] at hvl; omega
          have hstk : (F0 m pc lss (st.map (e_cv Hl.size B))).stack = (ps.map (e_cv Hl.size B)).reverse ++ .ref (e_ad Hl.size B a) :: rest.map (e_cv Hl.size B) := by
            show st.map (e_cv Hl.size B) = _
            rw [hst, List.map_append, List.reverse_cons, List.map_append, List.append_assoc, List.map_reverse]
            rfl
          have hMt := hcall _ M _ _ _ _ hM hcl
          simp only [decide_eq_true_eq] at hrcv
          have hka : (σ.2.2.1 a).1 = r.2.2.1 - 20 := by omega
          have hrec : ∃ cellB : Cell, H[e_ad Hl.size B a]? = some cellB ∧ cellB.vm.isStatics = false ∧ s.vm.findClass M.1.cls = some cellB.cls := by
            rcases m9 with ⟨m9, m10⟩ | ⟨m9, q, hq, hqn⟩
            · rcases e_three hI z0 z1 z2 (a := a) (by omega) with ⟨rfl, h1⟩ | ⟨rfl, h1⟩ | ⟨rfl, h1⟩ | ⟨k, rfl, hlt, hws⟩
              · omega
              · obtain ⟨cell, q1, q2, q3, q4⟩ := hStr.2.1
                exact ⟨cell, (hS.2.1 _ (Array.getElem?_eq_some_iff.mp q1).1 q4).trans q1, q2, by rw [m10]; exact q3⟩
              · omega
              · exact absurd (show (σ.2.2.1 (k + 3)).1 = 13 by omega) (hI.2.2.2.2.2 (k + 3) (by omega)).1
            · have hka' : (σ.2.2.1 a).1 = M.2.2.2.2 - 20 := by omega
              obtain ⟨k, rfl, hlt, had, -⟩ := hI.at z0 z1 z2 (a := a) (by omega) (by omega) (by omega) (by omega)
              have := va_recv hK hI.2.2.1 hq (by rw [e_ws_get hlt, e_en_o hka' (by omega)])
              rw [← hqn]
              exact this
          refine fin (va_runV (As := ps.map (e_cv Hl.size B)) (b := e_ad Hl.size B a) (n := n) (C := M.1.cls) hSf hMt ⟨callB_of n hts (e_ws_good m2) rfl rfl rfl (hts _ m3) (hts _ hlk) ⟨m4.1, m4.2, m6⟩ (hRR m5), hts _ m7, hts _ m8⟩ ⟨e_blind, hrec, hpre⟩ rfl (by rw [List.length_map]; exact hpl) hL.1 hstk hW hd hfit)
        next => cases hrcv
    | _ => cases hisc
  next => cases hs
end ER
