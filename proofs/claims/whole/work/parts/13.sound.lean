theorem e_nn {x : Int} (h : 0 ≤ e_w32 x) : (Int32.ofInt x).toInt = ((e_w32 x).toNat : Int) := by
  rw [e_o32]
  omega
section ES2
variable {p : Program} {l : Launch} {e : Env} {R : Room} {s : State} {m : MethodId} {args : Array Value} {below : List Frame} {meth : Method} {c : Code} {Q : State → Prop} {cc : ByteArray} {nL : Nat} {own : String} {D : va_G} {aC : Nat → ClassId} {B : Nat × Nat × Nat × Option Nat} {Hl : Heap} {σ0 : eH} {n0 s0 : Nat} {G : Nat → eL → List eV → eH → Prop}
set_option maxHeartbeats 4000000 in
theorem e_acp_ok (hG : G = e_Go p l e R s m args below meth c Q nL D aC B Hl σ0 n0 s0) (C : e_Cx p s m args c cc nL own D aC B Hl σ0) (hR1 : 1 ≤ R.frames) (hR2 : 60 ≤ R.locals) {i pc : Nat} {ls : eL} {st : List eV} {σ : eH} {q : List eV × eH} (hd : decode cc pc = .ok (.invokestatic i, 3)) (hlk : Cond.methodLink own i arraycopyName ∈ lw_good) (hnat : Cond.native arraycopyName ∈ lw_good) (hstat : Cond.static arraycopyName ∈ lw_good) (hini : Cond.initialized "java/lang/System" ∈ lw_good) (hs : e_acp st σ = some q) (kk : G (pc + 3) ls q.1 q.2) : G pc ls st σ := by
  subst hG
  obtain ⟨hx, hb, hml, hown, hts, hK, hbl, hX, z0, z1, z2, hStr, hEx⟩ := C
  intro lss H locs hL hI hS
  unfold e_acp at hs
  split at hs
  next n dp b sp a t =>
    split at hs
    next hc =>
      cases hs
      obtain ⟨c1, c2, c3, c4, c5, c6, c7, c8⟩ := hc
      obtain ⟨ka, rfl, hla, had, hwa⟩ := hI.at z0 z1 z2 (a := a) (by omega) (by omega) (by omega) (by omega)
      obtain ⟨kb, rfl, hlb, hbd, hwb⟩ := hI.at z0 z1 z2 (a := b) (by omega) (by omega) (by omega) (by omega)
      have hc0 : H[Hl.size + ka]? = some (vp_cell (aC 20) ((σ.2.2.1 (ka + 3)).2, .inl fun i => Int32.ofInt (σ.2.2.2.1 (ka + 3) i))) := by
        have := hI.2.2.1 ka _ hwa
        rw [e_en_i c1 (by omega)] at this
        exact this
      have hc1 : H[Hl.size + kb]? = some (vp_cell (aC 20) ((σ.2.2.1 (kb + 3)).2, .inl fun i => Int32.ofInt (σ.2.2.2.1 (kb + 3) i))) := by
        have := hI.2.2.1 kb _ hwb
        rw [e_en_i c2 (by omega)] at this
        exact this
      intro T hT X
      obtain ⟨-, k0, hk0, cm0, hkk0⟩ := (hK.2 0 _ rfl).1 (σ.2.2.1 (ka + 3)).2 (fun j => .int (Int32.ofInt (σ.2.2.2.1 (ka + 3) j)))
      obtain ⟨vm', X', step⟩ := X.arraycopy hx hown (hts _ hlk) (hts _ hnat) (hts _ hstat) (hts _ hini) (src := Hl.size + ka) (dst := Hl.size + kb) (cs := vp_cell (aC 20) ((σ.2.2.1 (ka + 3)).2, .inl fun i => Int32.ofInt (σ.2.2.2.1 (ka + 3) i))) (cd := vp_cell (aC 20) ((σ.2.2.1 (kb + 3)).2, .inl fun i => Int32.ofInt (σ.2.2.2.1 (kb + 3) i))) (srcPos := Int32.ofInt sp) (destPos := Int32.ofInt dp) (n := Int32.ofInt n) (by rw [hT]; exact hc0) (by rw [hT]; exact hc1)
        (fun _ h => by cases h) (fun _ h => by cases h) (fun h => by cases h) (fun h => by cases h) hk0 hk0 hkk0 hkk0 (by rfl) (e_nneg c5) (e_nneg c4) (e_nneg c3)
        (by rw [e_nn c5, e_nn c3]; show ¬ _ > ((arrV _ _ _).slots.size : Int); rw [arrV_size]; omega)
        (by rw [e_nn c4, e_nn c3]; show ¬ _ > ((arrV _ _ _).slots.size : Int); rw [arrV_size]; omega)
        (fun vm₁ _ i hi => by
          have e : (vp_cell (aC 20) ((σ.2.2.1 (ka + 3)).2, .inl fun i => Int32.ofInt (σ.2.2.2.1 (ka + 3) i))).slots.getD ((Int32.ofInt sp).toNatClampNeg + i) .null = .int (Int32.ofInt (σ.2.2.2.1 (ka + 3) ((Int32.ofInt sp).toNatClampNeg + i))) := by
            show (arrV _ _ _).slots.getD _ _ = _
            rw [e_clamp] at hi ⊢
            rw [Array.getD_eq_getD_getElem?, arrV_read _ _ (by omega)]
            rfl
          rw [e]
          exact ⟨rfl, trivial⟩)
        (g := F0 m pc lss (.int (Int32.ofInt n) :: .int (Int32.ofInt dp) :: .ref (Hl.size + kb) :: .int (Int32.ofInt sp) :: .ref (Hl.size + ka) :: t.map (e_cv Hl.size B))) rfl (by rw [hml]; exact hL.1) (rest := t.map (e_cv Hl.size B)) rfl (by rw [hb]; exact hd) hR1 (by
          show 2 * 0 + _ + _ ≤ _
          rw [e_cat_cv]
          have : nativeFrameWords "java/lang/System" "arraycopy" 5 + 11 ≤ 50 := by decide
          omega)
      have e1 : copied (vp_cell (aC 20) ((σ.2.2.1 (ka + 3)).2, .inl fun i => Int32.ofInt (σ.2.2.2.1 (ka + 3) i))) (vp_cell (aC 20) ((σ.2.2.1 (kb + 3)).2, .inl fun i => Int32.ofInt (σ.2.2.2.1 (kb + 3) i))) (Int32.ofInt sp) (Int32.ofInt dp) (Int32.ofInt n) = vp_cell (aC 20) ((σ.2.2.1 (kb + 3)).2, .inl (va_cpy (fun i => Int32.ofInt (σ.2.2.2.1 (ka + 3) i)) (fun i => Int32.ofInt (σ.2.2.2.1 (kb + 3) i)) (e_w32 sp).toNat (e_w32 dp).toNat (e_w32 n).toNat)) := by
        have := va_copied (fun z => Value.int z) (aC 20) (aC 20) (n0 := (σ.2.2.1 (ka + 3)).2) (n1 := (σ.2.2.1 (kb + 3)).2) (sp := (Int32.ofInt sp).toNatClampNeg) (dp := (Int32.ofInt dp).toNatClampNeg) (n := (Int32.ofInt n).toNatClampNeg) (fun i => Int32.ofInt (σ.2.2.2.1 (ka + 3) i)) (fun i => Int32.ofInt (σ.2.2.2.1 (kb + 3) i)) (by rw [e_clamp, e_clamp]; omega)
        rw [e_clamp, e_clamp, e_clamp] at this
        unfold copied
        rw [e_clamp, e_clamp, e_clamp]
        exact this
      rw [e1] at X' step
      have hl : Hl.size + kb < H.size := (Array.getElem?_eq_some_iff.mp hc1).1
      generalize hnc : vp_cell (aC 20) ((σ.2.2.1 (kb + 3)).2, .inl (va_cpy (fun i => Int32.ofInt (σ.2.2.2.1 (ka + 3) i)) (fun i => Int32.ofInt (σ.2.2.2.1 (kb + 3) i)) (e_w32 sp).toNat (e_w32 dp).toNat (e_w32 n).toNat)) = nc at X' step
      have hheap : ((T.setVm vm').setCell (Hl.size + kb) nc).heap = H.setIfInBounds (Hl.size + kb) nc := by rw [← hT]; rfl
      have oq : ∀ q : Nat, q ≠ Hl.size + kb → (H.setIfInBounds (Hl.size + kb) nc)[q]? = H[q]? := fun q hq => by simp [Array.getElem?_setIfInBounds, Ne.symm hq]
      have hz : (H.setIfInBounds (Hl.size + kb) nc).size = H.size := by simp
      have hI1 : e_I Hl.size B aC D σ0 (e_cpy σ (ka + 3) (kb + 3) (e_w32 sp).toNat (e_w32 dp).toNat (e_w32 n).toNat) (H.setIfInBounds (Hl.size + kb) nc) := by
        refine e_cpyP hI hlb ?_ hz oq
        rw [e_en_i (σ := e_cpy σ (ka + 3) (kb + 3) (e_w32 sp).toNat (e_w32 dp).toNat (e_w32 n).toNat) (k := 20) c2 (by omega)]
        show (H.setIfInBounds (Hl.size + kb) nc)[Hl.size + kb]? = some (vp_cell (aC 20) _)
        rw [← hnc]
        simp only [Array.getElem?_setIfInBounds, if_true, hl]
        congr 4
        funext i
        simp only [e_cpy, va_up, if_true, va_cpy]
        split <;> rfl
      obtain ⟨t2, a1, b1⟩ := kk lss _ (locs ++ _) hL hI1 ⟨by rw [hz]; exact hS.1, fun q g1 g2 => by
        rw [oq q (fun e => g2 (by rw [e]; exact Nat.le_add_right _ _))]
        exact hS.2.1 q g1 g2, fun q hq => by
        rcases List.mem_append.mp hq with h | h
        · exact hS.2.2 q h
        · obtain ⟨z, -, hz⟩ := List.mem_map.mp h
          rw [← hz]
          exact Nat.le_add_right _ _⟩ _ hheap X'
      exact ⟨t2, step t2 a1, b1⟩
    next => cases hs
  next => cases hs
/-- the whole code of a method: what the engine comes to, the machine comes to -/
theorem e_run_ok (hG : G = e_Go p l e R s m args below meth c Q nL D aC B Hl σ0 n0 s0) (C : e_Cx p s m args c cc nL own D aC B Hl σ0) (hcls : ∀ i q, vwCl[i]? = some q → ∃ ty0, e_cl i q ty0) {ms : List eM} {cd : List (Option eI)} (hcode : ∀ pc ins len r, cd[pc]? = some (some (ins, len, r)) → decode cc pc = .ok (ins, len) ∧ (if e_ln ins = 0 then len else e_ln ins) = len ∧ e_rok own (meth.name = "<init>") nL pc ins r ∧ e_iok ms own ins r) {call : eF} {d : Nat} (hcall : ∀ i M vs σ r σ', ms[i]? = some M → call i vs σ = some (r, σ') → e_Met l D aC B Hl σ0 d M vs σ r σ') (hmono : ∀ i vs σ r σ', call i vs σ = some (r, σ') → σ.1 ≤ σ'.1 ∧ σ.2.1 ≤ σ'.2.1) (hR1 : d + 1 ≤ R.frames) (hR2 : 60 * d + 60 ≤ R.locals) {rr : Option eV} {σ' : eH} (hr1 : σ'.1 - n0 ≤ R.cells) (hr2 : σ'.2.1 - s0 ≤ R.slots)
    (hret : ∀ pc ls st ins len r, cd[pc]? = some (some (ins, len, r)) → e_rt ins r st = some rr → G pc ls st σ') : ∀ (f pc : Nat) (ls : eL) (st : List eV) (σ : eH), n0 ≤ σ.1 → s0 ≤ σ.2.1 → e_run call cd f pc ls st σ = some (rr, σ') → G pc ls st σ
  | 0, _, _, _, _, _, _, h => by cases h
  | f + 1, pc, ls, st, σ, hn0, hs0, h => by
    have ih := e_run_ok hG C hcls hcode hcall hmono hR1 hR2 hr1 hr2 hret f
    unfold e_run at h
    split at h
    next en he =>
      obtain ⟨ins, len, r⟩ := en
      dsimp only at h
      obtain ⟨hd, hln, hrk, hio⟩ := hcode _ _ _ _ he
      split at h
      · obtain ⟨v, h1, h2⟩ := Option.map_eq_some_iff.mp h
        cases h2
        exact hret _ _ _ _ _ _ he h1
      · split at h
        next hisc =>
          obtain ⟨q, h1, h2⟩ := Option.bind_eq_some_iff.mp h
          have hm := e_inv_mono hmono h1
          have hm2 := e_run_mono hmono _ _ _ _ _ _ _ h2
          have kk := ih _ _ _ _ (by omega) (by omega) h2
          have hl3 : len = 3 := by
            cases ins <;> first | (cases hisc; done) | exact hln.symm
          subst hl3
          unfold e_inv at h1
          split at h1
          next hk =>
            cases ins with
            | invokestatic i =>
              rcases hio with ⟨-, q1, q2, q3, q4⟩ | ⟨hk2, -⟩ | ⟨hk2, -⟩ | ⟨hk2, -⟩ | ⟨hk2, -⟩
              · exact e_acp_ok hG C (by omega) (by omega) hd q1 q2 q3 q4 h1 kk
              · omega
              · omega
              · omega
              · omega
            | invokespecial i =>
              rcases hio with ⟨hk2, -⟩ | ⟨M, n, -, -, -, -, hk2⟩
              · omega
              · omega
            | invokevirtual i =>
              have := hio.1
              omega
            | _ => cases hisc
          next hk =>
            split at h1
            next hk2 =>
              cases ins with
              | invokestatic i =>
                rcases hio with ⟨hk3, -⟩ | ⟨hk3, -⟩ | ⟨hk3, -⟩ | ⟨hk3, -⟩ | ⟨hk3, -⟩ <;> omega
              | invokespecial i =>
                rcases hio with ⟨-, q1, q2, q3⟩ | ⟨M, n, -, -, -, -, hk3⟩
                · split at h1
                  next a t =>
                    split at h1
                    next hsum =>
                      cases h1
                      have C' := C
                      obtain ⟨hx, hb, hml, hown, hts, hK, hbl, hX, z0, z1, z2, hStr, hEx⟩ := C'
                      subst hG
                      intro lss H locs hL hI hS
                      exact W.objInit hx hb hown (hts _ q1) (hts _ q2) (hts _ q3) (g := F0 m pc lss (.ref (e_ad Hl.size B a) :: t.map (e_cv Hl.size B))) rfl (by rw [hml]; exact hL.1) rfl hd (by omega) (by show 2 * 0 + _ + 12 ≤ _; rw [e_cat_cv]; omega) (kk lss H locs hL hI hS)
                    next => cases h1
                  next => cases h1
                · omega
              | invokevirtual i =>
                have := hio.1
                omega
              | _ => cases hisc
            next hk2 =>
              split at h1
              next hk3 =>
                cases ins with
                | invokestatic i =>
                  rcases hio with ⟨hk4, -⟩ | ⟨-, q1, q2, q3, q4⟩ | ⟨hk4, -⟩ | ⟨hk4, -⟩ | ⟨hk4, -⟩
                  · omega
                  · split at h1
                    next y x t =>
                      split at h1
                      next hsum =>
                        cases h1
                        have C' := C
                        obtain ⟨hx, hb, hml, hown, hts, hK, hbl, hX, z0, z1, z2, hStr, hEx⟩ := C'
                        subst hG
                        intro lss H locs hL hI hS
                        have kk := kk lss H locs hL hI hS
                        refine va_mmax hx hb (by rw [hml]; exact hL.1.symm) hown (hts _ q1) (hts _ q2) (hts _ q3) (hts _ q4) (by omega) (by rw [e_cat_cv]; omega) (by omega) (by omega) hd ?_
                        simp only [e_lt32]
                        split at kk
                        next hc => rw [if_pos hc]; exact kk
                        next hc => rw [if_neg hc]; exact kk
                      next => cases h1
                    next => cases h1
                  · omega
                  · omega
                  · omega
                | invokespecial i =>
                  rcases hio with ⟨hk4, -⟩ | ⟨M, n, -, -, -, -, hk4⟩ <;> omega
                | invokevirtual i =>
                  have := hio.1
                  omega
                | _ => cases hisc
              next hk3 =>
                split at h1
                next hk4 =>
                  cases ins with
                  | invokestatic i =>
                    rcases hio with ⟨hk5, -⟩ | ⟨hk5, -⟩ | ⟨-, q1, q2, q3, q4⟩ | ⟨hk5, -⟩ | ⟨hk5, -⟩
                    · omega
                    · omega
                    · split at h1
                      next y x t =>
                        split at h1
                        next hsum =>
                          cases h1
                          have C' := C
                          obtain ⟨hx, hb, hml, hown, hts, hK, hbl, hX, z0, z1, z2, hStr, hEx⟩ := C'
                          subst hG
                          intro lss H locs hL hI hS
                          have kk := kk lss H locs hL hI hS
                          refine va_mmin hx hb (by rw [hml]; exact hL.1.symm) hown (hts _ q1) (hts _ q2) (hts _ q3) (hts _ q4) (by omega) (by rw [e_cat_cv]; omega) (by omega) (by omega) hd ?_
                          simp only [e_lt32]
                          split at kk
                          next hc => rw [if_pos hc]; exact kk
                          next hc => rw [if_neg hc]; exact kk
                        next => cases h1
                      next => cases h1
                    · omega
                    · omega
                  | invokespecial i =>
                    rcases hio with ⟨hk5, -⟩ | ⟨M, n, -, -, -, -, hk5⟩ <;> omega
                  | invokevirtual i =>
                    have := hio.1
                    omega
                  | _ => cases hisc
                next hk4 =>
                  split at h1
                  next hk5 =>
                    cases ins with
                    | invokestatic i =>
                      rcases hio with ⟨hk6, -⟩ | ⟨hk6, -⟩ | ⟨hk6, -⟩ | ⟨-, q1, q2, q3, q4⟩ | ⟨hk6, -⟩
                      · omega
                      · omega
                      · omega
                      · split at h1
                        next x t =>
                          split at h1
                          next hsum =>
                            cases h1
                            have C' := C
                            obtain ⟨hx, hb, hml, hown, hts, hK, hbl, hX, z0, z1, z2, hStr, hEx⟩ := C'
                            subst hG
                            intro lss H locs hL hI hS
                            have kk := kk lss H locs hL hI hS
                            have z : e_w32 0 = 0 := by decide
                            refine va_mabs hx hb (by rw [hml]; exact hL.1.symm) hown (hts _ q1) (hts _ q2) (hts _ q3) (hts _ q4) (by omega) (by rw [e_cat_cv]; omega) (by omega) (by omega) hd ?_
                            rw [e_z32, e_sub, Int.zero_sub]
                            simp only [e_le32, z]
                            split at kk
                            next hc => rw [if_pos hc]; exact kk
                            next hc => rw [if_neg hc]; exact kk
                          next => cases h1
                        next => cases h1
                      · omega
                    | invokespecial i =>
                      rcases hio with ⟨hk6, -⟩ | ⟨M, n, -, -, -, -, hk6⟩ <;> omega
                    | invokevirtual i =>
                      have := hio.1
                      omega
                    | _ => cases hisc
                  next hk5 => exact e_call_ok hG C hcall hmono hR1 hR2 hd hio hisc hk hk2 hk3 hk4 hk5 h1 hn0 hs0 (by omega) (by omega) kk
        next =>
          obtain ⟨q, h1, h2⟩ := Option.bind_eq_some_iff.mp h
          have hm := e_stp_mono h1
          have hm2 := e_run_mono hmono _ _ _ _ _ _ _ h2
          exact e_stp_ok hG C hcls hd hln hrk h1 hn0 hs0 (by omega) (by omega) (ih _ _ _ _ (by omega) (by omega) h2)
    next => cases h
end ES2
