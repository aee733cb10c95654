section EN
variable {p : Program} {l : Launch} {e : Env} {R : Room} {s : State} {m : MethodId} {args : Array Value} {below : List Frame} {meth : Method} {c : Code} {Q : State → Prop} {cc : ByteArray} {nL : Nat} {own : String} {D : va_G} {aC : Nat → ClassId} {B : Nat × Nat × Nat × Option Nat} {Hl : Heap} {σ0 : eH} {n0 s0 : Nat}
variable {H : Heap} {locs : List Loc} {pc : Nat} {lss : Array Slot} {rest : List Value} {σ : eH} {r : eR}
theorem e_newo {isI : Prop} {i : Nat} (C : e_Cx p s m args c cc nL own D aC B Hl σ0) (hcls : ∀ i q, vwCl[i]? = some q → ∃ ty0, e_cl i q ty0) (hI : e_I Hl.size B aC D σ0 σ H) (hS : va_S (fun q => Hl.size ≤ q) Hl H locs) (hr : e_rok own isI nL pc (.new i) r) (hn0 : n0 ≤ σ.1) (hs0 : s0 ≤ σ.2.1) (hr1 : σ.1 + 1 - n0 ≤ R.cells) (hr2 : σ.2.1 + r.2.1 - s0 ≤ R.slots) (hd : decode cc pc = .ok (.new i, 3))
    (kk : ∀ (H1 : Heap), e_I Hl.size B aC D σ0 (e_new σ r.1 r.2.1) H1 → va_S (fun q => Hl.size ≤ q) Hl H1 locs → W p l e R s m args below meth c H1 locs (σ.1 + 1 - n0) (σ.2.1 + r.2.1 - s0) Q (F0 m (pc + 3) lss (va_rf (e_rf Hl.size B (σ.1 + 2)) :: rest))) : W p l e R s m args below meth c H locs (σ.1 - n0) (σ.2.1 - s0) Q (F0 m pc lss rest) := by
  obtain ⟨hx, hb, hml, hown, hts, hK, hbl, hX, z0, z1, z2, hStr, hEx⟩ := C
  obtain ⟨h13, ⟨Cn, T, N⟩, hc, hN, hlk⟩ := hr
  obtain ⟨ty0, k1, k2, k3, k4, k5, k6, k7⟩ := hcls _ _ hc
  dsimp only at k1 k2 k3 k4 k5 k6 k7 hlk hN
  have hKn := hK.1 r.1 _ hc
  have hsz := hI.2.1
  have h3 := hI.1
  refine W.newcK hx hb hown (hts _ hlk) (hts _ k6) (hts _ k7) rfl hd (by omega) (by rw [← hN]; omega) hKn.2.1 rfl fun H1 kC hkC e1 z oq => ?_
  have e2 : e_rf Hl.size B (σ.1 + 2) = some H.size := by
    show some (e_ad Hl.size B σ.1) = _
    rw [hsz, show σ.1 = (σ.1 - 3) + 3 by omega]
    rfl
  have kk := kk H1 (e_newP hI (kd := r.1) (len := r.2.1) (by omega) ?_ z oq) (e_S_new hS z oq)
  · rw [e2] at kk
    exact W.cs (by omega) (by omega) kk
  · rw [e_en_o (k := r.1) (by simp [e_new, va_up]) h13, ← hsz]
    refine ⟨_, hc, (u_born ty0 hts k5 hKn hkC e1 k1).to (fun j hj => ?_)⟩
    have hj' : j < e_nf r.1 := by rw [← k4]; exact hj
    unfold vp_V
    rw [List.getD_eq_getElem?_getD, List.getElem?_map, List.getElem?_range hj']
    simp only [Option.map_some, Option.getD_some, e_new, va_up, if_true]
    rcases k3 j hj with ⟨t, ht⟩ | ⟨t, ht⟩ | ⟨t, ht⟩ | ⟨t, ht⟩
    · rw [ht, t]; rfl
    · rw [ht, t]; rfl
    · rw [ht, t]; rfl
    · rw [t]
      rcases ht with ⟨C, ht⟩ | ⟨C, ht⟩ <;> (rw [ht]; rfl)
theorem e_newa {isI : Prop} {t : ArrayType} {n : Int} (C : e_Cx p s m args c cc nL own D aC B Hl σ0) (hI : e_I Hl.size B aC D σ0 σ H) (hS : va_S (fun q => Hl.size ≤ q) Hl H locs) (hr : e_rok own isI nL pc (.newarray t) r) (hn : 0 ≤ e_w32 n) (hn2 : e_w32 n ≤ 65536) (hn0 : n0 ≤ σ.1) (hs0 : s0 ≤ σ.2.1) (hr1 : σ.1 + 1 - n0 ≤ R.cells) (hr2 : σ.2.1 + (e_w32 n).toNat - s0 ≤ R.slots) (hd : decode cc pc = .ok (.newarray t, 2))
    (kk : ∀ (H1 : Heap), e_I Hl.size B aC D σ0 (e_new σ r.1 (e_w32 n).toNat) H1 → va_S (fun q => Hl.size ≤ q) Hl H1 locs → W p l e R s m args below meth c H1 locs (σ.1 + 1 - n0) (σ.2.1 + (e_w32 n).toNat - s0) Q (F0 m (pc + 2) lss (va_rf (e_rf Hl.size B (σ.1 + 2)) :: rest))) : W p l e R s m args below meth c H locs (σ.1 - n0) (σ.2.1 - s0) Q (F0 m pc lss (.int (Int32.ofInt n) :: rest)) := by
  obtain ⟨hx, hb, hml, hown, hts, hK, hbl, hX, z0, z1, z2, hStr, hEx⟩ := C
  have hsz := hI.2.1
  have h3 := hI.1
  have e2 : e_rf Hl.size B (σ.1 + 2) = some H.size := by
    show some (e_ad Hl.size B σ.1) = _
    rw [hsz, show σ.1 = (σ.1 - 3) + 3 by omega]
    rfl
  have key : ∀ (ty : FieldType) (t0 : Nat), newarray.typeOf t = ty → componentBytes ty ≤ 8 → Cond.arrayClass ty ∈ lw_good → (e_tys aC)[t0]? = some (aC r.1, ty) → va_RA s (aC r.1) ty = (s.vm.findClass ("[" ++ ty.toString) = some (aC r.1)) → (arrV (aC r.1) (e_w32 n).toNat (fun _ => defaultValue ty) = vp_cell (aC r.1) (e_w32 n |>.toNat, .inl fun _ => Int32.ofInt 0) ∧ (r.1 = 20 ∨ r.1 = 22 ∨ r.1 = 23) ∨ arrV (aC r.1) (e_w32 n).toNat (fun _ => defaultValue ty) = vp_cell (aC r.1) (e_w32 n |>.toNat, .inr (.inl fun _ => Int64.ofInt 0)) ∧ r.1 = 21) → W p l e R s m args below meth c H locs (σ.1 - n0) (σ.2.1 - s0) Q (F0 m pc lss (.int (Int32.ofInt n) :: rest)) := by
    intro ty t0 hty hcb hw ht hra hv
    subst hty
    refine va_newaK hx hb (hts _ hw) rfl hd rfl (e_nneg hn) (e_clamp n) ?_ (by omega) (by omega) rfl fun H1 cA e1 z oq hAr hNm => ?_
    · have : (e_w32 n).toNat ≤ 65536 := by omega
      have := Nat.mul_le_mul this hcb
      omega
    have hcA : cA = aC r.1 := by
      have h1 := (hK.2 t0 _ ht).2
      dsimp only at h1
      rw [hra] at h1
      exact Option.some.inj (hNm.symm.trans h1)
    subst hcA
    have kk := kk H1 (e_newP hI (kd := r.1) (len := (e_w32 n).toNat) (by omega) ?_ z oq) (e_S_new hS z oq)
    · rw [e2] at kk
      exact W.cs (by omega) (by omega) kk
    · rw [← hsz]
      rcases hv with ⟨hv, h20⟩ | ⟨hv, h21⟩
      · rw [e_en_i (k := r.1) (by simp [e_new, va_up]) h20]
        show H1[H.size]? = some (vp_cell (aC r.1) _)
        rw [e1, hv]
        simp [e_new, va_up]
      · rw [e_en_l (by simp [e_new, va_up, h21])]
        show H1[H.size]? = some (vp_cell (aC 21) _)
        rw [e1, hv, h21]
        simp [e_new, va_up]
  rcases hr with ⟨rfl, h20, hw⟩ | ⟨rfl, h20, hw⟩ | ⟨rfl, h20, hw⟩ | ⟨rfl, h20, hw⟩
  · exact key .int 0 rfl (by decide) hw (by rw [h20]; rfl) rfl (Or.inl ⟨rfl, by omega⟩)
  · exact key .long 1 rfl (by decide) hw (by rw [h20]; rfl) rfl (Or.inr ⟨rfl, by omega⟩)
  · exact key .byte 2 rfl (by decide) hw (by rw [h20]; rfl) rfl (Or.inl ⟨rfl, by omega⟩)
  · exact key .boolean 3 rfl (by decide) hw (by rw [h20]; rfl) rfl (Or.inl ⟨rfl, by omega⟩)
theorem e_anew {isI : Prop} {i : Nat} {n : Int} (C : e_Cx p s m args c cc nL own D aC B Hl σ0) (hI : e_I Hl.size B aC D σ0 σ H) (hS : va_S (fun q => Hl.size ≤ q) Hl H locs) (hr : e_rok own isI nL pc (.anewarray i) r) (hn : 0 ≤ e_w32 n) (hn2 : e_w32 n ≤ 65536) (hn0 : n0 ≤ σ.1) (hs0 : s0 ≤ σ.2.1) (hr1 : σ.1 + 1 - n0 ≤ R.cells) (hr2 : σ.2.1 + (e_w32 n).toNat - s0 ≤ R.slots) (hd : decode cc pc = .ok (.anewarray i, 3))
    (kk : ∀ (H1 : Heap), e_I Hl.size B aC D σ0 (e_new σ r.1 (e_w32 n).toNat) H1 → va_S (fun q => Hl.size ≤ q) Hl H1 locs → W p l e R s m args below meth c H1 locs (σ.1 + 1 - n0) (σ.2.1 + (e_w32 n).toNat - s0) Q (F0 m (pc + 3) lss (va_rf (e_rf Hl.size B (σ.1 + 2)) :: rest))) : W p l e R s m args below meth c H locs (σ.1 - n0) (σ.2.1 - s0) Q (F0 m pc lss (.int (Int32.ofInt n) :: rest)) := by
  obtain ⟨hx, hb, hml, hown, hts, hK, hbl, hX, z0, z1, z2, hStr, hEx⟩ := C
  have hsz := hI.2.1
  have h3 := hI.1
  have e2 : e_rf Hl.size B (σ.1 + 2) = some H.size := by
    show some (e_ad Hl.size B σ.1) = _
    rw [hsz, show σ.1 = (σ.1 - 3) + 3 by omega]
    rfl
  obtain ⟨Cn, hC, hlk, hov⟩ := hr
  have h24 : 24 ≤ r.1 := by omega
  have ht : ∃ t0 : Nat, (e_tys aC)[t0]? = some (aC r.1, FieldType.object Cn) := by
    rcases hC with ⟨h, rfl⟩ | ⟨h, rfl⟩ | ⟨h, rfl⟩
    · exact ⟨4, by rw [h]; rfl⟩
    · exact ⟨5, by rw [h]; rfl⟩
    · exact ⟨6, by rw [h]; rfl⟩
  obtain ⟨t0, ht⟩ := ht
  refine W.anew hx hb hown (hts _ hlk) (hEx _ hov) rfl hd rfl (e_nneg hn) (by rw [e_clamp]; omega) (by omega) (by rw [e_clamp]; omega) fun cA kA comp f1 f2 f3 f4 => ?_
  generalize hH1 : H.push ({ cls := cA, slots := Array.replicate (Int32.ofInt n).toNatClampNeg .null, vm := .none } : Cell) = H1
  have z : H1.size = H.size + 1 := by rw [← hH1, Array.size_push]
  have e1 : H1[H.size]? = some (arrV cA (e_w32 n).toNat (fun _ => .null)) := by rw [← hH1, Array.getElem?_push_size, ← arrV_new, e_clamp]
  have oq : ∀ q : Nat, q < H.size → H1[q]? = H[q]? := fun q hq => by rw [← hH1, Array.getElem?_push, if_neg (Nat.ne_of_lt hq)]
  have hcA : cA = aC r.1 := by
    obtain ⟨-, -, -, -, -, h1⟩ := (hK.2 t0 _ ht).2
    exact Option.some.inj (f1.symm.trans h1)
  subst hcA
  have kk := kk H1 (e_newP hI (kd := r.1) (len := (e_w32 n).toNat) (by omega) ?_ z oq) (e_S_new hS z oq)
  · rw [e2] at kk
    exact W.cs (by omega) (by rw [e_clamp]; omega) kk
  · rw [← hsz, e_en_r (k := r.1) (by simp [e_new, va_up]) h24]
    show H1[H.size]? = some (vp_cell (aC r.1) _)
    rw [e1]
    simp only [e_new, va_up, if_true]
    rfl
theorem e_outer (c : ClassId) (N h0 : Nat) : ∀ i : Nat, Jvm.Free.Multi.outerC c N h0 i = arrV c N (fun j => va_rf (if j < i then some (h0 + 1 + j) else none))
  | 0 => by
    show ({ cls := c, slots := Array.replicate N .null, vm := .none } : Cell) = _
    rw [arrV_new]
    refine congrArg (arrV c N) (funext fun j => ?_)
    simp [va_rf]
  | i + 1 => by
    show (Jvm.Free.Multi.outerC c N h0 i).setSlot i (.ref (h0 + 1 + i)) = _
    rw [e_outer c N h0 i, arrV_store]
    refine congrArg (arrV c N) (funext fun j => ?_)
    unfold updV
    by_cases h1 : j = i
    · subst h1
      simp [va_rf]
    · by_cases h : j < i
      · simp [h1, h, Nat.lt_succ_of_lt h]
      · simp [h1, h, show ¬ j < i + 1 by omega]
theorem e_mnaP {h0 : Nat} {B : Nat × Nat × Nat × Option Nat} {aC : Nat → ClassId} {D : va_G} {σ0 σ : eH} {H H1 : Heap} (hI : e_I h0 B aC D σ0 σ H) {N K : Nat} (hz : H1.size = H.size + 1 + N) (oq : ∀ q : Nat, q < H.size → H1[q]? = H[q]?) (hout : H1[H.size]? = some (vp_cell (aC 27) (N, .inr (.inr (.inr (.inr (fun i => if i < N then some (H.size + 1 + i) else none))))))) (hrow : ∀ j : Nat, j < N → H1[H.size + 1 + j]? = some (vp_cell (aC 20) (K, .inl fun _ => Int32.ofInt 0))) : e_I h0 B aC D σ0 (e_mna σ N K) H1 := by
  obtain ⟨i1, i2, i3, i4, i5, i6⟩ := hI
  refine ⟨by show 3 ≤ σ.1 + 1 + N; omega, by show H1.size = h0 + (σ.1 + 1 + N - 3); omega, ?_, fun a ha => ?_, fun a ha => ?_, fun a ha => ?_⟩
  · intro k q hk
    have hl := (List.getElem?_eq_some_iff.mp hk).1
    rw [e_ws_len] at hl
    have hl' : k < σ.1 + 1 + N - 3 := hl
    rw [e_ws_get (by show k + 3 < σ.1 + 1 + N; omega)] at hk
    cases hk
    by_cases h1 : k + 3 < σ.1
    · have e1 : e_en h0 B aC (e_mna σ N K) (k + 3) = e_en h0 B aC σ (k + 3) := by
        unfold e_en e_mna va_up
        simp only [if_neg (show ¬ k + 3 = σ.1 by omega), if_neg (show ¬ (σ.1 < k + 3 ∧ k + 3 < σ.1 + 1 + N) by omega), if_neg (show ¬ (σ.1 ≤ k + 3 ∧ k + 3 < σ.1 + 1 + N) by omega)]
      rw [e1]
      have h2 := i3 k _ (e_ws_get h1)
      exact h2.kept (oq _ h2.lt)
    · by_cases h2 : k + 3 = σ.1
      · have e1 : e_en h0 B aC (e_mna σ N K) (k + 3) = .inl (aC 27, N, .inr (.inr (.inr (.inr fun i => if i < N then some (H.size + 1 + i) else none)))) := by
          rw [h2, e_en_r (k := 27) (by simp [e_mna]) (by omega)]
          simp only [e_mna, va_up, if_true]
          congr 7
          funext i
          split
          · show some (e_ad h0 B (σ.1 + 1 + i)) = _
            rw [show σ.1 + 1 + i = (k + 1 + i) + 3 by omega]
            show some (h0 + (k + 1 + i)) = _
            congr 1
            omega
          · rfl
        rw [e1]
        show H1[h0 + k]? = _
        rw [show h0 + k = H.size by omega]
        exact hout
      · have e1 : e_en h0 B aC (e_mna σ N K) (k + 3) = .inl (aC 20, K, .inl fun _ => Int32.ofInt 0) := by
          rw [e_en_i (k := 20) (by simp only [e_mna, if_neg h2, if_pos (show σ.1 < k + 3 ∧ k + 3 < σ.1 + 1 + N by omega)]) (by omega)]
          simp only [e_mna, if_neg h2, if_pos (show σ.1 < k + 3 ∧ k + 3 < σ.1 + 1 + N by omega), if_pos (show σ.1 ≤ k + 3 ∧ k + 3 < σ.1 + 1 + N by omega)]
        rw [e1]
        show H1[h0 + k]? = _
        have := hrow (h0 + k - H.size - 1) (by omega)
        rw [show H.size + 1 + (h0 + k - H.size - 1) = h0 + k by omega] at this
        exact this
  · have ha' : σ.1 + 1 + N ≤ a := ha
    show (if a = σ.1 then (27, N) else if σ.1 < a ∧ a < σ.1 + 1 + N then (20, K) else σ.2.2.1 a).1 = 99
    rw [if_neg (by omega), if_neg (by omega)]
    exact i4 a (by omega)
  · refine ⟨?_, ?_, ?_⟩
    · rw [← (i5 a ha).1]
      show (if a = σ.1 then (27, N) else if σ.1 < a ∧ a < σ.1 + 1 + N then (20, K) else σ.2.2.1 a) = _
      rw [if_neg (by omega), if_neg (by omega)]
    · rw [← (i5 a ha).2.1]
      show (if σ.1 ≤ a ∧ a < σ.1 + 1 + N then (fun _ => 0) else σ.2.2.2.1 a) = _
      rw [if_neg (by omega)]
    · rw [← (i5 a ha).2.2]
      show va_up _ _ _ a = _
      unfold va_up
      rw [if_neg (by omega)]
  · show (if a = σ.1 then (27, N) else if σ.1 < a ∧ a < σ.1 + 1 + N then (20, K) else σ.2.2.1 a).1 ≠ 13 ∧ (if a = σ.1 then (27, N) else if σ.1 < a ∧ a < σ.1 + 1 + N then (20, K) else σ.2.2.1 a).1 ≠ 28 ∧ (if a = σ.1 then (27, N) else if σ.1 < a ∧ a < σ.1 + 1 + N then (20, K) else σ.2.2.1 a).1 ≠ 29
    split
    · dsimp only
      omega
    · split
      · dsimp only
        omega
      · exact i6 a ha
theorem e_mnew {isI : Prop} {i d : Nat} {n k : Int} (C : e_Cx p s m args c cc nL own D aC B Hl σ0) (hI : e_I Hl.size B aC D σ0 σ H) (hS : va_S (fun q => Hl.size ≤ q) Hl H locs) (hr : e_rok own isI nL pc (.multianewarray i d) r) (hn : 0 ≤ e_w32 n) (hn2 : e_w32 n ≤ 65536) (hk : 0 ≤ e_w32 k) (hk2 : e_w32 k ≤ 65536) (hn0 : n0 ≤ σ.1) (hs0 : s0 ≤ σ.2.1) (hr1 : σ.1 + 1 + (e_w32 n).toNat - n0 ≤ R.cells) (hr2 : σ.2.1 + (e_w32 n).toNat + (e_w32 n).toNat * (e_w32 k).toNat - s0 ≤ R.slots) (hd : decode cc pc = .ok (.multianewarray i d, 4))
    (kk : ∀ (H1 : Heap), e_I Hl.size B aC D σ0 (e_mna σ (e_w32 n).toNat (e_w32 k).toNat) H1 → va_S (fun q => Hl.size ≤ q) Hl H1 locs → W p l e R s m args below meth c H1 locs (σ.1 + 1 + (e_w32 n).toNat - n0) (σ.2.1 + (e_w32 n).toNat + (e_w32 n).toNat * (e_w32 k).toNat - s0) Q (F0 m (pc + 4) lss (va_rf (e_rf Hl.size B (σ.1 + 2)) :: rest))) : W p l e R s m args below meth c H locs (σ.1 - n0) (σ.2.1 - s0) Q (F0 m pc lss (.int (Int32.ofInt k) :: .int (Int32.ofInt n) :: rest)) := by
  obtain ⟨hx, hb, hml, hown, hts, hK, hbl, hX, z0, z1, z2, hStr, hEx⟩ := C
  obtain ⟨rfl, hlk, hov, har⟩ := hr
  have hsz := hI.2.1
  have h3 := hI.1
  have e2 : e_rf Hl.size B (σ.1 + 2) = some H.size := by
    show some (e_ad Hl.size B σ.1) = _
    rw [hsz, show σ.1 = (σ.1 - 3) + 3 by omega]
    rfl
  have hN := e_clamp n
  have hM := e_clamp k
  intro T hT Xs
  obtain ⟨vm₁, cA, comp, -, fA, fC, hO, -, X', step⟩ := Xs.multianewarray2F hx (ty := .int) hown (hts _ hlk) (hEx _ hov) (hts _ har) (g := F0 m pc lss (.int (Int32.ofInt k) :: .int (Int32.ofInt n) :: rest)) rfl (by rw [hb]; exact hd) rfl (e_nneg hn) (e_nneg hk) (by rw [hN]; omega) (by rw [hM]; show _ * 4 ≤ _; omega) (by rw [hM]; omega) rfl rfl (by rw [hN]; omega) (by rw [hN, hM]; omega)
  rw [hN, hM] at X' step
  have hcA : cA = aC 27 := Option.some.inj (fA.symm.trans (hK.2 7 _ rfl).2)
  have hco : comp = aC 20 := Option.some.inj (fC.symm.trans (hK.2 0 _ rfl).2)
  subst hcA
  subst hco
  generalize hF : Jvm.Free.Multi.fill (T.setVm vm₁) (aC 27) (aC 20) (e_w32 n).toNat (e_w32 k).toNat (defaultValue .int) (e_w32 n).toNat = F at X' step
  have hTh : (T.setVm vm₁).heap = H := hT
  obtain ⟨f1, f2, -, -⟩ := Jvm.Free.Multi.fill_facts (T.setVm vm₁) (aC 27) (aC 20) (e_w32 n).toNat (e_w32 k).toNat (defaultValue .int) (e_w32 n).toNat
  rw [hF, hTh] at f1 f2
  have hold : ∀ x : Nat, x < H.size → F.heap[x]? = H[x]? := fun x hx => by
    have := Jvm.Free.Multi.fill_old (T.setVm vm₁) (aC 27) (aC 20) (e_w32 n).toNat (e_w32 k).toNat (defaultValue .int) (a := x) (by rw [hTh]; exact hx) (e_w32 n).toNat
    rw [hF, hTh] at this
    exact this
  have hrow : ∀ j : Nat, j < (e_w32 n).toNat → F.heap[H.size + 1 + j]? = some (vp_cell (aC 20) ((e_w32 k).toNat, .inl fun _ => Int32.ofInt 0)) := fun j hj => by
    have := Jvm.Free.Multi.fill_inner (T.setVm vm₁) (aC 27) (aC 20) (e_w32 n).toNat (e_w32 k).toNat (defaultValue .int) (e_w32 n).toNat j hj
    rw [hF, hTh] at this
    rw [this]
    congr 1
    show ({ cls := aC 20, slots := Array.replicate (e_w32 k).toNat (.int 0), vm := .none } : Cell) = _
    rw [arrV_new]
    rfl
  rw [e_outer] at f2
  have kk := kk F.heap (e_mnaP hI f1 hold f2 hrow) ⟨by rw [f1]; have := hS.1; omega, fun x h1 h2 => (hold x (Nat.lt_of_lt_of_le h1 hS.1)).trans (hS.2.1 x h1 h2), hS.2.2⟩
  rw [e2, show σ.1 + 1 + (e_w32 n).toNat - n0 = σ.1 - n0 + 1 + (e_w32 n).toNat by omega, show σ.2.1 + (e_w32 n).toNat + (e_w32 n).toNat * (e_w32 k).toNat - s0 = σ.2.1 - s0 + (e_w32 n).toNat + (e_w32 n).toNat * (e_w32 k).toNat by omega] at kk
  obtain ⟨t, a1, b1⟩ := kk F rfl X'
  refine ⟨t, step t ?_, b1⟩
  have e : T.heap.size = H.size := by rw [hT]
  rw [e]
  exact a1
end EN
