theorem e_fv_cv (h0 : Nat) (B : Nat × Nat × Nat × Option Nat) (t : Nat) (x : Int) (r : Nat) : e_cv h0 B (if t = 3 then .inr (.inr r) else if t = 2 then .inr (.inl x) else .inl x) = e_fv h0 B t x r := by
  unfold e_fv
  split
  · rfl
  · split <;> rfl
theorem e_three {h0 : Nat} {B : Nat × Nat × Nat × Option Nat} {aC : Nat → ClassId} {D : va_G} {σ0 σ : eH} {H : Heap} (hI : e_I h0 B aC D σ0 σ H) (z0 : (σ0.2.2.1 0).1 = 28) (z1 : (σ0.2.2.1 1).1 = 13) (z2 : (σ0.2.2.1 2).1 = 29) {a : Nat} (h99 : (σ.2.2.1 a).1 ≠ 99) : (a = 0 ∧ (σ.2.2.1 a).1 = 28) ∨ (a = 1 ∧ (σ.2.2.1 a).1 = 13) ∨ (a = 2 ∧ (σ.2.2.1 a).1 = 29) ∨ ∃ k, a = k + 3 ∧ k + 3 < σ.1 ∧ (e_ws h0 B aC σ)[k]? = some (h0 + k, e_en h0 B aC σ (k + 3)) := by
  obtain ⟨i1, i2, i3, i4, i5, i6⟩ := hI
  have hlt : a < σ.1 := Nat.not_le.mp fun q => h99 (i4 a q)
  match a, hlt with
  | 0, _ => exact Or.inl ⟨rfl, by rw [(i5 0 (by omega)).1]; exact z0⟩
  | 1, _ => exact Or.inr (Or.inl ⟨rfl, by rw [(i5 1 (by omega)).1]; exact z1⟩)
  | 2, _ => exact Or.inr (Or.inr (Or.inl ⟨rfl, by rw [(i5 2 (by omega)).1]; exact z2⟩))
  | k + 3, hlt => exact Or.inr (Or.inr (Or.inr ⟨k, rfl, hlt, e_ws_get hlt⟩))
theorem e_arr {h0 : Nat} {B : Nat × Nat × Nat × Option Nat} {aC : Nat → ClassId} {σ : eH} {a : Nat} (h : 20 ≤ (σ.2.2.1 a).1) (h2 : (σ.2.2.1 a).1 ≤ 27) : ∃ (t0 : Nat) (ty : FieldType), (e_tys aC)[t0]? = some (aC (σ.2.2.1 a).1, ty) ∧ ∃ x : vp_A, e_en h0 B aC σ a = .inl (aC (σ.2.2.1 a).1, x) ∧ x.1 = (σ.2.2.1 a).2 := by
  rcases (show (σ.2.2.1 a).1 = 20 ∨ (σ.2.2.1 a).1 = 21 ∨ (σ.2.2.1 a).1 = 22 ∨ (σ.2.2.1 a).1 = 23 ∨ (σ.2.2.1 a).1 = 24 ∨ (σ.2.2.1 a).1 = 25 ∨ (σ.2.2.1 a).1 = 26 ∨ (σ.2.2.1 a).1 = 27 by omega) with h | h | h | h | h | h | h | h
  · exact ⟨0, _, by rw [h]; rfl, _, by rw [e_en_i h (by omega), h], rfl⟩
  · exact ⟨1, _, by rw [h]; rfl, _, by rw [e_en_l h, h], rfl⟩
  · exact ⟨2, _, by rw [h]; rfl, _, by rw [e_en_i h (by omega), h], rfl⟩
  · exact ⟨3, _, by rw [h]; rfl, _, by rw [e_en_i h (by omega), h], rfl⟩
  · exact ⟨4, _, by rw [h]; rfl, _, by rw [e_en_r h (by omega), h], rfl⟩
  · exact ⟨5, _, by rw [h]; rfl, _, by rw [e_en_r h (by omega), h], rfl⟩
  · exact ⟨6, _, by rw [h]; rfl, _, by rw [e_en_r h (by omega), h], rfl⟩
  · exact ⟨7, _, by rw [h]; rfl, _, by rw [e_en_r h (by omega), h], rfl⟩
section EX
variable {p : Program} {l : Launch} {e : Env} {R : Room} {s : State} {m : MethodId} {args : Array Value} {below : List Frame} {meth : Method} {c : Code} {Q : State → Prop} {cc : ByteArray} {nL : Nat} {own : String} {D : va_G} {aC : Nat → ClassId} {B : Nat × Nat × Nat × Option Nat} {Hl : Heap} {σ0 : eH} {n0 s0 : Nat} {G : Nat → eL → List eV → eH → Prop}
set_option maxHeartbeats 4000000 in
/-- every instruction but calls and returns: what the engine does, the machine does -/
theorem e_stp_ok (hG : G = e_Go p l e R s m args below meth c Q nL D aC B Hl σ0 n0 s0) (C : e_Cx p s m args c cc nL own D aC B Hl σ0) (hcls : ∀ i q, vwCl[i]? = some q → ∃ ty0, e_cl i q ty0) {ins : Instr} {r : eR} {pc len : Nat} {ls : eL} {st : List eV} {σ : eH} {q : eT} (hd : decode cc pc = .ok (ins, len)) (hln : (if e_ln ins = 0 then len else e_ln ins) = len) (hr : e_rok own (meth.name = "<init>") nL pc ins r) (hs : e_stp ins r pc ls st σ = some q)
    (hn0 : n0 ≤ σ.1) (hs0 : s0 ≤ σ.2.1) (hr1 : q.2.2.2.1 - n0 ≤ R.cells) (hr2 : q.2.2.2.2.1 - s0 ≤ R.slots) (kk : G q.1 q.2.1 q.2.2.1 q.2.2.2) : G pc ls st σ := by
  refine e_stp_1 hG C hd hln hr hs kk ?_
  subst hG
  have C' := C
  obtain ⟨hx, hb, hml, hown, hts, hK, hbl, hX, z0, z1, z2, hStr, hEx⟩ := C'
  intro lss H locs hL hI hS hcase
  rcases hcase with ⟨i, rfl⟩ | ⟨i, rfl⟩ | rfl | rfl | rfl | rfl | rfl | rfl | rfl | rfl | rfl | ⟨i, rfl⟩ | ⟨i, rfl⟩ | ⟨i, rfl⟩ | ⟨i, d, rfl⟩
  · -- getfield
    have hl1 : 3 = len := hln
    subst hl1
    simp only [e_stp] at hs
    split at hs
    next a t =>
      split at hs
      next hk =>
        cases hs
        have kk := kk lss H locs hL hI hS
        rw [List.map_cons, e_fv_cv] at kk
        rcases hr with ⟨h13, hr⟩ | hr
        · rcases e_three hI z0 z1 z2 (a := a) (by omega) with ⟨rfl, h1⟩ | ⟨rfl, h1⟩ | ⟨rfl, h1⟩ | ⟨k, rfl, hlt, hws⟩
          · omega
          · have h5 := hI.2.2.2.2.1 1 (by omega)
            rw [h5.2.1, h5.2.2] at kk
            rcases hr with ⟨q1, q2, hlk⟩ | ⟨q1, q2, hlk⟩
            · rw [q1, q2, hStr.2.2.2.2.2.2.2.1] at kk
              obtain ⟨cf, k, fi, f, cell, h1, h2, h3, h4, h5, h6⟩ := hStr.2.2.2.1
              exact W.getf hx hb hown (hts _ hlk) h1 h2 ((hS.2.1 _ (Array.getElem?_eq_some_iff.mp h3).1 h6).trans h3) h4 h5 rfl rfl hd kk
            · rw [q1, q2, hStr.2.2.2.2.2.2.2.2] at kk
              obtain ⟨cf, k, fi, f, cell, h1, h2, h3, h4, h5, h6⟩ := hStr.2.2.1
              exact W.getf hx hb hown (hts _ hlk) h1 h2 ((hS.2.1 _ (Array.getElem?_eq_some_iff.mp h3).1 h6).trans h3) h4 h5 rfl rfl hd kk
          · omega
          · exact absurd (hk.trans h13) (hI.2.2.2.2.2 (k + 3) (by omega)).1
        · have h13 := hr.1
          obtain ⟨k, rfl, hlt, had, -⟩ := hI.at z0 z1 z2 (a := a) (by omega) (by omega) (by omega) (by omega)
          exact e_get C hcls hI hr hk hlt hd kk
      next => cases hs
    next => cases hs
  · -- putfield
    have hl1 : 3 = len := hln
    subst hl1
    have h13 := hr.1
    simp only [e_stp] at hs
    split at hs
    next x a t =>
      split at hs
      next hk =>
        cases hs
        obtain ⟨k, rfl, hlt, had, -⟩ := hI.at z0 z1 z2 (a := a) (by omega) (by omega) (by omega) (by omega)
        refine e_pfd C hcls hI hS hr hk.1 hlt hd (v := .int (Int32.ofInt x)) (σ' := e_put σ (k + 3) r.2.1 x) (fun ty hty => ?_) ?_ (fun H1 ha hz oq => e_putP hI hlt ha hz oq) (fun H1 locs1 hI1 hS1 => kk lss H1 locs1 hL hI1 hS1)
        · rcases hk.2 with h0 | ⟨h0, hx01⟩
          · rcases hty with ⟨t, rfl⟩ | ⟨t, rfl⟩ | ⟨t, rfl⟩ | ⟨t, ht⟩
            · exact ⟨rfl, rfl⟩
            · omega
            · omega
            · omega
          · rcases hty with ⟨t, rfl⟩ | ⟨t, rfl⟩ | ⟨t, rfl⟩ | ⟨t, ht⟩
            · omega
            · exact ⟨(e_bit hx01).1, (e_bit hx01).2.1⟩
            · omega
            · omega
        · obtain ⟨-, q, hc, hlt2, hft, -⟩ := hr
          rw [e_en_o (σ := e_put σ (k + 3) r.2.1 x) (k := r.1) hk.1 h13]
          simp only [e_put, va_up, if_true]
          have := e_fs_put (h0 := Hl.size) (B := B) (N := e_nf r.1) (k := r.1) (j := r.2.1) (d := σ.2.2.2.1 (k + 3)) (rr := σ.2.2.2.2 (k + 3)) (x := x)
          unfold va_up at this
          rw [this]
          congr 3
          unfold e_fv
          rw [if_neg (by omega), if_neg (by omega)]
      next => cases hs
    next x a t =>
      split at hs
      next hk =>
        cases hs
        obtain ⟨k, rfl, hlt, had, -⟩ := hI.at z0 z1 z2 (a := a) (by omega) (by omega) (by omega) (by omega)
        refine e_pfd C hcls hI hS hr hk.1 hlt hd (v := .long (Int64.ofInt x)) (σ' := e_put σ (k + 3) r.2.1 x) (fun ty hty => ?_) ?_ (fun H1 ha hz oq => e_putP hI hlt ha hz oq) (fun H1 locs1 hI1 hS1 => kk lss H1 locs1 hL hI1 hS1)
        · rcases hty with ⟨t, rfl⟩ | ⟨t, rfl⟩ | ⟨t, rfl⟩ | ⟨t, ht⟩
          · omega
          · omega
          · exact ⟨rfl, rfl⟩
          · omega
        · obtain ⟨-, q, hc, hlt2, hft, -⟩ := hr
          rw [e_en_o (σ := e_put σ (k + 3) r.2.1 x) (k := r.1) hk.1 h13]
          simp only [e_put, va_up, if_true]
          have := e_fs_put (h0 := Hl.size) (B := B) (N := e_nf r.1) (k := r.1) (j := r.2.1) (d := σ.2.2.2.1 (k + 3)) (rr := σ.2.2.2.2 (k + 3)) (x := x)
          unfold va_up at this
          rw [this]
          congr 3
          unfold e_fv
          rw [if_neg (by omega), if_pos (by omega)]
      next => cases hs
    next x a t =>
      split at hs
      next hk =>
        cases hs
        obtain ⟨k, rfl, hlt, had, -⟩ := hI.at z0 z1 z2 (a := a) (by omega) (by omega) (by omega) (by omega)
        refine e_pfd C hcls hI hS hr hk.1 hlt hd (v := va_rf (e_rf Hl.size B x)) (σ' := e_puR σ (k + 3) r.2.1 x) (fun ty hty => ?_) ?_ (fun H1 ha hz oq => e_puRP hI hlt ha hz oq) (fun H1 locs1 hI1 hS1 => kk lss H1 locs1 hL hI1 hS1)
        · rcases hty with ⟨t, rfl⟩ | ⟨t, rfl⟩ | ⟨t, rfl⟩ | ⟨t, ht⟩
          · omega
          · omega
          · omega
          · rcases ht with ⟨C, rfl⟩ | ⟨u, rfl⟩ <;> cases e_rf Hl.size B x <;> exact ⟨rfl, rfl⟩
        · obtain ⟨-, q, hc, hlt2, hft, -⟩ := hr
          rw [e_en_o (σ := e_puR σ (k + 3) r.2.1 x) (k := r.1) hk.1 h13]
          simp only [e_puR, va_up, if_true]
          have := e_fs_puR (h0 := Hl.size) (B := B) (N := e_nf r.1) (k := r.1) (j := r.2.1) (d := σ.2.2.2.1 (k + 3)) (rr := σ.2.2.2.2 (k + 3)) (x := x)
          unfold va_up at this
          rw [this]
          congr 3
          unfold e_fv
          rw [if_pos (by omega)]
      next => cases hs
    next => cases hs
  · -- arraylength
    have hl1 : 1 = len := hln
    subst hl1
    simp only [e_stp] at hs
    split at hs
    next a t =>
      split at hs
      next hk =>
        cases hs
        have kk := kk lss H locs hL hI hS
        rcases e_three hI z0 z1 z2 (a := a) (by omega) with ⟨rfl, h1⟩ | ⟨rfl, h1⟩ | ⟨rfl, h1⟩ | ⟨k, rfl, hlt, hws⟩
        · refine va_slen (A := fun q => Hl.size ≤ q) hx hb hX hbl (Nat.not_le.mpr hbl) hS hd ?_
          rw [(hI.2.2.2.2.1 0 (by omega)).1] at kk
          exact kk
        · omega
        · obtain ⟨cell, q1, q2, q3, q4, q5, q6, q7⟩ := hStr.1
          rw [(hI.2.2.2.2.1 2 (by omega)).1] at kk
          exact W.alen (n := Int32.ofNat (σ0.2.2.1 2).2) hx hb ((hS.2.1 _ (Array.getElem?_eq_some_iff.mp q1).1 q7).trans q1) q2 q5 rfl rfl hd kk
        · obtain ⟨t0, ty, ht, hen⟩ := e_arr (h0 := Hl.size) (B := B) (aC := aC) hk.1 (by have := (hI.2.2.2.2.2 (k + 3) (by omega)); omega)
          obtain ⟨x, hen, hx1⟩ := hen
          refine va_alen (cl := vwCl) hx hb hK hI.2.2.1 k t0 (x := x) (by rw [hws, hen]; rfl) ht (v := Int32.ofInt (σ.2.2.1 (k + 3)).2) (by rw [hx1]; rfl) hd kk
      next => cases hs
    next => cases hs
  · -- iaload
    have hl1 : 1 = len := hln
    subst hl1
    simp only [e_stp] at hs
    split at hs
    next i a t =>
      split at hs
      next hk =>
        cases hs
        have kk := kk lss H locs hL hI hS
        simp only [Bool.or_eq_true] at hk
        rcases hk with hk | hk
        · have h1 := (e_ok_of hk).1
          obtain ⟨k, rfl, hlt, had, -⟩ := hI.at z0 z1 z2 (a := a) (by omega) (by omega) (by omega) (by omega)
          exact e_iald C hI hlt hk hd kk
        · obtain ⟨o1, o2, o3⟩ := e_ok_of hk
          rcases e_three hI z0 z1 z2 (a := a) (by omega) with ⟨rfl, h1⟩ | ⟨rfl, h1⟩ | ⟨rfl, h1⟩ | ⟨k, rfl, hlt, hws⟩
          · have h5 := hI.2.2.2.2.1 0 (by omega)
            refine va_sld (A := fun q => Hl.size ≤ q) hx hb hX hbl (Nat.not_le.mpr hbl) hS (e_in o2 (by rw [← h5.1]; exact o3)) hd ?_
            rw [e_clamp, ← h5.2.1]
            exact kk
          · omega
          · omega
          · exact absurd o1 (hI.2.2.2.2.2 (k + 3) (by omega)).2.1
      next => cases hs
    next => cases hs
  · -- laload
    have hl1 : 1 = len := hln
    subst hl1
    simp only [e_stp] at hs
    split at hs
    next i a t =>
      split at hs
      next hk =>
        cases hs
        have h1 := (e_ok_of hk).1
        obtain ⟨k, rfl, hlt, had, -⟩ := hI.at z0 z1 z2 (a := a) (by omega) (by omega) (by omega) (by omega)
        exact e_lald C hI hlt hk hd (kk lss H locs hL hI hS)
      next => cases hs
    next => cases hs
  · -- baload
    have hl1 : 1 = len := hln
    subst hl1
    simp only [e_stp] at hs
    split at hs
    next i a t =>
      split at hs
      next hk =>
        cases hs
        have kk := kk lss H locs hL hI hS
        simp only [Bool.or_eq_true] at hk
        rcases hk with (hk | hk) | hk
        · have h1 := (e_ok_of hk).1
          obtain ⟨k, rfl, hlt, had, -⟩ := hI.at z0 z1 z2 (a := a) (by omega) (by omega) (by omega) (by omega)
          exact e_bald C hI hlt hk hd kk
        · have h1 := (e_ok_of hk).1
          obtain ⟨k, rfl, hlt, had, -⟩ := hI.at z0 z1 z2 (a := a) (by omega) (by omega) (by omega) (by omega)
          exact e_zald C hI hlt hk hd kk
        · obtain ⟨o1, o2, o3⟩ := e_ok_of hk
          rcases e_three hI z0 z1 z2 (a := a) (by omega) with ⟨rfl, h1⟩ | ⟨rfl, h1⟩ | ⟨rfl, h1⟩ | ⟨k, rfl, hlt, hws⟩
          · omega
          · omega
          · obtain ⟨cell, q1, q2, q3, q4, q5, q6, q7⟩ := hStr.1
            have h5 := hI.2.2.2.2.1 2 (by omega)
            rw [h5.1] at o3
            have hlt : (e_w32 i).toNat < (σ0.2.2.1 2).2 := by omega
            rw [h5.2.1] at kk
            refine W.bald hx hb ((hS.2.1 _ (Array.getElem?_eq_some_iff.mp q1).1 q7).trans q1) q2 q3 ?_ (by rw [e_clamp]; exact q6 _ hlt) rfl rfl hd kk
            intro w
            rcases w with w | w
            · exact e_nneg o2 w
            · rw [e_clamp] at w
              omega
          · exact absurd o1 (hI.2.2.2.2.2 (k + 3) (by omega)).2.2
      next => cases hs
    next => cases hs
  · -- aaload
    have hl1 : 1 = len := hln
    subst hl1
    simp only [e_stp] at hs
    split at hs
    next i a t =>
      split at hs
      next hk =>
        cases hs
        have kk := kk lss H locs hL hI hS
        simp only [Bool.or_eq_true] at hk
        rcases hk with ((hk | hk) | hk) | hk
        · have h1 := (e_ok_of hk).1
          obtain ⟨k, rfl, hlt, had, -⟩ := hI.at z0 z1 z2 (a := a) (by omega) (by omega) (by omega) (by omega)
          exact e_aald C hI hlt (by omega) hk hd kk
        · have h1 := (e_ok_of hk).1
          obtain ⟨k, rfl, hlt, had, -⟩ := hI.at z0 z1 z2 (a := a) (by omega) (by omega) (by omega) (by omega)
          exact e_aald C hI hlt (by omega) hk hd kk
        · have h1 := (e_ok_of hk).1
          obtain ⟨k, rfl, hlt, had, -⟩ := hI.at z0 z1 z2 (a := a) (by omega) (by omega) (by omega) (by omega)
          exact e_aald C hI hlt (by omega) hk hd kk
        · have h1 := (e_ok_of hk).1
          obtain ⟨k, rfl, hlt, had, -⟩ := hI.at z0 z1 z2 (a := a) (by omega) (by omega) (by omega) (by omega)
          exact e_aald C hI hlt (by omega) hk hd kk
      next => cases hs
    next => cases hs
  · -- iastore
    have hl1 : 1 = len := hln
    subst hl1
    simp only [e_stp] at hs
    split at hs
    next x i a t =>
      split at hs
      next hk =>
        cases hs
        have h1 := (e_ok_of hk).1
        obtain ⟨k, rfl, hlt, had, -⟩ := hI.at z0 z1 z2 (a := a) (by omega) (by omega) (by omega) (by omega)
        exact e_iast C hI hS hlt hk hd (fun H1 locs1 hI1 hS1 => kk lss H1 locs1 hL hI1 hS1)
      next => cases hs
    next => cases hs
  · -- lastore
    have hl1 : 1 = len := hln
    subst hl1
    simp only [e_stp] at hs
    split at hs
    next x i a t =>
      split at hs
      next hk =>
        cases hs
        have h1 := (e_ok_of hk).1
        obtain ⟨k, rfl, hlt, had, -⟩ := hI.at z0 z1 z2 (a := a) (by omega) (by omega) (by omega) (by omega)
        exact e_last C hI hS hlt hk hd (fun H1 locs1 hI1 hS1 => kk lss H1 locs1 hL hI1 hS1)
      next => cases hs
    next => cases hs
  · -- bastore
    have hl1 : 1 = len := hln
    subst hl1
    simp only [e_stp] at hs
    split at hs
    next x i a t =>
      split at hs
      next hk =>
        cases hs
        have h1 := (e_ok_of hk).1
        obtain ⟨k, rfl, hlt, had, -⟩ := hI.at z0 z1 z2 (a := a) (by omega) (by omega) (by omega) (by omega)
        exact e_bast C hI hS hlt hk hd (fun H1 locs1 hI1 hS1 => kk lss H1 locs1 hL hI1 hS1)
      next =>
        split at hs
        next hk =>
          cases hs
          simp only [Bool.and_eq_true, decide_eq_true_eq] at hk
          have h1 := (e_ok_of hk.1).1
          obtain ⟨k, rfl, hlt, had, -⟩ := hI.at z0 z1 z2 (a := a) (by omega) (by omega) (by omega) (by omega)
          exact e_zast C hI hS hlt hk.1 hd hk.2 (fun H1 locs1 hI1 hS1 => kk lss H1 locs1 hL hI1 hS1)
        next => cases hs
    next => cases hs
  · -- aastore
    have hl1 : 1 = len := hln
    subst hl1
    simp only [e_stp] at hs
    split at hs
    next v i a t =>
      split at hs
      next hk =>
        cases hs
        simp only [Bool.or_eq_true, Bool.and_eq_true, decide_eq_true_eq] at hk
        rcases hk with (hk | hk) | hk
        · have h1 := (e_ok_of hk.1).1
          obtain ⟨k, rfl, hlt, had, -⟩ := hI.at z0 z1 z2 (a := a) (by omega) (by omega) (by omega) (by omega)
          obtain ⟨v, rfl, hvt, hvd, -⟩ := hI.at z0 z1 z2 (a := v) (by omega) (by omega) (by omega) (by omega)
          exact e_aast C hI hS hlt hvt hk.2 (by omega) (t0 := 4) rfl rfl (by omega) hk.1 hd (fun H1 locs1 hI1 hS1 => kk lss H1 locs1 hL hI1 hS1)
        · have h1 := (e_ok_of hk.1).1
          obtain ⟨k, rfl, hlt, had, -⟩ := hI.at z0 z1 z2 (a := a) (by omega) (by omega) (by omega) (by omega)
          obtain ⟨v, rfl, hvt, hvd, -⟩ := hI.at z0 z1 z2 (a := v) (by omega) (by omega) (by omega) (by omega)
          exact e_aast C hI hS hlt hvt hk.2 (by omega) (t0 := 5) rfl rfl (by omega) hk.1 hd (fun H1 locs1 hI1 hS1 => kk lss H1 locs1 hL hI1 hS1)
        · have h1 := (e_ok_of hk.1).1
          obtain ⟨k, rfl, hlt, had, -⟩ := hI.at z0 z1 z2 (a := a) (by omega) (by omega) (by omega) (by omega)
          obtain ⟨v, rfl, hvt, hvd, -⟩ := hI.at z0 z1 z2 (a := v) (by omega) (by omega) (by omega) (by omega)
          exact e_aast C hI hS hlt hvt hk.2 (by omega) (t0 := 6) rfl rfl (by omega) hk.1 hd (fun H1 locs1 hI1 hS1 => kk lss H1 locs1 hL hI1 hS1)
      next => cases hs
    next => cases hs
  · -- new
    have hl1 : 3 = len := hln
    subst hl1
    cases hs
    exact e_newo C hcls hI hS hr hn0 hs0 hr1 hr2 hd (fun H1 hI1 hS1 => kk lss H1 locs hL hI1 hS1)
  · -- newarray
    have hl1 : 2 = len := hln
    subst hl1
    simp only [e_stp] at hs
    split at hs
    next n t =>
      split at hs
      next hk =>
        cases hs
        exact e_newa C hI hS hr hk.1 hk.2 hn0 hs0 hr1 hr2 hd (fun H1 hI1 hS1 => kk lss H1 locs hL hI1 hS1)
      next => cases hs
    next => cases hs
  · -- anewarray
    have hl1 : 3 = len := hln
    subst hl1
    simp only [e_stp] at hs
    split at hs
    next n t =>
      split at hs
      next hk =>
        cases hs
        exact e_anew C hI hS hr hk.1 hk.2 hn0 hs0 hr1 hr2 hd (fun H1 hI1 hS1 => kk lss H1 locs hL hI1 hS1)
      next => cases hs
    next => cases hs
  · -- multianewarray
    have hl1 : 4 = len := hln
    subst hl1
    simp only [e_stp] at hs
    split at hs
    next k n t =>
      split at hs
      next hk =>
        cases hs
        exact e_mnew C hI hS hr hk.1 hk.2.1 hk.2.2.1 hk.2.2.2 hn0 hs0 hr1 hr2 hd (fun H1 hI1 hS1 => kk lss H1 locs hL hI1 hS1)
      next => cases hs
    next => cases hs
end EX
