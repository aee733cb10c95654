def e_ln (ins : Instr) : Nat := match ins with
  | .bipush _ => 2
  | .sipush _ => 3
  | .ldc _ => 2
  | .ldc_w _ => 3
  | .ldc2_w _ => 3
  | .iload _ => 2
  | .lload _ => 2
  | .aload _ => 2
  | .istore _ => 2
  | .lstore _ => 2
  | .astore _ => 2
  | .iinc _ _ => 3
  | .goto _ => 3
  | .if_icmp _ _ => 3
  | .ifCond _ _ => 3
  | .ifnull _ => 3
  | .ifnonnull _ => 3
  | .tableswitch _ _ _ _ => 0
  | .lookupswitch _ _ => 0
  | .getfield _ => 3
  | .putfield _ => 3
  | .getstatic _ => 3
  | .new _ => 3
  | .newarray _ => 2
  | .anewarray _ => 3
  | .multianewarray _ _ => 4
  | .invokevirtual _ => 3
  | .invokespecial _ => 3
  | .invokestatic _ => 3
  | _ => 1
theorem e_b8 {n : Int} (h : -128 ≤ n ∧ n < 128) : (Int8.ofInt n).toInt32 = Int32.ofInt n := by
  rw [← e_of ((Int8.ofInt n).toInt32), Int8.toInt_toInt32, Int8.toInt_ofInt, show n.bmod Int8.size = n.bmod 256 from rfl, Int.bmod_def]
  congr 1
  split <;> omega
theorem e_b16 {n : Int} (h : -32768 ≤ n ∧ n < 32768) : (Int16.ofInt n).toInt32 = Int32.ofInt n := by
  rw [← e_of ((Int16.ofInt n).toInt32), Int16.toInt_toInt32, Int16.toInt_ofInt, show n.bmod Int16.size = n.bmod 65536 from rfl, Int.bmod_def]
  congr 1
  split <;> omega
theorem e_bit {x : Int} (h : x = 0 ∨ x = 1) : narrow .boolean (.int (Int32.ofInt x)) = .int (Int32.ofInt x) ∧ fits .boolean (.int (Int32.ofInt x)) = true ∧ vp_nar .boolean (Int32.ofInt x) = Int32.ofInt x := by
  rcases h with rfl | rfl
  · exact ⟨by decide, by decide, by decide⟩
  · exact ⟨by decide, by decide, by decide⟩
theorem e_c1_cat {h0 : Nat} {B : Nat × Nat × Nat × Option Nat} {v : eV} (h : e_c1 v = true) : (e_cv h0 B v).category = 1 := by
  obtain x | x | x := v
  · rfl
  · cases h
  · show (va_rf (e_rf h0 B x)).category = 1
    cases e_rf h0 B x <;> rfl
theorem e_sw_tab {pc : Nat} {lo : Int} {d : Nat} {x : Int} : ∀ (ps : List (Int × Nat)) (lo : Int), (∀ (j : Nat) (q : Int × Nat), ps[j]? = some q → q.1 = lo + j) → (x < lo ∨ lo + ps.length ≤ x → e_sw ps x d = d) ∧ ∀ (j : Nat) (q : Int × Nat), ps[j]? = some q → x = lo + j → e_sw ps x d = q.2
  | [], lo, _ => ⟨fun _ => rfl, fun j q h => by simp at h⟩
  | (k, t) :: r, lo, h => by
    have hk : k = lo := by have := h 0 (k, t) rfl; simpa using this
    obtain ⟨h1, h2⟩ := e_sw_tab (pc := pc) (lo := lo) (d := d) (x := x) r (lo + 1) (fun j q hq => by have := h (j + 1) q (by simpa using hq); rw [this]; omega)
    refine ⟨fun hx => ?_, fun j q hq hx => ?_⟩
    · show (if x = k then t else e_sw r x d) = d
      simp only [List.length_cons] at hx
      rw [if_neg (by omega)]
      exact h1 (by omega)
    · cases j with
      | zero =>
        cases hq
        show (if x = k then t else e_sw r x d) = t
        rw [if_pos (by omega)]
      | succ j =>
        show (if x = k then t else e_sw r x d) = q.2
        rw [if_neg (by omega)]
        exact h2 j q (by simpa using hq) (by omega)
theorem e_sw_look {pc d : Nat} {dd x : Int} (hd : (pc : Int) + dd = d) : ∀ (ps : List (Int × Nat)) (qs : List (Int × Int)), ps.length = qs.length → (∀ (j : Nat) (q : Int × Nat), ps[j]? = some q → ∃ o, qs[j]? = some (q.1, o) ∧ (pc : Int) + o = (q.2 : Int)) → (pc : Int) + Op.lookupswitch.offset qs dd x = (e_sw ps x d : Int)
  | [], [], _, _ => by
    show (pc : Int) + dd = d
    exact hd
  | [], _ :: _, h, _ => by simp at h
  | _ :: _, [], h, _ => by simp at h
  | (k, t) :: r, (k2, o2) :: qs, hl, h => by
    obtain ⟨o, h1, h2⟩ := h 0 (k, t) rfl
    simp at h1
    obtain ⟨rfl, rfl⟩ := h1
    rw [Op.lookupswitch.offset_cons]
    show _ = (((if x = k2 then t else e_sw r x d) : Nat) : Int)
    by_cases hx : k2 = x
    · rw [if_pos hx, if_pos hx.symm]
      exact h2
    · rw [if_neg hx, if_neg (fun q => hx q.symm)]
      exact e_sw_look hd r qs (by simpa using hl) (fun j q hq => by have := h (j + 1) q (by simpa using hq); simpa using this)
section ES
variable {p : Program} {l : Launch} {e : Env} {R : Room} {s : State} {m : MethodId} {args : Array Value} {below : List Frame} {meth : Method} {c : Code} {Q : State → Prop} {cc : ByteArray} {nL : Nat} {own : String} {D : va_G} {aC : Nat → ClassId} {B : Nat × Nat × Nat × Option Nat} {Hl : Heap} {σ0 : eH} {n0 s0 : Nat} {G : Nat → eL → List eV → eH → Prop} {isI : Prop}
set_option maxHeartbeats 4000000 in
theorem e_stp_1 (hG : G = e_Go p l e R s m args below meth c Q nL D aC B Hl σ0 n0 s0) (C : e_Cx p s m args c cc nL own D aC B Hl σ0) {ins : Instr} {r : eR} {pc len : Nat} {ls : eL} {st : List eV} {σ : eH} {q : eT} (hd : decode cc pc = .ok (ins, len)) (hln : (if e_ln ins = 0 then len else e_ln ins) = len) (hr : e_rok own isI nL pc ins r) (hs : e_stp ins r pc ls st σ = some q) (kk : G q.1 q.2.1 q.2.2.1 q.2.2.2)
    (h3 : ∀ lss H locs, e_LH Hl.size B lss nL ls → e_I Hl.size B aC D σ0 σ H → va_S (fun q => Hl.size ≤ q) Hl H locs → (∃ i, ins = .getfield i) ∨ (∃ i, ins = .putfield i) ∨ ins = .arraylength ∨ ins = .iaload ∨ ins = .laload ∨ ins = .baload ∨ ins = .aaload ∨ ins = .iastore ∨ ins = .lastore ∨ ins = .bastore ∨ ins = .aastore ∨ (∃ i, ins = .new i) ∨ (∃ i, ins = .newarray i) ∨ (∃ i, ins = .anewarray i) ∨ (∃ i d, ins = .multianewarray i d) → W p l e R s m args below meth c H locs (σ.1 - n0) (σ.2.1 - s0) Q (F0 m pc lss (st.map (e_cv Hl.size B)))) : G pc ls st σ := by
  subst hG
  obtain ⟨hx, hb, hml, hown, hts, hK, hbl, hX, z0, z1, z2, hStr, hEx⟩ := C
  intro lss H locs hL hI hS
  cases ins with
  | iconst n =>
    have hl1 : 1 = len := hln
    subst hl1
    cases hs
    exact lv_iconst hx hb hd rfl (kk lss H locs hL hI hS)
  | bipush n =>
    have hl1 : 2 = len := hln
    subst hl1
    cases hs
    exact lv_bipush hx hb hd (e_b8 hr) (kk lss H locs hL hI hS)
  | sipush n =>
    have hl1 : 3 = len := hln
    subst hl1
    cases hs
    exact lv_sipush hx hb hd (e_b16 hr) (kk lss H locs hL hI hS)
  | lconst n =>
    have hl1 : 1 = len := hln
    subst hl1
    cases hs
    exact lv_lconst hx hb hd rfl (kk lss H locs hL hI hS)
  | aconst_null =>
    have hl1 : 1 = len := hln
    subst hl1
    cases hs
    exact lv_null hx hb hd (kk lss H locs hL hI hS)
  | ldc i =>
    have hl1 : 2 = len := hln
    subst hl1
    rcases hr with ⟨hr0, hw⟩ | ⟨hr0, rfl, rfl⟩
    · simp only [e_stp, hr0, if_true] at hs
      cases hs
      exact lv_ldc hx hb hown (hts _ hw) hd (kk lss H locs hL hI hS)
    · simp only [e_stp, hr0, if_neg (show ¬ (1 : Nat) = 0 by omega)] at hs
      cases hs
      exact va_ldcS hx hb hown hStr.2.2.2.2.2.1 hd (kk lss H locs hL hI hS)
  | ldc_w i =>
    have hl1 : 3 = len := hln
    subst hl1
    cases hs
    exact lv_ldcw hx hb hown (hts _ hr) hd (kk lss H locs hL hI hS)
  | ldc2_w i =>
    have hl1 : 3 = len := hln
    subst hl1
    cases hs
    exact lv_ldc2 hx hb hown (hts _ hr) hd (kk lss H locs hL hI hS)
  | iload k =>
    have hl1 : 2 = len := hln
    subst hl1
    obtain ⟨v, hv, hg, rfl⟩ := e_load_ok hs
    obtain x | x | x := v
    · exact lv_iload hx hb hd (hL.2.2 _ _ hv) (kk lss H locs hL hI hS)
    · cases hg
    · cases hg
  | iload_n k =>
    have hl1 : 1 = len := hln
    subst hl1
    obtain ⟨v, hv, hg, rfl⟩ := e_load_ok hs
    obtain x | x | x := v
    · exact lv_iload_n hx hb hd rfl (hL.2.2 _ _ hv) (kk lss H locs hL hI hS)
    · cases hg
    · cases hg
  | lload k =>
    have hl1 : 2 = len := hln
    subst hl1
    obtain ⟨v, hv, hg, rfl⟩ := e_load_ok hs
    obtain x | x | x := v
    · cases hg
    · exact lv_lload hx hb hd (hL.2.2 _ _ hv) (kk lss H locs hL hI hS)
    · cases hg
  | lload_n k =>
    have hl1 : 1 = len := hln
    subst hl1
    obtain ⟨v, hv, hg, rfl⟩ := e_load_ok hs
    obtain x | x | x := v
    · cases hg
    · exact lv_lload_n hx hb hd rfl (hL.2.2 _ _ hv) (kk lss H locs hL hI hS)
    · cases hg
  | aload k =>
    have hl1 : 2 = len := hln
    subst hl1
    obtain ⟨v, hv, hg, rfl⟩ := e_load_ok hs
    obtain x | x | x := v
    · cases hg
    · cases hg
    · have hv := hL.2.2 _ _ hv
      have kk := kk lss H locs hL hI hS
      simp only [List.map_cons, e_cv] at hv kk
      generalize e_rf Hl.size B x = o at hv kk
      cases o with
      | none => exact lv_aloadN hx hb hd hv kk
      | some a => exact lv_aload hx hb hd hv kk
  | aload_n k =>
    have hl1 : 1 = len := hln
    subst hl1
    obtain ⟨v, hv, hg, rfl⟩ := e_load_ok hs
    obtain x | x | x := v
    · cases hg
    · cases hg
    · have hv := hL.2.2 _ _ hv
      have kk := kk lss H locs hL hI hS
      simp only [List.map_cons, e_cv] at hv kk
      generalize e_rf Hl.size B x = o at hv kk
      cases o with
      | none => exact lv_aload_nN hx hb hd rfl hv kk
      | some a => exact lv_aload_n hx hb hd rfl hv kk
  | istore k =>
    have hl1 : 2 = len := hln
    subst hl1
    simp only [e_stp] at hs
    split at hs
    next x t =>
      cases hs
      exact lv_istore hx hb hd hL.has hr rfl (fun ls' h' => kk ls' H locs (e_LH.s1 (v := .inl x) h') hI hS)
    next => cases hs
  | istore_n k =>
    have hl1 : 1 = len := hln
    subst hl1
    simp only [e_stp] at hs
    split at hs
    next x t =>
      cases hs
      exact lv_istore_n hx hb hd rfl hL.has hr rfl (fun ls' h' => kk ls' H locs (e_LH.s1 (v := .inl x) h') hI hS)
    next => cases hs
  | lstore k =>
    have hl1 : 2 = len := hln
    subst hl1
    simp only [e_stp] at hs
    split at hs
    next x t =>
      cases hs
      exact lv_lstore hx hb hd hL.has hr rfl (fun ls' h' => kk ls' H locs (e_LH.s2 (v := .inr (.inl x)) h') hI hS)
    next => cases hs
  | lstore_n k =>
    have hl1 : 1 = len := hln
    subst hl1
    simp only [e_stp] at hs
    split at hs
    next x t =>
      cases hs
      exact lv_lstore_n hx hb hd rfl hL.has hr rfl (fun ls' h' => kk ls' H locs (e_LH.s2 (v := .inr (.inl x)) h') hI hS)
    next => cases hs
  | astore k =>
    have hl1 : 2 = len := hln
    subst hl1
    simp only [e_stp] at hs
    split at hs
    next x t =>
      cases hs
      show W p l e R s m args below meth c H locs _ _ Q (F0 m pc lss (va_rf (e_rf Hl.size B x) :: t.map (e_cv Hl.size B)))
      have kk' : ∀ ls', lv_has ls' nL ((k, va_rf (e_rf Hl.size B x)) :: (e_as Hl.size B ls).filter (fun q => !(q.1 == k) && !(q.1 + 1 == k && q.2.category == 2))) → W p l e R s m args below meth c H locs (σ.1 - n0) (σ.2.1 - s0) Q (F0 m (pc + 2) ls' (t.map (e_cv Hl.size B))) := fun ls' h' => kk ls' H locs (e_LH.s1 (v := .inr (.inr x)) h') hI hS
      generalize e_rf Hl.size B x = o at kk' ⊢
      cases o with
      | none => exact lv_astoreN hx hb hd hL.has hr rfl kk'
      | some a => exact lv_astore hx hb hd hL.has hr rfl kk'
    next => cases hs
  | astore_n k =>
    have hl1 : 1 = len := hln
    subst hl1
    simp only [e_stp] at hs
    split at hs
    next x t =>
      cases hs
      show W p l e R s m args below meth c H locs _ _ Q (F0 m pc lss (va_rf (e_rf Hl.size B x) :: t.map (e_cv Hl.size B)))
      have kk' : ∀ ls', lv_has ls' nL ((k.val, va_rf (e_rf Hl.size B x)) :: (e_as Hl.size B ls).filter (fun q => !(q.1 == k.val) && !(q.1 + 1 == k.val && q.2.category == 2))) → W p l e R s m args below meth c H locs (σ.1 - n0) (σ.2.1 - s0) Q (F0 m (pc + 1) ls' (t.map (e_cv Hl.size B))) := fun ls' h' => kk ls' H locs (e_LH.s1 (v := .inr (.inr x)) h') hI hS
      generalize e_rf Hl.size B x = o at kk' ⊢
      cases o with
      | none => exact lv_astore_nN hx hb hd rfl hL.has hr rfl kk'
      | some a => exact lv_astore_n hx hb hd rfl hL.has hr rfl kk'
    next => cases hs
  | iinc k n =>
    have hl1 : 3 = len := hln
    subst hl1
    simp only [e_stp] at hs
    split at hs
    next x hv =>
      cases hs
      obtain ⟨j, hj⟩ := List.getElem?_of_mem (e_as_mem (h0 := Hl.size) (B := B) hv)
      exact lv_iinc hx hb hd hL.has hj (e_add x n) hr rfl (fun ls' h' => kk ls' H locs (e_LH.s1 (v := .inl (x + n)) h') hI hS)
    next => cases hs
  | iadd =>
    have hl1 : 1 = len := hln
    subst hl1
    obtain ⟨x, y, t, z, rfl, hz, rfl⟩ := e_bin_ok hs
    cases hz
    refine lv_iadd hx hb hd ?_
    rw [e_add]
    exact kk lss H locs hL hI hS
  | isub =>
    have hl1 : 1 = len := hln
    subst hl1
    obtain ⟨x, y, t, z, rfl, hz, rfl⟩ := e_bin_ok hs
    cases hz
    refine lv_isub hx hb hd ?_
    rw [e_sub]
    exact kk lss H locs hL hI hS
  | imul =>
    have hl1 : 1 = len := hln
    subst hl1
    obtain ⟨x, y, t, z, rfl, hz, rfl⟩ := e_bin_ok hs
    cases hz
    refine lv_imul hx hb hd ?_
    rw [e_mul]
    exact kk lss H locs hL hI hS
  | idiv =>
    have hl1 : 1 = len := hln
    subst hl1
    obtain ⟨x, y, t, z, rfl, hz, rfl⟩ := e_bin_ok hs
    try dsimp only at hz
    split at hz
    next => cases hz
    next hne =>
      cases hz
      refine lv_idiv hx hb hd (fun h => hne (by rw [e_z32, e_eq32] at h; exact h)) ?_
      rw [e_div]
      exact kk lss H locs hL hI hS
  | irem =>
    have hl1 : 1 = len := hln
    subst hl1
    obtain ⟨x, y, t, z, rfl, hz, rfl⟩ := e_bin_ok hs
    try dsimp only at hz
    split at hz
    next => cases hz
    next hne =>
      cases hz
      refine lv_irem hx hb hd (fun h => hne (by rw [e_z32, e_eq32] at h; exact h)) ?_
      rw [e_rem]
      exact kk lss H locs hL hI hS
  | ishl =>
    have hl1 : 1 = len := hln
    subst hl1
    obtain ⟨x, y, t, z, rfl, hz, rfl⟩ := e_bin_ok hs
    try dsimp only at hz
    split at hz
    next hne =>
      cases hz
      refine lv_ishl hx hb hd ?_
      rw [e_shl x y hne.1 hne.2]
      exact kk lss H locs hL hI hS
    next => cases hz
  | ishr =>
    have hl1 : 1 = len := hln
    subst hl1
    obtain ⟨x, y, t, z, rfl, hz, rfl⟩ := e_bin_ok hs
    try dsimp only at hz
    split at hz
    next hne =>
      cases hz
      refine lv_ishr hx hb hd ?_
      rw [e_shr x y hne.1 hne.2]
      exact kk lss H locs hL hI hS
    next => cases hz
  | iushr =>
    have hl1 : 1 = len := hln
    subst hl1
    obtain ⟨x, y, t, z, rfl, hz, rfl⟩ := e_bin_ok hs
    try dsimp only at hz
    split at hz
    next hne =>
      cases hz
      exact lv_iushr hx hb hd (e_ushr x y hne.1 hne.2) (kk lss H locs hL hI hS)
    next => cases hz
  | iand =>
    have hl1 : 1 = len := hln
    subst hl1
    obtain ⟨x, y, t, z, rfl, hz, rfl⟩ := e_bin_ok hs
    cases hz
    refine lv_iand hx hb hd ?_
    have kk := kk lss H locs hL hI hS
    simp only [List.map_cons, e_cv, e_of] at kk
    exact kk
  | ior =>
    have hl1 : 1 = len := hln
    subst hl1
    obtain ⟨x, y, t, z, rfl, hz, rfl⟩ := e_bin_ok hs
    cases hz
    refine lv_ior hx hb hd ?_
    have kk := kk lss H locs hL hI hS
    simp only [List.map_cons, e_cv, e_of] at kk
    exact kk
  | ixor =>
    have hl1 : 1 = len := hln
    subst hl1
    obtain ⟨x, y, t, z, rfl, hz, rfl⟩ := e_bin_ok hs
    cases hz
    refine lv_ixor hx hb hd ?_
    have kk := kk lss H locs hL hI hS
    simp only [List.map_cons, e_cv, e_of] at kk
    exact kk
  | ineg =>
    have hl1 : 1 = len := hln
    subst hl1
    simp only [e_stp] at hs
    split at hs
    next x t =>
      cases hs
      refine lv_ineg hx hb hd ?_
      rw [e_neg]
      exact kk lss H locs hL hI hS
    next => cases hs
  | i2l =>
    have hl1 : 1 = len := hln
    subst hl1
    simp only [e_stp] at hs
    split at hs
    next x t =>
      cases hs
      exact lv_i2l hx hb hd (e_i2l x) (kk lss H locs hL hI hS)
    next => cases hs
  | l2i =>
    have hl1 : 1 = len := hln
    subst hl1
    simp only [e_stp] at hs
    split at hs
    next x t =>
      cases hs
      exact lv_l2i hx hb hd (e_l2i x) (kk lss H locs hL hI hS)
    next => cases hs
  | i2b =>
    have hl1 : 1 = len := hln
    subst hl1
    simp only [e_stp] at hs
    split at hs
    next x t =>
      cases hs
      exact lv_i2b hx hb hd (e_i2b x) (kk lss H locs hL hI hS)
    next => cases hs
  | i2c =>
    have hl1 : 1 = len := hln
    subst hl1
    simp only [e_stp] at hs
    split at hs
    next x t =>
      cases hs
      exact lv_i2c hx hb hd (e_i2c x) (kk lss H locs hL hI hS)
    next => cases hs
  | getstatic i =>
    have hl1 : 3 = len := hln
    subst hl1
    rcases hr with ⟨hr0, hr1, hlk⟩ | ⟨hr0, hlk⟩
    · simp only [e_stp, hr0, if_true] at hs
      cases hs
      obtain ⟨cf, kf, fi, f, a, cell, h1, h2, h3, h4, h5, h6, h7, h8⟩ := hStr.2.2.2.2.1
      have kk := kk lss H locs hL hI hS
      dsimp only at kk
      rw [hr1] at kk
      exact W.gets hx hb hown (hts _ hlk) h1 h2 h3 h4 (by rw [hS.2.1 a (Array.getElem?_eq_some_iff.mp h5).1 h8]; exact h5) (fun e => by rw [e] at h6; cases h6) h7 rfl hd kk
    · simp only [e_stp, hr0, if_neg (show ¬ (1 : Nat) = 0 by omega)] at hs
      cases hs
      obtain ⟨cf, kf, fi, f, a, cell, h1, h2, h3, h4, h5, h6, h7, h8⟩ := hStr.2.2.2.2.2.2.1
      exact W.gets hx hb hown (hts _ hlk) h1 h2 h3 h4 (by rw [hS.2.1 a (Array.getElem?_eq_some_iff.mp h5).1 h8]; exact h5) (fun e => by rw [e] at h6; cases h6) h7 rfl hd (kk lss H locs hL hI hS)
  | ladd =>
    have hl1 : 1 = len := hln
    subst hl1
    obtain ⟨x, y, t, z, rfl, hz, rfl⟩ := e_binL_ok hs
    cases hz
    refine lv_ladd hx hb hd ?_
    rw [e_addL]
    exact kk lss H locs hL hI hS
  | lsub =>
    have hl1 : 1 = len := hln
    subst hl1
    obtain ⟨x, y, t, z, rfl, hz, rfl⟩ := e_binL_ok hs
    cases hz
    refine lv_lsub hx hb hd ?_
    rw [e_subL]
    exact kk lss H locs hL hI hS
  | lmul =>
    have hl1 : 1 = len := hln
    subst hl1
    obtain ⟨x, y, t, z, rfl, hz, rfl⟩ := e_binL_ok hs
    cases hz
    refine lv_lmul hx hb hd ?_
    rw [e_mulL]
    exact kk lss H locs hL hI hS
  | ldiv =>
    have hl1 : 1 = len := hln
    subst hl1
    obtain ⟨x, y, t, z, rfl, hz, rfl⟩ := e_binL_ok hs
    try dsimp only at hz
    split at hz
    next => cases hz
    next hne =>
      cases hz
      refine lv_ldiv hx hb hd (fun h => hne (by rw [e_z64, e_eq64] at h; exact h)) ?_
      rw [e_divL]
      exact kk lss H locs hL hI hS
  | lrem =>
    have hl1 : 1 = len := hln
    subst hl1
    obtain ⟨x, y, t, z, rfl, hz, rfl⟩ := e_binL_ok hs
    try dsimp only at hz
    split at hz
    next => cases hz
    next hne =>
      cases hz
      refine lv_lrem hx hb hd (fun h => hne (by rw [e_z64, e_eq64] at h; exact h)) ?_
      rw [e_remL]
      exact kk lss H locs hL hI hS
  | land =>
    have hl1 : 1 = len := hln
    subst hl1
    obtain ⟨x, y, t, z, rfl, hz, rfl⟩ := e_binL_ok hs
    cases hz
    refine lv_land hx hb hd ?_
    have kk := kk lss H locs hL hI hS
    simp only [List.map_cons, e_cv, e_ofL] at kk
    exact kk
  | lor =>
    have hl1 : 1 = len := hln
    subst hl1
    obtain ⟨x, y, t, z, rfl, hz, rfl⟩ := e_binL_ok hs
    cases hz
    refine lv_lor hx hb hd ?_
    have kk := kk lss H locs hL hI hS
    simp only [List.map_cons, e_cv, e_ofL] at kk
    exact kk
  | lshl =>
    have hl1 : 1 = len := hln
    subst hl1
    simp only [e_stp] at hs
    split at hs
    next y x t =>
      split at hs
      next hne =>
        cases hs
        exact lv_lshl hx hb hd (e_lshl x y hne.1 hne.2) (kk lss H locs hL hI hS)
      next => cases hs
    next => cases hs
  | lcmp =>
    have hl1 : 1 = len := hln
    subst hl1
    simp only [e_stp] at hs
    split at hs
    next y x t =>
      cases hs
      refine W.lcmp hx hb hd ?_
      rw [e_lcmp]
      exact kk lss H locs hL hI hS
    next => cases hs
  | dup =>
    have hl1 : 1 = len := hln
    subst hl1
    simp only [e_stp] at hs
    split at hs
    next v t =>
      split at hs
      next hc =>
        cases hs
        exact lv_dup hx hb hd (e_c1_cat hc) (kk lss H locs hL hI hS)
      next => cases hs
    next => cases hs
  | dup2 =>
    have hl1 : 1 = len := hln
    subst hl1
    simp only [e_stp] at hs
    split at hs
    next v w t =>
      split at hs
      next hc =>
        cases hs
        simp only [Bool.and_eq_true] at hc
        exact lv_dup2_11 hx hb hd (e_c1_cat hc.1) (e_c1_cat hc.2) (kk lss H locs hL hI hS)
      next => cases hs
    next => cases hs
  | pop =>
    have hl1 : 1 = len := hln
    subst hl1
    simp only [e_stp] at hs
    split at hs
    next v t =>
      split at hs
      next hc =>
        cases hs
        exact lv_pop hx hb hd (e_c1_cat hc) (kk lss H locs hL hI hS)
      next => cases hs
    next => cases hs
  | goto o =>
    have hl1 : 3 = len := hln
    subst hl1
    cases hs
    exact lv_goto hx hb hd hr (kk lss H locs hL hI hS)
  | if_icmp cnd o =>
    have hl1 : 3 = len := hln
    subst hl1
    simp only [e_stp] at hs
    split at hs
    next y x t =>
      cases hs
      have kk := kk lss H locs hL hI hS
      dsimp only at kk
      cases cnd with
      | eq => exact lv_icmp_eq hx hb hd hr (fun h => by rw [e_eq32] at h; simpa [e_cmp, h] using kk) (fun h => by rw [e_eq32] at h; simpa [e_cmp, h] using kk)
      | ne => exact lv_icmp_ne hx hb hd hr (fun h => by rw [e_eq32] at h; simpa [e_cmp, h] using kk) (fun h => by rw [e_eq32] at h; simpa [e_cmp, h] using kk)
      | lt => exact lv_icmp_lt hx hb hd hr (fun h => by rw [e_lt32] at h; simpa [e_cmp, h] using kk) (fun h => by rw [e_lt32] at h; simpa [e_cmp, h] using kk)
      | ge => exact lv_icmp_ge hx hb hd hr (fun h => by rw [e_le32] at h; simpa [e_cmp, h] using kk) (fun h => by rw [e_le32] at h; simpa [e_cmp, h] using kk)
      | gt => exact lv_icmp_gt hx hb hd hr (fun h => by rw [e_lt32] at h; simpa [e_cmp, h] using kk) (fun h => by rw [e_lt32] at h; simpa [e_cmp, h] using kk)
      | le => exact lv_icmp_le hx hb hd hr (fun h => by rw [e_le32] at h; simpa [e_cmp, h] using kk) (fun h => by rw [e_le32] at h; simpa [e_cmp, h] using kk)
    next => cases hs
  | ifCond cnd o =>
    have hl1 : 3 = len := hln
    subst hl1
    have z : e_w32 0 = 0 := by decide
    simp only [e_stp] at hs
    split at hs
    next x t =>
      cases hs
      have kk := kk lss H locs hL hI hS
      dsimp only at kk
      cases cnd with
      | eq => exact lv_if_eq hx hb hd hr (fun h => by rw [e_z32, e_eq32, z] at h; simpa [e_cmp, h] using kk) (fun h => by rw [e_z32, e_eq32, z] at h; simpa [e_cmp, h] using kk)
      | ne => exact lv_if_ne hx hb hd hr (fun h => by rw [e_z32, e_eq32, z] at h; simpa [e_cmp, h] using kk) (fun h => by rw [e_z32, e_eq32, z] at h; simpa [e_cmp, h] using kk)
      | lt => exact lv_if_lt hx hb hd hr (fun h => by rw [e_z32, e_lt32, z] at h; simpa [e_cmp, h] using kk) (fun h => by rw [e_z32, e_lt32, z] at h; simpa [e_cmp, h] using kk)
      | ge => exact lv_if_ge hx hb hd hr (fun h => by rw [e_z32, e_le32, z] at h; simpa [e_cmp, h] using kk) (fun h => by rw [e_z32, e_le32, z] at h; simpa [e_cmp, h] using kk)
      | gt => exact lv_if_gt hx hb hd hr (fun h => by rw [e_z32, e_lt32, z] at h; simpa [e_cmp, h] using kk) (fun h => by rw [e_z32, e_lt32, z] at h; simpa [e_cmp, h] using kk)
      | le => exact lv_if_le hx hb hd hr (fun h => by rw [e_z32, e_le32, z] at h; simpa [e_cmp, h] using kk) (fun h => by rw [e_z32, e_le32, z] at h; simpa [e_cmp, h] using kk)
    next => cases hs
  | ifnull o =>
    have hl1 : 3 = len := hln
    subst hl1
    simp only [e_stp] at hs
    split at hs
    next t =>
      cases hs
      exact lv_ifnullN hx hb hd hr (kk lss H locs hL hI hS)
    next a t =>
      cases hs
      exact lv_ifnull hx hb hd (kk lss H locs hL hI hS)
    next => cases hs
  | ifnonnull o =>
    have hl1 : 3 = len := hln
    subst hl1
    simp only [e_stp] at hs
    split at hs
    next t =>
      cases hs
      exact lv_ifnonnullN hx hb hd (kk lss H locs hL hI hS)
    next a t =>
      cases hs
      exact lv_ifnonnull hx hb hd hr (kk lss H locs hL hI hS)
    next => cases hs
  | tableswitch d lo hi offs =>
    obtain ⟨hr1, hr2, hr3, hr4⟩ := hr
    simp only [e_stp] at hs
    split at hs
    next x t =>
      cases hs
      have kk := kk lss H locs hL hI hS
      dsimp only at kk
      obtain ⟨w1, w2⟩ := e_sw_tab (pc := pc) (lo := lo) (d := r.1) (x := e_w32 x) r.2.2.2.2 lo (fun j q hq => (hr4 j q hq).1)
      by_cases hc : e_w32 x < lo ∨ hi < e_w32 x
      · rw [w1 (by omega)] at kk
        exact lv_tableOut hx hb hd (by rw [e_o32]; exact hc) hr1 kk
      · have hj : (e_w32 x - lo).toNat < r.2.2.2.2.length := by omega
        obtain ⟨h1, o, h2, h3⟩ := hr4 _ _ (List.getElem?_eq_getElem hj)
        rw [w2 _ _ (List.getElem?_eq_getElem hj) (by omega)] at kk
        exact lv_tableIn hx hb hd (by rw [e_o32]; omega) (by rw [e_o32]; omega) (by rw [e_o32]; exact h2) h3 kk
    next => cases hs
  | lookupswitch d ps =>
    obtain ⟨hr1, hr2, hr3, hr4⟩ := hr
    simp only [e_stp] at hs
    split at hs
    next x t =>
      cases hs
      have kk := kk lss H locs hL hI hS
      dsimp only at kk
      exact lv_lookup hx hb hd hr1 rfl (by rw [e_o32]; exact e_sw_look hr2 r.2.2.2.2 ps.toList hr3 hr4) kk
    next => cases hs
  | getfield i => exact h3 lss H locs hL hI hS (by simp)
  | putfield i => exact h3 lss H locs hL hI hS (by simp)
  | arraylength => exact h3 lss H locs hL hI hS (by simp)
  | iaload => exact h3 lss H locs hL hI hS (by simp)
  | laload => exact h3 lss H locs hL hI hS (by simp)
  | baload => exact h3 lss H locs hL hI hS (by simp)
  | aaload => exact h3 lss H locs hL hI hS (by simp)
  | iastore => exact h3 lss H locs hL hI hS (by simp)
  | lastore => exact h3 lss H locs hL hI hS (by simp)
  | bastore => exact h3 lss H locs hL hI hS (by simp)
  | aastore => exact h3 lss H locs hL hI hS (by simp)
  | new i => exact h3 lss H locs hL hI hS (by simp)
  | newarray i => exact h3 lss H locs hL hI hS (by simp)
  | anewarray i => exact h3 lss H locs hL hI hS (by simp)
  | multianewarray i d => exact h3 lss H locs hL hI hS (by simp)
  | _ => simp [e_stp] at hs
end ES
