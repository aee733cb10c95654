def e_bs : List Nat := [115, 104, 101, 101, 112, 32, 109, 97, 110, 32, 108, 105, 107, 101, 115, 32, 115, 97, 108, 116, 32, 104, 97, 110, 100, 115, 32, 102, 108, 111, 99, 107, 32, 109, 105, 110, 101, 32, 108, 101, 100, 32, 119, 111, 111, 108, 32, 99, 111, 105, 110, 115, 32, 103, 114, 97, 115, 115, 32, 121, 101, 97, 114, 32, 104, 105, 108, 108, 32, 102, 111, 108, 108, 111, 119, 115, 32, 103, 111, 32, 105, 102, 32, 111, 114, 32, 97, 110, 100, 32, 110, 111, 116, 32]
/-- the heap with which the law begins: the script, the String constant, its bytes -/
def e_s0 (L : Nat) (xs : Nat → Int) : eH := (3, 0, fun a => if a = 0 then (28, L) else if a = 1 then (13, 2) else if a = 2 then (29, 94) else (99, 0), fun a j => if a = 0 then xs j else if a = 2 then ((e_bs.getD j 0 : Nat) : Int) else 0, fun a j => if a = 1 ∧ j = 0 then 4 else 0)
abbrev e_tm : Term := .string "MaySheep$Tape" 68
abbrev e_tv : Term := .field e_tm "java/lang/String" "value" "[B"
abbrev e_flat : List Cond := flatC (Jvm.Cond.and given_1 narrow_1)
theorem e_f1 : Cond.exactly e_tm "java/lang/String" ∈ e_flat := by decide +kernel
theorem e_f2 : Cond.eq (.field e_tm "java/lang/String" "coder" "B") (.int 0) ∈ e_flat := by decide +kernel
theorem e_f3 : Cond.arrayOf e_tv .byte ∈ e_flat := by decide +kernel
theorem e_f4 : Cond.eq (.length e_tv) (.int (Int32.ofNat 94)) ∈ e_flat := by decide +kernel
theorem e_f5 : ∀ j, j < 94 → Cond.eq (.elem e_tv (.int (Int32.ofNat j))) (.int ((e_bs.map fun n : Nat => Int32.ofInt (n : Int)).getD j 0)) ∈ e_flat := by decide +kernel
theorem e_f6 : Cond.eq (.static "java/lang/String" "COMPACT_STRINGS" "Z") (.int 1) ∈ e_flat := by decide +kernel
theorem e_f7 : Cond.isRef (.static "jdk/internal/util/Preconditions" "SIOOBE_FORMATTER" "Ljava/util/function/BiFunction;") ∈ e_flat := by decide +kernel
theorem e_f8 : Cond.laysStatic "java/lang/String" "COMPACT_STRINGS" "Z" ∈ lw_tbl := by decide +kernel
theorem e_f9 : Cond.laysStatic "jdk/internal/util/Preconditions" "SIOOBE_FORMATTER" "Ljava/util/function/BiFunction;" ∈ lw_tbl := by decide +kernel
theorem e_f10 : Cond.initialized "java/lang/String" ∈ lw_tbl := by decide +kernel
theorem e_f11 : Cond.initialized "jdk/internal/util/Preconditions" ∈ lw_tbl := by decide +kernel
theorem e_f12 : Cond.stringRef RX9 68 e_tx ∈ lw_tbl := by decide +kernel
theorem e_f13 : Cond.arrayOver (.object RX10) ∈ lw_tbl ∧ Cond.arrayOver (.object RX6) ∈ lw_tbl ∧ Cond.arrayOver (.object RX8) ∈ lw_tbl := by decide +kernel
theorem e_gd (j : Nat) : (e_bs.map fun n : Nat => Int32.ofInt (n : Int)).getD j 0 = Int32.ofInt ((e_bs.getD j 0 : Nat) : Int) := by
  rw [List.getD_eq_getElem?_getD, List.getElem?_map, List.getD_eq_getElem?_getD]
  cases e_bs[j]? <;> rfl
set_option maxHeartbeats 4000000 in
/-- the law out of the engine's run of it -/
theorem e_whole (hlaw : ∀ (L : Nat) (xs : Nat → Int), L ≤ 3072 → (∀ j, -2147483648 ≤ xs j ∧ xs j < 2147483648) → ∃ (d f : Nat) (σ' : eH), d ≤ 1000 ∧ e_run (e_cal e_cs d f) e_kL f 0 (e_ent 4 [.inr (.inr 2)]) [] (e_s0 L xs) = some (some (.inl 1), σ') ∧ σ'.1 ≤ 600000 ∧ σ'.2.1 ≤ 7302250)
    {p : Program} {e : Env} {s : State} {m : MethodId} {below : List Frame} {meth : Method} {c : Code} (l : Launch) {b L : Nat} {xs : Nat → Int32} (hL : L ≤ 3072) (C0 : lw_At p s m meth c b L xs) : W p l e room_1 s m #[Value.ref b] below meth c s.heap [] 0 0 (lw_Z below #[Value.ref b] s) (entryFrame m ([Value.ref b] : List Value).toArray 4) := by
  obtain ⟨hx, hb, hr, hml, hown, htb, hX, hbl, hlocks, hgv⟩ := id C0
  have hfl := flat_of_before _ hgv
  have hts : ∀ w ∈ lw_good, w.before #[Value.ref b] s = true := fun w hw => htb w (List.mem_filter.mp hw).1
  have hEx : ∀ w ∈ lw_ex, va_Nw w s := by
    intro w hw
    have h1 := (List.mem_filter.mp hw).2
    have h2 := htb w (List.mem_filter.mp hw).1
    cases w with
    | arrayOver ty => exact h2
    | methodLinkNest a i x h => exact va_Nw.of rfl h2
    | _ => cases h1
  have hA : ∀ a : Nat, a < s.heap.size → ¬ (fun q => s.heap.size ≤ q) a := fun a h => Nat.not_le.mpr h
  -- the String constant
  obtain ⟨adK, adV, hvS, hvE⟩ := vk_Sof (args := #[Value.ref b]) (s := s) (N := 1) (tm := fun _ => e_tm) (len := [94]) (byt := [e_bs.map fun n : Nat => Int32.ofInt (n : Int)]) (A := fun q => s.heap.size ≤ q)
    (fun i hi => by obtain rfl : i = 0 := by omega
                    decide)
    (fun i hi => hfl _ e_f1) (fun i hi => hfl _ e_f2) (fun i hi => hfl _ e_f3)
    (fun i hi => by obtain rfl : i = 0 := by omega
                    exact hfl _ e_f4)
    (fun i hi j hj => by obtain rfl : i = 0 := by omega
                         exact hfl _ (e_f5 j hj))
    (fun i j hi hj hij => absurd (show i = j by omega) hij) hA
  obtain ⟨⟨hO, hC, hV, hT⟩, -⟩ := id (And.intro (hvS.1 0 (by omega)) trivial)
  have hE := hvE 0 (by omega)
  have hZ1 : va_Z "java/lang/String" "COMPACT_STRINGS" "Z" (.int 1) (fun q => s.heap.size ≤ q) s s.heap := va_Zof (htb _ e_f8) (htb _ e_f10) (va_eqi (hfl _ e_f6)) hA
  have hZ2 : ∃ o : Option Nat, va_Z "jdk/internal/util/Preconditions" "SIOOBE_FORMATTER" "Ljava/util/function/BiFunction;" (va_rf o) (fun q => s.heap.size ≤ q) s s.heap := by
    rcases va_Zqof (htb _ e_f9) (htb _ e_f11) (hfl _ e_f7) hA with h | ⟨t, h⟩
    · exact ⟨none, h⟩
    · exact ⟨some t, h⟩
  obtain ⟨o, hZ2⟩ := hZ2
  -- classes
  have hkn : ∀ k : Nat, ∃ z : ClassId × (Nat → Nat), ∀ q, vwCl[k]? = some q → u_Kn s q.1 q.2.1 q.2.2 z.1 z.2 := by
    intro k
    cases hk : vwCl[k]? with
    | none => exact ⟨(0, fun _ => 0), fun q h => by cases h⟩
    | some q =>
      obtain ⟨ty0, -, -, -, -, k5, k6, -⟩ := e_cls k q hk
      obtain ⟨cC, iS, h⟩ := u_known hts k5 (hts _ k6)
      exact ⟨(cC, iS), fun q' h' => by cases h'; exact h⟩
  obtain ⟨dz, hdz⟩ := Classical.axiomOfChoice hkn
  -- arrays
  have hac : ∀ ty, Cond.arrayClass ty ∈ lw_good → ∃ cA, ArrOfT s cA ty ∧ s.vm.findClass ("[" ++ ty.toString) = some cA := by
    intro ty hw
    obtain ⟨cA, kA, comp, h1, h2, h3⟩ := Cond.arrayClass_spec (hts _ hw)
    exact ⟨cA, fun n z => ⟨fun k h => (by cases h), kA, h2, comp, h3⟩, h1⟩
  have hao : ∀ C, Cond.arrayOver (.object C) ∈ lw_tbl → ∃ cA, ArrOfT s cA (.object C) ∧ va_RA s cA (.object C) := by
    intro C hw
    obtain ⟨comp, cA, kA, h1, -, h2, h3, h4⟩ := Cond.arrayOver_spec (htb _ hw)
    exact ⟨cA, fun n z => ⟨fun k h => (by cases h), kA, h2, comp, h3⟩, kA, comp, h2, h3, h1, h4⟩
  obtain ⟨c20, a20, b20⟩ := hac .int e_hA.1
  obtain ⟨c21, a21, b21⟩ := hac .long e_hA.2.1
  obtain ⟨c22, a22, b22⟩ := hac .byte e_hA.2.2.1
  obtain ⟨c23, a23, b23⟩ := hac .boolean e_hA.2.2.2.1
  obtain ⟨c24, a24, b24⟩ := hao _ e_f13.1
  obtain ⟨c25, a25, b25⟩ := hao _ e_f13.2.1
  obtain ⟨c26, a26, b26⟩ := hao _ e_f13.2.2
  obtain ⟨c27, a27, b27⟩ : ∃ cA, ArrOfT s cA (.array .int) ∧ s.vm.findClass ("[" ++ (FieldType.array .int).toString) = some cA := by
    obtain ⟨comp, cA, kA, h1, h2, h3, h4⟩ := Cond.arrayOver_specA (htb _ (List.mem_filter.mp e_hA.2.2.2.2).1)
    exact ⟨cA, fun n z => ⟨fun k h => (by cases h), kA, h2, comp, h3⟩, h4⟩
  obtain ⟨aC, haC⟩ : ∃ aC : Nat → ClassId, aC 20 = c20 ∧ aC 21 = c21 ∧ aC 22 = c22 ∧ aC 23 = c23 ∧ aC 24 = c24 ∧ aC 25 = c25 ∧ aC 26 = c26 ∧ aC 27 = c27 := ⟨fun k => if k = 20 then c20 else if k = 21 then c21 else if k = 22 then c22 else if k = 23 then c23 else if k = 24 then c24 else if k = 25 then c25 else if k = 26 then c26 else c27, rfl, rfl, rfl, rfl, rfl, rfl, rfl, rfl⟩
  obtain ⟨rfl, rfl, rfl, rfl, rfl, rfl, rfl, rfl⟩ := haC
  have hK : va_K (fun k => (dz k).1, fun k => (dz k).2) vwCl (e_tys aC) s := by
    refine ⟨fun k q h => hdz k q h, fun k q h => ?_⟩
    match k, h with
    | 0, h => cases h; exact ⟨a20, b20⟩
    | 1, h => cases h; exact ⟨a21, b21⟩
    | 2, h => cases h; exact ⟨a22, b22⟩
    | 3, h => cases h; exact ⟨a23, b23⟩
    | 4, h => cases h; exact ⟨a24, b24⟩
    | 5, h => cases h; exact ⟨a25, b25⟩
    | 6, h => cases h; exact ⟨a26, b26⟩
    | 7, h => cases h; exact ⟨a27, b27⟩
    | k + 8, h => simp [e_tys] at h
  -- the engine's run
  obtain ⟨d, f, σ', hd, hrun, hc1, hc2⟩ := hlaw L (fun j => (xs j).toInt) hL (fun j => ⟨Int32.le_toInt _, Int32.toInt_lt _⟩)
  have hX' : va_X b L (fun j => Int32.ofInt ((e_s0 L fun j => (xs j).toInt).2.2.2.1 0 j)) s s.heap := by
    have e1 : (fun j => Int32.ofInt ((e_s0 L fun j => (xs j).toInt).2.2.2.1 0 j)) = xs := by
      funext j
      exact e_of (xs j)
    rw [e1]
    exact hX
  have hSx : e_Sx (b, adK 0, adV 0, o) s.heap (e_s0 L fun j => (xs j).toInt) s := by
    refine ⟨?_, hO, hC, hV, hZ1, vk_R.of (htb _ e_f12) hE, hZ2, rfl, rfl⟩
    obtain ⟨cell, q1, q2, q3, q4, q5, q6, q7⟩ := hT
    refine ⟨cell, q1, q2, q3, q4, q5, fun j hj => ?_, q7⟩
    rw [q6 j hj]
    show some (Value.int ((e_bs.map fun n : Nat => Int32.ofInt (n : Int)).getD j 0)) = _
    rw [e_gd]
    rfl
  have C : e_Cx p s m #[Value.ref b] c code 4 "MaySheepLaw" (fun k => (dz k).1, fun k => (dz k).2) aC (b, adK 0, adV 0, o) s.heap (e_s0 L fun j => (xs j).toInt) := ⟨hx, hb, hml, hown, hts, hK, hbl, hX', rfl, rfl, rfl, hSx, hEx⟩
  have hm : ∀ d f, ∀ i vs σ r σ', e_cal e_cs d f i vs σ = some (r, σ') → σ.1 ≤ σ'.1 ∧ σ.2.1 ≤ σ'.2.1 := fun d f i vs σ r σ' h => e_cal_mono d f i vs σ r σ' h
  have key := e_run_ok (l := l) (e := e) (R := room_1) (below := below) (Q := lw_Z below #[Value.ref b] s) (n0 := 3) (s0 := 0) (meth := meth) rfl C e_cls (ms := e_ms) (cd := e_kL)
    (fun pc ins len r0 he => by
      obtain ⟨a1, a2, a3, a4, -⟩ := e_ckM_ok (ini := meth.name = "<init>") e_po19 e_fin_ok (fun h => by cases h) (fun h => by cases h) (fun h => by cases h) (ret := ret) (Or.inr (Or.inl ⟨rfl, rfl⟩)) e_hA e_hB e_hM e_lawck pc ins len r0 he
      exact ⟨a1, a2, a3, a4⟩)
    (call := e_cal e_cs d f) (d := d) (fun i M vs σ r σ' hM h => e_cal_ok e_cls e_tokk hbl rfl rfl rfl d f i M vs σ r σ' hM h) (hm d f) (by show d + 1 ≤ 2048; omega) (by show 60 * d + 60 ≤ 84000; omega) (rr := some (.inl 1)) (σ' := σ') (by show σ'.1 - 3 ≤ 600000; omega) (by show σ'.2.1 - 0 ≤ 7302250; omega)
    (fun pc ls st ins len r0 he hrt => by
      obtain ⟨a1, a2, -, -, -⟩ := e_ckM_ok (ini := meth.name = "<init>") e_po19 e_fin_ok (fun h => by cases h) (fun h => by cases h) (fun h => by cases h) (ret := ret) (Or.inr (Or.inl ⟨rfl, rfl⟩)) e_hA e_hB e_hM e_lawck pc ins len r0 he
      intro lss H locs hLs hI1 hS1
      cases ins with
      | ireturn =>
        have hl1 : 1 = len := a2
        subst hl1
        simp only [e_rt] at hrt
        split at hrt
        next x =>
          split at hrt
          next hc =>
            have hx1 : x = 1 := by
              have := Option.some.inj (Option.some.inj hrt)
              exact Sum.inl.inj this
            subst hx1
            refine va_forget hS1.2.2 (W.widen (k := 600000) (n := 7302250) (by omega) (by omega) ?_)
            exact lw_ret hx hb hr hlocks a1
          next => cases hrt
        next => cases hrt
      | lreturn =>
        simp only [e_rt] at hrt
        split at hrt
        · cases hrt
        · cases hrt
      | areturn =>
        simp only [e_rt] at hrt
        split at hrt
        · cases hrt
        · cases hrt
      | return_ =>
        simp only [e_rt] at hrt
        split at hrt
        · cases hrt
        · cases hrt
      | _ => cases hrt)
    f 0 (e_ent 4 [.inr (.inr 2)]) [] (e_s0 L fun j => (xs j).toInt) (Nat.le_refl _) (Nat.le_refl _) hrun
  rw [lg_entry_eq]
  have hent := lv_entry ([Value.ref b]) (n := 4) (Nat.le_of_ble_eq_true rfl)
  refine key _ s.heap [] ⟨hent.1, hent.2.1, fun i v hi => ?_⟩ ⟨Nat.le_refl _, rfl, fun k q h => by simp [e_ws, e_s0] at h, fun a ha => ?_, fun a ha => ⟨rfl, rfl, rfl⟩, fun a ha => ?_⟩ ⟨Nat.le_refl _, fun q _ _ => rfl, fun q h => by cases h⟩
  · have := e_ent_has (h0 := s.heap.size) (B := (b, adK 0, adV 0, o)) [.inr (.inr 2)] 4 0 i v hi
    rw [Nat.zero_add] at this
    exact hent.2.2 _ this
  · have ha' : 3 ≤ a := ha
    show (if a = 0 then (28, L) else if a = 1 then (13, 2) else if a = 2 then (29, 94) else (99, 0) : Nat × Nat).1 = 99
    rw [if_neg (by omega), if_neg (by omega), if_neg (by omega)]
  · show (if a = 0 then (28, L) else if a = 1 then (13, 2) else if a = 2 then (29, 94) else (99, 0) : Nat × Nat).1 ≠ 13 ∧ (if a = 0 then (28, L) else if a = 1 then (13, 2) else if a = 2 then (29, 94) else (99, 0) : Nat × Nat).1 ≠ 28 ∧ (if a = 0 then (28, L) else if a = 1 then (13, 2) else if a = 2 then (29, 94) else (99, 0) : Nat × Nat).1 ≠ 29
    rw [if_neg (by omega), if_neg (by omega), if_neg (by omega)]
    exact ⟨by decide, by decide, by decide⟩
