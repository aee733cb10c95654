def lw_good : List Cond := lw_tbl.filter goodWord
theorem lw_good_of (i : Nat) {w : Cond} (h : lw_tbl[i]? = some w) (hg : goodWord w = true) : w ∈ lw_good := List.mem_filter.mpr ⟨List.mem_of_getElem? h, hg⟩
theorem lw_g1 (i : Nat) {w : Cond} (h : tables_1_1[i]? = some w) (hg : goodWord w = true) : w ∈ lw_good := List.mem_filter.mpr ⟨List.mem_append_right (k2_sels lw_privs) (show w ∈ tables_1 from List.mem_append_left _ (List.mem_of_getElem? h)), hg⟩
theorem lw_g2 (i : Nat) {w : Cond} (h : tables_1_2[i]? = some w) (hg : goodWord w = true) : w ∈ lw_good := List.mem_filter.mpr ⟨List.mem_append_right (k2_sels lw_privs) (show w ∈ tables_1 from List.mem_append_right _ (List.mem_append_left _ (List.mem_of_getElem? h))), hg⟩
theorem lw_g3 (i : Nat) {w : Cond} (h : tables_1_3[i]? = some w) (hg : goodWord w = true) : w ∈ lw_good := List.mem_filter.mpr ⟨List.mem_append_right (k2_sels lw_privs) (show w ∈ tables_1 from List.mem_append_right _ (List.mem_append_right _ (List.mem_append_left _ (List.mem_of_getElem? h)))), hg⟩
theorem lw_g4 (i : Nat) {w : Cond} (h : tables_1_4[i]? = some w) (hg : goodWord w = true) : w ∈ lw_good := List.mem_filter.mpr ⟨List.mem_append_right (k2_sels lw_privs) (show w ∈ tables_1 from List.mem_append_right _ (List.mem_append_right _ (List.mem_append_right _ (List.mem_append_left _ (List.mem_of_getElem? h))))), hg⟩
theorem lw_g5 (i : Nat) {w : Cond} (h : tables_1_5[i]? = some w) (hg : goodWord w = true) : w ∈ lw_good := List.mem_filter.mpr ⟨List.mem_append_right (k2_sels lw_privs) (show w ∈ tables_1 from List.mem_append_right _ (List.mem_append_right _ (List.mem_append_right _ (List.mem_append_right _ (List.mem_append_left _ (List.mem_of_getElem? h)))))), hg⟩
theorem lw_g6 (i : Nat) {w : Cond} (h : tables_1_6[i]? = some w) (hg : goodWord w = true) : w ∈ lw_good := List.mem_filter.mpr ⟨List.mem_append_right (k2_sels lw_privs) (show w ∈ tables_1 from List.mem_append_right _ (List.mem_append_right _ (List.mem_append_right _ (List.mem_append_right _ (List.mem_append_right _ (List.mem_append_left _ (List.mem_of_getElem? h))))))), hg⟩
theorem lw_g7 (i : Nat) {w : Cond} (h : tables_1_7[i]? = some w) (hg : goodWord w = true) : w ∈ lw_good := List.mem_filter.mpr ⟨List.mem_append_right (k2_sels lw_privs) (show w ∈ tables_1 from List.mem_append_right _ (List.mem_append_right _ (List.mem_append_right _ (List.mem_append_right _ (List.mem_append_right _ (List.mem_append_right _ (List.mem_of_getElem? h))))))), hg⟩
/-- words that hold on by laws of their own -/
def lw_exw : Cond → Bool
  | .arrayOver _ => true
  | .methodLinkNest _ _ _ _ => true
  | _ => false
def lw_ex : List Cond := lw_tbl.filter lw_exw
theorem lw_ex_of (i : Nat) {w : Cond} (h : lw_tbl[i]? = some w) (hg : lw_exw w = true) : w ∈ lw_ex := List.mem_filter.mpr ⟨List.mem_of_getElem? h, hg⟩
theorem lw_ex_warm {s U : State} (hW : s.WarmedH U.vm) (h : ∀ w ∈ lw_ex, va_Nw w s) : ∀ w ∈ lw_ex, va_Nw w U := by
  intro w hw
  have h1 := (List.mem_filter.mp hw).2
  have h2 := h w hw
  cases w with
  | arrayOver ty =>
    have h3 := Cond.arrayOver_setVmC (args := #[]) (s := s) hW.alike ty
    have h4 : (Cond.arrayOver ty).before #[] (s.setVm U.vm) = true := h3.trans h2
    exact h4
  | methodLinkNest a i x h => exact va_Nw.warmM hW h2
  | _ => cases h1
theorem lw_ex_same {s U : State} (hv : s.vm = U.vm) (h : ∀ w ∈ lw_ex, va_Nw w s) : ∀ w ∈ lw_ex, va_Nw w U := by
  intro w hw
  have h1 := (List.mem_filter.mp hw).2
  have h2 := h w hw
  cases w with
  | arrayOver ty =>
    have h3 := Cond.arrayOver_setVmC (args := #[]) (s := s) (vm' := U.vm) (by rw [hv]; exact Vm.Alike.refl _) ty
    have h4 : (Cond.arrayOver ty).before #[] (s.setVm U.vm) = true := h3.trans h2
    exact h4
  | methodLinkNest a i x h => exact va_Nw.same rfl hv h2
  | _ => cases h1
theorem lw_good_in : GoodIn lw_good lw_good := fun w hw => ⟨hw, good_of_word (List.mem_filter.mp hw).2⟩
def e_tyk (t : Nat) (ty : FieldType) : Prop := (t = 0 ∧ ty = .int) ∨ (t = 1 ∧ ty = .boolean) ∨ (t = 2 ∧ ty = .long) ∨ (t = 3 ∧ ((∃ C, ty = .object C) ∨ ∃ u, ty = .array u))
/-- what is known of a class -/
def e_cl (i : Nat) (q : vw_C) (ty0 : Nat → FieldType) : Prop :=
  (∀ k, k < q.2.2 → parseFieldDescriptor (q.2.1 k).2.2.1 = some (ty0 k)) ∧ (∀ a, a < q.2.2 → ∀ b, b < q.2.2 → a ≠ b → (q.2.1 a).2.1 ≠ (q.2.1 b).2.1) ∧ (∀ k, k < q.2.2 → e_tyk (e_ft i k) (ty0 k)) ∧ q.2.2 = e_nf i ∧
  (∀ w ∈ u_ws q.1 q.2.1 q.2.2, w ∈ lw_good) ∧ Cond.instantiable q.1 q.2.2 ∈ lw_good ∧ Cond.initialized q.1 ∈ lw_good
/-- what the tables must say of an instruction -/
def e_rok (own : String) (isI : Prop) (nL pc : Nat) (ins : Instr) (r : eR) : Prop := match ins with
  | .bipush n => -128 ≤ n ∧ n < 128
  | .sipush n => -32768 ≤ n ∧ n < 32768
  | .istore k => k < nL
  | .istore_n k => k.val < nL
  | .astore k => k < nL
  | .astore_n k => k.val < nL
  | .lstore k => k + 1 < nL
  | .lstore_n k => k.val + 1 < nL
  | .iinc k _ => k < nL
  | .goto o => (pc : Int) + o = (r.1 : Int)
  | .if_icmp _ o => (pc : Int) + o = (r.1 : Int)
  | .ifCond _ o => (pc : Int) + o = (r.1 : Int)
  | .ifnull o => (pc : Int) + o = (r.1 : Int)
  | .ifnonnull o => (pc : Int) + o = (r.1 : Int)
  | .ldc i => (r.1 = 0 ∧ Cond.constant own i (Int32.ofInt r.2.2.2.1) ∈ lw_good) ∨ (r.1 = 1 ∧ i = 68 ∧ own = RX9)
  | .ldc_w i => Cond.constant own i (Int32.ofInt r.2.2.2.1) ∈ lw_good
  | .ldc2_w i => Cond.constantLong own i (Int64.ofInt r.2.2.2.1) ∈ lw_good
  | .getfield i => (r.1 = 13 ∧ (r.2.1 = 0 ∧ r.2.2.1 = 3 ∧ Cond.fieldLink own i "java/lang/String" "value" "[B" ∈ lw_good ∨ r.2.1 = 1 ∧ r.2.2.1 = 4 ∧ Cond.fieldLink own i "java/lang/String" "coder" "B" ∈ lw_good)) ∨ r.1 < 13 ∧ ∃ q, vwCl[r.1]? = some q ∧ r.2.1 < q.2.2 ∧ r.2.2.1 = e_ft r.1 r.2.1 ∧ Cond.fieldLink own i (q.2.1 r.2.1).1 (q.2.1 r.2.1).2.1 (q.2.1 r.2.1).2.2.1 ∈ lw_good
  | .putfield i => r.1 < 13 ∧ ∃ q, vwCl[r.1]? = some q ∧ r.2.1 < q.2.2 ∧ r.2.2.1 = e_ft r.1 r.2.1 ∧ Cond.fieldLink own i (q.2.1 r.2.1).1 (q.2.1 r.2.1).2.1 (q.2.1 r.2.1).2.2.1 ∈ lw_good ∧ ((q.2.1 r.2.1).2.2.2 = false ∨ (q.2.1 r.2.1).2.2.2 = true ∧ isI ∧ (q.2.1 r.2.1).1 = own)
  | .new i => r.1 < 13 ∧ ∃ q, vwCl[r.1]? = some q ∧ r.2.1 = q.2.2 ∧ Cond.classLink own i q.1 ∈ lw_good
  | .newarray t => (t = .int ∧ r.1 = 20 ∧ Cond.arrayClass .int ∈ lw_good) ∨ (t = .long ∧ r.1 = 21 ∧ Cond.arrayClass .long ∈ lw_good) ∨ (t = .byte ∧ r.1 = 22 ∧ Cond.arrayClass .byte ∈ lw_good) ∨ (t = .boolean ∧ r.1 = 23 ∧ Cond.arrayClass .boolean ∈ lw_good)
  | .anewarray i => ∃ C, ((r.1 = 24 ∧ C = RX10) ∨ (r.1 = 25 ∧ C = RX6) ∨ (r.1 = 26 ∧ C = RX8)) ∧ Cond.classLink own i C ∈ lw_good ∧ Cond.arrayOver (.object C) ∈ lw_ex
  | .multianewarray i d => d = 2 ∧ Cond.classLink own i "[[I" ∈ lw_good ∧ Cond.arrayOver (.array .int) ∈ lw_ex ∧ Cond.arrayClass .int ∈ lw_good
  | .tableswitch d lo hi offs => (pc : Int) + d = (r.1 : Int) ∧ 0 ≤ hi - lo ∧ r.2.2.2.2.length = (hi - lo + 1).toNat ∧ ∀ (j : Nat) (q : Int × Nat), r.2.2.2.2[j]? = some q → q.1 = lo + j ∧ ∃ o, offs[j]? = some o ∧ (pc : Int) + o = (q.2 : Int)
  | .lookupswitch d ps => (ps.toList.zip (ps.toList.drop 1)).all (fun (a, next) => a.1 < next.1) = true ∧ (pc : Int) + d = (r.1 : Int) ∧ r.2.2.2.2.length = ps.toList.length ∧ ∀ (j : Nat) (q : Int × Nat), r.2.2.2.2[j]? = some q → ∃ o, ps.toList[j]? = some (q.1, o) ∧ (pc : Int) + o = (q.2 : Int)
  | .getstatic i => (r.1 = 0 ∧ r.2.2.2.1 = 1 ∧ Cond.fieldLink own i "java/lang/String" "COMPACT_STRINGS" "Z" ∈ lw_good) ∨ (r.1 = 1 ∧ Cond.fieldLink own i "jdk/internal/util/Preconditions" "SIOOBE_FORMATTER" "Ljava/util/function/BiFunction;" ∈ lw_good)
  | _ => True
/-- the String constant, its bytes, the static that Strings ask for -/
def e_tx : String := "sheep man likes salt hands flock mine led wool coins grass year hill follows go if or and not "
def e_Sx (B : Nat × Nat × Nat × Option Nat) (Hl : Heap) (σ0 : eH) (s : State) : Prop :=
  va_T .byte B.2.2.1 (σ0.2.2.1 2).2 (fun j => .int (Int32.ofInt (σ0.2.2.2.1 2 j))) (fun q => Hl.size ≤ q) s Hl ∧ va_O "java/lang/String" B.2.1 (fun q => Hl.size ≤ q) s Hl ∧ va_OF "java/lang/String" "coder" "B" (.int 0) B.2.1 (fun q => Hl.size ≤ q) s Hl ∧ va_OF "java/lang/String" "value" "[B" (.ref B.2.2.1) B.2.1 (fun q => Hl.size ≤ q) s Hl ∧ va_Z "java/lang/String" "COMPACT_STRINGS" "Z" (.int 1) (fun q => Hl.size ≤ q) s Hl ∧ vk_R RX9 68 e_tx B.2.1 s ∧ va_Z "jdk/internal/util/Preconditions" "SIOOBE_FORMATTER" "Ljava/util/function/BiFunction;" (va_rf B.2.2.2) (fun q => Hl.size ≤ q) s Hl ∧ σ0.2.2.2.2 1 0 = 4 ∧ σ0.2.2.2.1 1 1 = 0
theorem e_Sx.moved {B : Nat × Nat × Nat × Option Nat} {Hl : Heap} {σ0 : eH} {s U : State} (hW : s.WarmedH U.vm) (h : e_Sx B Hl σ0 s) : e_Sx B Hl σ0 U := by
  obtain ⟨h1, h2, h3, h4, h5, h6, h7, h8⟩ := h
  exact ⟨h1.moved hW.alike, h2.moved hW.alike, h3.moved hW.alike, h4.moved hW.alike, h5.moved hW.alike, h6.warm hW, h7.moved hW.alike, h8⟩
/-- what holds throughout a method: the machine, its code, the tables, the arrays' classes, the script -/
def e_Cx (p : Program) (s : State) (m : MethodId) (args : Array Value) (c : Code) (cc : ByteArray) (nL : Nat) (own : String) (D : va_G) (aC : Nat → ClassId) (B : Nat × Nat × Nat × Option Nat) (Hl : Heap) (σ0 : eH) : Prop :=
  p.tables.exec = Jvm.exec ∧ c.code = cc ∧ c.maxLocals = nL ∧ s.vm.findClass own = some m.cls ∧ (∀ w ∈ lw_good, w.before args s = true) ∧ va_K D vwCl (e_tys aC) s ∧ B.1 < Hl.size ∧ va_X B.1 (σ0.2.2.1 0).2 (fun j => Int32.ofInt (σ0.2.2.2.1 0 j)) s Hl ∧ (σ0.2.2.1 0).1 = 28 ∧ (σ0.2.2.1 1).1 = 13 ∧ (σ0.2.2.1 2).1 = 29 ∧ e_Sx B Hl σ0 s ∧ ∀ w ∈ lw_ex, va_Nw w s
/-- the machine at a place of the code, as the engine sees it -/
def e_Go (p : Program) (l : Launch) (e : Env) (R : Room) (s : State) (m : MethodId) (args : Array Value) (below : List Frame) (meth : Method) (c : Code) (Q : State → Prop) (nL : Nat) (D : va_G) (aC : Nat → ClassId) (B : Nat × Nat × Nat × Option Nat) (Hl : Heap) (σ0 : eH) (n0 s0 : Nat) (pc : Nat) (ls : eL) (st : List eV) (σ : eH) : Prop :=
  ∀ (lss : Array Slot) (H : Heap) (locs : List Loc), e_LH Hl.size B lss nL ls → e_I Hl.size B aC D σ0 σ H → va_S (fun q => Hl.size ≤ q) Hl H locs → W p l e R s m args below meth c H locs (σ.1 - n0) (σ.2.1 - s0) Q (F0 m pc lss (st.map (e_cv Hl.size B)))
theorem e_load_ok {ls : eL} {k ty pc : Nat} {st : List eV} {σ : eH} {q : eT} (h : e_load ls k ty pc st σ = some q) : ∃ v, ls[k]? = some (some v) ∧ e_ld v ty = true ∧ q = (pc, ls, v :: st, σ) := by
  unfold e_load at h
  cases hv : ls[k]? with
  | none => rw [hv] at h; cases h
  | some o =>
    cases o with
    | none => rw [hv] at h; cases h
    | some v =>
      rw [hv] at h
      dsimp only at h
      split at h
      next hg => cases h; exact ⟨v, rfl, hg, rfl⟩
      next => cases h
theorem e_bin_ok {st : List eV} {f : Int → Int → Option Int} {pc : Nat} {ls : eL} {σ : eH} {q : eT} (h : e_bin st f pc ls σ = some q) : ∃ x y t z, st = .inl y :: .inl x :: t ∧ f x y = some z ∧ q = (pc, ls, .inl z :: t, σ) := by
  unfold e_bin at h
  split at h
  next y x t =>
    cases hz : f x y with
    | none => rw [hz] at h; cases h
    | some z => rw [hz] at h; cases h; exact ⟨x, y, t, z, rfl, hz, rfl⟩
  next => cases h
theorem e_binL_ok {st : List eV} {f : Int → Int → Option Int} {pc : Nat} {ls : eL} {σ : eH} {q : eT} (h : e_binL st f pc ls σ = some q) : ∃ x y t z, st = .inr (.inl y) :: .inr (.inl x) :: t ∧ f x y = some z ∧ q = (pc, ls, .inr (.inl z) :: t, σ) := by
  unfold e_binL at h
  split at h
  next y x t =>
    cases hz : f x y with
    | none => rw [hz] at h; cases h
    | some z => rw [hz] at h; cases h; exact ⟨x, y, t, z, rfl, hz, rfl⟩
  next => cases h
theorem e_ok_of {σ : eH} {a k : Nat} {i : Int} (h : e_ok σ a k i = true) : (σ.2.2.1 a).1 = k ∧ 0 ≤ e_w32 i ∧ e_w32 i < (σ.2.2.1 a).2 := by
  unfold e_ok at h
  simp only [Bool.and_eq_true, decide_eq_true_eq] at h
  exact ⟨h.1.1, h.1.2, h.2⟩
/-- a cell that is known to be of a kind made here has its place -/
theorem e_I.at {h0 : Nat} {B : Nat × Nat × Nat × Option Nat} {aC : Nat → ClassId} {D : va_G} {σ0 σ : eH} {H : Heap} (hI : e_I h0 B aC D σ0 σ H) (z0 : (σ0.2.2.1 0).1 = 28) (z1 : (σ0.2.2.1 1).1 = 13) (z2 : (σ0.2.2.1 2).1 = 29) {a : Nat} (h28 : (σ.2.2.1 a).1 ≠ 28) (h13 : (σ.2.2.1 a).1 ≠ 13) (h29 : (σ.2.2.1 a).1 ≠ 29) (h99 : (σ.2.2.1 a).1 ≠ 99) : ∃ k, a = k + 3 ∧ k + 3 < σ.1 ∧ e_ad h0 B a = h0 + k ∧ (e_ws h0 B aC σ)[k]? = some (h0 + k, e_en h0 B aC σ (k + 3)) := by
  obtain ⟨i1, i2, i3, i4, i5, i6⟩ := hI
  have hlt : a < σ.1 := Nat.not_le.mp fun q => h99 (i4 a q)
  match a, h28, h13, h29, hlt with
  | 0, h28, _, _, _ => exact absurd (by rw [(i5 0 (by omega)).1]; exact z0) h28
  | 1, _, h13, _, _ => exact absurd (by rw [(i5 1 (by omega)).1]; exact z1) h13
  | 2, _, _, h29, _ => exact absurd (by rw [(i5 2 (by omega)).1]; exact z2) h29
  | k + 3, _, _, _, hlt => exact ⟨k, rfl, hlt, rfl, e_ws_get hlt⟩
/-- the heap with a number put into a cell -/
theorem e_I.put {h0 : Nat} {B : Nat × Nat × Nat × Option Nat} {aC : Nat → ClassId} {D : va_G} {σ0 σ : eH} {H H1 : Heap} (hI : e_I h0 B aC D σ0 σ H) {k i : Nat} {x : Int} (hz : H1.size = H.size) (hP : va_P D vwCl (e_ws h0 B aC (e_put σ (k + 3) i x)) H1) : e_I h0 B aC D σ0 (e_put σ (k + 3) i x) H1 := by
  obtain ⟨i1, i2, i3, i4, i5, i6⟩ := hI
  refine ⟨i1, hz.trans i2, hP, i4, fun a ha => ⟨(i5 a ha).1, ?_, (i5 a ha).2.2⟩, i6⟩
  rw [← (i5 a ha).2.1]
  show va_up _ _ _ a = _
  unfold va_up
  rw [if_neg (by omega)]
theorem e_I.puR {h0 : Nat} {B : Nat × Nat × Nat × Option Nat} {aC : Nat → ClassId} {D : va_G} {σ0 σ : eH} {H H1 : Heap} (hI : e_I h0 B aC D σ0 σ H) {k i x : Nat} (hz : H1.size = H.size) (hP : va_P D vwCl (e_ws h0 B aC (e_puR σ (k + 3) i x)) H1) : e_I h0 B aC D σ0 (e_puR σ (k + 3) i x) H1 := by
  obtain ⟨i1, i2, i3, i4, i5, i6⟩ := hI
  refine ⟨i1, hz.trans i2, hP, i4, fun a ha => ⟨(i5 a ha).1, (i5 a ha).2.1, ?_⟩, i6⟩
  rw [← (i5 a ha).2.2]
  show va_up _ _ _ a = _
  unfold va_up
  rw [if_neg (by omega)]
theorem e_I.cpy {h0 : Nat} {B : Nat × Nat × Nat × Option Nat} {aC : Nat → ClassId} {D : va_G} {σ0 σ : eH} {H H1 : Heap} (hI : e_I h0 B aC D σ0 σ H) {k b sp dp n : Nat} (hz : H1.size = H.size) (hP : va_P D vwCl (e_ws h0 B aC (e_cpy σ b (k + 3) sp dp n)) H1) : e_I h0 B aC D σ0 (e_cpy σ b (k + 3) sp dp n) H1 := by
  obtain ⟨i1, i2, i3, i4, i5, i6⟩ := hI
  refine ⟨i1, hz.trans i2, hP, i4, fun a ha => ⟨(i5 a ha).1, ?_, (i5 a ha).2.2⟩, i6⟩
  rw [← (i5 a ha).2.1]
  show va_up _ _ _ a = _
  unfold va_up
  rw [if_neg (by omega)]
theorem e_I.new {h0 : Nat} {B : Nat × Nat × Nat × Option Nat} {aC : Nat → ClassId} {D : va_G} {σ0 σ : eH} {H H1 : Heap} (hI : e_I h0 B aC D σ0 σ H) {kd len : Nat} (hkd : kd ≠ 13 ∧ kd ≠ 28 ∧ kd ≠ 29) (hz : H1.size = H.size + 1) (hP : va_P D vwCl (e_ws h0 B aC (e_new σ kd len)) H1) : e_I h0 B aC D σ0 (e_new σ kd len) H1 := by
  obtain ⟨i1, i2, i3, i4, i5, i6⟩ := hI
  refine ⟨Nat.le_succ_of_le i1, ?_, hP, fun a ha => ?_, fun a ha => ?_, fun a ha => ?_⟩
  · show H1.size = h0 + (σ.1 + 1 - 3)
    omega
  · have ha' : σ.1 + 1 ≤ a := ha
    show (va_up σ.2.2.1 σ.1 (kd, len) a).1 = 99
    unfold va_up
    rw [if_neg (by omega)]
    exact i4 a (by omega)
  · refine ⟨?_, ?_, ?_⟩
    · rw [← (i5 a ha).1]
      show va_up _ _ _ a = _
      unfold va_up
      rw [if_neg (by omega)]
    · rw [← (i5 a ha).2.1]
      show va_up _ _ _ a = _
      unfold va_up
      rw [if_neg (by omega)]
    · rw [← (i5 a ha).2.2]
      show va_up _ _ _ a = _
      unfold va_up
      rw [if_neg (by omega)]
  · show (va_up σ.2.2.1 σ.1 (kd, len) a).1 ≠ 13 ∧ (va_up σ.2.2.1 σ.1 (kd, len) a).1 ≠ 28 ∧ (va_up σ.2.2.1 σ.1 (kd, len) a).1 ≠ 29
    unfold va_up
    split
    · exact hkd
    · exact i6 a ha
