/-- the pools of a class, as numbers: fields, methods, classes, ints, longs -/
abbrev eP : Type := List (Nat × Nat × Nat × Nat) × List (Nat × Nat × Nat × Nat) × List (Nat × Nat × Nat) × List (Nat × Int) × List (Nat × Int)
def e_fok (own : String) (q : Nat × Nat × Nat × Nat) : Prop := ((q.2.1 = 14 ∧ q.2.2.1 = 0 ∧ Cond.fieldLink own q.1 "java/lang/String" "COMPACT_STRINGS" "Z" ∈ lw_good) ∨ (q.2.1 = 14 ∧ q.2.2.1 = 1 ∧ Cond.fieldLink own q.1 "jdk/internal/util/Preconditions" "SIOOBE_FORMATTER" "Ljava/util/function/BiFunction;" ∈ lw_good)) ∨ (q.2.1 = 13 ∧ (q.2.2.1 = 0 ∧ q.2.2.2 = 3 ∧ Cond.fieldLink own q.1 "java/lang/String" "value" "[B" ∈ lw_good ∨ q.2.2.1 = 1 ∧ q.2.2.2 = 4 ∧ Cond.fieldLink own q.1 "java/lang/String" "coder" "B" ∈ lw_good)) ∨ q.2.1 < 13 ∧ ∃ c, vwCl[q.2.1]? = some c ∧ q.2.2.1 < c.2.2 ∧ q.2.2.2 = e_ft q.2.1 q.2.2.1 ∧ Cond.fieldLink own q.1 (c.2.1 q.2.2.1).1 (c.2.1 q.2.2.1).2.1 (c.2.1 q.2.2.1).2.2.1 ∈ lw_good
def e_mlk (ms : List eM) (own : String) (q : Nat × Nat × Nat × Nat) : Prop := (q.2.2.2 = 10 ∧ Cond.methodLink own q.1 arraycopyName ∈ lw_good) ∨ (q.2.2.2 = 11 ∧ Cond.methodLink own q.1 Lib.objectInit ∈ lw_good) ∨ (q.2.2.2 = 12 ∧ Cond.methodLink own q.1 Lib.Math.max.name ∈ lw_good) ∨ (q.2.2.2 = 13 ∧ Cond.methodLink own q.1 Lib.Math.min.name ∈ lw_good) ∨ (q.2.2.2 = 14 ∧ Cond.methodLink own q.1 Lib.Math.abs.name ∈ lw_good) ∨ ∃ M n, ms[q.2.1]? = some M ∧ e_mok M n ∧ ((q.2.2.2 = 0 ∧ M.2.2.2.2 = 0 ∧ q.2.2.1 = n ∧ Cond.methodLink own q.1 M.1 ∈ lw_good) ∨ (q.2.2.2 = 1 ∧ M.2.2.2.2 = 1 ∧ q.2.2.1 = n + 1 ∧ Cond.methodLink own q.1 M.1 ∈ lw_good) ∨ (q.2.2.2 = 2 ∧ M.2.2.2.2 = 1 ∧ q.2.2.1 = n + 1 ∧ ∃ host, Cond.methodLinkNest own q.1 M.1 host ∈ lw_ex) ∨ (20 ≤ q.2.2.2 ∧ M.2.2.2.2 = q.2.2.2 ∧ q.2.2.1 = n + 1 ∧ Cond.methodLink own q.1 M.1 ∈ lw_good))
def e_cok (own : String) (q : Nat × Nat × Nat) : Prop := (q.2.1 < 13 ∧ ∃ c, vwCl[q.2.1]? = some c ∧ q.2.2 = c.2.2 ∧ Cond.classLink own q.1 c.1 ∈ lw_good) ∨ (∃ C, ((q.2.1 = 24 ∧ C = RX10) ∨ (q.2.1 = 25 ∧ C = RX6) ∨ (q.2.1 = 26 ∧ C = RX8)) ∧ Cond.classLink own q.1 C ∈ lw_good ∧ Cond.arrayOver (.object C) ∈ lw_ex) ∨ (q.2.1 = 27 ∧ Cond.classLink own q.1 "[[I" ∈ lw_good)
def e_pok (ms : List eM) (own : String) (P : eP) : Prop := (∀ q ∈ P.1, e_fok own q) ∧ (∀ q ∈ P.2.1, e_mlk ms own q) ∧ (∀ q ∈ P.2.2.1, e_cok own q) ∧ (∀ q ∈ P.2.2.2.1, Cond.constant own q.1 (Int32.ofInt q.2) ∈ lw_good) ∧ ∀ q ∈ P.2.2.2.2, Cond.constantLong own q.1 (Int64.ofInt q.2) ∈ lw_good
/-- which fields are final: 1 -/
def e_swk (pc : Nat) (lo : Int) (offs : List Int) : List (Int × Nat) → Bool
  | [] => offs.isEmpty
  | (k, t) :: r => match offs with
    | [] => false
    | o :: os => decide (k = lo) && decide ((pc : Int) + o = (t : Int)) && e_swk pc (lo + 1) os r
def e_swl (pc : Nat) : List (Int × Int) → List (Int × Nat) → Bool
  | [], [] => true
  | (k, o) :: ps, (k2, t) :: r => decide (k = k2) && decide ((pc : Int) + o = (t : Int)) && e_swl pc ps r
  | _, _ => false
def e_ckI (P : eP) (fin : List (List Nat)) (tape isI : Bool) (ownc : Nat) (ret : Nat) (nL pc : Nat) (ins : Instr) (r : eR) : Bool := match ins with
  | .bipush n => decide (-128 ≤ n ∧ n < 128)
  | .sipush n => decide (-32768 ≤ n ∧ n < 32768)
  | .istore k => decide (k < nL)
  | .istore_n k => decide (k.val < nL)
  | .astore k => decide (k < nL)
  | .astore_n k => decide (k.val < nL)
  | .lstore k => decide (k + 1 < nL)
  | .lstore_n k => decide (k.val + 1 < nL)
  | .iinc k _ => decide (k < nL)
  | .goto o => decide ((pc : Int) + o = (r.1 : Int))
  | .if_icmp _ o => decide ((pc : Int) + o = (r.1 : Int))
  | .ifCond _ o => decide ((pc : Int) + o = (r.1 : Int))
  | .ifnull o => decide ((pc : Int) + o = (r.1 : Int))
  | .ifnonnull o => decide ((pc : Int) + o = (r.1 : Int))
  | .ldc i => (decide (r.1 = 0) && decide ((i, r.2.2.2.1) ∈ P.2.2.2.1)) || (tape && decide (r.1 = 1 ∧ i = 68))
  | .ldc_w i => decide ((i, r.2.2.2.1) ∈ P.2.2.2.1)
  | .ldc2_w i => decide ((i, r.2.2.2.1) ∈ P.2.2.2.2)
  | .getfield i => decide ((i, r.1, r.2.1, r.2.2.1) ∈ P.1) && decide (r.1 ≤ 13)
  | .putfield i => decide ((i, r.1, r.2.1, r.2.2.1) ∈ P.1) && decide (r.1 < 13) && (decide ((fin.getD r.1 []).getD r.2.1 1 = 0) || (isI && decide (r.1 = ownc) && decide ((fin.getD r.1 []).getD r.2.1 0 = 1)))
  | .new i => decide ((i, r.1, r.2.1) ∈ P.2.2.1) && decide (r.1 < 13)
  | .newarray t => (match t with | .int => decide (r.1 = 20) | .long => decide (r.1 = 21) | .byte => decide (r.1 = 22) | .boolean => decide (r.1 = 23) | _ => false)
  | .anewarray i => decide ((i, r.1, r.2.1) ∈ P.2.2.1) && decide (24 ≤ r.1 ∧ r.1 ≤ 26)
  | .multianewarray i d => decide ((i, 27, 0) ∈ P.2.2.1) && decide (d = 2)
  | .tableswitch d lo hi offs => decide ((pc : Int) + d = (r.1 : Int)) && decide (0 ≤ hi - lo) && decide (offs.toList.length = (hi - lo + 1).toNat) && e_swk pc lo offs.toList r.2.2.2.2
  | .lookupswitch d ps => (ps.toList.zip (ps.toList.drop 1)).all (fun (a, next) => a.1 < next.1) && decide ((pc : Int) + d = (r.1 : Int)) && e_swl pc ps.toList r.2.2.2.2
  | .getstatic i => (decide ((i, 14, 0, 0) ∈ P.1) && decide (r.1 = 0) && decide (r.2.2.2.1 = 1)) || (decide ((i, 14, 1, 0) ∈ P.1) && decide (r.1 = 1))
  | .invokestatic i => decide ((i, r.1, r.2.1, r.2.2.1) ∈ P.2.1) && decide (r.2.2.1 = 0 ∨ r.2.2.1 = 10 ∨ r.2.2.1 = 12 ∨ r.2.2.1 = 13 ∨ r.2.2.1 = 14)
  | .invokespecial i => decide ((i, r.1, r.2.1, r.2.2.1) ∈ P.2.1) && decide (r.2.2.1 = 1 ∨ r.2.2.1 = 2 ∨ r.2.2.1 = 11)
  | .invokevirtual i => decide ((i, r.1, r.2.1, r.2.2.1) ∈ P.2.1) && decide (20 ≤ r.2.2.1)
  | .ireturn => decide (r.1 = ret ∧ ret ≤ 2)
  | .lreturn => decide (ret = 3)
  | .areturn => decide (ret = 4)
  | .return_ => decide (ret = 5)
  | _ => true
def e_ckM (P : eP) (fin : List (List Nat)) (tape isI : Bool) (ownc ret nL : Nat) (bytes : ByteArray) (cd : List (Option eI)) : Bool := (List.range cd.length).all fun pc => match cd[pc]? with
  | some (some e) => (match decode bytes pc with | .ok q => decide (q.1 = e.1) && decide (q.2 = e.2.1) | .error _ => false) && decide ((if e_ln e.1 = 0 then e.2.1 else e_ln e.1) = e.2.1) && e_ckI P fin tape isI ownc ret nL pc e.1 e.2.2
  | _ => true
def e_retk (k : Nat) (ret : Option FieldType) : Prop := (k = 0 ∧ ret = some .int) ∨ (k = 1 ∧ ret = some .boolean) ∨ (k = 2 ∧ (ret = some .char ∨ ret = some .byte)) ∨ (k = 3 ∧ ret = some .long) ∨ (k = 4 ∧ ((∃ C, ret = some (.object C)) ∨ ∃ t, ret = some (.array t))) ∨ (k = 5 ∧ ret = none)
/-- the final fields as the classes tell them -/
def e_fink (fin : List (List Nat)) : Prop := ∀ (i : Nat) (c : vw_C), vwCl[i]? = some c → ∀ k, k < c.2.2 → ((fin.getD i []).getD k 2 = 0 ∧ (c.2.1 k).2.2.2 = false) ∨ ((fin.getD i []).getD k 2 = 1 ∧ (c.2.1 k).2.2.2 = true ∧ (c.2.1 k).1 = c.1)
theorem e_swk_ok {pc : Nat} : ∀ (ps : List (Int × Nat)) (lo : Int) (offs : List Int), e_swk pc lo offs ps = true → ps.length = offs.length ∧ ∀ (j : Nat) (q : Int × Nat), ps[j]? = some q → q.1 = lo + j ∧ ∃ o, offs[j]? = some o ∧ (pc : Int) + o = (q.2 : Int)
  | [], lo, offs, h => by
    simp only [e_swk, List.isEmpty_iff] at h
    subst h
    exact ⟨rfl, fun j q h => by simp at h⟩
  | (k, t) :: r, lo, [], h => by simp [e_swk] at h
  | (k, t) :: r, lo, o :: os, h => by
    simp only [e_swk, Bool.and_eq_true, decide_eq_true_eq] at h
    obtain ⟨⟨h1, h2⟩, h3⟩ := h
    obtain ⟨g1, g2⟩ := e_swk_ok r (lo + 1) os h3
    refine ⟨by simp [g1], fun j q hq => ?_⟩
    cases j with
    | zero => cases hq; exact ⟨by simp [h1], o, rfl, h2⟩
    | succ j =>
      obtain ⟨a1, o', a2, a3⟩ := g2 j q (by simpa using hq)
      exact ⟨by rw [a1]; omega, o', by simpa using a2, a3⟩
theorem e_swl_ok {pc : Nat} : ∀ (qs : List (Int × Int)) (ps : List (Int × Nat)), e_swl pc qs ps = true → ps.length = qs.length ∧ ∀ (j : Nat) (q : Int × Nat), ps[j]? = some q → ∃ o, qs[j]? = some (q.1, o) ∧ (pc : Int) + o = (q.2 : Int)
  | [], [], _ => ⟨rfl, fun j q h => by simp at h⟩
  | [], _ :: _, h => by simp [e_swl] at h
  | _ :: _, [], h => by simp [e_swl] at h
  | (k, o) :: qs, (k2, t) :: ps, h => by
    simp only [e_swl, Bool.and_eq_true, decide_eq_true_eq] at h
    obtain ⟨⟨rfl, h2⟩, h3⟩ := h
    obtain ⟨g1, g2⟩ := e_swl_ok qs ps h3
    refine ⟨by simp [g1], fun j q hq => ?_⟩
    cases j with
    | zero => cases hq; exact ⟨o, rfl, h2⟩
    | succ j =>
      obtain ⟨o', a2, a3⟩ := g2 j q (by simpa using hq)
      exact ⟨o', by simpa using a2, a3⟩
set_option maxHeartbeats 4000000 in
theorem e_ckI_ok {ms : List eM} {own : String} {P : eP} (hP : e_pok ms own P) {fin : List (List Nat)} (hfin : e_fink fin) {tape isI : Bool} (htape : tape = true → own = RX9) {ini : Prop} (hini : isI = true → ini) {ownc : Nat} (hownc : isI = true → ∃ c, vwCl[ownc]? = some c ∧ c.1 = own) {k : Nat} {ret : Option FieldType} (hret : e_retk k ret)
    (hA : Cond.arrayClass .int ∈ lw_good ∧ Cond.arrayClass .long ∈ lw_good ∧ Cond.arrayClass .byte ∈ lw_good ∧ Cond.arrayClass .boolean ∈ lw_good ∧ Cond.arrayOver (.array .int) ∈ lw_ex) (hB : Cond.native arraycopyName ∈ lw_good ∧ Cond.static arraycopyName ∈ lw_good ∧ Cond.initialized "java/lang/System" ∈ lw_good ∧ Cond.instanceMethod Lib.objectInit ∈ lw_good ∧ Cond.code Lib.objectInit ⟨#[0xb1]⟩ 1 none ∈ lw_good) (hM : Cond.initialized "java/lang/Math" ∈ lw_good ∧ (Cond.static Lib.Math.max.name ∈ lw_good ∧ Cond.code Lib.Math.max.name Lib.Math.max.code 2 (some .int) ∈ lw_good) ∧ (Cond.static Lib.Math.min.name ∈ lw_good ∧ Cond.code Lib.Math.min.name Lib.Math.min.code 2 (some .int) ∈ lw_good) ∧ Cond.static Lib.Math.abs.name ∈ lw_good ∧ Cond.code Lib.Math.abs.name Lib.Math.abs.code 1 (some .int) ∈ lw_good)
    {nL pc : Nat} {ins : Instr} {r : eR} (h : e_ckI P fin tape isI ownc k nL pc ins r = true) : e_rok own ini nL pc ins r ∧ e_iok ms own ins r ∧ e_rtk ret ins r := by
  obtain ⟨p1, p2, p3, p4, p5⟩ := hP
  cases ins with
  | bipush n =>
    simp only [e_ckI, decide_eq_true_eq] at h
    exact ⟨h, trivial, trivial⟩
  | sipush n =>
    simp only [e_ckI, decide_eq_true_eq] at h
    exact ⟨h, trivial, trivial⟩
  | istore n =>
    simp only [e_ckI, decide_eq_true_eq] at h
    exact ⟨h, trivial, trivial⟩
  | istore_n n =>
    simp only [e_ckI, decide_eq_true_eq] at h
    exact ⟨h, trivial, trivial⟩
  | astore n =>
    simp only [e_ckI, decide_eq_true_eq] at h
    exact ⟨h, trivial, trivial⟩
  | astore_n n =>
    simp only [e_ckI, decide_eq_true_eq] at h
    exact ⟨h, trivial, trivial⟩
  | lstore n =>
    simp only [e_ckI, decide_eq_true_eq] at h
    exact ⟨h, trivial, trivial⟩
  | lstore_n n =>
    simp only [e_ckI, decide_eq_true_eq] at h
    exact ⟨h, trivial, trivial⟩
  | iinc n x =>
    simp only [e_ckI, decide_eq_true_eq] at h
    exact ⟨h, trivial, trivial⟩
  | goto n =>
    simp only [e_ckI, decide_eq_true_eq] at h
    exact ⟨h, trivial, trivial⟩
  | if_icmp c n =>
    simp only [e_ckI, decide_eq_true_eq] at h
    exact ⟨h, trivial, trivial⟩
  | ifCond c n =>
    simp only [e_ckI, decide_eq_true_eq] at h
    exact ⟨h, trivial, trivial⟩
  | ifnull n =>
    simp only [e_ckI, decide_eq_true_eq] at h
    exact ⟨h, trivial, trivial⟩
  | ifnonnull n =>
    simp only [e_ckI, decide_eq_true_eq] at h
    exact ⟨h, trivial, trivial⟩
  | ldc i =>
    simp only [e_ckI, Bool.or_eq_true, Bool.and_eq_true, decide_eq_true_eq] at h
    refine ⟨?_, trivial, trivial⟩
    rcases h with ⟨h1, h2⟩ | ⟨h1, h2, h3⟩
    · exact Or.inl ⟨h1, p4 _ h2⟩
    · exact Or.inr ⟨h2, h3, htape h1⟩
  | ldc_w i => exact ⟨p4 _ (of_decide_eq_true h), trivial, trivial⟩
  | ldc2_w i => exact ⟨p5 _ (of_decide_eq_true h), trivial, trivial⟩
  | getfield i =>
    simp only [e_ckI, Bool.and_eq_true, decide_eq_true_eq] at h
    refine ⟨?_, trivial, trivial⟩
    rcases p1 _ h.1 with (⟨q1, -⟩ | ⟨q1, -⟩) | q
    · dsimp only at q1
      omega
    · dsimp only at q1
      omega
    · exact q
  | putfield i =>
    simp only [e_ckI, Bool.or_eq_true, Bool.and_eq_true, decide_eq_true_eq] at h
    obtain ⟨⟨h1, h2⟩, h3⟩ := h
    refine ⟨?_, trivial, trivial⟩
    rcases p1 _ h1 with (⟨q1, -⟩ | ⟨q1, -⟩) | ⟨q1, -⟩ | ⟨q1, c, q2, q3, q4, q5⟩
    · dsimp only at q1
      omega
    · dsimp only at q1
      omega
    · dsimp only at q1
      omega
    · dsimp only at q1 q2 q3 q4 q5
      refine ⟨h2, c, q2, q3, q4, q5, ?_⟩
      rcases hfin _ _ q2 _ q3 with ⟨f1, f2⟩ | ⟨f1, f2, f3⟩
      · exact Or.inl f2
      · refine Or.inr ⟨f2, ?_⟩
        have hlt : r.2.1 < (fin.getD r.1 []).length := by
          rcases Nat.lt_or_ge r.2.1 (fin.getD r.1 []).length with w | w
          · exact w
          · rw [List.getD_eq_getElem?_getD, List.getElem?_eq_none w] at f1
            cases f1
        have e1 : ∀ d, (fin.getD r.1 []).getD r.2.1 d = 1 := by
          intro d
          rw [List.getD_eq_getElem?_getD, List.getElem?_eq_getElem hlt] at f1 ⊢
          exact f1
        rcases h3 with h3 | ⟨⟨h3, h4⟩, h5⟩
        · rw [e1] at h3
          cases h3
        · obtain ⟨c', hc', hn⟩ := hownc h3
          rw [← h4, q2] at hc'
          cases hc'
          exact ⟨hini h3, f3.trans hn⟩
  | new i =>
    simp only [e_ckI, Bool.and_eq_true, decide_eq_true_eq] at h
    refine ⟨?_, trivial, trivial⟩
    rcases p3 _ h.1 with ⟨q1, q2⟩ | ⟨C, q1, -⟩ | ⟨q1, -⟩
    · exact ⟨q1, q2⟩
    · dsimp only at q1
      omega
    · dsimp only at q1
      omega
  | newarray t =>
    refine ⟨?_, trivial, trivial⟩
    cases t with
    | int => exact Or.inl ⟨rfl, of_decide_eq_true h, hA.1⟩
    | long => exact Or.inr (Or.inl ⟨rfl, of_decide_eq_true h, hA.2.1⟩)
    | byte => exact Or.inr (Or.inr (Or.inl ⟨rfl, of_decide_eq_true h, hA.2.2.1⟩))
    | boolean => exact Or.inr (Or.inr (Or.inr ⟨rfl, of_decide_eq_true h, hA.2.2.2.1⟩))
    | _ => cases h
  | anewarray i =>
    simp only [e_ckI, Bool.and_eq_true, decide_eq_true_eq] at h
    refine ⟨?_, trivial, trivial⟩
    rcases p3 _ h.1 with ⟨q1, q2⟩ | q1 | ⟨q1, -⟩
    · dsimp only at q1
      omega
    · exact q1
    · dsimp only at q1
      omega
  | multianewarray i d =>
    simp only [e_ckI, Bool.and_eq_true, decide_eq_true_eq] at h
    refine ⟨?_, trivial, trivial⟩
    rcases p3 _ h.1 with ⟨q1, q2⟩ | ⟨C, q1, -⟩ | ⟨-, q1⟩
    · dsimp only at q1
      omega
    · dsimp only at q1
      omega
    · exact ⟨h.2, q1, hA.2.2.2.2, hA.1⟩
  | tableswitch d lo hi offs =>
    simp only [e_ckI, Bool.and_eq_true, decide_eq_true_eq] at h
    obtain ⟨⟨⟨h1, h2⟩, h3⟩, h4⟩ := h
    obtain ⟨g1, g2⟩ := e_swk_ok _ _ _ h4
    refine ⟨⟨h1, h2, by rw [g1]; exact h3, fun j q hq => ?_⟩, trivial, trivial⟩
    obtain ⟨a1, o, a2, a3⟩ := g2 j q hq
    exact ⟨a1, o, by rw [← Array.getElem?_toList]; exact a2, a3⟩
  | lookupswitch d ps =>
    simp only [e_ckI, Bool.and_eq_true, decide_eq_true_eq] at h
    obtain ⟨⟨h1, h2⟩, h3⟩ := h
    obtain ⟨g1, g2⟩ := e_swl_ok _ _ h3
    exact ⟨⟨h1, h2, g1, g2⟩, trivial, trivial⟩
  | getstatic i =>
    simp only [e_ckI, Bool.or_eq_true, Bool.and_eq_true, decide_eq_true_eq] at h
    refine ⟨?_, trivial, trivial⟩
    rcases h with ⟨⟨h1, h2⟩, h3⟩ | ⟨h1, h2⟩
    · rcases p1 _ h1 with (⟨-, -, q1⟩ | ⟨-, q1, -⟩) | ⟨q1, -⟩ | ⟨q1, -⟩
      · exact Or.inl ⟨h2, h3, q1⟩
      · cases q1
      · cases q1
      · dsimp only at q1
        omega
    · rcases p1 _ h1 with (⟨-, q1, -⟩ | ⟨-, -, q1⟩) | ⟨q1, -⟩ | ⟨q1, -⟩
      · cases q1
      · exact Or.inr ⟨h2, q1⟩
      · cases q1
      · dsimp only at q1
        omega
  | invokestatic i =>
    simp only [e_ckI, Bool.and_eq_true, decide_eq_true_eq] at h
    refine ⟨trivial, ?_, trivial⟩
    rcases p2 _ h.1 with ⟨q1, q2⟩ | ⟨q1, q2⟩ | ⟨q1, q2⟩ | ⟨q1, q2⟩ | ⟨q1, q2⟩ | ⟨M, n, q1, q2, q3⟩
    · exact Or.inl ⟨q1, q2, hB.1, hB.2.1, hB.2.2.1⟩
    · dsimp only at q1
      omega
    · exact Or.inr (Or.inl ⟨q1, q2, hM.2.1.1, hM.1, hM.2.1.2⟩)
    · exact Or.inr (Or.inr (Or.inl ⟨q1, q2, hM.2.2.1.1, hM.1, hM.2.2.1.2⟩))
    · exact Or.inr (Or.inr (Or.inr (Or.inl ⟨q1, q2, hM.2.2.2.1, hM.1, hM.2.2.2.2⟩)))
    · dsimp only at q1 q3
      rcases q3 with ⟨a1, a2, a3, a4⟩ | ⟨a1, -⟩ | ⟨a1, -⟩ | ⟨a1, -⟩
      · exact Or.inr (Or.inr (Or.inr (Or.inr ⟨a1, M, q1, by rw [a3]; exact q2, a2, a4⟩)))
      · omega
      · omega
      · omega
  | invokespecial i =>
    simp only [e_ckI, Bool.and_eq_true, decide_eq_true_eq] at h
    refine ⟨trivial, ?_, trivial⟩
    rcases p2 _ h.1 with ⟨q1, q2⟩ | ⟨q1, q2⟩ | ⟨q1, q2⟩ | ⟨q1, q2⟩ | ⟨q1, q2⟩ | ⟨M, n, q1, q2, q3⟩
    · dsimp only at q1
      omega
    · exact Or.inl ⟨q1, q2, hB.2.2.2⟩
    · dsimp only at q1
      omega
    · dsimp only at q1
      omega
    · dsimp only at q1
      omega
    · dsimp only at q1 q3
      rcases q3 with ⟨a1, -⟩ | ⟨a1, a2, a3, a4⟩ | ⟨a1, a2, a3, a4⟩ | ⟨a1, -⟩
      · omega
      · exact Or.inr ⟨M, n, q1, q2, a3, a2, Or.inl ⟨a1, a4⟩⟩
      · exact Or.inr ⟨M, n, q1, q2, a3, a2, Or.inr ⟨a1, a4⟩⟩
      · omega
  | invokevirtual i =>
    simp only [e_ckI, Bool.and_eq_true, decide_eq_true_eq] at h
    refine ⟨trivial, ?_, trivial⟩
    rcases p2 _ h.1 with ⟨q1, q2⟩ | ⟨q1, q2⟩ | ⟨q1, q2⟩ | ⟨q1, q2⟩ | ⟨q1, q2⟩ | ⟨M, n, q1, q2, q3⟩
    · dsimp only at q1
      omega
    · dsimp only at q1
      omega
    · dsimp only at q1
      omega
    · dsimp only at q1
      omega
    · dsimp only at q1
      omega
    · dsimp only at q1 q3
      rcases q3 with ⟨a1, -⟩ | ⟨a1, -⟩ | ⟨a1, -⟩ | ⟨a1, a2, a3, a4⟩
      · omega
      · omega
      · omega
      · exact ⟨a1, M, n, q1, q2, a3, a2, a4⟩
  | ireturn =>
    simp only [e_ckI, decide_eq_true_eq] at h
    refine ⟨trivial, trivial, ?_⟩
    rcases hret with ⟨a, b⟩ | ⟨a, b⟩ | ⟨a, b⟩ | ⟨a, b⟩ | ⟨a, b⟩ | ⟨a, b⟩
    · exact Or.inl ⟨by omega, b⟩
    · exact Or.inr (Or.inl ⟨by omega, b⟩)
    · exact Or.inr (Or.inr ⟨by omega, b⟩)
    · omega
    · omega
    · omega
  | lreturn =>
    simp only [e_ckI, decide_eq_true_eq] at h
    refine ⟨trivial, trivial, ?_⟩
    rcases hret with ⟨a, b⟩ | ⟨a, b⟩ | ⟨a, b⟩ | ⟨a, b⟩ | ⟨a, b⟩ | ⟨a, b⟩ <;> first | exact b | omega
  | areturn =>
    simp only [e_ckI, decide_eq_true_eq] at h
    refine ⟨trivial, trivial, ?_⟩
    rcases hret with ⟨a, b⟩ | ⟨a, b⟩ | ⟨a, b⟩ | ⟨a, b⟩ | ⟨a, b⟩ | ⟨a, b⟩ <;> first | exact b | omega
  | return_ =>
    simp only [e_ckI, decide_eq_true_eq] at h
    refine ⟨trivial, trivial, ?_⟩
    rcases hret with ⟨a, b⟩ | ⟨a, b⟩ | ⟨a, b⟩ | ⟨a, b⟩ | ⟨a, b⟩ | ⟨a, b⟩ <;> first | exact b | omega
  | _ => exact ⟨trivial, trivial, trivial⟩
