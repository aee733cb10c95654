def e_T1 (ms : List eM) (M : eM) (q : Nat × List (Option eI)) (n : Nat) : Prop := q.1 = M.2.2.1 ∧ e_mok M n ∧ ∀ (pc : Nat) (ins : Instr) (len : Nat) (r : eR), q.2[pc]? = some (some (ins, len, r)) → decode M.2.1 pc = .ok (ins, len) ∧ (if e_ln ins = 0 then len else e_ln ins) = len ∧ e_rok M.1.cls (M.1.name = "<init>") M.2.2.1 pc ins r ∧ e_iok ms M.1.cls ins r ∧ e_rtk M.2.2.2.1 ins r
theorem e_ckM_ok {ms : List eM} {own : String} {P : eP} (hP : e_pok ms own P) {fin : List (List Nat)} (hfin : e_fink fin) {tape isI : Bool} (htape : tape = true → own = RX9) {ini : Prop} (hini : isI = true → ini) {ownc : Nat} (hownc : isI = true → ∃ c, vwCl[ownc]? = some c ∧ c.1 = own) {k : Nat} {ret : Option FieldType} (hret : e_retk k ret)
    (hA : Cond.arrayClass .int ∈ lw_good ∧ Cond.arrayClass .long ∈ lw_good ∧ Cond.arrayClass .byte ∈ lw_good ∧ Cond.arrayClass .boolean ∈ lw_good ∧ Cond.arrayOver (.array .int) ∈ lw_ex) (hB : Cond.native arraycopyName ∈ lw_good ∧ Cond.static arraycopyName ∈ lw_good ∧ Cond.initialized "java/lang/System" ∈ lw_good ∧ Cond.instanceMethod Lib.objectInit ∈ lw_good ∧ Cond.code Lib.objectInit ⟨#[0xb1]⟩ 1 none ∈ lw_good) (hM : Cond.initialized "java/lang/Math" ∈ lw_good ∧ (Cond.static Lib.Math.max.name ∈ lw_good ∧ Cond.code Lib.Math.max.name Lib.Math.max.code 2 (some .int) ∈ lw_good) ∧ (Cond.static Lib.Math.min.name ∈ lw_good ∧ Cond.code Lib.Math.min.name Lib.Math.min.code 2 (some .int) ∈ lw_good) ∧ Cond.static Lib.Math.abs.name ∈ lw_good ∧ Cond.code Lib.Math.abs.name Lib.Math.abs.code 1 (some .int) ∈ lw_good)
    {nL : Nat} {bytes : ByteArray} {cd : List (Option eI)} (h : e_ckM P fin tape isI ownc k nL bytes cd = true) : ∀ (pc : Nat) (ins : Instr) (len : Nat) (r : eR), cd[pc]? = some (some (ins, len, r)) → decode bytes pc = .ok (ins, len) ∧ (if e_ln ins = 0 then len else e_ln ins) = len ∧ e_rok own ini nL pc ins r ∧ e_iok ms own ins r ∧ e_rtk ret ins r := by
  intro pc ins len r hpc
  have h1 := List.all_eq_true.mp h pc (List.mem_range.mpr (List.getElem?_eq_some_iff.mp hpc).1)
  rw [hpc] at h1
  simp only [Bool.and_eq_true, decide_eq_true_eq] at h1
  obtain ⟨⟨h1, h2⟩, h3⟩ := h1
  refine ⟨?_, h2, e_ckI_ok hP hfin htape hini hownc hret hA hB hM h3⟩
  cases hd : decode bytes pc with
  | error e => rw [hd] at h1; cases h1
  | ok q =>
    rw [hd] at h1
    simp only [Bool.and_eq_true, decide_eq_true_eq] at h1
    rw [← h1.1, ← h1.2]
theorem e_T1_of {ms : List eM} {M : eM} {n : Nat} (hMo : e_mok M n) {P : eP} (hP : e_pok ms M.1.cls P) {fin : List (List Nat)} (hfin : e_fink fin) {tape isI : Bool} (htape : tape = true → M.1.cls = RX9) (hini : isI = true → M.1.name = "<init>") {ownc : Nat} (hownc : isI = true → ∃ c, vwCl[ownc]? = some c ∧ c.1 = M.1.cls) {k : Nat} (hret : e_retk k M.2.2.2.1)
    (hA : Cond.arrayClass .int ∈ lw_good ∧ Cond.arrayClass .long ∈ lw_good ∧ Cond.arrayClass .byte ∈ lw_good ∧ Cond.arrayClass .boolean ∈ lw_good ∧ Cond.arrayOver (.array .int) ∈ lw_ex) (hB : Cond.native arraycopyName ∈ lw_good ∧ Cond.static arraycopyName ∈ lw_good ∧ Cond.initialized "java/lang/System" ∈ lw_good ∧ Cond.instanceMethod Lib.objectInit ∈ lw_good ∧ Cond.code Lib.objectInit ⟨#[0xb1]⟩ 1 none ∈ lw_good) (hM : Cond.initialized "java/lang/Math" ∈ lw_good ∧ (Cond.static Lib.Math.max.name ∈ lw_good ∧ Cond.code Lib.Math.max.name Lib.Math.max.code 2 (some .int) ∈ lw_good) ∧ (Cond.static Lib.Math.min.name ∈ lw_good ∧ Cond.code Lib.Math.min.name Lib.Math.min.code 2 (some .int) ∈ lw_good) ∧ Cond.static Lib.Math.abs.name ∈ lw_good ∧ Cond.code Lib.Math.abs.name Lib.Math.abs.code 1 (some .int) ∈ lw_good)
    {cd : List (Option eI)} (h : e_ckM P fin tape isI ownc k M.2.2.1 M.2.1 cd = true) : e_T1 ms M (M.2.2.1, cd) n := ⟨rfl, hMo, e_ckM_ok hP hfin htape hini hownc hret hA hB hM h⟩
def e_all (ms : List eM) : List eM → List (Nat × List (Option eI)) → Prop
  | M :: Ms, q :: qs => (∃ n, e_T1 ms M q n) ∧ e_all ms Ms qs
  | [], [] => True
  | _, _ => False
theorem e_all_get {ms : List eM} : ∀ (Ms : List eM) (qs : List (Nat × List (Option eI))), e_all ms Ms qs → ∀ (i : Nat) (M : eM), Ms[i]? = some M → ∃ (q : Nat × List (Option eI)) (n : Nat), qs[i]? = some q ∧ e_T1 ms M q n
  | [], [], _, i, M, h => by simp at h
  | [], _ :: _, h, _, _, _ => h.elim
  | _ :: _, [], h, _, _, _ => h.elim
  | M0 :: Ms, q0 :: qs, h, i, M, hM => by
    cases i with
    | zero =>
      cases hM
      obtain ⟨n, hn⟩ := h.1
      exact ⟨q0, n, rfl, hn⟩
    | succ i =>
      obtain ⟨q, n, h1, h2⟩ := e_all_get Ms qs h.2 i M (by simpa using hM)
      exact ⟨q, n, by simpa using h1, h2⟩
theorem e_tok_of {ms : List eM} {cs : List (Nat × List (Option eI))} (h : e_all ms ms cs) : e_tok ms cs := by
  intro i M hM
  obtain ⟨q, n, h1, h2, h3, h4⟩ := e_all_get ms cs h i M hM
  exact ⟨q, n, h1, h2, h3, h4⟩
