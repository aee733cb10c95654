def e_nfs : List Nat := [3, 10, 9, 3, 9, 4, 1, 3, 5, 8, 5, 11, 39]
def e_fts : List (List Nat) := [[0, 0, 3], [3, 3, 3, 3, 3, 3, 3, 3, 3, 3], [1, 0, 0, 0, 0, 3, 3, 3, 3], [3, 3, 3], [3, 3, 3, 3, 3, 3, 3, 3, 3], [0, 3, 3, 3], [3], [3, 0, 0], [3, 3, 3, 3, 0], [0, 0, 3, 3, 3, 3, 0, 0], [3, 3, 3, 0, 0], [3, 3, 3, 3, 3, 3, 0, 3, 3, 3, 3], [3, 0, 0, 3, 3, 3, 3, 3, 0, 0, 0, 0, 0, 0, 0, 3, 0, 3, 0, 3, 3, 0, 0, 0, 3, 3, 0, 3, 3, 3, 3, 3, 3, 3, 2, 3, 3, 3, 3]]
def e_nf (k : Nat) : Nat := e_nfs.getD k 0
def e_ft (k i : Nat) : Nat := (e_fts.getD k []).getD i 0
def e_ad (h0 : Nat) (B : Nat × Nat × Nat × Option Nat) : Nat → Nat
  | 0 => B.1
  | 1 => B.2.1
  | 2 => B.2.2.1
  | a + 3 => h0 + a
def e_rf (h0 : Nat) (B : Nat × Nat × Nat × Option Nat) : Nat → Option Nat
  | 0 => none
  | 1 => B.2.2.2
  | a + 2 => some (e_ad h0 B a)
def e_cv (h0 : Nat) (B : Nat × Nat × Nat × Option Nat) : eV → Value
  | .inl x => .int (Int32.ofInt x)
  | .inr (.inl x) => .long (Int64.ofInt x)
  | .inr (.inr r) => va_rf (e_rf h0 B r)
def e_fv (h0 : Nat) (B : Nat × Nat × Nat × Option Nat) (t : Nat) (x : Int) (r : Nat) : Value := if t = 3 then va_rf (e_rf h0 B r) else if t = 2 then .long (Int64.ofInt x) else .int (Int32.ofInt x)
/-- what a cell is in the machine's heap -/
def e_en (h0 : Nat) (B : Nat × Nat × Nat × Option Nat) (aC : Nat → ClassId) (σ : eH) (a : Nat) : va_E :=
  if (σ.2.2.1 a).1 < 13 then .inr ((σ.2.2.1 a).1, (List.range (e_nf (σ.2.2.1 a).1)).map fun i => e_fv h0 B (e_ft (σ.2.2.1 a).1 i) (σ.2.2.2.1 a i) (σ.2.2.2.2 a i))
  else if (σ.2.2.1 a).1 = 21 then .inl (aC 21, (σ.2.2.1 a).2, .inr (.inl fun i => Int64.ofInt (σ.2.2.2.1 a i)))
  else if 24 ≤ (σ.2.2.1 a).1 then .inl (aC (σ.2.2.1 a).1, (σ.2.2.1 a).2, .inr (.inr (.inr (.inr fun i => e_rf h0 B (σ.2.2.2.2 a i)))))
  else .inl (aC (σ.2.2.1 a).1, (σ.2.2.1 a).2, .inl fun i => Int32.ofInt (σ.2.2.2.1 a i))
def e_ws (h0 : Nat) (B : Nat × Nat × Nat × Option Nat) (aC : Nat → ClassId) (σ : eH) : va_W := (List.range (σ.1 - 3)).map fun k => (h0 + k, e_en h0 B aC σ (k + 3))
def e_tys (aC : Nat → ClassId) : List (ClassId × FieldType) := [(aC 20, .int), (aC 21, .long), (aC 22, .byte), (aC 23, .boolean), (aC 24, .object RX10), (aC 25, .object RX6), (aC 26, .object RX8), (aC 27, .array .int)]
def e_I (h0 : Nat) (B : Nat × Nat × Nat × Option Nat) (aC : Nat → ClassId) (D : va_G) (σ0 σ : eH) (H : Heap) : Prop :=
  3 ≤ σ.1 ∧ H.size = h0 + (σ.1 - 3) ∧ va_P D vwCl (e_ws h0 B aC σ) H ∧ (∀ a, σ.1 ≤ a → (σ.2.2.1 a).1 = 99) ∧ (∀ a, a < 3 → σ.2.2.1 a = σ0.2.2.1 a ∧ σ.2.2.2.1 a = σ0.2.2.2.1 a ∧ σ.2.2.2.2 a = σ0.2.2.2.2 a) ∧ ∀ a, 3 ≤ a → (σ.2.2.1 a).1 ≠ 13 ∧ (σ.2.2.1 a).1 ≠ 28 ∧ (σ.2.2.1 a).1 ≠ 29
def e_LH (h0 : Nat) (B : Nat × Nat × Nat × Option Nat) (lss : Array Slot) (nL : Nat) (ls : eL) : Prop := lss.size = nL ∧ lv_wf lss ∧ ∀ (i : Nat) (v : eV), ls[i]? = some (some v) → lss[i]? = some (.val (e_cv h0 B v))
/-- the locals as the kit lists them -/
def e_as (h0 : Nat) (B : Nat × Nat × Nat × Option Nat) (ls : eL) : List (Nat × Value) := (List.range ls.length).filterMap fun i => match ls[i]? with
  | some (some v) => some (i, e_cv h0 B v)
  | _ => none
theorem e_as_mem {h0 : Nat} {B : Nat × Nat × Nat × Option Nat} {ls : eL} {i : Nat} {v : eV} (h : ls[i]? = some (some v)) : (i, e_cv h0 B v) ∈ e_as h0 B ls := by
  refine List.mem_filterMap.mpr ⟨i, List.mem_range.mpr (List.getElem?_eq_some_iff.mp h).1, ?_⟩
  rw [h]
theorem e_as_of {h0 : Nat} {B : Nat × Nat × Nat × Option Nat} {ls : eL} {q : Nat × Value} (h : q ∈ e_as h0 B ls) : ∃ v, ls[q.1]? = some (some v) ∧ q.2 = e_cv h0 B v := by
  obtain ⟨i, -, hi⟩ := List.mem_filterMap.mp h
  cases hx : ls[i]? with
  | none => rw [hx] at hi; cases hi
  | some o =>
    cases o with
    | none => rw [hx] at hi; cases hi
    | some v =>
      rw [hx] at hi
      cases hi
      exact ⟨v, hx, rfl⟩
theorem e_LH.has {h0 : Nat} {B : Nat × Nat × Nat × Option Nat} {lss : Array Slot} {nL : Nat} {ls : eL} (h : e_LH h0 B lss nL ls) : lv_has lss nL (e_as h0 B ls) := by
  refine ⟨h.1, h.2.1, fun q hq => ?_⟩
  obtain ⟨v, h1, h2⟩ := e_as_of hq
  rw [h2]
  exact h.2.2 _ _ h1
def e_lg (v : eV) : Bool := match v with
  | .inr (.inl _) => true
  | _ => false
theorem e_cat2 (h0 : Nat) (B : Nat × Nat × Nat × Option Nat) (v : eV) : ((e_cv h0 B v).category == 2) = e_lg v := by
  obtain x | x | x := v
  · rfl
  · rfl
  · show ((va_rf (e_rf h0 B x)).category == 2) = false
    cases e_rf h0 B x <;> rfl
theorem e_s1_get : ∀ (ls : eL) (k : Nat) (v : eV) (i : Nat) (w : eV), (e_s1 ls k v)[i]? = some (some w) → (i = k ∧ w = v) ∨ (i ≠ k ∧ ls[i]? = some (some w) ∧ ¬ (i + 1 = k ∧ e_lg w = true))
  | [], k, v, i, w, h => by simp [e_s1] at h
  | x :: xs, 0, v, i, w, h => by
    cases i with
    | zero => simp [e_s1] at h; exact Or.inl ⟨rfl, h.symm⟩
    | succ i => simp [e_s1] at h; exact Or.inr ⟨by omega, by simpa using h, by omega⟩
  | x :: xs, 1, v, i, w, h => by
    cases i with
    | zero =>
      refine Or.inr ⟨by omega, ?_⟩
      obtain _ | x | x | x := x <;> simp [e_s1] at h
      · subst h; exact ⟨by simp, by simp [e_lg]⟩
      · subst h; exact ⟨by simp, by simp [e_lg]⟩
    | succ i =>
      simp only [e_s1, List.getElem?_cons_succ] at h
      rcases e_s1_get xs 0 v i w h with ⟨h1, h2⟩ | ⟨h1, h2, h3⟩
      · exact Or.inl ⟨by omega, h2⟩
      · exact Or.inr ⟨by omega, by simpa using h2, by omega⟩
  | x :: xs, k + 2, v, i, w, h => by
    cases i with
    | zero => simp [e_s1] at h; exact Or.inr ⟨by omega, by simpa using h, by omega⟩
    | succ i =>
      simp only [e_s1, List.getElem?_cons_succ] at h
      rcases e_s1_get xs (k + 1) v i w h with ⟨h1, h2⟩ | ⟨h1, h2, h3⟩
      · exact Or.inl ⟨by omega, h2⟩
      · exact Or.inr ⟨by omega, by simpa using h2, fun q => h3 ⟨by omega, q.2⟩⟩
theorem e_s2_get : ∀ (ls : eL) (k : Nat) (v : eV) (i : Nat) (w : eV), (e_s2 ls k v)[i]? = some (some w) → (i = k ∧ w = v) ∨ (i ≠ k ∧ i ≠ k + 1 ∧ ls[i]? = some (some w) ∧ ¬ (i + 1 = k ∧ e_lg w = true))
  | [], k, v, i, w, h => by simp [e_s2] at h
  | x :: xs, 0, v, i, w, h => by
    cases i with
    | zero => simp [e_s2] at h; exact Or.inl ⟨rfl, h.symm⟩
    | succ i =>
      simp only [e_s2, List.getElem?_cons_succ] at h
      cases xs with
      | nil => simp [e_n0] at h
      | cons y ys =>
        cases i with
        | zero => simp [e_n0] at h
        | succ i => simp [e_n0] at h; exact Or.inr ⟨by omega, by omega, by simpa using h, by omega⟩
  | x :: xs, 1, v, i, w, h => by
    cases i with
    | zero =>
      refine Or.inr ⟨by omega, by omega, ?_⟩
      obtain _ | x | x | x := x <;> simp [e_s2] at h
      · subst h; exact ⟨by simp, by simp [e_lg]⟩
      · subst h; exact ⟨by simp, by simp [e_lg]⟩
    | succ i =>
      simp only [e_s2, List.getElem?_cons_succ] at h
      rcases e_s2_get xs 0 v i w h with ⟨h1, h2⟩ | ⟨h1, h2, h3, h4⟩
      · exact Or.inl ⟨by omega, h2⟩
      · exact Or.inr ⟨by omega, by omega, by simpa using h3, by omega⟩
  | x :: xs, k + 2, v, i, w, h => by
    cases i with
    | zero => simp [e_s2] at h; exact Or.inr ⟨by omega, by omega, by simpa using h, by omega⟩
    | succ i =>
      simp only [e_s2, List.getElem?_cons_succ] at h
      rcases e_s2_get xs (k + 1) v i w h with ⟨h1, h2⟩ | ⟨h1, h2, h3, h4⟩
      · exact Or.inl ⟨by omega, h2⟩
      · exact Or.inr ⟨by omega, by omega, by simpa using h3, fun q => h4 ⟨by omega, q.2⟩⟩
theorem e_LH.s1 {h0 : Nat} {B : Nat × Nat × Nat × Option Nat} {lss : Array Slot} {nL k : Nat} {ls : eL} {v : eV} (h : lv_has lss nL ((k, e_cv h0 B v) :: (e_as h0 B ls).filter (fun q => !(q.1 == k) && !(q.1 + 1 == k && q.2.category == 2)))) : e_LH h0 B lss nL (e_s1 ls k v) := by
  refine ⟨h.1, h.2.1, fun i w hw => ?_⟩
  rcases e_s1_get ls k v i w hw with ⟨rfl, rfl⟩ | ⟨h1, h2, h3⟩
  · exact h.2.2 _ List.mem_cons_self
  · refine h.2.2 (i, e_cv h0 B w) (List.mem_cons_of_mem _ (List.mem_filter.mpr ⟨e_as_mem h2, ?_⟩))
    simp only [e_cat2]
    cases hg : e_lg w <;> simp [h1]
    intro q
    exact h3 ⟨q, hg⟩
theorem e_LH.s2 {h0 : Nat} {B : Nat × Nat × Nat × Option Nat} {lss : Array Slot} {nL k : Nat} {ls : eL} {v : eV} (h : lv_has lss nL ((k, e_cv h0 B v) :: (e_as h0 B ls).filter (fun q => !(q.1 == k) && (!(q.1 == k + 1) && !(q.1 + 1 == k && q.2.category == 2))))) : e_LH h0 B lss nL (e_s2 ls k v) := by
  refine ⟨h.1, h.2.1, fun i w hw => ?_⟩
  rcases e_s2_get ls k v i w hw with ⟨rfl, rfl⟩ | ⟨h1, h2, h3, h4⟩
  · exact h.2.2 _ List.mem_cons_self
  · refine h.2.2 (i, e_cv h0 B w) (List.mem_cons_of_mem _ (List.mem_filter.mpr ⟨e_as_mem h3, ?_⟩))
    simp only [e_cat2]
    cases hg : e_lg w <;> simp [h1, h2]
    intro q
    exact h4 ⟨q, hg⟩
theorem e_ws_get {h0 : Nat} {B : Nat × Nat × Nat × Option Nat} {aC : Nat → ClassId} {σ : eH} {a : Nat} (h : a + 3 < σ.1) : (e_ws h0 B aC σ)[a]? = some (h0 + a, e_en h0 B aC σ (a + 3)) := by
  unfold e_ws
  rw [List.getElem?_map, List.getElem?_range (by omega)]
  rfl
theorem e_ws_len {h0 : Nat} {B : Nat × Nat × Nat × Option Nat} {aC : Nat → ClassId} {σ : eH} : (e_ws h0 B aC σ).length = σ.1 - 3 := by
  unfold e_ws
  rw [List.length_map, List.length_range]
theorem e_ws_D {h0 : Nat} {B : Nat × Nat × Nat × Option Nat} {aC : Nat → ClassId} {σ : eH} : va_D (fun q => h0 ≤ q) (e_ws h0 B aC σ) := by
  have key : ∀ (k : Nat) (q : Nat × va_E), (e_ws h0 B aC σ)[k]? = some q → q.1 = h0 + k := by
    intro k q hk
    have hl := (List.getElem?_eq_some_iff.mp hk).1
    rw [e_ws_len] at hl
    rw [e_ws_get (by omega)] at hk
    cases hk
    rfl
  refine ⟨fun i j x y hi hj hxy => ?_, fun k q hk => ?_⟩
  · have := key i x hi
    have := key j y hj
    omega
  · have := key k q hk
    show h0 ≤ q.1
    omega
/-- one cell of the heap other -/
theorem e_ws_set {h0 : Nat} {B : Nat × Nat × Nat × Option Nat} {aC : Nat → ClassId} {σ σ' : eH} {a : Nat} (h1 : σ'.1 = σ.1) (h2 : ∀ b, b ≠ a + 3 → e_en h0 B aC σ' b = e_en h0 B aC σ b) : (e_ws h0 B aC σ).set a (h0 + a, e_en h0 B aC σ' (a + 3)) = e_ws h0 B aC σ' := by
  apply List.ext_getElem?
  intro k
  by_cases hk : k = a
  · subst hk
    by_cases hl : k + 3 < σ.1
    · rw [List.getElem?_set_self (by rw [e_ws_len]; omega), e_ws_get (by omega)]
    · rw [List.getElem?_eq_none (by rw [List.length_set, e_ws_len]; omega), List.getElem?_eq_none (by rw [e_ws_len]; omega)]
  · rw [List.getElem?_set_ne (Ne.symm hk)]
    by_cases hl : k + 3 < σ.1
    · rw [e_ws_get hl, e_ws_get (by omega), h2 _ (by omega)]
    · rw [List.getElem?_eq_none (by rw [e_ws_len]; omega), List.getElem?_eq_none (by rw [e_ws_len]; omega)]
/-- a cell more -/
theorem e_ws_push {h0 : Nat} {B : Nat × Nat × Nat × Option Nat} {aC : Nat → ClassId} {σ σ' : eH} (h3 : 3 ≤ σ.1) (h1 : σ'.1 = σ.1 + 1) (h2 : ∀ b, b ≠ σ.1 → e_en h0 B aC σ' b = e_en h0 B aC σ b) : e_ws h0 B aC σ ++ [(h0 + (σ.1 - 3), e_en h0 B aC σ' σ.1)] = e_ws h0 B aC σ' := by
  unfold e_ws
  rw [h1, show σ.1 + 1 - 3 = (σ.1 - 3) + 1 by omega, List.range_succ, List.map_append]
  congr 1
  · apply List.map_congr_left
    intro k hk
    have := List.mem_range.mp hk
    rw [h2 _ (by omega)]
  · show [(h0 + (σ.1 - 3), e_en h0 B aC σ' σ.1)] = [(h0 + (σ.1 - 3), e_en h0 B aC σ' (σ.1 - 3 + 3))]
    rw [show σ.1 - 3 + 3 = σ.1 by omega]
theorem e_en_put {h0 : Nat} {B : Nat × Nat × Nat × Option Nat} {aC : Nat → ClassId} {σ : eH} {a i b : Nat} {x : Int} (h : b ≠ a) : e_en h0 B aC (e_put σ a i x) b = e_en h0 B aC σ b := by
  unfold e_en e_put va_up
  simp only [if_neg h]
theorem e_en_puR {h0 : Nat} {B : Nat × Nat × Nat × Option Nat} {aC : Nat → ClassId} {σ : eH} {a i b x : Nat} (h : b ≠ a) : e_en h0 B aC (e_puR σ a i x) b = e_en h0 B aC σ b := by
  unfold e_en e_puR va_up
  simp only [if_neg h]
theorem e_en_cpy {h0 : Nat} {B : Nat × Nat × Nat × Option Nat} {aC : Nat → ClassId} {σ : eH} {a d sp dp n b : Nat} (h : b ≠ d) : e_en h0 B aC (e_cpy σ a d sp dp n) b = e_en h0 B aC σ b := by
  unfold e_en e_cpy va_up
  simp only [if_neg h]
theorem e_en_new {h0 : Nat} {B : Nat × Nat × Nat × Option Nat} {aC : Nat → ClassId} {σ : eH} {kd len b : Nat} (h : b ≠ σ.1) : e_en h0 B aC (e_new σ kd len) b = e_en h0 B aC σ b := by
  unfold e_en e_new va_up
  simp only [if_neg h]
