theorem gp_at {k : Nat} {cd : List (Option eI)} {pc : Nat} {ls : eL} {st : List eV} {σ : eH} {Q : Option eV → eH → Prop} {ins : Instr} {len : Nat} {r : eR} (L : List Nat) (hc : cd[pc]? = some (some (ins, len, r))) (_ : pc ∉ L) (h : e_wi k cd ins r pc ls st σ Q) : e_Gp k cd pc ls st σ Q := gp_of hc h
theorem e_pk (σ : eH) (a i : Nat) (x : Int) : (e_put σ a i x).2.2.1 = σ.2.2.1 := rfl
theorem e_pr (σ : eH) (a i : Nat) (x : Int) : (e_put σ a i x).2.2.2.2 = σ.2.2.2.2 := rfl
theorem e_pn (σ : eH) (a i : Nat) (x : Int) : (e_put σ a i x).1 = σ.1 := rfl
theorem e_ps (σ : eH) (a i : Nat) (x : Int) : (e_put σ a i x).2.1 = σ.2.1 := rfl
theorem e_pd1 (σ : eH) (a i : Nat) (x : Int) : (e_put σ a i x).2.2.2.1 a = va_up (σ.2.2.2.1 a) i x := by
  show va_up _ _ _ a = _
  unfold va_up
  rw [if_pos rfl]
theorem e_pd2 (σ : eH) {a i b : Nat} {x : Int} (h : b ≠ a) : (e_put σ a i x).2.2.2.1 b = σ.2.2.2.1 b := by
  show va_up _ _ _ b = _
  unfold va_up
  rw [if_neg h]
theorem e_us {α : Type} (f : Nat → α) (i : Nat) (x : α) : va_up f i x i = x := if_pos rfl
theorem e_un {α : Type} (f : Nat → α) {i j : Nat} {x : α} (h : j ≠ i) : va_up f i x j = f j := if_neg h
theorem wp_in {k i nL : Nat} {vs : List eV} {cd : List (Option eI)} {σ : eH} {Q : Option eV → eH → Prop} (hk : 1 ≤ k) (hc : e_cs[i]? = some (nL, cd)) (hs : (vs.map e_cat).sum ≤ nL) (kk : e_Gp (k - 1) cd 0 (e_ent nL vs) [] σ Q) : e_Wp k i vs σ Q := by
  have := wp_of hc hs kk
  rw [show k - 1 + 1 = k by omega] at this
  exact this
/-- the reference's cells: the object, its arrays -/
def t_mk : List (Nat × Nat) := [(12, 39), (22, 400), (20, 2400), (20, 7), (20, 288), (20, 6), (20, 119), (20, 400), (21, 64), (21, 12), (20, 150), (20, 8), (20, 1060), (20, 53), (20, 8), (20, 8), (20, 50), (20, 328), (23, 7), (20, 56), (20, 600), (20, 4), (20, 4), (23, 4)]
def t_mr : List Nat := [164, 0, 0, 165, 166, 167, 168, 169, 0, 0, 0, 0, 0, 0, 0, 170, 0, 171, 0, 172, 173, 0, 0, 0, 174, 175, 0, 176, 177, 178, 179, 180, 181, 182, 0, 183, 184, 185, 186]
def Mo (σ : eH) : Prop := (∀ a, a < 24 → σ.2.2.1 (161 + a) = t_mk.getD a (0, 0)) ∧ ∀ i, i < 39 → σ.2.2.2.2 161 i = t_mr.getD i 0
theorem mk161 {σ : eH} (h : Mo σ) : σ.2.2.1 161 = (12, 39) := h.1 0 (by decide)
theorem mk162 {σ : eH} (h : Mo σ) : σ.2.2.1 162 = (22, 400) := h.1 1 (by decide)
theorem mk163 {σ : eH} (h : Mo σ) : σ.2.2.1 163 = (20, 2400) := h.1 2 (by decide)
theorem mk164 {σ : eH} (h : Mo σ) : σ.2.2.1 164 = (20, 7) := h.1 3 (by decide)
theorem mk165 {σ : eH} (h : Mo σ) : σ.2.2.1 165 = (20, 288) := h.1 4 (by decide)
theorem mk166 {σ : eH} (h : Mo σ) : σ.2.2.1 166 = (20, 6) := h.1 5 (by decide)
theorem mk167 {σ : eH} (h : Mo σ) : σ.2.2.1 167 = (20, 119) := h.1 6 (by decide)
theorem mk168 {σ : eH} (h : Mo σ) : σ.2.2.1 168 = (20, 400) := h.1 7 (by decide)
theorem mk169 {σ : eH} (h : Mo σ) : σ.2.2.1 169 = (21, 64) := h.1 8 (by decide)
theorem mk170 {σ : eH} (h : Mo σ) : σ.2.2.1 170 = (21, 12) := h.1 9 (by decide)
theorem mk171 {σ : eH} (h : Mo σ) : σ.2.2.1 171 = (20, 150) := h.1 10 (by decide)
theorem mk172 {σ : eH} (h : Mo σ) : σ.2.2.1 172 = (20, 8) := h.1 11 (by decide)
theorem mk173 {σ : eH} (h : Mo σ) : σ.2.2.1 173 = (20, 1060) := h.1 12 (by decide)
theorem mk174 {σ : eH} (h : Mo σ) : σ.2.2.1 174 = (20, 53) := h.1 13 (by decide)
theorem mk175 {σ : eH} (h : Mo σ) : σ.2.2.1 175 = (20, 8) := h.1 14 (by decide)
theorem mk176 {σ : eH} (h : Mo σ) : σ.2.2.1 176 = (20, 8) := h.1 15 (by decide)
theorem mk177 {σ : eH} (h : Mo σ) : σ.2.2.1 177 = (20, 50) := h.1 16 (by decide)
theorem mk178 {σ : eH} (h : Mo σ) : σ.2.2.1 178 = (20, 328) := h.1 17 (by decide)
theorem mk179 {σ : eH} (h : Mo σ) : σ.2.2.1 179 = (23, 7) := h.1 18 (by decide)
theorem mk180 {σ : eH} (h : Mo σ) : σ.2.2.1 180 = (20, 56) := h.1 19 (by decide)
theorem mk181 {σ : eH} (h : Mo σ) : σ.2.2.1 181 = (20, 600) := h.1 20 (by decide)
theorem mk182 {σ : eH} (h : Mo σ) : σ.2.2.1 182 = (20, 4) := h.1 21 (by decide)
theorem mk183 {σ : eH} (h : Mo σ) : σ.2.2.1 183 = (20, 4) := h.1 22 (by decide)
theorem mk184 {σ : eH} (h : Mo σ) : σ.2.2.1 184 = (23, 4) := h.1 23 (by decide)
theorem mr0 {σ : eH} (h : Mo σ) : σ.2.2.2.2 161 0 = 164 := h.2 0 (by decide)
theorem mr3 {σ : eH} (h : Mo σ) : σ.2.2.2.2 161 3 = 165 := h.2 3 (by decide)
theorem mr4 {σ : eH} (h : Mo σ) : σ.2.2.2.2 161 4 = 166 := h.2 4 (by decide)
theorem mr5 {σ : eH} (h : Mo σ) : σ.2.2.2.2 161 5 = 167 := h.2 5 (by decide)
theorem mr6 {σ : eH} (h : Mo σ) : σ.2.2.2.2 161 6 = 168 := h.2 6 (by decide)
theorem mr7 {σ : eH} (h : Mo σ) : σ.2.2.2.2 161 7 = 169 := h.2 7 (by decide)
theorem mr15 {σ : eH} (h : Mo σ) : σ.2.2.2.2 161 15 = 170 := h.2 15 (by decide)
theorem mr17 {σ : eH} (h : Mo σ) : σ.2.2.2.2 161 17 = 171 := h.2 17 (by decide)
theorem mr19 {σ : eH} (h : Mo σ) : σ.2.2.2.2 161 19 = 172 := h.2 19 (by decide)
theorem mr20 {σ : eH} (h : Mo σ) : σ.2.2.2.2 161 20 = 173 := h.2 20 (by decide)
theorem mr24 {σ : eH} (h : Mo σ) : σ.2.2.2.2 161 24 = 174 := h.2 24 (by decide)
theorem mr25 {σ : eH} (h : Mo σ) : σ.2.2.2.2 161 25 = 175 := h.2 25 (by decide)
theorem mr27 {σ : eH} (h : Mo σ) : σ.2.2.2.2 161 27 = 176 := h.2 27 (by decide)
theorem mr28 {σ : eH} (h : Mo σ) : σ.2.2.2.2 161 28 = 177 := h.2 28 (by decide)
theorem mr29 {σ : eH} (h : Mo σ) : σ.2.2.2.2 161 29 = 178 := h.2 29 (by decide)
theorem mr30 {σ : eH} (h : Mo σ) : σ.2.2.2.2 161 30 = 179 := h.2 30 (by decide)
theorem mr31 {σ : eH} (h : Mo σ) : σ.2.2.2.2 161 31 = 180 := h.2 31 (by decide)
theorem mr32 {σ : eH} (h : Mo σ) : σ.2.2.2.2 161 32 = 181 := h.2 32 (by decide)
theorem mr33 {σ : eH} (h : Mo σ) : σ.2.2.2.2 161 33 = 182 := h.2 33 (by decide)
theorem mr35 {σ : eH} (h : Mo σ) : σ.2.2.2.2 161 35 = 183 := h.2 35 (by decide)
theorem mr36 {σ : eH} (h : Mo σ) : σ.2.2.2.2 161 36 = 184 := h.2 36 (by decide)
theorem mr37 {σ : eH} (h : Mo σ) : σ.2.2.2.2 161 37 = 185 := h.2 37 (by decide)
theorem mr38 {σ : eH} (h : Mo σ) : σ.2.2.2.2 161 38 = 186 := h.2 38 (by decide)
