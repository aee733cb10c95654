/-- steps c lead from nothing to a stack of T -/
def k_Ty (c : List (Nat × Nat)) (T : List Bool) : Prop := r_ty 31 c [] = some T ∧ ∀ y, y ∈ c → y.1 < 15 ∧ y.2 < 100000
theorem k_Ty_s {c : List (Nat × Nat)} {T U : List Bool} {s w : Nat} (h : k_Ty c T) (h1 : r_t1 31 s w T = some U) (hs : s < 15) (hw : w < 100000) : k_Ty (c ++ [(s, w)]) U := by
  refine ⟨?_, fun y hy => ?_⟩
  · rw [r_ty_app, h.1]
    show (r_t1 31 s w T).bind (r_ty 31 []) = some U
    rw [h1]
    rfl
  · rcases List.mem_append.1 hy with h2 | h2
    · exact h.2 y h2
    · rw [List.mem_singleton.1 h2]
      exact ⟨hs, hw⟩
theorem k_val_t {B : Nat → Int} {t v p : Nat} {c : List (Nat × Nat)} {x : Nat × Nat × List (Nat × Nat)} {T : List Bool} (hT : k_Ty c T) (hl : T.length < 31) (h : k_val B t v p c = .inr x) : k_Ty x.2.2 (false :: T) := by
  unfold k_val at h
  split at h
  · split at h
    · cases h
    · cases h
      refine k_Ty_s hT ?_ (by omega) (by omega)
      unfold r_t1
      rw [if_neg (by omega), if_pos rfl, if_pos ⟨hl, by omega⟩]
  · split at h
    · split at h
      · cases h
      · split at h
        · cases h
        · have hb := k_nu_b (B := B) (t := t) (p := p) (by omega)
          cases h
          refine k_Ty_s hT ?_ (by omega) (by omega)
          unfold r_t1
          rw [if_pos rfl, if_pos hl]
    · cases h
theorem k_js_c (d : Int) : k_js d = 0 ∨ (k_js d = 2 ∨ k_js d = 3) ∨ k_js d = 4 ∨ k_js d = 5 ∨ k_js d = 14 := by
  unfold k_js
  (repeat' split) <;> simp
theorem k_t1j {s : Nat} (h : (s = 2 ∨ s = 3) ∨ s = 4 ∨ s = 5 ∨ s = 14) (T : List Bool) : r_t1 31 s 0 (false :: false :: T) = some (false :: T) := by
  rcases h with (rfl | rfl) | rfl | rfl | rfl <;> rfl
theorem k_cs_c (d : Int) : k_cs d = 0 ∨ k_cs d = 6 ∨ k_cs d = 7 ∨ k_cs d = 8 ∨ k_cs d = 9 ∨ k_cs d = 10 := by
  unfold k_cs
  (repeat' split) <;> simp
theorem k_t1c {s : Nat} (h : s = 6 ∨ s = 7 ∨ s = 8 ∨ s = 9 ∨ s = 10) (T : List Bool) : r_t1 31 s 0 (false :: false :: T) = some (true :: T) := by
  rcases h with rfl | rfl | rfl | rfl | rfl <;> rfl
/-- what waits of a sum -/
def k_w2 (w : List (Nat × Nat)) (T T1 : List Bool) : Prop := w = [] ∧ T1 = false :: T ∨ ∃ s, (s = 2 ∨ s = 3) ∧ w = [(s, 0)] ∧ T1 = false :: false :: T
theorem k_w2_a {c w : List (Nat × Nat)} {T T1 : List Bool} (h : k_w2 w T T1) (hT : k_Ty c T1) : k_Ty (c ++ w) (false :: T) := by
  rcases h with ⟨rfl, rfl⟩ | ⟨s, hs, rfl, rfl⟩
  · rw [List.append_nil]
    exact hT
  · exact k_Ty_s hT (k_t1j (.inl hs) T) (by omega) (by omega)
theorem k_w2_l {w : List (Nat × Nat)} {T T1 : List Bool} (h : k_w2 w T T1) : T1.length ≤ T.length + 2 := by
  rcases h with ⟨rfl, rfl⟩ | ⟨s, hs, rfl, rfl⟩ <;> simp
theorem k_w2_f {w : List (Nat × Nat)} {T T1 : List Bool} (h : k_w2 w T T1) : ∃ U, T1 = false :: U := by
  rcases h with ⟨rfl, rfl⟩ | ⟨s, hs, rfl, rfl⟩
  · exact ⟨_, rfl⟩
  · exact ⟨_, rfl⟩
theorem k_sl_t {B : Nat → Int} {t : Nat} {T : List Bool} (hl : T.length + 3 ≤ 31) : ∀ (f v p : Nat) (w c : List (Nat × Nat)) {x : Nat × Nat × List (Nat × Nat)} {T1 : List Bool}, k_w2 w T T1 → k_Ty c T1 → k_sl B t f v p w c = .inr x → k_Ty x.2.2 (false :: T)
  | 0, v, p, w, c, x, T1, hw, hT, h => by
    cases h
    exact k_w2_a hw hT
  | f + 1, v, p, w, c, x, T1, hw, hT, h => by
    unfold k_sl at h
    have hj := k_js_c (k_kd B t p)
    generalize k_js (k_kd B t p) = s at *
    split at h
    · cases h
      exact k_w2_a hw hT
    · split at h
      · obtain ⟨y, h1, h2⟩ := k_bd_i h
        have g1 := k_val_t (k_w2_a hw hT) (by rw [List.length_cons]; omega) h1
        exact k_sl_t hl f _ _ _ _ (.inr ⟨s, by omega, rfl, rfl⟩) g1 h2
      · obtain ⟨y, h1, h2⟩ := k_bd_i h
        have hl1 := k_w2_l hw
        obtain ⟨U, hU⟩ := k_w2_f hw
        have g1 := k_val_t hT (by omega) h1
        refine k_sl_t hl f _ _ _ _ hw ?_ h2
        rw [hU] at g1 ⊢
        exact k_Ty_s g1 (k_t1j (by omega) U) (by omega) (by omega)
theorem k_sum_t {B : Nat → Int} {t v p : Nat} {c : List (Nat × Nat)} {x : Nat × Nat × List (Nat × Nat)} {T : List Bool} (hT : k_Ty c T) (hl : T.length + 3 ≤ 31) (h : k_sum B t v p c = .inr x) : k_Ty x.2.2 (false :: T) := by
  obtain ⟨y, h1, h2⟩ := k_bd_i h
  exact k_sl_t hl _ _ _ _ _ (.inl ⟨rfl, rfl⟩) (k_val_t hT (by omega) h1) h2
theorem k_cm_t {B : Nat → Int} {t v p : Nat} {c : List (Nat × Nat)} {x : Nat × Nat × List (Nat × Nat)} {T : List Bool} (hT : k_Ty c T) (hl : T.length + 4 ≤ 31) (h : k_cm B t v p c = .inr x) : k_Ty x.2.2 (true :: T) := by
  obtain ⟨y, h1, h2⟩ := k_bd_i h
  have g1 := k_sum_t hT (by omega) h1
  have hj := k_cs_c (k_kd B t y.1)
  generalize k_cs (k_kd B t y.1) = s at *
  split at h2
  · cases h2
  · split at h2
    · cases h2
    · obtain ⟨z, h3, h4⟩ := k_bd_i h2
      have g2 := k_sum_t g1 (by rw [List.length_cons]; omega) h3
      cases h4
      exact k_Ty_s g2 (k_t1c (by omega) T) (by omega) (by omega)
def k_Ft (F : kF) (n : Nat) : Prop := ∀ v p c x T, k_Ty c T → T.length + n ≤ 31 → F v p c = .inr x → k_Ty x.2.2 (true :: T)
def k_v2 (w : List (Nat × Nat)) (T T1 : List Bool) : Prop := w = [] ∧ T1 = true :: T ∨ w = [(13, 0)] ∧ T1 = true :: true :: T
theorem k_v2_a {c w : List (Nat × Nat)} {T T1 : List Bool} (h : k_v2 w T T1) (hT : k_Ty c T1) : k_Ty (c ++ w) (true :: T) := by
  rcases h with ⟨rfl, rfl⟩ | ⟨rfl, rfl⟩
  · rw [List.append_nil]
    exact hT
  · exact k_Ty_s hT rfl (by omega) (by omega)
theorem k_v2_l {w : List (Nat × Nat)} {T T1 : List Bool} (h : k_v2 w T T1) : T1.length ≤ T.length + 2 ∧ ∃ U, T1 = true :: U := by
  rcases h with ⟨rfl, rfl⟩ | ⟨rfl, rfl⟩
  · exact ⟨by simp, _, rfl⟩
  · exact ⟨by simp, _, rfl⟩
theorem k_tl_t {B : Nat → Int} {t n : Nat} {F : kF} (hF : k_Ft F n) {T : List Bool} (hl : T.length + (n + 2) ≤ 31) : ∀ (f v p : Nat) (w c : List (Nat × Nat)) {x : Nat × Nat × List (Nat × Nat)} {T1 : List Bool}, k_v2 w T T1 → k_Ty c T1 → k_tl B t F f v p w c = .inr x → k_Ty x.2.2 (true :: T)
  | 0, v, p, w, c, x, T1, hw, hT, h => by
    cases h
    exact k_v2_a hw hT
  | f + 1, v, p, w, c, x, T1, hw, hT, h => by
    unfold k_tl at h
    split at h
    · obtain ⟨y, h1, h2⟩ := k_bd_i h
      obtain ⟨hl1, U, hU⟩ := k_v2_l hw
      have g1 := hF _ _ _ _ _ hT (by omega) h1
      refine k_tl_t hF hl f _ _ _ _ hw ?_ h2
      rw [hU] at g1 ⊢
      exact k_Ty_s g1 rfl (by omega) (by omega)
    · split at h
      · obtain ⟨y, h1, h2⟩ := k_bd_i h
        have g1 := hF _ _ _ _ _ (k_v2_a hw hT) (by rw [List.length_cons]; omega) h1
        exact k_tl_t hF hl f _ _ _ _ (.inr ⟨rfl, rfl⟩) g1 h2
      · cases h
        exact k_v2_a hw hT
theorem k_ts_t {B : Nat → Int} {t n : Nat} {F : kF} (hF : k_Ft F n) : k_Ft (k_ts B t F) (n + 2) := fun v p c x T hT hl h => by
  obtain ⟨y, h1, h2⟩ := k_bd_i h
  exact k_tl_t hF hl _ _ _ _ _ (.inl ⟨rfl, rfl⟩) (hF _ _ _ _ _ hT (by omega) h1) h2
theorem k_fa_t {B : Nat → Int} {t : Nat} : ∀ D, k_Ft (k_fa B t D) (4 + 2 * D)
  | 0, v, p, c, x, T, hT, hl, h => by
    unfold k_fa at h
    split at h
    · cases h
    · exact k_cm_t hT (by omega) h
  | D + 1, v, p, c, x, T, hT, hl, h => by
    unfold k_fa at h
    split at h
    · obtain ⟨y, h1, h2⟩ := k_bd_i h
      have g1 := k_fa_t D _ _ _ _ _ hT (by omega) h1
      cases h2
      exact k_Ty_s g1 rfl (by omega) (by omega)
    · split at h
      · obtain ⟨y, h1, h2⟩ := k_bd_i h
        have g1 := k_ts_t (k_fa_t D) _ _ _ _ _ hT (by omega) h1
        split at h2
        · cases h2
          exact g1
        · cases h2
      · exact k_cm_t hT (by omega) h
/-! the reference's stack of signs: enclosing levels, what waits here (1 or, 2 and, 3 both), nots -/
def k_uw (u : Nat) : List (Nat × Nat) := if u % 2 = 1 then [(13, 0)] else []
def k_ue (u : Nat) : List (Nat × Nat) := if 2 ≤ u then [(12, 0)] else []
def k_up (B : Nat → Int) (t : Nat) : List (Nat × Nat) → Nat → Nat → Nat → kF
  | [], u, n, D, p, v, c => k_bd (k_tl B t (k_fa B t (D + n)) 400 v p (k_uw u) (c ++ List.replicate n (11, 0) ++ k_ue u)) (fun p' v' c' => .inr (p', v', c'))
  | l :: lv, u, n, D, p, v, c => k_bd (k_tl B t (k_fa B t (D + n)) 400 v p (k_uw u) (c ++ List.replicate n (11, 0) ++ k_ue u)) (fun p' v' c' => if k_kd B t p' = 93 then k_up B t lv l.1 l.2 (D + n + 1) (k_nx B t p') v' c' else .inl (1 + 8 * p'))
def k_fl : List (Nat × Nat) → Nat → Nat → List Nat
  | [], u, n => List.replicate n 11 ++ ((if 2 ≤ u then [12] else []) ++ ((if u % 2 = 1 then [13] else []) ++ []))
  | l :: lv, u, n => List.replicate n 11 ++ ((if 2 ≤ u then [12] else []) ++ ((if u % 2 = 1 then [13] else []) ++ (91 :: k_fl lv l.1 l.2)))
theorem k_bdbd (r : kR) (f g : kF) : k_bd (k_bd r f) g = k_bd r (fun p v c => k_bd (f p v c) g) := by
  cases r <;> rfl
theorem k_bd_cg {r : kR} {f g : kF} (h : ∀ p v c, f p v c = g p v c) : k_bd r f = k_bd r g := by
  cases r with
  | inl e => rfl
  | inr x => exact h _ _ _
theorem k_u3 (B : Nat → Int) (t : Nat) (lv : List (Nat × Nat)) (u n D p v : Nat) (c : List (Nat × Nat)) : k_up B t lv u n D p v c = k_up B t lv u 0 (D + n) p v (c ++ List.replicate n (11, 0)) := by
  cases lv with
  | nil =>
    show k_bd _ _ = k_bd _ _
    rw [List.replicate_zero, List.append_nil, Nat.add_zero]
  | cons l lv =>
    show k_bd _ _ = k_bd _ _
    rw [List.replicate_zero, List.append_nil, Nat.add_zero]
    rfl
theorem k_u_not {B : Nat → Int} {t p D : Nat} (h : k_kd B t p = 274) (lv : List (Nat × Nat)) (u n v : Nat) (c : List (Nat × Nat)) : k_bd (k_fa B t (D + 1) v p c) (k_up B t lv u n (D + 1)) = k_bd (k_fa B t D v (k_nx B t p) c) (k_up B t lv u (n + 1) D) := by
  conv => lhs; unfold k_fa
  rw [if_pos h, k_bdbd]
  refine k_bd_cg fun p' v' c' => ?_
  rw [k_bd_r, k_u3 B t lv u n, k_u3 B t lv u (n + 1), List.replicate_succ, List.append_assoc, show D + 1 + n = D + (n + 1) by omega]
  rfl
theorem k_u_br {B : Nat → Int} {t p D : Nat} (h : k_kd B t p = 91) (lv : List (Nat × Nat)) (u n v : Nat) (c : List (Nat × Nat)) : k_bd (k_fa B t (D + 1) v p c) (k_up B t lv u n (D + 1)) = k_bd (k_fa B t D v (k_nx B t p) c) (k_up B t ((u, n) :: lv) 0 0 D) := by
  conv => lhs; unfold k_fa
  rw [if_neg (by omega), if_pos h, k_bdbd]
  unfold k_ts
  rw [k_bdbd]
  refine k_bd_cg fun p' v' c' => ?_
  show _ = k_bd (k_tl B t (k_fa B t (D + 0)) 400 v' p' [] (c' ++ [] ++ [])) _
  rw [List.append_nil, List.append_nil, Nat.add_zero]
  refine k_bd_cg fun p2 v2 c2 => ?_
  by_cases e : k_kd B t p2 = 93
  · rw [if_pos e, if_pos e]
    rfl
  · rw [if_neg e, if_neg e]
    rfl
theorem k_u_cm {B : Nat → Int} {t p : Nat} (h : k_kd B t p ≠ 274) (h2 : k_kd B t p ≠ 91) (D v : Nat) (c : List (Nat × Nat)) : k_fa B t D v p c = k_cm B t v p c := by
  cases D with
  | zero => unfold k_fa; rw [if_neg (by omega)]
  | succ D => unfold k_fa; rw [if_neg h, if_neg h2]
theorem k_u_0 {B : Nat → Int} {t p : Nat} (h : k_kd B t p = 274 ∨ k_kd B t p = 91) (v : Nat) (c : List (Nat × Nat)) : k_fa B t 0 v p c = .inl (3 + 8 * p) := by
  unfold k_fa
  rw [if_pos h]
/-- behind a level's test -/
def k_ux (B : Nat → Int) (t : Nat) : List (Nat × Nat) → Nat → kF
  | [], _, p, v, c => .inr (p, v, c)
  | l :: lv, D, p, v, c => if k_kd B t p = 93 then k_up B t lv l.1 l.2 (D + 1) (k_nx B t p) v c else .inl (1 + 8 * p)
theorem k_u_x (B : Nat → Int) (t : Nat) (lv : List (Nat × Nat)) (u D p v : Nat) (c : List (Nat × Nat)) : k_up B t lv u 0 D p v c = k_bd (k_tl B t (k_fa B t D) 400 v p (k_uw u) (c ++ k_ue u)) (k_ux B t lv D) := by
  cases lv with
  | nil =>
    show k_bd _ _ = k_bd _ _
    rw [List.replicate_zero, List.append_nil, Nat.add_zero]
    rfl
  | cons l lv =>
    show k_bd _ _ = k_bd _ _
    rw [List.replicate_zero, List.append_nil, Nat.add_zero]
    rfl
theorem k_u_and {B : Nat → Int} {t p : Nat} (ht : t ≤ 400) (h : k_kd B t p = 273) (lv : List (Nat × Nat)) (u D v : Nat) (c : List (Nat × Nat)) : k_up B t lv u 0 D p v c = k_bd (k_fa B t D v (k_nx B t p) (c ++ k_ue u)) (k_up B t lv (2 + u % 2) 0 D) := by
  rw [k_u_x, k_tl_e (k_fa_g D) ht, if_pos h, k_bdbd]
  refine k_bd_cg fun p' v' c' => ?_
  rw [k_u_x]
  have e1 : k_uw (2 + u % 2) = k_uw u := by
    unfold k_uw
    rw [show (2 + u % 2) % 2 = u % 2 by omega]
  have e2 : k_ue (2 + u % 2) = [(12, 0)] := if_pos (by omega)
  rw [e1, e2]
theorem k_u_or {B : Nat → Int} {t p : Nat} (ht : t ≤ 400) (h : k_kd B t p = 272) (lv : List (Nat × Nat)) (u D v : Nat) (c : List (Nat × Nat)) : k_up B t lv u 0 D p v c = k_bd (k_fa B t D v (k_nx B t p) (c ++ k_ue u ++ k_uw u)) (k_up B t lv 1 0 D) := by
  rw [k_u_x, k_tl_e (k_fa_g D) ht, if_neg (by omega), if_pos h, k_bdbd]
  refine k_bd_cg fun p' v' c' => ?_
  rw [k_u_x]
  have e2 : k_ue 1 = [] := if_neg (by omega)
  rw [e2, List.append_nil]
  rfl
theorem k_u_en {B : Nat → Int} {t p : Nat} (ht : t ≤ 400) (h : k_kd B t p ≠ 273) (h2 : k_kd B t p ≠ 272) (lv : List (Nat × Nat)) (u D v : Nat) (c : List (Nat × Nat)) : k_up B t lv u 0 D p v c = k_ux B t lv D p v (c ++ k_ue u ++ k_uw u) := by
  rw [k_u_x, k_tl_e (k_fa_g D) ht, if_neg h, if_neg h2]
  rfl
/-! a rule's clauses -/
abbrev kC : Type := List (Nat × Nat) × Option (List (Nat × Nat))
def k_cl (B : Nat → Int) (t v p : Nat) : Nat ⊕ (Nat × Nat × kC) := match k_sum B t v (k_nx B t p) [] with
  | .inl e => .inl e
  | .inr x => if k_kd B t x.1 = 271 then (match k_ts B t (k_fa B t 10) x.2.1 (k_nx B t x.1) [] with
    | .inl e => .inl e
    | .inr y => .inr (y.1, y.2.1, x.2.2, some y.2.2)) else .inr (x.1, x.2.1, x.2.2, none)
def k_rd (B : Nat → Int) (t : Nat) : Nat → Nat → Nat → rRule → Nat ⊕ rRule
  | 0, _, _, _ => .inl 0
  | f + 1, v, p, R => if k_kd B t p = 270 then (if f = 0 then .inl (5 + 8 * p) else match k_cl B t v p with
    | .inl e => .inl e
    | .inr x => if k_kd B t x.1 = 279 then .inr (R ++ [x.2.2]) else if k_kd B t x.1 = 59 then k_rd B t f x.2.1 (k_nx B t x.1) (R ++ [x.2.2]) else .inl (1 + 8 * x.1)) else .inl (1 + 8 * p)
def r_len : rRule → Nat
  | [] => 0
  | (A, none) :: R => A.length + r_len R
  | (A, some B) :: R => A.length + B.length + r_len R
theorem c_cls_sn {f : Nat → Int} {C : kC} : ∀ (R : rRule) (p : Nat), c_cls f p R → c_cls f (p + c_len R) [C] → c_cls f p (R ++ [C])
  | [], p, _, h => h
  | (A, none) :: R, p, h, h2 => ⟨h.1, h.2.1, c_cls_sn R _ h.2.2 (by rw [show p + A.length + 1 + c_len R = p + c_len ((A, none) :: R) by show _ = p + (A.length + 1 + c_len R); omega]; exact h2)⟩
  | (A, some B) :: R, p, h, h2 => ⟨h.1, h.2.1, h.2.2.1, c_cls_sn R _ h.2.2.2 (by rw [show p + A.length + B.length + 1 + c_len R = p + c_len ((A, some B) :: R) by show _ = p + (A.length + B.length + 1 + c_len R); omega]; exact h2)⟩
theorem c_len_sn (C : kC) : ∀ (R : rRule), c_len (R ++ [C]) = c_len R + c_len [C]
  | [] => by show c_len [C] = 0 + c_len [C]; omega
  | (A, none) :: R => by show A.length + 1 + c_len (R ++ [C]) = A.length + 1 + c_len R + c_len [C]; rw [c_len_sn C R]; omega
  | (A, some B) :: R => by show A.length + B.length + 1 + c_len (R ++ [C]) = A.length + B.length + 1 + c_len R + c_len [C]; rw [c_len_sn C R]; omega
theorem r_len_sn (C : kC) : ∀ (R : rRule), r_len (R ++ [C]) = r_len R + r_len [C]
  | [] => by show r_len [C] = 0 + r_len [C]; omega
  | (A, none) :: R => by show A.length + r_len (R ++ [C]) = A.length + r_len R + r_len [C]; rw [r_len_sn C R]; omega
  | (A, some B) :: R => by show A.length + B.length + r_len (R ++ [C]) = A.length + B.length + r_len R + r_len [C]; rw [r_len_sn C R]; omega
theorem r_cls_sn {sg cl : Nat → Int} {r : Nat} {C : kC} : ∀ (R : rRule) (c p : Nat), r_cls sg cl r c p R → r_cls sg cl r (c + R.length) (p + r_len R) [C] → r_cls sg cl r c p (R ++ [C])
  | [], c, p, _, h => h
  | (A, none) :: R, c, p, h, h2 => by
    have e1 : c + 1 + R.length = c + ((A, (none : Option (List (Nat × Nat)))) :: R).length := by rw [List.length_cons]; omega
    have e2 : p + A.length + r_len R = p + r_len ((A, none) :: R) := by show _ = p + (A.length + r_len R); omega
    exact ⟨h.1, h.2.1, h.2.2.1, h.2.2.2.1, h.2.2.2.2.1, r_cls_sn R _ _ h.2.2.2.2.2 (by rw [e1, e2]; exact h2)⟩
  | (A, some B) :: R, c, p, h, h2 => by
    have e1 : c + 1 + R.length = c + ((A, some B) :: R).length := by rw [List.length_cons]; omega
    have e2 : p + A.length + B.length + r_len R = p + r_len ((A, some B) :: R) := by show _ = p + (A.length + B.length + r_len R); omega
    exact ⟨h.1, h.2.1, h.2.2.1, h.2.2.2.1, h.2.2.2.2.1, h.2.2.2.2.2.1, h.2.2.2.2.2.2.1, r_cls_sn R _ _ h.2.2.2.2.2.2.2 (by rw [e1, e2]; exact h2)⟩
theorem r_rok_sn {C : kC} : ∀ (R : rRule), r_rok R → r_rok [C] → r_rok (R ++ [C])
  | [], _, h => h
  | (A, none) :: R, h, h2 => ⟨h.1, r_rok_sn R h.2 h2⟩
  | (A, some B) :: R, h, h2 => ⟨h.1, h.2.1, r_rok_sn R h.2.2 h2⟩
/-- a clause that is read: its place, its length, its types -/
theorem k_cl_g {B : Nat → Int} {t v p : Nat} {x : Nat × Nat × kC} (hp : p < t) (h : k_cl B t v p = .inr x) : k_nx B t p < x.1 ∧ x.1 ≤ t ∧ r_len [x.2.2] + k_nx B t p ≤ x.1 ∧ (v ≤ 60 → x.2.1 ≤ 60) ∧ r_rok [x.2.2] ∧ c_len [x.2.2] = r_len [x.2.2] + 1 := by
  have hT : k_Ty [] [] := ⟨rfl, fun y hy => by cases hy⟩
  unfold k_cl at h
  split at h
  · cases h
  · rename_i y hy
    have g1 := k_sum_g hy
    have t1 := k_sum_t hT (by decide) hy
    unfold k_gr at g1
    rw [List.length_nil] at g1
    split at h
    · have hb := k_nx_b (B := B) (t := t) (p := y.1) (k_kd_in (B := B) (by omega))
      split at h
      · cases h
      · rename_i z hz
        have g2 := k_ts_g (k_fa_g 10) _ _ _ _ hz
        have t2 := k_ts_t (k_fa_t 10) _ _ _ _ _ hT (by decide) hz
        unfold k_gr at g2
        rw [List.length_nil] at g2
        cases h
        refine ⟨by dsimp only; omega, by dsimp only; omega, ?_, fun h => by dsimp only; omega, ⟨t1.1, t2.1, trivial⟩, ?_⟩
        · show y.2.2.length + z.2.2.length + 0 + _ ≤ _
          dsimp only
          omega
        · show y.2.2.length + z.2.2.length + 1 + 0 = y.2.2.length + z.2.2.length + 0 + 1
          omega
    · cases h
      refine ⟨by dsimp only; omega, by dsimp only; omega, ?_, fun h => by dsimp only; omega, ⟨t1.1, trivial⟩, ?_⟩
      · show y.2.2.length + 0 + _ ≤ _
        dsimp only
        omega
      · show y.2.2.length + 1 + 0 = y.2.2.length + 0 + 1
        omega
