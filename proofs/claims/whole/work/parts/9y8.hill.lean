theorem r_bg_lo {S : Nat → Int} {k : Nat} (hk : k < 10 ∨ 63 ≤ k) : r_bg S 8 4 32 k = S k := by
  unfold r_bg
  rw [if_neg (by omega), if_neg (by omega), if_neg (by omega), if_neg (by omega), if_neg (by omega)]
theorem r_bg_c {S T : Nat → Int} {k : Nat} (h1 : 10 ≤ k) (h2 : k < 63) (e : ∀ j, 79 ≤ j → j < 119 → S j = T j) : r_bg S 8 4 32 k = r_bg T 8 4 32 k := by
  unfold r_bg
  by_cases c1 : k = 10
  · rw [if_pos c1, if_pos c1]
  · rw [if_neg c1, if_neg c1]
    by_cases c2 : 11 ≤ k ∧ k < 11 + 8
    · rw [if_pos c2, if_pos c2]
    · rw [if_neg c2, if_neg c2]
      by_cases c3 : 19 ≤ k ∧ k < 19 + 8
      · rw [if_pos c3, if_pos c3, e _ (by omega) (by omega)]
      · rw [if_neg c3, if_neg c3]
        by_cases c4 : 27 ≤ k ∧ k < 27 + 4
        · rw [if_pos c4, if_pos c4]
        · rw [if_neg c4, if_neg c4, if_pos (by omega), if_pos (by omega), e _ (by omega) (by omega)]
/-- the hill that was told, all of it -/
theorem Hok.ok {H S X : Nat → Int} {s m : Nat} (h : Hok H s m) (hw : ∀ j, e_w32 (S j) = S j) (hw4 : e_w32 (H 4) = H 4) (hX : X = r_bg (fun i => if i < 119 then H i else if i < 150 then 0 else S i) 8 4 32) : Ok X s m 999 ∧ Tl X s ∧ Nt X s 0 ∧ (∀ k, k < 10 ∨ 63 ≤ k ∧ k < 119 → X k = H k) ∧ ∀ k, 10 ≤ k → k < 63 → X k = r_bg H 8 4 32 k := by
  obtain ⟨h2, hs, h3, hm, h0, h1, g1, g2, g3, g4, g5, g6⟩ := h
  have lo : ∀ k, k < 10 ∨ 63 ≤ k ∧ k < 119 → X k = H k := fun k hk => by
    rw [hX, r_bg_lo (by omega)]
    show (if k < 119 then H k else _) = H k
    rw [if_pos (by omega)]
  have mi : ∀ k, 10 ≤ k → k < 63 → X k = r_bg H 8 4 32 k := fun k k1 k2 => by
    rw [hX]
    exact r_bg_c k1 k2 (fun j j1 j2 => if_pos j2)
  have hz : ∀ k, 119 ≤ k → k < 150 → X k = 0 := fun k k1 k2 => by
    rw [hX, r_bg_lo (by omega)]
    show (if k < 119 then H k else if k < 150 then 0 else S k) = 0
    rw [if_neg (by omega), if_pos k2]
  have y10 : X 10 = 0 := mi 10 (by omega) (by omega)
  have x11 : ∀ i, i < 8 → X (11 + i) = -1 := fun i hi => by
    rw [mi _ (by omega) (by omega)]
    unfold r_bg
    rw [if_neg (by omega), if_pos (by omega)]
  have x19 : ∀ i, i < 8 → X (19 + i) = H (79 + i) := fun i hi => by
    rw [mi _ (by omega) (by omega)]
    unfold r_bg
    rw [if_neg (by omega), if_neg (by omega), if_pos (by omega), show 19 + i + 60 = 79 + i by omega]
  have x27 : ∀ i, i < 4 → X (27 + i) = 0 := fun i hi => by
    rw [mi _ (by omega) (by omega)]
    unfold r_bg
    rw [if_neg (by omega), if_neg (by omega), if_neg (by omega), if_pos (by omega)]
  have x31 : ∀ i, i < 32 → X (31 + i) = H (87 + i) := fun i hi => by
    rw [mi _ (by omega) (by omega)]
    unfold r_bg
    rw [if_neg (by omega), if_neg (by omega), if_neg (by omega), if_neg (by omega), if_pos (by omega), show 31 + i + 56 = 87 + i by omega]
  refine ⟨⟨fun j => ?_, ?_, hs, ?_, hm, ?_, ?_, ?_, fun i hi => ?_, fun i hi => ?_, fun i hi => ?_, fun i hi => ?_, fun i hi => ?_, fun i hi => ?_, fun i hi => ?_⟩, ⟨fun i hi => ?_, fun i hi => ?_⟩, ⟨hz 149 (by omega) (by omega), by omega, fun i hi => absurd hi (by omega)⟩, lo, mi⟩
  · by_cases j1 : j < 10
    · rw [lo j (by omega)]
      by_cases c4 : j = 4
      · rw [c4]; exact hw4
      · by_cases c0 : j = 0
        · rw [c0]; exact e_id32 (by omega) (by omega)
        · by_cases c1 : j = 1
          · rw [c1]; exact e_id32 (by omega) (by omega)
          · by_cases c2 : j = 2
            · rw [c2, h2]; exact e_id32 (by omega) (by omega)
            · by_cases c3 : j = 3
              · rw [c3, h3]; exact e_id32 (by omega) (by omega)
              · rw [g6 j (by omega)]; exact e_id32 (by omega) (by omega)
    · by_cases j2 : j < 63
      · by_cases c1 : j = 10
        · rw [c1, y10]; exact e_id32 (by omega) (by omega)
        · by_cases c2 : j < 19
          · obtain ⟨i, rfl⟩ : ∃ i, j = 11 + i := ⟨j - 11, by omega⟩
            rw [x11 i (by omega)]; exact e_id32 (by omega) (by omega)
          · by_cases c3 : j < 27
            · obtain ⟨i, rfl⟩ : ∃ i, j = 19 + i := ⟨j - 19, by omega⟩
              rw [x19 i (by omega)]
              have := g4 i (by omega)
              exact e_id32 (by omega) (by omega)
            · by_cases c4 : j < 31
              · obtain ⟨i, rfl⟩ : ∃ i, j = 27 + i := ⟨j - 27, by omega⟩
                rw [x27 i (by omega)]; exact e_id32 (by omega) (by omega)
              · obtain ⟨i, rfl⟩ : ∃ i, j = 31 + i := ⟨j - 31, by omega⟩
                rw [x31 i (by omega)]
                have := g5 i (by omega)
                exact e_id32 (by omega) (by omega)
      · by_cases j3 : j < 119
        · rw [lo j (by omega)]
          by_cases c1 : j < 71
          · obtain ⟨i, rfl⟩ : ∃ i, j = 63 + i := ⟨j - 63, by omega⟩
            have := g1 i (by omega)
            exact e_id32 (by omega) (by omega)
          · by_cases c2 : j < 75
            · obtain ⟨i, rfl⟩ : ∃ i, j = 71 + i := ⟨j - 71, by omega⟩
              have := g2 i (by omega)
              exact e_id32 (by omega) (by omega)
            · by_cases c3 : j < 79
              · obtain ⟨i, rfl⟩ : ∃ i, j = 75 + i := ⟨j - 75, by omega⟩
                have := g3 i (by omega)
                exact e_id32 (by omega) (by omega)
              · by_cases c4 : j < 87
                · obtain ⟨i, rfl⟩ : ∃ i, j = 79 + i := ⟨j - 79, by omega⟩
                  have := g4 i (by omega)
                  exact e_id32 (by omega) (by omega)
                · obtain ⟨i, rfl⟩ : ∃ i, j = 87 + i := ⟨j - 87, by omega⟩
                  have := g5 i (by omega)
                  exact e_id32 (by omega) (by omega)
        · by_cases j4 : j < 150
          · rw [hz j (by omega) j4]; exact e_id32 (by omega) (by omega)
          · rw [hX, r_bg_lo (by omega)]
            show e_w32 (if j < 119 then H j else if j < 150 then 0 else S j) = if j < 119 then H j else if j < 150 then 0 else S j
            rw [if_neg (by omega), if_neg j4]
            exact hw j
  · rw [lo _ (by omega)]; exact h2
  · rw [lo _ (by omega)]; exact h3
  · rw [lo _ (by omega)]; omega
  · rw [lo _ (by omega)]; omega
  · rw [y10]; omega
  · rw [x11 i hi]; omega
  · rw [x19 i (by omega)]; exact g4 i (by omega)
  · rw [x27 i hi]; omega
  · rw [x31 i hi]; exact g5 i hi
  · rw [lo _ (by omega)]; exact g1 i hi
  · rw [lo _ (by omega)]; exact g2 i hi
  · rw [lo _ (by omega)]; exact g3 i hi
  · rw [lo _ (by omega)]; exact g4 i (by omega)
  · rw [lo _ (by omega)]; exact g5 i hi
theorem k_hc_4 {B : Nat → Int} {t n s m p : Nat} {H : Nat → Int} {y : Nat × (Nat → Int)} (hs : s ≤ 8) (hm : m ≤ 4) (hH : n = 0 ∨ 1 ≤ H 4 ∧ H 4 ≤ 9) (h : k_hc B t n H s m p = .inr y) : 1 ≤ y.2 4 ∧ y.2 4 ≤ 9 := by
  unfold k_hc at h
  by_cases h5 : k_kd B t p = 268 ∨ k_kd B t p = 256 ∨ k_kd B t p = 257 ∨ k_kd B t p = 258 ∨ k_kd B t p = 269
  · rw [if_pos h5] at h
    by_cases hb : n = 40 ∨ ¬ (k_kd B t p = 268 ↔ n = 0) ∨ k_kd B t p = 256 ∧ s = 8 ∨ k_kd B t p = 257 ∧ m = 4
    · rw [if_pos hb] at h
      cases h
    · rw [if_neg hb] at h
      by_cases h1 : k_kd B t p = 268
      · rw [if_pos h1] at h
        obtain ⟨x1, e1, h⟩ := k_nb_i h
        obtain ⟨x2, e2, h⟩ := k_nb_i h
        cases h
        have b1 := k_num_r (by omega) e1
        show 1 ≤ k_h0 x1.2 x2.2 4 ∧ k_h0 x1.2 x2.2 4 ≤ 9
        unfold k_h0
        rw [if_pos (Or.inr rfl)]
        exact b1
      · rw [if_neg h1] at h
        have h4 : 1 ≤ H 4 ∧ H 4 ≤ 9 := by
          rcases hH with e | e
          · exfalso
            omega
          · exact e
        by_cases h2 : k_kd B t p = 256
        · rw [if_pos h2] at h
          obtain ⟨x1, e1, h⟩ := k_nb_i h
          cases h
          show 1 ≤ va_up (va_up H (63 + s) (x1.2 : Int)) 2 ((s : Int) + 1) 4 ∧ va_up (va_up H (63 + s) (x1.2 : Int)) 2 ((s : Int) + 1) 4 ≤ 9
          rw [e_un _ (by omega), e_un _ (by omega)]
          exact h4
        · rw [if_neg h2] at h
          by_cases h3 : k_kd B t p = 257
          · rw [if_pos h3] at h
            obtain ⟨x1, e1, h⟩ := k_nb_i h
            obtain ⟨x2, e2, h⟩ := k_nb_i h
            cases h
            show 1 ≤ va_up (va_up (va_up H (71 + m) (x1.2 : Int)) (75 + m) (x2.2 : Int)) 3 ((m : Int) + 1) 4 ∧ va_up (va_up (va_up H (71 + m) (x1.2 : Int)) (75 + m) (x2.2 : Int)) 3 ((m : Int) + 1) 4 ≤ 9
            rw [e_un _ (by omega), e_un _ (by omega), e_un _ (by omega)]
            exact h4
          · rw [if_neg h3] at h
            by_cases h6 : k_kd B t p = 258
            · rw [if_pos h6] at h
              obtain ⟨x1, e1, h⟩ := k_nb_i h
              obtain ⟨x2, e2, h⟩ := k_nb_i h
              obtain ⟨x3, e3, h⟩ := k_nb_i h
              cases h
              show 1 ≤ va_up H (87 + 4 * x1.2 + x2.2) (x3.2 : Int) 4 ∧ va_up H (87 + 4 * x1.2 + x2.2) (x3.2 : Int) 4 ≤ 9
              rw [e_un _ (by omega)]
              exact h4
            · rw [if_neg h6] at h
              obtain ⟨x1, e1, h⟩ := k_nb_i h
              obtain ⟨x2, e2, h⟩ := k_nb_i h
              by_cases e : x1.2 = x2.2
              · rw [if_pos e] at h
                cases h
              · rw [if_neg e] at h
                cases h
                show 1 ≤ va_up H (79 + x1.2) (x2.2 : Int) 4 ∧ va_up H (79 + x1.2) (x2.2 : Int) 4 ≤ 9
                rw [e_un _ (by omega)]
                exact h4
  · rw [if_neg h5] at h
    cases h
theorem k_hd_4 {B : Nat → Int} {t : Nat} : ∀ (f n : Nat) (H : Nat → Int) (p : Nat) (X : Nat → Int), (n = 0 ∧ H = (fun _ => 0) ∨ (1 ≤ H 4 ∧ H 4 ≤ 9) ∧ ∃ s m, Hok H s m) → k_hd B t f n H p = .inr X → 1 ≤ X 4 ∧ X 4 ≤ 9
  | 0, n, H, p, X, hH, h => by
    unfold k_hd at h
    cases h
  | f + 1, n, H, p, X, hH, h => by
    unfold k_hd at h
    have hb : (H 2).toNat ≤ 8 ∧ (H 3).toNat ≤ 4 ∧ (n = 0 ∨ 1 ≤ H 4 ∧ H 4 ≤ 9) ∧ (n = 0 ∨ Hok H (H 2).toNat (H 3).toNat) := by
      rcases hH with ⟨e1, e2⟩ | ⟨e1, s, m, e2⟩
      · rw [e2]
        exact ⟨by decide, by decide, Or.inl e1, Or.inl e1⟩
      · have a1 := e2.1
        have a2 := e2.2.1
        have a3 := e2.2.2.1
        have a4 := e2.2.2.2.1
        rw [a1, a3, Int.toNat_natCast, Int.toNat_natCast]
        exact ⟨a2, a4, Or.inr e1, Or.inr e2⟩
    cases hc : k_hc B t n H (H 2).toNat (H 3).toNat p with
    | inl e =>
      rw [hc] at h
      cases h
    | inr x =>
      rw [hc] at h
      have h4 := k_hc_4 hb.1 hb.2.1 hb.2.2.1 hc
      have ho := k_hc_ok hb.2.2.2 hc
      dsimp only at h
      split at h
      · cases h
        exact h4
      · split at h
        · exact k_hd_4 f (n + 1) x.2 _ X (Or.inr ⟨h4, ho⟩) h
        · cases h
set_option maxRecDepth 8000 in
set_option maxHeartbeats 4000000 in
theorem o_hill {k : Nat} {L : Nat} {xs : Nat → Int} {own : Nat → Nat} {S : Nat → Int} {n q c t M u p x : Nat} {f : Int} {B : Nat → Int} {RS : Nat → rRule} {σ : eH} (hk : 60 ≤ k) (h : Iv L xs own S n q c t M u p x f B RS σ) : Op k L xs 16 192 [.inr (.inr 5)] [.inr (.inr 163)] σ := by
  have n5 := h.n5
  have hn8 := h.ok.n8
  have hq4 := h.ok.q4
  have ho : ∀ c, c < σ.1 → own c = own c := fun _ _ => rfl
  have hp2 := h.p2
  refine c_hill (B := B) (t := t) (by omega) h.ck h.tx h.t4 h.c5 h.bb h.c4 (fun τ1 e er hs1 z4 z65 z10 => ?_) (fun τ1 H s m er hH hs1 z4 zh zs zn z0 z1 => ?_)
  · skip
    have e162 : τ1.2.2.2.1 162 = B := by rw [hs1.at 162 (by omega)]; exact h.b1
    have e161 : τ1.2.2.2.1 161 = σ.2.2.2.1 161 := hs1.at 161 (by omega)
    have e171 : τ1.2.2.2.1 171 = S := by rw [hs1.at 171 (by omega)]; exact h.S1
    refine ⟨_, rfl, ⟨by rw [hs1.2.2.1]; exact h.sc, by rw [hs1.at 0 (by omega)]; exact h.sd, by rw [hs1.2.2.1]; exact mk161 h.mo⟩, ?_⟩
    refine w_hill (B := B) (t := t) (by omega) ⟨fun a ha => by rw [hs1.2.2.1]; exact h.mo.1 a ha, fun i hi => by rw [hs1.2.2.2.1]; exact h.mo.2 i hi⟩ (by rw [e161]; exact h.t1) e162 h.t4 h.bb (fun τ H er2 => absurd (er.symm.trans er2) (by intro g; cases g)) (fun τ e' er2 hs2 y1 y26 y171 => ?_)
    have ee : e = e' := by
      have := er.symm.trans er2
      cases this
      rfl
    have hf1 := hs1.f (Rf := rfs)
    have hf2 := hs2.f (Rf := rfs)
    have hF : Fr (fun c => c = 4 ∨ 6 ≤ c ∧ c < 9 ∨ 45 ≤ c ∧ c < 62 ∨ c = 164 ∨ c = 167 ∨ c = 161) rfs σ τ := by
      refine ⟨?_, fun c hc => ?_, fun c i hc hr => ?_, fun c hc hl => ?_⟩
      · have := hf1.1
        have := hf2.1
        omega
      · rw [hf2.kd (by have := hf1.1; omega), hf1.kd hc]
      · rw [hf2.ref (by have := hf1.1; omega) hr, hf1.ref hc hr]
      · have a1 : τ1.2.2.2.1 c = σ.2.2.2.1 c := by
          by_cases c1 : 10 ≤ c ∧ c < 44
          · exact z10 c c1.1 c1.2
          · by_cases c2 : c = 65
            · rw [c2]; exact z65
            · exact hs1.at c (by omega)
        have a2 : τ.2.2.2.1 c = τ1.2.2.2.1 c := by
          by_cases c1 : c = 171
          · rw [c1]; exact y171
          · exact hs2.at c (by simp only [List.mem_cons, List.not_mem_nil, or_false]; omega) (by omega)
        rw [a2, a1]
    have hR : ∀ c i, ¬ ((c = 71 ∨ c = 113) ∧ i = 4) → τ.2.2.2.2 c i = σ.2.2.2.2 c i := fun c i q => by rw [hs2.2.2.2.1, hs1.2.2.2.1]
    have hw : Lw own 99 (fun c => c = 4 ∨ 6 ≤ c ∧ c < 9 ∨ 45 ≤ c ∧ c < 62 ∨ c = 164 ∨ c = 167 ∨ c = 161) σ := fun c c1 c2 q => by exfalso; omega
    have hr64 : ∀ r, r < M → τ.2.2.2.2 64 r = σ.2.2.2.2 64 r := fun r _ => hR 64 r (by omega)
    have hr66 : ∀ j, j < 20 → τ.2.2.2.2 66 j = σ.2.2.2.2 66 j := fun j _ => hR 66 j (by omega)
    have hr44 : ∀ j, j < 4 → τ.2.2.2.2 44 j = σ.2.2.2.2 44 j := fun j _ => hR 44 j (by omega)
    have hfd : ∀ i, i ∉ [1, 8, 9, 10, 11, 12, 14, 26] → τ.2.2.2.1 161 i = σ.2.2.2.1 161 i := fun i hi => by rw [hs2.fd i hi, e161]
    have hI : Iv L xs own S n q c (0) M u p x f B RS τ := by
      refine ⟨?_, ?_, ?_, ?_, ?_, ?_, ?_, ?_, ?_, ?_, ?_, ?_, ?_, ?_, ?_, ?_, ?_, ?_, ?_, ?_, ?_, ?_, ?_, ?_, ?_, ?_, ?_, ?_, ?_, ?_, ?_, ?_, ?_, ?_, ?_⟩
      · rw [hF.kd (by omega)]; exact h.sc
      · rw [hF.at (by omega) (by omega)]; exact h.sd
      · exact hF.tx n5 (by omega) (by omega) h.tx
      · have := hF.1; omega
      · exact hF.ck n5 h.ck
      · exact hF.mo n5 h.mo
      · rw [hF.at (by omega) (by omega)]; exact h.S1
      · rw [y1]; rfl
      · omega
      · rw [hF.at (by omega) (by omega)]; exact h.b1
      · exact h.bb
      · rw [hfd 2 (by decide)]; exact h.m1
      · exact h.m6
      · rw [hfd 21 (by decide)]; exact h.f1
      · exact h.fb
      · rw [hfd 22 (by decide)]; exact h.x1
      · exact h.xb
      · rw [hfd 23 (by decide)]; exact h.r23
      · rw [y26, e161]; exact h.u1
      · exact h.u2
      · exact fun r hr => hF.rr n5 (by omega) (by omega) (by omega) (h.rr r hr)
      · exact h.ok
      · exact h.tl
      · exact h.nt
      · rw [hs2.at 4 (by decide) (by decide), z4]; rfl
      · rw [hF.at (by omega) (by omega)]; exact h.c5
      · rw [hF.at (by omega) (by omega)]; exact h.c3
      · exact h.wo.fr (fun d d1 d2 => hF.at (by omega) (by omega))
      · exact fun r hr => by rw [hr64 r hr]; exact hF.rn ho hw (by omega) (h.rn r hr)
      · exact h.p2
      · exact hF.ak ho hr66 h.ak
      · rw [hF.at (c := 173) (by omega) (by omega)]; exact hF.av n5 hw (by omega) hr66 (hF.at (by omega) (by omega)) h.ak h.av
      · rw [hF.at (c := 173) (by omega) (by omega)]; exact h.ar
      · exact hF.ik ho hr44 h.ik
      · exact hF.iv n5 hw (by omega) hr44 (by omega) (by omega) (by omega) (by omega) (by omega) h.ik h.iv
    refine ⟨by rw [ee], hI.x, ?_, ?_⟩
    · have := hs1.1
      have := hs2.1
      omega
    · have := hs1.2.1
      have := hs2.2.1
      omega
  · skip
    have e162 : τ1.2.2.2.1 162 = B := by rw [hs1.at 162 (by omega)]; exact h.b1
    have e161 : τ1.2.2.2.1 161 = σ.2.2.2.1 161 := hs1.at 161 (by omega)
    have e171 : τ1.2.2.2.1 171 = S := by rw [hs1.at 171 (by omega)]; exact h.S1
    refine ⟨_, rfl, ⟨by rw [hs1.2.2.1]; exact h.sc, by rw [hs1.at 0 (by omega)]; exact h.sd, by rw [hs1.2.2.1]; exact mk161 h.mo⟩, ?_⟩
    refine w_hill (B := B) (t := t) (by omega) ⟨fun a ha => by rw [hs1.2.2.1]; exact h.mo.1 a ha, fun i hi => by rw [hs1.2.2.2.1]; exact h.mo.2 i hi⟩ (by rw [e161]; exact h.t1) e162 h.t4 h.bb (fun τ H' er2 hs2 y1 y26 y171 => ?_) (fun τ e' er2 => absurd (er.symm.trans er2) (by intro g; cases g))
    have ee : H = H' := by
      have := er.symm.trans er2
      cases this
      rfl
    subst ee
    have h4 := k_hd_4 41 0 (fun _ => 0) _ H (Or.inl ⟨rfl, rfl⟩) er
    rw [e171] at y171
    obtain ⟨o1, o2, o3, o4, o5⟩ := hH.ok h.ok.w (e_id32 (by omega) (by omega)) y171
    obtain ⟨X, hX171⟩ : ∃ X, τ.2.2.2.1 171 = X := ⟨_, rfl⟩
    rw [hX171] at o1 o2 o3 o4 o5 y171
    have hs8 := hH.2.1
    have hm4 := hH.2.2.2.1
    have hf1 := hs1.f (Rf := rfs)
    have hf2 := hs2.f (Rf := rfs)
    have hF : Fr (fun c => c = 4 ∨ 6 ≤ c ∧ c < 9 ∨ 10 ≤ c ∧ c < 44 ∨ 45 ≤ c ∧ c < 62 ∨ c = 65 ∨ c = 164 ∨ c = 167 ∨ c = 171 ∨ c = 161) rfs σ τ := (hf1.tr hf2).mn (fun c hc q => by simp only [List.mem_cons, List.not_mem_nil, or_false] at q; omega) (fun _ _ q => q)
    have hR : ∀ c i, ¬ ((c = 71 ∨ c = 113) ∧ i = 4) → τ.2.2.2.2 c i = σ.2.2.2.2 c i := fun c i q => by rw [hs2.2.2.2.1, hs1.2.2.2.1]
    have h2at : ∀ c, c < 161 → τ.2.2.2.1 c = τ1.2.2.2.1 c := fun c hc => hs2.at c (by simp only [List.mem_cons, List.not_mem_nil, or_false]; omega) (by omega)
    have hw : Lw own 99 (fun c => c = 4 ∨ 6 ≤ c ∧ c < 9 ∨ 10 ≤ c ∧ c < 44 ∨ 45 ≤ c ∧ c < 62 ∨ c = 65 ∨ c = 164 ∨ c = 167 ∨ c = 171 ∨ c = 161) σ := fun c c1 c2 q => by exfalso; omega
    have hr64 : ∀ r, r < M → τ.2.2.2.2 64 r = σ.2.2.2.2 64 r := fun r _ => hR 64 r (by omega)
    have hr66 : ∀ j, j < 20 → τ.2.2.2.2 66 j = σ.2.2.2.2 66 j := fun j _ => hR 66 j (by omega)
    have hr44 : ∀ j, j < 4 → τ.2.2.2.2 44 j = σ.2.2.2.2 44 j := fun j _ => hR 44 j (by omega)
    have hfd : ∀ i, i ∉ [1, 8, 9, 10, 11, 12, 14, 26] → τ.2.2.2.1 161 i = σ.2.2.2.1 161 i := fun i hi => by rw [hs2.fd i hi, e161]
    have hI : Iv L xs own (X) (s) (m) (0) (0) M (0) p x f B RS τ := by
      refine ⟨?_, ?_, ?_, ?_, ?_, ?_, ?_, ?_, ?_, ?_, ?_, ?_, ?_, ?_, ?_, ?_, ?_, ?_, ?_, ?_, ?_, ?_, ?_, ?_, ?_, ?_, ?_, ?_, ?_, ?_, ?_, ?_, ?_, ?_, ?_⟩
      · rw [hF.kd (by omega)]; exact h.sc
      · rw [hF.at (by omega) (by omega)]; exact h.sd
      · exact hF.tx n5 (by omega) (by omega) h.tx
      · have := hF.1; omega
      · exact hF.ck n5 h.ck
      · exact hF.mo n5 h.mo
      · exact hX171
      · rw [y1]; rfl
      · omega
      · rw [hF.at (by omega) (by omega)]; exact h.b1
      · exact h.bb
      · rw [hfd 2 (by decide)]; exact h.m1
      · exact h.m6
      · rw [hfd 21 (by decide)]; exact h.f1
      · exact h.fb
      · rw [hfd 22 (by decide)]; exact h.x1
      · exact h.xb
      · rw [hfd 23 (by decide)]; exact h.r23
      · rw [y26]; rfl
      · omega
      · exact fun r hr => hF.rr n5 (by omega) (by omega) (by omega) (h.rr r hr)
      · exact o1
      · exact o2
      · exact o3
      · rw [h2at 4 (by omega), z4]; rfl
      · rw [hF.at (by omega) (by omega)]; exact h.c5
      · rw [hF.at (by omega) (by omega)]; exact h.c3
      · exact ⟨(HlV.f3 zh (fun d d1 d2 => h2at d (by omega))).cg hs8 hm4 o4, (zs.fr (fun d d1 d2 => h2at d (by omega))).cg (fun k k1 k2 => (o5 k k1 k2).symm), ⟨by rw [h2at 40 (by omega)]; exact zn.1, fun i hi => absurd hi (by omega)⟩, by rw [hF.at (by omega) (by omega)]; exact h.wo.2.2.2.1, by rw [hF.at (by omega) (by omega)]; exact h.wo.2.2.2.2⟩
      · exact fun r hr => by rw [hr64 r hr]; exact hF.rn ho hw (by omega) (h.rn r hr)
      · exact h.p2
      · exact hF.ak ho hr66 h.ak
      · exact ⟨by rw [h2at 65 (by omega), z0]; rfl, by rw [h2at 65 (by omega), z1]; exact h.av.2.1, fun i hi => absurd hi (by omega)⟩
      · exact fun i hi => absurd hi (by omega)
      · exact hF.ik ho hr44 h.ik
      · exact hF.iv n5 hw (by omega) hr44 (by omega) (by omega) (by omega) (by omega) (by omega) h.ik h.iv
    refine ⟨by rw [hH.1], hI.x, ?_, ?_⟩
    · have := hs1.1
      have := hs2.1
      omega
    · have := hs1.2.1
      have := hs2.2.1
      omega
