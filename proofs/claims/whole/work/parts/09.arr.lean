theorem e_upi {cA : ClassId} {n j : Nat} {f f2 : Nat → Int32} {x : Int32} (h : ∀ q, f2 q = if q = j then x else f q) : (vp_cell cA (n, .inl f)).setSlot j (.int x) = vp_cell cA (n, .inl f2) := by
  rw [vp_cell_i, vp_cell_i, arrV_store]
  congr 1
  funext q
  rw [h q]
  unfold updV
  split <;> rfl
theorem e_upl {cA : ClassId} {n j : Nat} {f f2 : Nat → Int64} {x : Int64} (h : ∀ q, f2 q = if q = j then x else f q) : (vp_cell cA (n, .inr (.inl f))).setSlot j (.long x) = vp_cell cA (n, .inr (.inl f2)) := by
  rw [vp_cell_l, vp_cell_l, arrV_store]
  congr 1
  funext q
  rw [h q]
  unfold updV
  split <;> rfl
theorem e_upq {cA : ClassId} {n j : Nat} {f f2 : Nat → Option Nat} {x : Nat} (h : ∀ q, f2 q = if q = j then some x else f q) : (vp_cell cA (n, .inr (.inr (.inr (.inr f))))).setSlot j (.ref x) = vp_cell cA (n, .inr (.inr (.inr (.inr f2)))) := by
  rw [vp_cell_q, vp_cell_q, arrV_store]
  congr 1
  funext q
  rw [h q]
  unfold updV
  split <;> rfl
section EA
variable {p : Program} {l : Launch} {e : Env} {R : Room} {s : State} {m : MethodId} {args : Array Value} {below : List Frame} {meth : Method} {c : Code} {Q : State → Prop} {cc : ByteArray} {nL : Nat} {own : String} {D : va_G} {aC : Nat → ClassId} {B : Nat × Nat × Nat × Option Nat} {Hl : Heap} {σ0 : eH} {n0 s0 : Nat}
variable {H : Heap} {locs : List Loc} {cells slots pc : Nat} {lss : Array Slot} {rest : List Value} {σ : eH} {k : Nat} {i : Int}
theorem e_iald (C : e_Cx p s m args c cc nL own D aC B Hl σ0) (hI : e_I Hl.size B aC D σ0 σ H) (hk : k + 3 < σ.1) (ho : e_ok σ (k + 3) 20 i = true) (hd : decode cc pc = .ok (.iaload, 1))
    (kk : W p l e R s m args below meth c H locs cells slots Q (F0 m (pc + 1) lss (.int (Int32.ofInt (σ.2.2.2.1 (k + 3) (e_w32 i).toNat)) :: rest))) : W p l e R s m args below meth c H locs cells slots Q (F0 m pc lss (.int (Int32.ofInt i) :: .ref (Hl.size + k) :: rest)) := by
  obtain ⟨hx, hb, hml, hown, hts, hK, hbl, hX, z0, z1, z2, hStr, hEx⟩ := C
  obtain ⟨o1, o2, o3⟩ := e_ok_of ho
  refine va_iald (cl := vwCl) hx hb hK hI.2.2.1 k 0 (by rw [e_ws_get hk, e_en_i o1 (by omega)]) rfl (e_in o2 o3) hd ?_
  rw [e_clamp]
  exact kk
theorem e_lald (C : e_Cx p s m args c cc nL own D aC B Hl σ0) (hI : e_I Hl.size B aC D σ0 σ H) (hk : k + 3 < σ.1) (ho : e_ok σ (k + 3) 21 i = true) (hd : decode cc pc = .ok (.laload, 1))
    (kk : W p l e R s m args below meth c H locs cells slots Q (F0 m (pc + 1) lss (.long (Int64.ofInt (σ.2.2.2.1 (k + 3) (e_w32 i).toNat)) :: rest))) : W p l e R s m args below meth c H locs cells slots Q (F0 m pc lss (.int (Int32.ofInt i) :: .ref (Hl.size + k) :: rest)) := by
  obtain ⟨hx, hb, hml, hown, hts, hK, hbl, hX, z0, z1, z2, hStr, hEx⟩ := C
  obtain ⟨o1, o2, o3⟩ := e_ok_of ho
  refine va_lald (cl := vwCl) hx hb hK hI.2.2.1 k 1 (by rw [e_ws_get hk, e_en_l o1]) rfl (e_in o2 o3) hd ?_
  rw [e_clamp]
  exact kk
theorem e_bald (C : e_Cx p s m args c cc nL own D aC B Hl σ0) (hI : e_I Hl.size B aC D σ0 σ H) (hk : k + 3 < σ.1) (ho : e_ok σ (k + 3) 22 i = true) (hd : decode cc pc = .ok (.baload, 1))
    (kk : W p l e R s m args below meth c H locs cells slots Q (F0 m (pc + 1) lss (.int (Int32.ofInt (σ.2.2.2.1 (k + 3) (e_w32 i).toNat)) :: rest))) : W p l e R s m args below meth c H locs cells slots Q (F0 m pc lss (.int (Int32.ofInt i) :: .ref (Hl.size + k) :: rest)) := by
  obtain ⟨hx, hb, hml, hown, hts, hK, hbl, hX, z0, z1, z2, hStr, hEx⟩ := C
  obtain ⟨o1, o2, o3⟩ := e_ok_of ho
  refine va_bald (cl := vwCl) hx hb hK hI.2.2.1 k 2 (by rw [e_ws_get hk, e_en_i o1 (by omega)]) rfl (e_in o2 o3) hd ?_
  rw [e_clamp]
  exact kk
theorem e_zald (C : e_Cx p s m args c cc nL own D aC B Hl σ0) (hI : e_I Hl.size B aC D σ0 σ H) (hk : k + 3 < σ.1) (ho : e_ok σ (k + 3) 23 i = true) (hd : decode cc pc = .ok (.baload, 1))
    (kk : W p l e R s m args below meth c H locs cells slots Q (F0 m (pc + 1) lss (.int (Int32.ofInt (σ.2.2.2.1 (k + 3) (e_w32 i).toNat)) :: rest))) : W p l e R s m args below meth c H locs cells slots Q (F0 m pc lss (.int (Int32.ofInt i) :: .ref (Hl.size + k) :: rest)) := by
  obtain ⟨hx, hb, hml, hown, hts, hK, hbl, hX, z0, z1, z2, hStr, hEx⟩ := C
  obtain ⟨o1, o2, o3⟩ := e_ok_of ho
  refine va_zald (cl := vwCl) hx hb hK hI.2.2.1 k 3 (by rw [e_ws_get hk, e_en_i o1 (by omega)]) rfl (e_in o2 o3) hd ?_
  rw [e_clamp]
  exact kk
theorem e_tys_r {aC : Nat → ClassId} {kd : Nat} (h : kd = 24 ∨ kd = 25 ∨ kd = 26 ∨ kd = 27) : ∃ (t0 : Nat) (ty : FieldType), (e_tys aC)[t0]? = some (aC kd, ty) ∧ ty.isReference = true := by
  rcases h with rfl | rfl | rfl | rfl
  · exact ⟨4, _, rfl, rfl⟩
  · exact ⟨5, _, rfl, rfl⟩
  · exact ⟨6, _, rfl, rfl⟩
  · exact ⟨7, _, rfl, rfl⟩
theorem e_aald (C : e_Cx p s m args c cc nL own D aC B Hl σ0) (hI : e_I Hl.size B aC D σ0 σ H) (hk : k + 3 < σ.1) {kd : Nat} (hkd : kd = 24 ∨ kd = 25 ∨ kd = 26 ∨ kd = 27) (ho : e_ok σ (k + 3) kd i = true) (hd : decode cc pc = .ok (.aaload, 1))
    (kk : W p l e R s m args below meth c H locs cells slots Q (F0 m (pc + 1) lss (va_rf (e_rf Hl.size B (σ.2.2.2.2 (k + 3) (e_w32 i).toNat)) :: rest))) : W p l e R s m args below meth c H locs cells slots Q (F0 m pc lss (.int (Int32.ofInt i) :: .ref (Hl.size + k) :: rest)) := by
  obtain ⟨hx, hb, hml, hown, hts, hK, hbl, hX, z0, z1, z2, hStr, hEx⟩ := C
  obtain ⟨o1, o2, o3⟩ := e_ok_of ho
  obtain ⟨t0, ty, ht, href⟩ := e_tys_r (aC := aC) hkd
  have hin := e_in o2 o3
  have hP := hI.2.2.1 k _ (e_ws_get hk)
  rw [e_en_r o1 (by omega)] at hP
  have hP : H[Hl.size + k]? = some (vp_cell (aC kd) ((σ.2.2.1 (k + 3)).2, .inr (.inr (.inr (.inr fun i => e_rf Hl.size B (σ.2.2.2.2 (k + 3) i)))))) := hP
  refine W.aald (v := va_rf (e_rf Hl.size B (σ.2.2.2.2 (k + 3) (e_w32 i).toNat))) (ty := ty) hx hb hP ((hK.2 t0 _ ht).1 _ _) href (fun q => by cases q) ?_ ?_ rfl rfl hd kk
  · show ¬ (_ ∨ (arrV _ _ _).slots.size ≤ _)
    rw [arrV_size]
    exact hin
  · show (arrV _ _ _).slots[_]? = _
    rw [arrV_read _ _ (by rw [e_clamp]; omega), e_clamp]
theorem e_iast (C : e_Cx p s m args c cc nL own D aC B Hl σ0) (hI : e_I Hl.size B aC D σ0 σ H) (hS : va_S (fun q => Hl.size ≤ q) Hl H locs) (hk : k + 3 < σ.1) (ho : e_ok σ (k + 3) 20 i = true) (hd : decode cc pc = .ok (.iastore, 1)) {x : Int}
    (kk : ∀ (H1 : Heap) (locs1 : List Loc), e_I Hl.size B aC D σ0 (e_put σ (k + 3) (e_w32 i).toNat x) H1 → va_S (fun q => Hl.size ≤ q) Hl H1 locs1 → W p l e R s m args below meth c H1 locs1 cells slots Q (F0 m (pc + 1) lss rest)) : W p l e R s m args below meth c H locs cells slots Q (F0 m pc lss (.int (Int32.ofInt x) :: .int (Int32.ofInt i) :: .ref (Hl.size + k) :: rest)) := by
  obtain ⟨hx, hb, hml, hown, hts, hK, hbl, hX, z0, z1, z2, hStr, hEx⟩ := C
  obtain ⟨o1, o2, o3⟩ := e_ok_of ho
  have hin := e_in o2 o3
  have hP := hI.2.2.1 k _ (e_ws_get hk)
  rw [e_en_i o1 (by omega)] at hP
  refine W.iast hx hb hP ((hK.2 0 _ rfl).1 _ _) (fun q => by cases q) (by show ¬ (_ ∨ (arrV _ _ _).slots.size ≤ _); rw [arrV_size]; exact hin) rfl rfl hd fun H1 e1 z oq => ?_
  refine kk H1 _ (e_putP hI hk ?_ z oq) (hS.put z oq (Nat.le_add_right _ _))
  rw [e_en_i (σ := e_put σ (k + 3) (e_w32 i).toNat x) (k := 20) o1 (by omega)]
  refine e1.trans (congrArg some (e_upi fun q => ?_))
  rw [e_clamp]
  simp only [e_put, va_up, if_true]
  split <;> rfl
theorem e_last (C : e_Cx p s m args c cc nL own D aC B Hl σ0) (hI : e_I Hl.size B aC D σ0 σ H) (hS : va_S (fun q => Hl.size ≤ q) Hl H locs) (hk : k + 3 < σ.1) (ho : e_ok σ (k + 3) 21 i = true) (hd : decode cc pc = .ok (.lastore, 1)) {x : Int}
    (kk : ∀ (H1 : Heap) (locs1 : List Loc), e_I Hl.size B aC D σ0 (e_put σ (k + 3) (e_w32 i).toNat x) H1 → va_S (fun q => Hl.size ≤ q) Hl H1 locs1 → W p l e R s m args below meth c H1 locs1 cells slots Q (F0 m (pc + 1) lss rest)) : W p l e R s m args below meth c H locs cells slots Q (F0 m pc lss (.long (Int64.ofInt x) :: .int (Int32.ofInt i) :: .ref (Hl.size + k) :: rest)) := by
  obtain ⟨hx, hb, hml, hown, hts, hK, hbl, hX, z0, z1, z2, hStr, hEx⟩ := C
  obtain ⟨o1, o2, o3⟩ := e_ok_of ho
  have hin := e_in o2 o3
  have hP := hI.2.2.1 k _ (e_ws_get hk)
  rw [e_en_l o1] at hP
  refine W.last hx hb hP ((hK.2 1 _ rfl).1 _ _) (fun q => by cases q) (by show ¬ (_ ∨ (arrV _ _ _).slots.size ≤ _); rw [arrV_size]; exact hin) rfl rfl hd fun H1 e1 z oq => ?_
  refine kk H1 _ (e_putP hI hk ?_ z oq) (hS.put z oq (Nat.le_add_right _ _))
  rw [e_en_l (σ := e_put σ (k + 3) (e_w32 i).toNat x) o1]
  refine e1.trans (congrArg some (e_upl fun q => ?_))
  rw [e_clamp]
  simp only [e_put, va_up, if_true]
  split <;> rfl
theorem e_bast (C : e_Cx p s m args c cc nL own D aC B Hl σ0) (hI : e_I Hl.size B aC D σ0 σ H) (hS : va_S (fun q => Hl.size ≤ q) Hl H locs) (hk : k + 3 < σ.1) (ho : e_ok σ (k + 3) 22 i = true) (hd : decode cc pc = .ok (.bastore, 1)) {x : Int}
    (kk : ∀ (H1 : Heap) (locs1 : List Loc), e_I Hl.size B aC D σ0 (e_put σ (k + 3) (e_w32 i).toNat (x.bmod 256)) H1 → va_S (fun q => Hl.size ≤ q) Hl H1 locs1 → W p l e R s m args below meth c H1 locs1 cells slots Q (F0 m (pc + 1) lss rest)) : W p l e R s m args below meth c H locs cells slots Q (F0 m pc lss (.int (Int32.ofInt x) :: .int (Int32.ofInt i) :: .ref (Hl.size + k) :: rest)) := by
  obtain ⟨hx, hb, hml, hown, hts, hK, hbl, hX, z0, z1, z2, hStr, hEx⟩ := C
  obtain ⟨o1, o2, o3⟩ := e_ok_of ho
  have hin := e_in o2 o3
  have hP := hI.2.2.1 k _ (e_ws_get hk)
  rw [e_en_i o1 (by omega)] at hP
  refine W.bast hx hb hP ((hK.2 2 _ rfl).1 _ _) (fun q => by cases q) (by show ¬ (_ ∨ (arrV _ _ _).slots.size ≤ _); rw [arrV_size]; exact hin) rfl rfl hd fun H1 e1 z oq => ?_
  refine kk H1 _ (e_putP hI hk ?_ z oq) (hS.put z oq (Nat.le_add_right _ _))
  rw [e_en_i (σ := e_put σ (k + 3) (e_w32 i).toNat (x.bmod 256)) (k := 22) o1 (by omega)]
  rw [show narrow .byte (.int (Int32.ofInt x)) = .int (Int32.ofInt x).toInt8.toInt32 from rfl, e_i2b] at e1
  refine e1.trans (congrArg some (e_upi fun q => ?_))
  rw [e_clamp]
  simp only [e_put, va_up, if_true]
  split <;> rfl
theorem e_zast (C : e_Cx p s m args c cc nL own D aC B Hl σ0) (hI : e_I Hl.size B aC D σ0 σ H) (hS : va_S (fun q => Hl.size ≤ q) Hl H locs) (hk : k + 3 < σ.1) (ho : e_ok σ (k + 3) 23 i = true) (hd : decode cc pc = .ok (.bastore, 1)) {x : Int} (hx1 : x = 0 ∨ x = 1)
    (kk : ∀ (H1 : Heap) (locs1 : List Loc), e_I Hl.size B aC D σ0 (e_put σ (k + 3) (e_w32 i).toNat x) H1 → va_S (fun q => Hl.size ≤ q) Hl H1 locs1 → W p l e R s m args below meth c H1 locs1 cells slots Q (F0 m (pc + 1) lss rest)) : W p l e R s m args below meth c H locs cells slots Q (F0 m pc lss (.int (Int32.ofInt x) :: .int (Int32.ofInt i) :: .ref (Hl.size + k) :: rest)) := by
  obtain ⟨hx, hb, hml, hown, hts, hK, hbl, hX, z0, z1, z2, hStr, hEx⟩ := C
  obtain ⟨o1, o2, o3⟩ := e_ok_of ho
  have hin := e_in o2 o3
  have hP := hI.2.2.1 k _ (e_ws_get hk)
  rw [e_en_i o1 (by omega)] at hP
  refine W.zast hx hb hP ((hK.2 3 _ rfl).1 _ _) (fun q => by cases q) (by show ¬ (_ ∨ (arrV _ _ _).slots.size ≤ _); rw [arrV_size]; exact hin) rfl rfl hd fun H1 e1 z oq => ?_
  refine kk H1 _ (e_putP hI hk ?_ z oq) (hS.put z oq (Nat.le_add_right _ _))
  rw [e_en_i (σ := e_put σ (k + 3) (e_w32 i).toNat x) (k := 23) o1 (by omega)]
  rw [(e_bit hx1).1] at e1
  refine e1.trans (congrArg some (e_upi fun q => ?_))
  rw [e_clamp]
  simp only [e_put, va_up, if_true]
  split <;> rfl
theorem e_aast (C : e_Cx p s m args c cc nL own D aC B Hl σ0) (hI : e_I Hl.size B aC D σ0 σ H) (hS : va_S (fun q => Hl.size ≤ q) Hl H locs) (hk : k + 3 < σ.1) {kd ci t0 v : Nat} {r : vw_C} (hv : v + 3 < σ.1) (hvk : (σ.2.2.1 (v + 3)).1 = ci) (h13 : ci < 13) (hc : vwCl[ci]? = some r) (ht : (e_tys aC)[t0]? = some (aC kd, .object r.1)) (h24 : 24 ≤ kd) (ho : e_ok σ (k + 3) kd i = true) (hd : decode cc pc = .ok (.aastore, 1))
    (kk : ∀ (H1 : Heap) (locs1 : List Loc), e_I Hl.size B aC D σ0 (e_puR σ (k + 3) (e_w32 i).toNat (v + 3 + 2)) H1 → va_S (fun q => Hl.size ≤ q) Hl H1 locs1 → W p l e R s m args below meth c H1 locs1 cells slots Q (F0 m (pc + 1) lss rest)) : W p l e R s m args below meth c H locs cells slots Q (F0 m pc lss (.ref (Hl.size + v) :: .int (Int32.ofInt i) :: .ref (Hl.size + k) :: rest)) := by
  obtain ⟨hx, hb, hml, hown, hts, hK, hbl, hX, z0, z1, z2, hStr, hEx⟩ := C
  obtain ⟨o1, o2, o3⟩ := e_ok_of ho
  have hin := e_in o2 o3
  have hP := hI.2.2.1 k _ (e_ws_get hk)
  rw [e_en_r o1 h24] at hP
  obtain ⟨r', hr', cellV, g1, g2, g3, -⟩ := hI.2.2.1 v _ (by rw [e_ws_get hv, e_en_o hvk h13])
  have hcls := (hK.1 ci r hc).2
  obtain ⟨kA, comp, k1, k2, k3, -⟩ := (hK.2 t0 _ ht).2
  have hcomp : comp = D.1 ci := Option.some.inj (k3.symm.trans hcls.1)
  subst hcomp
  obtain ⟨kC, hkC, -⟩ := id hcls.2
  refine W.aast hx hb hP (fun q h => by cases h) (fun h => by cases h) k1 k2 rfl hkC ⟨fun q => hin (Or.inl q), by show _ < (arrV _ _ _).slots.size; rw [arrV_size]; exact Nat.not_le.mp fun q => hin (Or.inr q)⟩ g1 (fun q h => by rw [g3] at h; cases h) (by rw [g2]; exact hkC) (by rw [g2]; exact va_assign hcls) rfl rfl hd fun H1 e1 z oq => ?_
  refine kk H1 _ (e_puRP hI hk ?_ z oq) (hS.put z oq (Nat.le_add_right _ _))
  rw [e_en_r (σ := e_puR σ (k + 3) (e_w32 i).toNat (v + 3 + 2)) (k := kd) o1 h24]
  refine e1.trans (congrArg some (e_upq fun q => ?_))
  rw [e_clamp]
  simp only [e_puR, va_up, if_true]
  split <;> rfl
end EA
