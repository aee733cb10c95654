theorem e_ck0 : e_ckM e_p0 e_fin false true 11 5 1 prog_1_method_1_code e_k0 = true := by decide +kernel
theorem e_to0 : e_T1 e_ms e_m0 (1, e_k0) 0 := e_T1_of e_mo0 e_po0 e_fin_ok (fun h => by cases h) (fun _ => rfl) (fun _ => ⟨_, rfl, rfl⟩) (Or.inr (Or.inr (Or.inr (Or.inr (Or.inr ⟨rfl, rfl⟩))))) e_hA e_hB e_hM e_ck0
theorem e_ck1 : e_ckM e_p1 e_fin true true 9 5 1 prog_11_method_1_code e_k1 = true := by decide +kernel
theorem e_to1 : e_T1 e_ms e_m1 (1, e_k1) 0 := e_T1_of e_mo1 e_po1 e_fin_ok (fun _ => rfl) (fun _ => rfl) (fun _ => ⟨_, rfl, rfl⟩) (Or.inr (Or.inr (Or.inr (Or.inr (Or.inr ⟨rfl, rfl⟩))))) e_hA e_hB e_hM e_ck1
theorem e_ck2 : e_ckM e_p2 e_fin false true 10 5 1 prog_12_method_1_code e_k2 = true := by decide +kernel
theorem e_to2 : e_T1 e_ms e_m2 (1, e_k2) 0 := e_T1_of e_mo2 e_po2 e_fin_ok (fun h => by cases h) (fun _ => rfl) (fun _ => ⟨_, rfl, rfl⟩) (Or.inr (Or.inr (Or.inr (Or.inr (Or.inr ⟨rfl, rfl⟩))))) e_hA e_hB e_hM e_ck2
theorem e_ck3 : e_ckM e_p3 e_fin false true 2 5 1 prog_4_method_1_code e_k3 = true := by decide +kernel
theorem e_to3 : e_T1 e_ms e_m3 (1, e_k3) 0 := e_T1_of e_mo3 e_po3 e_fin_ok (fun h => by cases h) (fun _ => rfl) (fun _ => ⟨_, rfl, rfl⟩) (Or.inr (Or.inr (Or.inr (Or.inr (Or.inr ⟨rfl, rfl⟩))))) e_hA e_hB e_hM e_ck3
theorem e_ck4 : e_ckM e_p4 e_fin false true 8 5 1 prog_10_method_1_code e_k4 = true := by decide +kernel
theorem e_to4 : e_T1 e_ms e_m4 (1, e_k4) 0 := e_T1_of e_mo4 e_po4 e_fin_ok (fun h => by cases h) (fun _ => rfl) (fun _ => ⟨_, rfl, rfl⟩) (Or.inr (Or.inr (Or.inr (Or.inr (Or.inr ⟨rfl, rfl⟩))))) e_hA e_hB e_hM e_ck4
theorem e_ck5 : e_ckM e_p5 e_fin false true 5 5 1 prog_7_method_1_code e_k5 = true := by decide +kernel
theorem e_to5 : e_T1 e_ms e_m5 (1, e_k5) 0 := e_T1_of e_mo5 e_po5 e_fin_ok (fun h => by cases h) (fun _ => rfl) (fun _ => ⟨_, rfl, rfl⟩) (Or.inr (Or.inr (Or.inr (Or.inr (Or.inr ⟨rfl, rfl⟩))))) e_hA e_hB e_hM e_ck5
theorem e_ck6 : e_ckM e_p6 e_fin false true 7 5 1 prog_9_method_1_code e_k6 = true := by decide +kernel
theorem e_to6 : e_T1 e_ms e_m6 (1, e_k6) 0 := e_T1_of e_mo6 e_po6 e_fin_ok (fun h => by cases h) (fun _ => rfl) (fun _ => ⟨_, rfl, rfl⟩) (Or.inr (Or.inr (Or.inr (Or.inr (Or.inr ⟨rfl, rfl⟩))))) e_hA e_hB e_hM e_ck6
theorem e_ck7 : e_ckM e_p7 e_fin false true 0 5 1 prog_2_method_1_code e_k7 = true := by decide +kernel
theorem e_to7 : e_T1 e_ms e_m7 (1, e_k7) 0 := e_T1_of e_mo7 e_po7 e_fin_ok (fun h => by cases h) (fun _ => rfl) (fun _ => ⟨_, rfl, rfl⟩) (Or.inr (Or.inr (Or.inr (Or.inr (Or.inr ⟨rfl, rfl⟩))))) e_hA e_hB e_hM e_ck7
theorem e_ck8 : e_ckM e_p8 e_fin false true 3 5 1 prog_5_method_1_code e_k8 = true := by decide +kernel
theorem e_to8 : e_T1 e_ms e_m8 (1, e_k8) 0 := e_T1_of e_mo8 e_po8 e_fin_ok (fun h => by cases h) (fun _ => rfl) (fun _ => ⟨_, rfl, rfl⟩) (Or.inr (Or.inr (Or.inr (Or.inr (Or.inr ⟨rfl, rfl⟩))))) e_hA e_hB e_hM e_ck8
theorem e_ck9 : e_ckM e_p9 e_fin false true 4 5 1 prog_6_method_1_code e_k9 = true := by decide +kernel
theorem e_to9 : e_T1 e_ms e_m9 (1, e_k9) 0 := e_T1_of e_mo9 e_po9 e_fin_ok (fun h => by cases h) (fun _ => rfl) (fun _ => ⟨_, rfl, rfl⟩) (Or.inr (Or.inr (Or.inr (Or.inr (Or.inr ⟨rfl, rfl⟩))))) e_hA e_hB e_hM e_ck9
theorem e_ck10 : e_ckM e_p10 e_fin false true 1 5 1 prog_3_method_1_code e_k10 = true := by decide +kernel
theorem e_to10 : e_T1 e_ms e_m10 (1, e_k10) 0 := e_T1_of e_mo10 e_po10 e_fin_ok (fun h => by cases h) (fun _ => rfl) (fun _ => ⟨_, rfl, rfl⟩) (Or.inr (Or.inr (Or.inr (Or.inr (Or.inr ⟨rfl, rfl⟩))))) e_hA e_hB e_hM e_ck10
theorem e_ck11 : e_ckM e_p0 e_fin false false 11 0 6 prog_1_method_2_code e_k11 = true := by decide +kernel
theorem e_to11 : e_T1 e_ms e_m11 (6, e_k11) 5 := e_T1_of e_mo11 e_po0 e_fin_ok (fun h => by cases h) (fun h => by cases h) (fun h => by cases h) (Or.inl ⟨rfl, rfl⟩) e_hA e_hB e_hM e_ck11
theorem e_ck12 : e_ckM e_p1 e_fin true false 9 1 1 prog_11_method_2_code e_k12 = true := by decide +kernel
theorem e_to12 : e_T1 e_ms e_m12 (1, e_k12) 0 := e_T1_of e_mo12 e_po1 e_fin_ok (fun _ => rfl) (fun h => by cases h) (fun h => by cases h) (Or.inr (Or.inl ⟨rfl, rfl⟩)) e_hA e_hB e_hM e_ck12
theorem e_ck13 : e_ckM e_p1 e_fin true false 9 5 3 prog_11_method_3_code e_k13 = true := by decide +kernel
theorem e_to13 : e_T1 e_ms e_m13 (3, e_k13) 1 := e_T1_of e_mo13 e_po1 e_fin_ok (fun _ => rfl) (fun h => by cases h) (fun h => by cases h) (Or.inr (Or.inr (Or.inr (Or.inr (Or.inr ⟨rfl, rfl⟩))))) e_hA e_hB e_hM e_ck13
theorem e_ck14 : e_ckM e_p0 e_fin false false 11 0 2 prog_1_method_3_code e_k14 = true := by decide +kernel
theorem e_to14 : e_T1 e_ms e_m14 (2, e_k14) 1 := e_T1_of e_mo14 e_po0 e_fin_ok (fun h => by cases h) (fun h => by cases h) (fun h => by cases h) (Or.inl ⟨rfl, rfl⟩) e_hA e_hB e_hM e_ck14
theorem e_ck15 : e_ckM e_p0 e_fin false false 11 1 3 prog_1_method_33_code e_k15 = true := by decide +kernel
theorem e_to15 : e_T1 e_ms e_m15 (3, e_k15) 3 := e_T1_of e_mo15 e_po0 e_fin_ok (fun h => by cases h) (fun h => by cases h) (fun h => by cases h) (Or.inr (Or.inl ⟨rfl, rfl⟩)) e_hA e_hB e_hM e_ck15
theorem e_ck16 : e_ckM e_p0 e_fin false false 11 0 1 prog_1_method_4_code e_k16 = true := by decide +kernel
theorem e_to16 : e_T1 e_ms e_m16 (1, e_k16) 0 := e_T1_of e_mo16 e_po0 e_fin_ok (fun h => by cases h) (fun h => by cases h) (fun h => by cases h) (Or.inl ⟨rfl, rfl⟩) e_hA e_hB e_hM e_ck16
theorem e_ck17 : e_ckM e_p3 e_fin false false 2 5 3 prog_4_method_3_code e_k17 = true := by decide +kernel
theorem e_to17 : e_T1 e_ms e_m17 (3, e_k17) 1 := e_T1_of e_mo17 e_po3 e_fin_ok (fun h => by cases h) (fun h => by cases h) (fun h => by cases h) (Or.inr (Or.inr (Or.inr (Or.inr (Or.inr ⟨rfl, rfl⟩))))) e_hA e_hB e_hM e_ck17
theorem e_ck18 : e_ckM e_p4 e_fin false false 8 5 2 prog_10_method_2_code e_k18 = true := by decide +kernel
theorem e_to18 : e_T1 e_ms e_m18 (2, e_k18) 0 := e_T1_of e_mo18 e_po4 e_fin_ok (fun h => by cases h) (fun h => by cases h) (fun h => by cases h) (Or.inr (Or.inr (Or.inr (Or.inr (Or.inr ⟨rfl, rfl⟩))))) e_hA e_hB e_hM e_ck18
theorem e_ck19 : e_ckM e_p11 e_fin false false 99 5 4 prog_22_method_103_code e_k19 = true := by decide +kernel
theorem e_to19 : e_T1 e_ms e_m19 (4, e_k19) 2 := e_T1_of e_mo19 e_po11 e_fin_ok (fun h => by cases h) (fun h => by cases h) (fun h => by cases h) (Or.inr (Or.inr (Or.inr (Or.inr (Or.inr ⟨rfl, rfl⟩))))) e_hA e_hB e_hM e_ck19
theorem e_ck20 : e_ckM e_p1 e_fin true false 9 5 2 prog_11_method_4_code e_k20 = true := by decide +kernel
theorem e_to20 : e_T1 e_ms e_m20 (2, e_k20) 0 := e_T1_of e_mo20 e_po1 e_fin_ok (fun _ => rfl) (fun h => by cases h) (fun h => by cases h) (Or.inr (Or.inr (Or.inr (Or.inr (Or.inr ⟨rfl, rfl⟩))))) e_hA e_hB e_hM e_ck20
theorem e_ck21 : e_ckM e_p1 e_fin true false 9 0 4 prog_11_method_5_code e_k21 = true := by decide +kernel
theorem e_to21 : e_T1 e_ms e_m21 (4, e_k21) 1 := e_T1_of e_mo21 e_po1 e_fin_ok (fun _ => rfl) (fun h => by cases h) (fun h => by cases h) (Or.inl ⟨rfl, rfl⟩) e_hA e_hB e_hM e_ck21
theorem e_ck22 : e_ckM e_p1 e_fin true false 9 1 1 prog_11_method_10_code e_k22 = true := by decide +kernel
theorem e_to22 : e_T1 e_ms e_m22 (1, e_k22) 1 := e_T1_of e_mo22 e_po1 e_fin_ok (fun _ => rfl) (fun h => by cases h) (fun h => by cases h) (Or.inr (Or.inl ⟨rfl, rfl⟩)) e_hA e_hB e_hM e_ck22
theorem e_ck23 : e_ckM e_p1 e_fin true false 9 0 3 prog_11_method_6_code e_k23 = true := by decide +kernel
theorem e_to23 : e_T1 e_ms e_m23 (3, e_k23) 1 := e_T1_of e_mo23 e_po1 e_fin_ok (fun _ => rfl) (fun h => by cases h) (fun h => by cases h) (Or.inl ⟨rfl, rfl⟩) e_hA e_hB e_hM e_ck23
theorem e_ck24 : e_ckM e_p1 e_fin true false 9 0 8 prog_11_method_7_code e_k24 = true := by decide +kernel
theorem e_to24 : e_T1 e_ms e_m24 (8, e_k24) 2 := e_T1_of e_mo24 e_po1 e_fin_ok (fun _ => rfl) (fun h => by cases h) (fun h => by cases h) (Or.inl ⟨rfl, rfl⟩) e_hA e_hB e_hM e_ck24
theorem e_ck25 : e_ckM e_p12 e_fin false false 99 0 1 prog_18_method_54_code e_k25 = true := by decide +kernel
theorem e_to25 : e_T1 e_ms e_m25 (1, e_k25) 0 := e_T1_of e_mo25 e_po12 e_fin_ok (fun h => by cases h) (fun h => by cases h) (fun h => by cases h) (Or.inl ⟨rfl, rfl⟩) e_hA e_hB e_hM e_ck25
theorem e_ck26 : e_ckM e_p12 e_fin false false 99 2 1 prog_18_method_152_code e_k26 = true := by decide +kernel
theorem e_to26 : e_T1 e_ms e_m26 (1, e_k26) 0 := e_T1_of e_mo26 e_po12 e_fin_ok (fun h => by cases h) (fun h => by cases h) (fun h => by cases h) (Or.inr (Or.inr (Or.inl ⟨rfl, Or.inr rfl⟩))) e_hA e_hB e_hM e_ck26
theorem e_ck27 : e_ckM e_p12 e_fin false false 99 2 2 prog_18_method_56_code e_k27 = true := by decide +kernel
theorem e_to27 : e_T1 e_ms e_m27 (2, e_k27) 1 := e_T1_of e_mo27 e_po12 e_fin_ok (fun h => by cases h) (fun h => by cases h) (fun h => by cases h) (Or.inr (Or.inr (Or.inl ⟨rfl, Or.inl rfl⟩))) e_hA e_hB e_hM e_ck27
theorem e_ck28 : e_ckM e_p12 e_fin false false 99 1 1 prog_18_method_154_code e_k28 = true := by decide +kernel
theorem e_to28 : e_T1 e_ms e_m28 (1, e_k28) 0 := e_T1_of e_mo28 e_po12 e_fin_ok (fun h => by cases h) (fun h => by cases h) (fun h => by cases h) (Or.inr (Or.inl ⟨rfl, rfl⟩)) e_hA e_hB e_hM e_ck28
theorem e_ck29 : e_ckM e_p13 e_fin false false 99 2 2 prog_19_method_2_code e_k29 = true := by decide +kernel
theorem e_to29 : e_T1 e_ms e_m29 (2, e_k29) 2 := e_T1_of e_mo29 e_po13 e_fin_ok (fun h => by cases h) (fun h => by cases h) (fun h => by cases h) (Or.inr (Or.inr (Or.inl ⟨rfl, Or.inl rfl⟩))) e_hA e_hB e_hM e_ck29
theorem e_ck30 : e_ckM e_p12 e_fin false false 99 5 2 prog_18_method_155_code e_k30 = true := by decide +kernel
theorem e_to30 : e_T1 e_ms e_m30 (2, e_k30) 2 := e_T1_of e_mo30 e_po12 e_fin_ok (fun h => by cases h) (fun h => by cases h) (fun h => by cases h) (Or.inr (Or.inr (Or.inr (Or.inr (Or.inr ⟨rfl, rfl⟩))))) e_hA e_hB e_hM e_ck30
theorem e_ck31 : e_ckM e_p14 e_fin false false 99 0 3 prog_23_method_11_code e_k31 = true := by decide +kernel
theorem e_to31 : e_T1 e_ms e_m31 (3, e_k31) 3 := e_T1_of e_mo31 e_po14 e_fin_ok (fun h => by cases h) (fun h => by cases h) (fun h => by cases h) (Or.inl ⟨rfl, rfl⟩) e_hA e_hB e_hM e_ck31
theorem e_ck32 : e_ckM e_p15 e_fin false false 99 2 2 prog_20_method_83_code e_k32 = true := by decide +kernel
theorem e_to32 : e_T1 e_ms e_m32 (2, e_k32) 2 := e_T1_of e_mo32 e_po15 e_fin_ok (fun h => by cases h) (fun h => by cases h) (fun h => by cases h) (Or.inr (Or.inr (Or.inl ⟨rfl, Or.inl rfl⟩))) e_hA e_hB e_hM e_ck32
theorem e_ck33 : e_ckM e_p15 e_fin false false 99 5 2 prog_20_method_91_code e_k33 = true := by decide +kernel
theorem e_to33 : e_T1 e_ms e_m33 (2, e_k33) 2 := e_T1_of e_mo33 e_po15 e_fin_ok (fun h => by cases h) (fun h => by cases h) (fun h => by cases h) (Or.inr (Or.inr (Or.inr (Or.inr (Or.inr ⟨rfl, rfl⟩))))) e_hA e_hB e_hM e_ck33
theorem e_ck34 : e_ckM e_p15 e_fin false false 99 0 1 prog_20_method_6_code e_k34 = true := by decide +kernel
theorem e_to34 : e_T1 e_ms e_m34 (1, e_k34) 1 := e_T1_of e_mo34 e_po15 e_fin_ok (fun h => by cases h) (fun h => by cases h) (fun h => by cases h) (Or.inl ⟨rfl, rfl⟩) e_hA e_hB e_hM e_ck34
theorem e_ck35 : e_ckM e_p15 e_fin false false 99 2 2 prog_20_method_5_code e_k35 = true := by decide +kernel
theorem e_to35 : e_T1 e_ms e_m35 (2, e_k35) 2 := e_T1_of e_mo35 e_po15 e_fin_ok (fun h => by cases h) (fun h => by cases h) (fun h => by cases h) (Or.inr (Or.inr (Or.inl ⟨rfl, Or.inl rfl⟩))) e_hA e_hB e_hM e_ck35
theorem e_ck36 : e_ckM e_p1 e_fin true false 9 5 4 prog_11_method_9_code e_k36 = true := by decide +kernel
theorem e_to36 : e_T1 e_ms e_m36 (4, e_k36) 3 := e_T1_of e_mo36 e_po1 e_fin_ok (fun _ => rfl) (fun h => by cases h) (fun h => by cases h) (Or.inr (Or.inr (Or.inr (Or.inr (Or.inr ⟨rfl, rfl⟩))))) e_hA e_hB e_hM e_ck36
theorem e_ck37 : e_ckM e_p1 e_fin true false 9 1 1 prog_11_method_11_code e_k37 = true := by decide +kernel
theorem e_to37 : e_T1 e_ms e_m37 (1, e_k37) 1 := e_T1_of e_mo37 e_po1 e_fin_ok (fun _ => rfl) (fun h => by cases h) (fun h => by cases h) (Or.inr (Or.inl ⟨rfl, rfl⟩)) e_hA e_hB e_hM e_ck37
theorem e_ck38 : e_ckM e_p1 e_fin true false 9 0 4 prog_11_method_8_code e_k38 = true := by decide +kernel
theorem e_to38 : e_T1 e_ms e_m38 (4, e_k38) 1 := e_T1_of e_mo38 e_po1 e_fin_ok (fun _ => rfl) (fun h => by cases h) (fun h => by cases h) (Or.inl ⟨rfl, rfl⟩) e_hA e_hB e_hM e_ck38
theorem e_ck39 : e_ckM e_p3 e_fin false false 2 5 5 prog_4_method_4_code e_k39 = true := by decide +kernel
theorem e_to39 : e_T1 e_ms e_m39 (5, e_k39) 2 := e_T1_of e_mo39 e_po3 e_fin_ok (fun h => by cases h) (fun h => by cases h) (fun h => by cases h) (Or.inr (Or.inr (Or.inr (Or.inr (Or.inr ⟨rfl, rfl⟩))))) e_hA e_hB e_hM e_ck39
theorem e_ck40 : e_ckM e_p1 e_fin true false 9 0 1 prog_11_method_13_code e_k40 = true := by decide +kernel
theorem e_to40 : e_T1 e_ms e_m40 (1, e_k40) 0 := e_T1_of e_mo40 e_po1 e_fin_ok (fun _ => rfl) (fun h => by cases h) (fun h => by cases h) (Or.inl ⟨rfl, rfl⟩) e_hA e_hB e_hM e_ck40
theorem e_ck41 : e_ckM e_p1 e_fin true false 9 0 1 prog_11_method_12_code e_k41 = true := by decide +kernel
theorem e_to41 : e_T1 e_ms e_m41 (1, e_k41) 0 := e_T1_of e_mo41 e_po1 e_fin_ok (fun _ => rfl) (fun h => by cases h) (fun h => by cases h) (Or.inl ⟨rfl, rfl⟩) e_hA e_hB e_hM e_ck41
theorem e_ck42 : e_ckM e_p3 e_fin false false 2 1 1 prog_4_method_5_code e_k42 = true := by decide +kernel
theorem e_to42 : e_T1 e_ms e_m42 (1, e_k42) 1 := e_T1_of e_mo42 e_po3 e_fin_ok (fun h => by cases h) (fun h => by cases h) (fun h => by cases h) (Or.inr (Or.inl ⟨rfl, rfl⟩)) e_hA e_hB e_hM e_ck42
theorem e_ck43 : e_ckM e_p1 e_fin true false 9 5 3 prog_11_method_15_code e_k43 = true := by decide +kernel
theorem e_to43 : e_T1 e_ms e_m43 (3, e_k43) 2 := e_T1_of e_mo43 e_po1 e_fin_ok (fun _ => rfl) (fun h => by cases h) (fun h => by cases h) (Or.inr (Or.inr (Or.inr (Or.inr (Or.inr ⟨rfl, rfl⟩))))) e_hA e_hB e_hM e_ck43
theorem e_ck44 : e_ckM e_p3 e_fin false false 2 1 4 prog_4_method_6_code e_k44 = true := by decide +kernel
theorem e_to44 : e_T1 e_ms e_m44 (4, e_k44) 2 := e_T1_of e_mo44 e_po3 e_fin_ok (fun h => by cases h) (fun h => by cases h) (fun h => by cases h) (Or.inr (Or.inl ⟨rfl, rfl⟩)) e_hA e_hB e_hM e_ck44
theorem e_ck45 : e_ckM e_p1 e_fin true false 9 1 2 prog_11_method_14_code e_k45 = true := by decide +kernel
theorem e_to45 : e_T1 e_ms e_m45 (2, e_k45) 1 := e_T1_of e_mo45 e_po1 e_fin_ok (fun _ => rfl) (fun h => by cases h) (fun h => by cases h) (Or.inr (Or.inl ⟨rfl, rfl⟩)) e_hA e_hB e_hM e_ck45
theorem e_ck46 : e_ckM e_p3 e_fin false false 2 5 3 prog_4_method_7_code e_k46 = true := by decide +kernel
theorem e_to46 : e_T1 e_ms e_m46 (3, e_k46) 2 := e_T1_of e_mo46 e_po3 e_fin_ok (fun h => by cases h) (fun h => by cases h) (fun h => by cases h) (Or.inr (Or.inr (Or.inr (Or.inr (Or.inr ⟨rfl, rfl⟩))))) e_hA e_hB e_hM e_ck46
theorem e_ck47 : e_ckM e_p1 e_fin true false 9 0 4 prog_11_method_16_code e_k47 = true := by decide +kernel
theorem e_to47 : e_T1 e_ms e_m47 (4, e_k47) 2 := e_T1_of e_mo47 e_po1 e_fin_ok (fun _ => rfl) (fun h => by cases h) (fun h => by cases h) (Or.inl ⟨rfl, rfl⟩) e_hA e_hB e_hM e_ck47
theorem e_ck48 : e_ckM e_p3 e_fin false false 2 5 3 prog_4_method_8_code e_k48 = true := by decide +kernel
theorem e_to48 : e_T1 e_ms e_m48 (3, e_k48) 1 := e_T1_of e_mo48 e_po3 e_fin_ok (fun h => by cases h) (fun h => by cases h) (fun h => by cases h) (Or.inr (Or.inr (Or.inr (Or.inr (Or.inr ⟨rfl, rfl⟩))))) e_hA e_hB e_hM e_ck48
theorem e_ck49 : e_ckM e_p3 e_fin false false 2 5 4 prog_4_method_9_code e_k49 = true := by decide +kernel
theorem e_to49 : e_T1 e_ms e_m49 (4, e_k49) 1 := e_T1_of e_mo49 e_po3 e_fin_ok (fun h => by cases h) (fun h => by cases h) (fun h => by cases h) (Or.inr (Or.inr (Or.inr (Or.inr (Or.inr ⟨rfl, rfl⟩))))) e_hA e_hB e_hM e_ck49
theorem e_ck50 : e_ckM e_p3 e_fin false false 2 5 5 prog_4_method_10_code e_k50 = true := by decide +kernel
theorem e_to50 : e_T1 e_ms e_m50 (5, e_k50) 1 := e_T1_of e_mo50 e_po3 e_fin_ok (fun h => by cases h) (fun h => by cases h) (fun h => by cases h) (Or.inr (Or.inr (Or.inr (Or.inr (Or.inr ⟨rfl, rfl⟩))))) e_hA e_hB e_hM e_ck50
theorem e_ck51 : e_ckM e_p3 e_fin false false 2 5 5 prog_4_method_11_code e_k51 = true := by decide +kernel
theorem e_to51 : e_T1 e_ms e_m51 (5, e_k51) 1 := e_T1_of e_mo51 e_po3 e_fin_ok (fun h => by cases h) (fun h => by cases h) (fun h => by cases h) (Or.inr (Or.inr (Or.inr (Or.inr (Or.inr ⟨rfl, rfl⟩))))) e_hA e_hB e_hM e_ck51
theorem e_ck52 : e_ckM e_p1 e_fin true false 9 1 1 prog_11_method_17_code e_k52 = true := by decide +kernel
theorem e_to52 : e_T1 e_ms e_m52 (1, e_k52) 0 := e_T1_of e_mo52 e_po1 e_fin_ok (fun _ => rfl) (fun h => by cases h) (fun h => by cases h) (Or.inr (Or.inl ⟨rfl, rfl⟩)) e_hA e_hB e_hM e_ck52
theorem e_ck53 : e_ckM e_p2 e_fin false false 10 5 2 prog_12_method_2_code e_k53 = true := by decide +kernel
theorem e_to53 : e_T1 e_ms e_m53 (2, e_k53) 1 := e_T1_of e_mo53 e_po2 e_fin_ok (fun h => by cases h) (fun h => by cases h) (fun h => by cases h) (Or.inr (Or.inr (Or.inr (Or.inr (Or.inr ⟨rfl, rfl⟩))))) e_hA e_hB e_hM e_ck53
