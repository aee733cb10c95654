theorem e_ck54 : e_ckM e_p3 e_fin false false 2 5 2 prog_4_method_2_code e_k54 = true := by decide +kernel
theorem e_to54 : e_T1 e_ms e_m54 (2, e_k54) 1 := e_T1_of e_mo54 e_po3 e_fin_ok (fun h => by cases h) (fun h => by cases h) (fun h => by cases h) (Or.inr (Or.inr (Or.inr (Or.inr (Or.inr ⟨rfl, rfl⟩))))) e_hA e_hB e_hM e_ck54
theorem e_ck55 : e_ckM e_p4 e_fin false false 8 5 3 prog_10_method_3_code e_k55 = true := by decide +kernel
theorem e_to55 : e_T1 e_ms e_m55 (3, e_k55) 1 := e_T1_of e_mo55 e_po4 e_fin_ok (fun h => by cases h) (fun h => by cases h) (fun h => by cases h) (Or.inr (Or.inr (Or.inr (Or.inr (Or.inr ⟨rfl, rfl⟩))))) e_hA e_hB e_hM e_ck55
theorem e_ck56 : e_ckM e_p7 e_fin false false 0 5 1 prog_2_method_2_code e_k56 = true := by decide +kernel
theorem e_to56 : e_T1 e_ms e_m56 (1, e_k56) 0 := e_T1_of e_mo56 e_po7 e_fin_ok (fun h => by cases h) (fun h => by cases h) (fun h => by cases h) (Or.inr (Or.inr (Or.inr (Or.inr (Or.inr ⟨rfl, rfl⟩))))) e_hA e_hB e_hM e_ck56
theorem e_ck57 : e_ckM e_p0 e_fin false false 11 0 1 prog_1_method_5_code e_k57 = true := by decide +kernel
theorem e_to57 : e_T1 e_ms e_m57 (1, e_k57) 0 := e_T1_of e_mo57 e_po0 e_fin_ok (fun h => by cases h) (fun h => by cases h) (fun h => by cases h) (Or.inl ⟨rfl, rfl⟩) e_hA e_hB e_hM e_ck57
theorem e_ck58 : e_ckM e_p6 e_fin false false 7 5 4 prog_9_method_2_code e_k58 = true := by decide +kernel
theorem e_to58 : e_T1 e_ms e_m58 (4, e_k58) 1 := e_T1_of e_mo58 e_po6 e_fin_ok (fun h => by cases h) (fun h => by cases h) (fun h => by cases h) (Or.inr (Or.inr (Or.inr (Or.inr (Or.inr ⟨rfl, rfl⟩))))) e_hA e_hB e_hM e_ck58
theorem e_ck59 : e_ckM e_p6 e_fin false false 7 5 6 prog_9_method_8_code e_k59 = true := by decide +kernel
theorem e_to59 : e_T1 e_ms e_m59 (6, e_k59) 1 := e_T1_of e_mo59 e_po6 e_fin_ok (fun h => by cases h) (fun h => by cases h) (fun h => by cases h) (Or.inr (Or.inr (Or.inr (Or.inr (Or.inr ⟨rfl, rfl⟩))))) e_hA e_hB e_hM e_ck59
theorem e_ck60 : e_ckM e_p6 e_fin false false 7 5 5 prog_9_method_11_code e_k60 = true := by decide +kernel
theorem e_to60 : e_T1 e_ms e_m60 (5, e_k60) 1 := e_T1_of e_mo60 e_po6 e_fin_ok (fun h => by cases h) (fun h => by cases h) (fun h => by cases h) (Or.inr (Or.inr (Or.inr (Or.inr (Or.inr ⟨rfl, rfl⟩))))) e_hA e_hB e_hM e_ck60
theorem e_ck61 : e_ckM e_p6 e_fin false false 7 5 3 prog_9_method_13_code e_k61 = true := by decide +kernel
theorem e_to61 : e_T1 e_ms e_m61 (3, e_k61) 2 := e_T1_of e_mo61 e_po6 e_fin_ok (fun h => by cases h) (fun h => by cases h) (fun h => by cases h) (Or.inr (Or.inr (Or.inr (Or.inr (Or.inr ⟨rfl, rfl⟩))))) e_hA e_hB e_hM e_ck61
theorem e_ck62 : e_ckM e_p6 e_fin false false 7 1 1 prog_9_method_12_code e_k62 = true := by decide +kernel
theorem e_to62 : e_T1 e_ms e_m62 (1, e_k62) 0 := e_T1_of e_mo62 e_po6 e_fin_ok (fun h => by cases h) (fun h => by cases h) (fun h => by cases h) (Or.inr (Or.inl ⟨rfl, rfl⟩)) e_hA e_hB e_hM e_ck62
theorem e_ck63 : e_ckM e_p6 e_fin false false 7 0 1 prog_9_method_10_code e_k63 = true := by decide +kernel
theorem e_to63 : e_T1 e_ms e_m63 (1, e_k63) 1 := e_T1_of e_mo63 e_po6 e_fin_ok (fun h => by cases h) (fun h => by cases h) (fun h => by cases h) (Or.inl ⟨rfl, rfl⟩) e_hA e_hB e_hM e_ck63
theorem e_ck64 : e_ckM e_p6 e_fin false false 7 1 1 prog_9_method_9_code e_k64 = true := by decide +kernel
theorem e_to64 : e_T1 e_ms e_m64 (1, e_k64) 1 := e_T1_of e_mo64 e_po6 e_fin_ok (fun h => by cases h) (fun h => by cases h) (fun h => by cases h) (Or.inr (Or.inl ⟨rfl, rfl⟩)) e_hA e_hB e_hM e_ck64
theorem e_ck65 : e_ckM e_p6 e_fin false false 7 5 5 prog_9_method_4_code e_k65 = true := by decide +kernel
theorem e_to65 : e_T1 e_ms e_m65 (5, e_k65) 2 := e_T1_of e_mo65 e_po6 e_fin_ok (fun h => by cases h) (fun h => by cases h) (fun h => by cases h) (Or.inr (Or.inr (Or.inr (Or.inr (Or.inr ⟨rfl, rfl⟩))))) e_hA e_hB e_hM e_ck65
theorem e_ck66 : e_ckM e_p6 e_fin false false 7 5 7 prog_9_method_5_code e_k66 = true := by decide +kernel
theorem e_to66 : e_T1 e_ms e_m66 (7, e_k66) 2 := e_T1_of e_mo66 e_po6 e_fin_ok (fun h => by cases h) (fun h => by cases h) (fun h => by cases h) (Or.inr (Or.inr (Or.inr (Or.inr (Or.inr ⟨rfl, rfl⟩))))) e_hA e_hB e_hM e_ck66
theorem e_ck67 : e_ckM e_p6 e_fin false false 7 0 5 prog_9_method_6_code e_k67 = true := by decide +kernel
theorem e_to67 : e_T1 e_ms e_m67 (5, e_k67) 1 := e_T1_of e_mo67 e_po6 e_fin_ok (fun h => by cases h) (fun h => by cases h) (fun h => by cases h) (Or.inl ⟨rfl, rfl⟩) e_hA e_hB e_hM e_ck67
theorem e_ck68 : e_ckM e_p6 e_fin false false 7 0 1 prog_9_method_7_code e_k68 = true := by decide +kernel
theorem e_to68 : e_T1 e_ms e_m68 (1, e_k68) 1 := e_T1_of e_mo68 e_po6 e_fin_ok (fun h => by cases h) (fun h => by cases h) (fun h => by cases h) (Or.inl ⟨rfl, rfl⟩) e_hA e_hB e_hM e_ck68
theorem e_ck69 : e_ckM e_p6 e_fin false false 7 4 1 prog_9_method_3_code e_k69 = true := by decide +kernel
theorem e_to69 : e_T1 e_ms e_m69 (1, e_k69) 0 := e_T1_of e_mo69 e_po6 e_fin_ok (fun h => by cases h) (fun h => by cases h) (fun h => by cases h) (Or.inr (Or.inr (Or.inr (Or.inr (Or.inl ⟨rfl, Or.inr ⟨_, rfl⟩⟩))))) e_hA e_hB e_hM e_ck69
theorem e_ck70 : e_ckM e_p11 e_fin false false 99 4 3 prog_22_method_123_code e_k70 = true := by decide +kernel
theorem e_to70 : e_T1 e_ms e_m70 (3, e_k70) 2 := e_T1_of e_mo70 e_po11 e_fin_ok (fun h => by cases h) (fun h => by cases h) (fun h => by cases h) (Or.inr (Or.inr (Or.inr (Or.inr (Or.inl ⟨rfl, Or.inr ⟨_, rfl⟩⟩))))) e_hA e_hB e_hM e_ck70
theorem e_ck71 : e_ckM e_p16 e_fin false true 6 5 2 prog_8_method_1_code e_k71 = true := by decide +kernel
theorem e_to71 : e_T1 e_ms e_m71 (2, e_k71) 1 := e_T1_of e_mo71 e_po16 e_fin_ok (fun h => by cases h) (fun _ => rfl) (fun _ => ⟨_, rfl, rfl⟩) (Or.inr (Or.inr (Or.inr (Or.inr (Or.inr ⟨rfl, rfl⟩))))) e_hA e_hB e_hM e_ck71
theorem e_ck72 : e_ckM e_p0 e_fin false false 11 0 3 prog_1_method_6_code e_k72 = true := by decide +kernel
theorem e_to72 : e_T1 e_ms e_m72 (3, e_k72) 1 := e_T1_of e_mo72 e_po0 e_fin_ok (fun h => by cases h) (fun h => by cases h) (fun h => by cases h) (Or.inl ⟨rfl, rfl⟩) e_hA e_hB e_hM e_ck72
theorem e_ck73 : e_ckM e_p0 e_fin false false 11 0 3 prog_1_method_7_code e_k73 = true := by decide +kernel
theorem e_to73 : e_T1 e_ms e_m73 (3, e_k73) 2 := e_T1_of e_mo73 e_po0 e_fin_ok (fun h => by cases h) (fun h => by cases h) (fun h => by cases h) (Or.inl ⟨rfl, rfl⟩) e_hA e_hB e_hM e_ck73
theorem e_ck74 : e_ckM e_p0 e_fin false false 11 1 2 prog_1_method_34_code e_k74 = true := by decide +kernel
theorem e_to74 : e_T1 e_ms e_m74 (2, e_k74) 1 := e_T1_of e_mo74 e_po0 e_fin_ok (fun h => by cases h) (fun h => by cases h) (fun h => by cases h) (Or.inr (Or.inl ⟨rfl, rfl⟩)) e_hA e_hB e_hM e_ck74
theorem e_ck75 : e_ckM e_p8 e_fin false false 3 5 5 prog_5_method_2_code e_k75 = true := by decide +kernel
theorem e_to75 : e_T1 e_ms e_m75 (5, e_k75) 2 := e_T1_of e_mo75 e_po8 e_fin_ok (fun h => by cases h) (fun h => by cases h) (fun h => by cases h) (Or.inr (Or.inr (Or.inr (Or.inr (Or.inr ⟨rfl, rfl⟩))))) e_hA e_hB e_hM e_ck75
theorem e_ck76 : e_ckM e_p8 e_fin false false 3 0 5 prog_5_method_4_code e_k76 = true := by decide +kernel
theorem e_to76 : e_T1 e_ms e_m76 (5, e_k76) 2 := e_T1_of e_mo76 e_po8 e_fin_ok (fun h => by cases h) (fun h => by cases h) (fun h => by cases h) (Or.inl ⟨rfl, rfl⟩) e_hA e_hB e_hM e_ck76
theorem e_ck77 : e_ckM e_p0 e_fin false false 11 0 3 prog_1_method_8_code e_k77 = true := by decide +kernel
theorem e_to77 : e_T1 e_ms e_m77 (3, e_k77) 2 := e_T1_of e_mo77 e_po0 e_fin_ok (fun h => by cases h) (fun h => by cases h) (fun h => by cases h) (Or.inl ⟨rfl, rfl⟩) e_hA e_hB e_hM e_ck77
theorem e_ck78 : e_ckM e_p0 e_fin false false 11 1 2 prog_1_method_35_code e_k78 = true := by decide +kernel
theorem e_to78 : e_T1 e_ms e_m78 (2, e_k78) 1 := e_T1_of e_mo78 e_po0 e_fin_ok (fun h => by cases h) (fun h => by cases h) (fun h => by cases h) (Or.inr (Or.inl ⟨rfl, rfl⟩)) e_hA e_hB e_hM e_ck78
theorem e_ck79 : e_ckM e_p0 e_fin false false 11 0 4 prog_1_method_37_code e_k79 = true := by decide +kernel
theorem e_to79 : e_T1 e_ms e_m79 (4, e_k79) 1 := e_T1_of e_mo79 e_po0 e_fin_ok (fun h => by cases h) (fun h => by cases h) (fun h => by cases h) (Or.inl ⟨rfl, rfl⟩) e_hA e_hB e_hM e_ck79
theorem e_ck80 : e_ckM e_p0 e_fin false false 11 0 3 prog_1_method_9_code e_k80 = true := by decide +kernel
theorem e_to80 : e_T1 e_ms e_m80 (3, e_k80) 2 := e_T1_of e_mo80 e_po0 e_fin_ok (fun h => by cases h) (fun h => by cases h) (fun h => by cases h) (Or.inl ⟨rfl, rfl⟩) e_hA e_hB e_hM e_ck80
theorem e_ck81 : e_ckM e_p0 e_fin false false 11 0 3 prog_1_method_10_code e_k81 = true := by decide +kernel
theorem e_to81 : e_T1 e_ms e_m81 (3, e_k81) 0 := e_T1_of e_mo81 e_po0 e_fin_ok (fun h => by cases h) (fun h => by cases h) (fun h => by cases h) (Or.inl ⟨rfl, rfl⟩) e_hA e_hB e_hM e_ck81
theorem e_ck82 : e_ckM e_p7 e_fin false false 0 5 2 prog_2_method_3_code e_k82 = true := by decide +kernel
theorem e_to82 : e_T1 e_ms e_m82 (2, e_k82) 1 := e_T1_of e_mo82 e_po7 e_fin_ok (fun h => by cases h) (fun h => by cases h) (fun h => by cases h) (Or.inr (Or.inr (Or.inr (Or.inr (Or.inr ⟨rfl, rfl⟩))))) e_hA e_hB e_hM e_ck82
theorem e_ck83 : e_ckM e_p0 e_fin false false 11 4 1 prog_1_method_36_code e_k83 = true := by decide +kernel
theorem e_to83 : e_T1 e_ms e_m83 (1, e_k83) 0 := e_T1_of e_mo83 e_po0 e_fin_ok (fun h => by cases h) (fun h => by cases h) (fun h => by cases h) (Or.inr (Or.inr (Or.inr (Or.inr (Or.inl ⟨rfl, Or.inl ⟨_, rfl⟩⟩))))) e_hA e_hB e_hM e_ck83
theorem e_ck84 : e_ckM e_p9 e_fin false false 4 5 5 prog_6_method_2_code e_k84 = true := by decide +kernel
theorem e_to84 : e_T1 e_ms e_m84 (5, e_k84) 3 := e_T1_of e_mo84 e_po9 e_fin_ok (fun h => by cases h) (fun h => by cases h) (fun h => by cases h) (Or.inr (Or.inr (Or.inr (Or.inr (Or.inr ⟨rfl, rfl⟩))))) e_hA e_hB e_hM e_ck84
theorem e_ck85 : e_ckM e_p9 e_fin false false 4 5 4 prog_6_method_3_code e_k85 = true := by decide +kernel
theorem e_to85 : e_T1 e_ms e_m85 (4, e_k85) 1 := e_T1_of e_mo85 e_po9 e_fin_ok (fun h => by cases h) (fun h => by cases h) (fun h => by cases h) (Or.inr (Or.inr (Or.inr (Or.inr (Or.inr ⟨rfl, rfl⟩))))) e_hA e_hB e_hM e_ck85
theorem e_ck86 : e_ckM e_p9 e_fin false false 4 5 2 prog_6_method_4_code e_k86 = true := by decide +kernel
theorem e_to86 : e_T1 e_ms e_m86 (2, e_k86) 0 := e_T1_of e_mo86 e_po9 e_fin_ok (fun h => by cases h) (fun h => by cases h) (fun h => by cases h) (Or.inr (Or.inr (Or.inr (Or.inr (Or.inr ⟨rfl, rfl⟩))))) e_hA e_hB e_hM e_ck86
theorem e_ck87 : e_ckM e_p9 e_fin false false 4 5 2 prog_6_method_6_code e_k87 = true := by decide +kernel
theorem e_to87 : e_T1 e_ms e_m87 (2, e_k87) 0 := e_T1_of e_mo87 e_po9 e_fin_ok (fun h => by cases h) (fun h => by cases h) (fun h => by cases h) (Or.inr (Or.inr (Or.inr (Or.inr (Or.inr ⟨rfl, rfl⟩))))) e_hA e_hB e_hM e_ck87
theorem e_ck88 : e_ckM e_p4 e_fin false false 8 0 5 prog_10_method_5_code e_k88 = true := by decide +kernel
theorem e_to88 : e_T1 e_ms e_m88 (5, e_k88) 2 := e_T1_of e_mo88 e_po4 e_fin_ok (fun h => by cases h) (fun h => by cases h) (fun h => by cases h) (Or.inl ⟨rfl, rfl⟩) e_hA e_hB e_hM e_ck88
theorem e_ck89 : e_ckM e_p8 e_fin false false 3 1 2 prog_5_method_3_code e_k89 = true := by decide +kernel
theorem e_to89 : e_T1 e_ms e_m89 (2, e_k89) 1 := e_T1_of e_mo89 e_po8 e_fin_ok (fun h => by cases h) (fun h => by cases h) (fun h => by cases h) (Or.inr (Or.inl ⟨rfl, rfl⟩)) e_hA e_hB e_hM e_ck89
theorem e_ck90 : e_ckM e_p9 e_fin false false 4 0 8 prog_6_method_5_code e_k90 = true := by decide +kernel
theorem e_to90 : e_T1 e_ms e_m90 (8, e_k90) 1 := e_T1_of e_mo90 e_po9 e_fin_ok (fun h => by cases h) (fun h => by cases h) (fun h => by cases h) (Or.inl ⟨rfl, rfl⟩) e_hA e_hB e_hM e_ck90
theorem e_ck91 : e_ckM e_p9 e_fin false false 4 5 3 prog_6_method_7_code e_k91 = true := by decide +kernel
theorem e_to91 : e_T1 e_ms e_m91 (3, e_k91) 2 := e_T1_of e_mo91 e_po9 e_fin_ok (fun h => by cases h) (fun h => by cases h) (fun h => by cases h) (Or.inr (Or.inr (Or.inr (Or.inr (Or.inr ⟨rfl, rfl⟩))))) e_hA e_hB e_hM e_ck91
theorem e_ck92 : e_ckM e_p16 e_fin false false 6 3 7 prog_8_method_2_code e_k92 = true := by decide +kernel
theorem e_to92 : e_T1 e_ms e_m92 (7, e_k92) 2 := e_T1_of e_mo92 e_po16 e_fin_ok (fun h => by cases h) (fun h => by cases h) (fun h => by cases h) (Or.inr (Or.inr (Or.inr (Or.inl ⟨rfl, rfl⟩)))) e_hA e_hB e_hM e_ck92
theorem e_ck93 : e_ckM e_p16 e_fin false false 6 0 1 prog_8_method_3_code e_k93 = true := by decide +kernel
theorem e_to93 : e_T1 e_ms e_m93 (1, e_k93) 1 := e_T1_of e_mo93 e_po16 e_fin_ok (fun h => by cases h) (fun h => by cases h) (fun h => by cases h) (Or.inl ⟨rfl, rfl⟩) e_hA e_hB e_hM e_ck93
theorem e_ck94 : e_ckM e_p16 e_fin false false 6 3 5 prog_8_method_4_code e_k94 = true := by decide +kernel
theorem e_to94 : e_T1 e_ms e_m94 (5, e_k94) 3 := e_T1_of e_mo94 e_po16 e_fin_ok (fun h => by cases h) (fun h => by cases h) (fun h => by cases h) (Or.inr (Or.inr (Or.inr (Or.inl ⟨rfl, rfl⟩)))) e_hA e_hB e_hM e_ck94
theorem e_ck95 : e_ckM e_p9 e_fin false false 4 5 5 prog_6_method_8_code e_k95 = true := by decide +kernel
theorem e_to95 : e_T1 e_ms e_m95 (5, e_k95) 1 := e_T1_of e_mo95 e_po9 e_fin_ok (fun h => by cases h) (fun h => by cases h) (fun h => by cases h) (Or.inr (Or.inr (Or.inr (Or.inr (Or.inr ⟨rfl, rfl⟩))))) e_hA e_hB e_hM e_ck95
theorem e_ck96 : e_ckM e_p9 e_fin false false 4 5 6 prog_6_method_9_code e_k96 = true := by decide +kernel
theorem e_to96 : e_T1 e_ms e_m96 (6, e_k96) 1 := e_T1_of e_mo96 e_po9 e_fin_ok (fun h => by cases h) (fun h => by cases h) (fun h => by cases h) (Or.inr (Or.inr (Or.inr (Or.inr (Or.inr ⟨rfl, rfl⟩))))) e_hA e_hB e_hM e_ck96
theorem e_ck97 : e_ckM e_p4 e_fin false false 8 5 4 prog_10_method_4_code e_k97 = true := by decide +kernel
theorem e_to97 : e_T1 e_ms e_m97 (4, e_k97) 3 := e_T1_of e_mo97 e_po4 e_fin_ok (fun h => by cases h) (fun h => by cases h) (fun h => by cases h) (Or.inr (Or.inr (Or.inr (Or.inr (Or.inr ⟨rfl, rfl⟩))))) e_hA e_hB e_hM e_ck97
theorem e_ck98 : e_ckM e_p0 e_fin false false 11 0 4 prog_1_method_11_code e_k98 = true := by decide +kernel
theorem e_to98 : e_T1 e_ms e_m98 (4, e_k98) 3 := e_T1_of e_mo98 e_po0 e_fin_ok (fun h => by cases h) (fun h => by cases h) (fun h => by cases h) (Or.inl ⟨rfl, rfl⟩) e_hA e_hB e_hM e_ck98
theorem e_ck99 : e_ckM e_p0 e_fin false false 11 0 4 prog_1_method_12_code e_k99 = true := by decide +kernel
theorem e_to99 : e_T1 e_ms e_m99 (4, e_k99) 2 := e_T1_of e_mo99 e_po0 e_fin_ok (fun h => by cases h) (fun h => by cases h) (fun h => by cases h) (Or.inl ⟨rfl, rfl⟩) e_hA e_hB e_hM e_ck99
theorem e_ck100 : e_ckM e_p0 e_fin false false 11 0 4 prog_1_method_13_code e_k100 = true := by decide +kernel
theorem e_to100 : e_T1 e_ms e_m100 (4, e_k100) 2 := e_T1_of e_mo100 e_po0 e_fin_ok (fun h => by cases h) (fun h => by cases h) (fun h => by cases h) (Or.inl ⟨rfl, rfl⟩) e_hA e_hB e_hM e_ck100
theorem e_ck101 : e_ckM e_p0 e_fin false false 11 0 1 prog_1_method_14_code e_k101 = true := by decide +kernel
theorem e_to101 : e_T1 e_ms e_m101 (1, e_k101) 0 := e_T1_of e_mo101 e_po0 e_fin_ok (fun h => by cases h) (fun h => by cases h) (fun h => by cases h) (Or.inl ⟨rfl, rfl⟩) e_hA e_hB e_hM e_ck101
theorem e_ck102 : e_ckM e_p7 e_fin false false 0 1 3 prog_2_method_4_code e_k102 = true := by decide +kernel
theorem e_to102 : e_T1 e_ms e_m102 (3, e_k102) 1 := e_T1_of e_mo102 e_po7 e_fin_ok (fun h => by cases h) (fun h => by cases h) (fun h => by cases h) (Or.inr (Or.inl ⟨rfl, rfl⟩)) e_hA e_hB e_hM e_ck102
theorem e_ck103 : e_ckM e_p0 e_fin false false 11 0 5 prog_1_method_15_code e_k103 = true := by decide +kernel
theorem e_to103 : e_T1 e_ms e_m103 (5, e_k103) 3 := e_T1_of e_mo103 e_po0 e_fin_ok (fun h => by cases h) (fun h => by cases h) (fun h => by cases h) (Or.inl ⟨rfl, rfl⟩) e_hA e_hB e_hM e_ck103
theorem e_ck104 : e_ckM e_p0 e_fin false false 11 0 4 prog_1_method_16_code e_k104 = true := by decide +kernel
theorem e_to104 : e_T1 e_ms e_m104 (4, e_k104) 3 := e_T1_of e_mo104 e_po0 e_fin_ok (fun h => by cases h) (fun h => by cases h) (fun h => by cases h) (Or.inl ⟨rfl, rfl⟩) e_hA e_hB e_hM e_ck104
theorem e_ck105 : e_ckM e_p10 e_fin false false 1 5 7 prog_3_method_3_code e_k105 = true := by decide +kernel
theorem e_to105 : e_T1 e_ms e_m105 (7, e_k105) 4 := e_T1_of e_mo105 e_po10 e_fin_ok (fun h => by cases h) (fun h => by cases h) (fun h => by cases h) (Or.inr (Or.inr (Or.inr (Or.inr (Or.inr ⟨rfl, rfl⟩))))) e_hA e_hB e_hM e_ck105
theorem e_ck106 : e_ckM e_p10 e_fin false false 1 0 4 prog_3_method_4_code e_k106 = true := by decide +kernel
theorem e_to106 : e_T1 e_ms e_m106 (4, e_k106) 2 := e_T1_of e_mo106 e_po10 e_fin_ok (fun h => by cases h) (fun h => by cases h) (fun h => by cases h) (Or.inl ⟨rfl, rfl⟩) e_hA e_hB e_hM e_ck106
theorem e_ck107 : e_ckM e_p10 e_fin false false 1 5 8 prog_3_method_7_code e_k107 = true := by decide +kernel
theorem e_to107 : e_T1 e_ms e_m107 (8, e_k107) 2 := e_T1_of e_mo107 e_po10 e_fin_ok (fun h => by cases h) (fun h => by cases h) (fun h => by cases h) (Or.inr (Or.inr (Or.inr (Or.inr (Or.inr ⟨rfl, rfl⟩))))) e_hA e_hB e_hM e_ck107
