theorem e_ck108 : e_ckM e_p10 e_fin false false 1 5 4 prog_3_method_2_code e_k108 = true := by decide +kernel
theorem e_to108 : e_T1 e_ms e_m108 (4, e_k108) 3 := e_T1_of e_mo108 e_po10 e_fin_ok (fun h => by cases h) (fun h => by cases h) (fun h => by cases h) (Or.inr (Or.inr (Or.inr (Or.inr (Or.inr ⟨rfl, rfl⟩))))) e_hA e_hB e_hM e_ck108
theorem e_ck109 : e_ckM e_p0 e_fin false false 11 0 4 prog_1_method_17_code e_k109 = true := by decide +kernel
theorem e_to109 : e_T1 e_ms e_m109 (4, e_k109) 3 := e_T1_of e_mo109 e_po0 e_fin_ok (fun h => by cases h) (fun h => by cases h) (fun h => by cases h) (Or.inl ⟨rfl, rfl⟩) e_hA e_hB e_hM e_ck109
theorem e_ck110 : e_ckM e_p10 e_fin false false 1 5 8 prog_3_method_5_code e_k110 = true := by decide +kernel
theorem e_to110 : e_T1 e_ms e_m110 (8, e_k110) 3 := e_T1_of e_mo110 e_po10 e_fin_ok (fun h => by cases h) (fun h => by cases h) (fun h => by cases h) (Or.inr (Or.inr (Or.inr (Or.inr (Or.inr ⟨rfl, rfl⟩))))) e_hA e_hB e_hM e_ck110
theorem e_ck111 : e_ckM e_p10 e_fin false false 1 0 6 prog_3_method_6_code e_k111 = true := by decide +kernel
theorem e_to111 : e_T1 e_ms e_m111 (6, e_k111) 3 := e_T1_of e_mo111 e_po10 e_fin_ok (fun h => by cases h) (fun h => by cases h) (fun h => by cases h) (Or.inl ⟨rfl, rfl⟩) e_hA e_hB e_hM e_ck111
theorem e_ck112 : e_ckM e_p0 e_fin false false 11 0 2 prog_1_method_18_code e_k112 = true := by decide +kernel
theorem e_to112 : e_T1 e_ms e_m112 (2, e_k112) 1 := e_T1_of e_mo112 e_po0 e_fin_ok (fun h => by cases h) (fun h => by cases h) (fun h => by cases h) (Or.inl ⟨rfl, rfl⟩) e_hA e_hB e_hM e_ck112
theorem e_ck113 : e_ckM e_p10 e_fin false false 1 5 5 prog_3_method_8_code e_k113 = true := by decide +kernel
theorem e_to113 : e_T1 e_ms e_m113 (5, e_k113) 1 := e_T1_of e_mo113 e_po10 e_fin_ok (fun h => by cases h) (fun h => by cases h) (fun h => by cases h) (Or.inr (Or.inr (Or.inr (Or.inr (Or.inr ⟨rfl, rfl⟩))))) e_hA e_hB e_hM e_ck113
theorem e_ck114 : e_ckM e_p17 e_fin false false 99 0 1 prog_16_method_49_code e_k114 = true := by decide +kernel
theorem e_to114 : e_T1 e_ms e_m114 (1, e_k114) 1 := e_T1_of e_mo114 e_po17 e_fin_ok (fun h => by cases h) (fun h => by cases h) (fun h => by cases h) (Or.inl ⟨rfl, rfl⟩) e_hA e_hB e_hM e_ck114
theorem e_ck115 : e_ckM e_p0 e_fin false false 11 0 5 prog_1_method_19_code e_k115 = true := by decide +kernel
theorem e_to115 : e_T1 e_ms e_m115 (5, e_k115) 4 := e_T1_of e_mo115 e_po0 e_fin_ok (fun h => by cases h) (fun h => by cases h) (fun h => by cases h) (Or.inl ⟨rfl, rfl⟩) e_hA e_hB e_hM e_ck115
theorem e_ck116 : e_ckM e_p10 e_fin false false 1 5 9 prog_3_method_9_code e_k116 = true := by decide +kernel
theorem e_to116 : e_T1 e_ms e_m116 (9, e_k116) 5 := e_T1_of e_mo116 e_po10 e_fin_ok (fun h => by cases h) (fun h => by cases h) (fun h => by cases h) (Or.inr (Or.inr (Or.inr (Or.inr (Or.inr ⟨rfl, rfl⟩))))) e_hA e_hB e_hM e_ck116
theorem e_ck117 : e_ckM e_p10 e_fin false false 1 1 5 prog_3_method_10_code e_k117 = true := by decide +kernel
theorem e_to117 : e_T1 e_ms e_m117 (5, e_k117) 2 := e_T1_of e_mo117 e_po10 e_fin_ok (fun h => by cases h) (fun h => by cases h) (fun h => by cases h) (Or.inr (Or.inl ⟨rfl, rfl⟩)) e_hA e_hB e_hM e_ck117
theorem e_ck118 : e_ckM e_p0 e_fin false false 11 0 3 prog_1_method_20_code e_k118 = true := by decide +kernel
theorem e_to118 : e_T1 e_ms e_m118 (3, e_k118) 2 := e_T1_of e_mo118 e_po0 e_fin_ok (fun h => by cases h) (fun h => by cases h) (fun h => by cases h) (Or.inl ⟨rfl, rfl⟩) e_hA e_hB e_hM e_ck118
theorem e_ck119 : e_ckM e_p10 e_fin false false 1 5 4 prog_3_method_11_code e_k119 = true := by decide +kernel
theorem e_to119 : e_T1 e_ms e_m119 (4, e_k119) 2 := e_T1_of e_mo119 e_po10 e_fin_ok (fun h => by cases h) (fun h => by cases h) (fun h => by cases h) (Or.inr (Or.inr (Or.inr (Or.inr (Or.inr ⟨rfl, rfl⟩))))) e_hA e_hB e_hM e_ck119
theorem e_ck120 : e_ckM e_p10 e_fin false false 1 0 4 prog_3_method_12_code e_k120 = true := by decide +kernel
theorem e_to120 : e_T1 e_ms e_m120 (4, e_k120) 2 := e_T1_of e_mo120 e_po10 e_fin_ok (fun h => by cases h) (fun h => by cases h) (fun h => by cases h) (Or.inl ⟨rfl, rfl⟩) e_hA e_hB e_hM e_ck120
theorem e_ck121 : e_ckM e_p0 e_fin false false 11 0 2 prog_1_method_21_code e_k121 = true := by decide +kernel
theorem e_to121 : e_T1 e_ms e_m121 (2, e_k121) 1 := e_T1_of e_mo121 e_po0 e_fin_ok (fun h => by cases h) (fun h => by cases h) (fun h => by cases h) (Or.inl ⟨rfl, rfl⟩) e_hA e_hB e_hM e_ck121
theorem e_ck122 : e_ckM e_p10 e_fin false false 1 5 5 prog_3_method_13_code e_k122 = true := by decide +kernel
theorem e_to122 : e_T1 e_ms e_m122 (5, e_k122) 2 := e_T1_of e_mo122 e_po10 e_fin_ok (fun h => by cases h) (fun h => by cases h) (fun h => by cases h) (Or.inr (Or.inr (Or.inr (Or.inr (Or.inr ⟨rfl, rfl⟩))))) e_hA e_hB e_hM e_ck122
theorem e_ck123 : e_ckM e_p4 e_fin false false 8 0 4 prog_10_method_7_code e_k123 = true := by decide +kernel
theorem e_to123 : e_T1 e_ms e_m123 (4, e_k123) 1 := e_T1_of e_mo123 e_po4 e_fin_ok (fun h => by cases h) (fun h => by cases h) (fun h => by cases h) (Or.inl ⟨rfl, rfl⟩) e_hA e_hB e_hM e_ck123
theorem e_ck124 : e_ckM e_p0 e_fin false false 11 0 2 prog_1_method_22_code e_k124 = true := by decide +kernel
theorem e_to124 : e_T1 e_ms e_m124 (2, e_k124) 1 := e_T1_of e_mo124 e_po0 e_fin_ok (fun h => by cases h) (fun h => by cases h) (fun h => by cases h) (Or.inl ⟨rfl, rfl⟩) e_hA e_hB e_hM e_ck124
theorem e_ck125 : e_ckM e_p10 e_fin false false 1 5 8 prog_3_method_14_code e_k125 = true := by decide +kernel
theorem e_to125 : e_T1 e_ms e_m125 (8, e_k125) 1 := e_T1_of e_mo125 e_po10 e_fin_ok (fun h => by cases h) (fun h => by cases h) (fun h => by cases h) (Or.inr (Or.inr (Or.inr (Or.inr (Or.inr ⟨rfl, rfl⟩))))) e_hA e_hB e_hM e_ck125
theorem e_ck126 : e_ckM e_p0 e_fin false false 11 0 3 prog_1_method_23_code e_k126 = true := by decide +kernel
theorem e_to126 : e_T1 e_ms e_m126 (3, e_k126) 2 := e_T1_of e_mo126 e_po0 e_fin_ok (fun h => by cases h) (fun h => by cases h) (fun h => by cases h) (Or.inl ⟨rfl, rfl⟩) e_hA e_hB e_hM e_ck126
theorem e_ck127 : e_ckM e_p10 e_fin false false 1 5 8 prog_3_method_15_code e_k127 = true := by decide +kernel
theorem e_to127 : e_T1 e_ms e_m127 (8, e_k127) 3 := e_T1_of e_mo127 e_po10 e_fin_ok (fun h => by cases h) (fun h => by cases h) (fun h => by cases h) (Or.inr (Or.inr (Or.inr (Or.inr (Or.inr ⟨rfl, rfl⟩))))) e_hA e_hB e_hM e_ck127
theorem e_ck128 : e_ckM e_p10 e_fin false false 1 0 6 prog_3_method_16_code e_k128 = true := by decide +kernel
theorem e_to128 : e_T1 e_ms e_m128 (6, e_k128) 5 := e_T1_of e_mo128 e_po10 e_fin_ok (fun h => by cases h) (fun h => by cases h) (fun h => by cases h) (Or.inl ⟨rfl, rfl⟩) e_hA e_hB e_hM e_ck128
theorem e_ck129 : e_ckM e_p0 e_fin false false 11 0 5 prog_1_method_24_code e_k129 = true := by decide +kernel
theorem e_to129 : e_T1 e_ms e_m129 (5, e_k129) 3 := e_T1_of e_mo129 e_po0 e_fin_ok (fun h => by cases h) (fun h => by cases h) (fun h => by cases h) (Or.inl ⟨rfl, rfl⟩) e_hA e_hB e_hM e_ck129
theorem e_ck130 : e_ckM e_p0 e_fin false false 11 0 4 prog_1_method_25_code e_k130 = true := by decide +kernel
theorem e_to130 : e_T1 e_ms e_m130 (4, e_k130) 3 := e_T1_of e_mo130 e_po0 e_fin_ok (fun h => by cases h) (fun h => by cases h) (fun h => by cases h) (Or.inl ⟨rfl, rfl⟩) e_hA e_hB e_hM e_ck130
theorem e_ck131 : e_ckM e_p5 e_fin false false 5 1 1 prog_7_method_2_code e_k131 = true := by decide +kernel
theorem e_to131 : e_T1 e_ms e_m131 (1, e_k131) 0 := e_T1_of e_mo131 e_po5 e_fin_ok (fun h => by cases h) (fun h => by cases h) (fun h => by cases h) (Or.inr (Or.inl ⟨rfl, rfl⟩)) e_hA e_hB e_hM e_ck131
theorem e_ck132 : e_ckM e_p5 e_fin false false 5 5 4 prog_7_method_3_code e_k132 = true := by decide +kernel
theorem e_to132 : e_T1 e_ms e_m132 (4, e_k132) 3 := e_T1_of e_mo132 e_po5 e_fin_ok (fun h => by cases h) (fun h => by cases h) (fun h => by cases h) (Or.inr (Or.inr (Or.inr (Or.inr (Or.inr ⟨rfl, rfl⟩))))) e_hA e_hB e_hM e_ck132
theorem e_ck133 : e_ckM e_p0 e_fin false false 11 0 2 prog_1_method_26_code e_k133 = true := by decide +kernel
theorem e_to133 : e_T1 e_ms e_m133 (2, e_k133) 1 := e_T1_of e_mo133 e_po0 e_fin_ok (fun h => by cases h) (fun h => by cases h) (fun h => by cases h) (Or.inl ⟨rfl, rfl⟩) e_hA e_hB e_hM e_ck133
theorem e_ck134 : e_ckM e_p10 e_fin false false 1 5 5 prog_3_method_17_code e_k134 = true := by decide +kernel
theorem e_to134 : e_T1 e_ms e_m134 (5, e_k134) 3 := e_T1_of e_mo134 e_po10 e_fin_ok (fun h => by cases h) (fun h => by cases h) (fun h => by cases h) (Or.inr (Or.inr (Or.inr (Or.inr (Or.inr ⟨rfl, rfl⟩))))) e_hA e_hB e_hM e_ck134
theorem e_ck135 : e_ckM e_p10 e_fin false false 1 0 7 prog_3_method_20_code e_k135 = true := by decide +kernel
theorem e_to135 : e_T1 e_ms e_m135 (7, e_k135) 3 := e_T1_of e_mo135 e_po10 e_fin_ok (fun h => by cases h) (fun h => by cases h) (fun h => by cases h) (Or.inl ⟨rfl, rfl⟩) e_hA e_hB e_hM e_ck135
theorem e_ck136 : e_ckM e_p5 e_fin false false 5 0 3 prog_7_method_5_code e_k136 = true := by decide +kernel
theorem e_to136 : e_T1 e_ms e_m136 (3, e_k136) 0 := e_T1_of e_mo136 e_po5 e_fin_ok (fun h => by cases h) (fun h => by cases h) (fun h => by cases h) (Or.inl ⟨rfl, rfl⟩) e_hA e_hB e_hM e_ck136
theorem e_ck137 : e_ckM e_p5 e_fin false false 5 1 4 prog_7_method_6_code e_k137 = true := by decide +kernel
theorem e_to137 : e_T1 e_ms e_m137 (4, e_k137) 2 := e_T1_of e_mo137 e_po5 e_fin_ok (fun h => by cases h) (fun h => by cases h) (fun h => by cases h) (Or.inr (Or.inl ⟨rfl, rfl⟩)) e_hA e_hB e_hM e_ck137
theorem e_ck138 : e_ckM e_p0 e_fin false false 11 0 3 prog_1_method_27_code e_k138 = true := by decide +kernel
theorem e_to138 : e_T1 e_ms e_m138 (3, e_k138) 2 := e_T1_of e_mo138 e_po0 e_fin_ok (fun h => by cases h) (fun h => by cases h) (fun h => by cases h) (Or.inl ⟨rfl, rfl⟩) e_hA e_hB e_hM e_ck138
theorem e_ck139 : e_ckM e_p10 e_fin false false 1 5 8 prog_3_method_18_code e_k139 = true := by decide +kernel
theorem e_to139 : e_T1 e_ms e_m139 (8, e_k139) 4 := e_T1_of e_mo139 e_po10 e_fin_ok (fun h => by cases h) (fun h => by cases h) (fun h => by cases h) (Or.inr (Or.inr (Or.inr (Or.inr (Or.inr ⟨rfl, rfl⟩))))) e_hA e_hB e_hM e_ck139
theorem e_ck140 : e_ckM e_p10 e_fin false false 1 0 6 prog_3_method_19_code e_k140 = true := by decide +kernel
theorem e_to140 : e_T1 e_ms e_m140 (6, e_k140) 2 := e_T1_of e_mo140 e_po10 e_fin_ok (fun h => by cases h) (fun h => by cases h) (fun h => by cases h) (Or.inl ⟨rfl, rfl⟩) e_hA e_hB e_hM e_ck140
theorem e_ck141 : e_ckM e_p4 e_fin false false 8 0 2 prog_10_method_8_code e_k141 = true := by decide +kernel
theorem e_to141 : e_T1 e_ms e_m141 (2, e_k141) 2 := e_T1_of e_mo141 e_po4 e_fin_ok (fun h => by cases h) (fun h => by cases h) (fun h => by cases h) (Or.inl ⟨rfl, rfl⟩) e_hA e_hB e_hM e_ck141
theorem e_ck142 : e_ckM e_p0 e_fin false false 11 0 3 prog_1_method_28_code e_k142 = true := by decide +kernel
theorem e_to142 : e_T1 e_ms e_m142 (3, e_k142) 1 := e_T1_of e_mo142 e_po0 e_fin_ok (fun h => by cases h) (fun h => by cases h) (fun h => by cases h) (Or.inl ⟨rfl, rfl⟩) e_hA e_hB e_hM e_ck142
theorem e_ck143 : e_ckM e_p0 e_fin false false 11 0 5 prog_1_method_29_code e_k143 = true := by decide +kernel
theorem e_to143 : e_T1 e_ms e_m143 (5, e_k143) 4 := e_T1_of e_mo143 e_po0 e_fin_ok (fun h => by cases h) (fun h => by cases h) (fun h => by cases h) (Or.inl ⟨rfl, rfl⟩) e_hA e_hB e_hM e_ck143
theorem e_ck144 : e_ckM e_p10 e_fin false false 1 5 12 prog_3_method_21_code e_k144 = true := by decide +kernel
theorem e_to144 : e_T1 e_ms e_m144 (12, e_k144) 5 := e_T1_of e_mo144 e_po10 e_fin_ok (fun h => by cases h) (fun h => by cases h) (fun h => by cases h) (Or.inr (Or.inr (Or.inr (Or.inr (Or.inr ⟨rfl, rfl⟩))))) e_hA e_hB e_hM e_ck144
theorem e_ck145 : e_ckM e_p10 e_fin false false 1 3 8 prog_3_method_22_code e_k145 = true := by decide +kernel
theorem e_to145 : e_T1 e_ms e_m145 (8, e_k145) 3 := e_T1_of e_mo145 e_po10 e_fin_ok (fun h => by cases h) (fun h => by cases h) (fun h => by cases h) (Or.inr (Or.inr (Or.inr (Or.inl ⟨rfl, rfl⟩)))) e_hA e_hB e_hM e_ck145
theorem e_ck146 : e_ckM e_p4 e_fin false false 8 0 4 prog_10_method_6_code e_k146 = true := by decide +kernel
theorem e_to146 : e_T1 e_ms e_m146 (4, e_k146) 1 := e_T1_of e_mo146 e_po4 e_fin_ok (fun h => by cases h) (fun h => by cases h) (fun h => by cases h) (Or.inl ⟨rfl, rfl⟩) e_hA e_hB e_hM e_ck146
theorem e_ck147 : e_ckM e_p0 e_fin false false 11 0 2 prog_1_method_30_code e_k147 = true := by decide +kernel
theorem e_to147 : e_T1 e_ms e_m147 (2, e_k147) 1 := e_T1_of e_mo147 e_po0 e_fin_ok (fun h => by cases h) (fun h => by cases h) (fun h => by cases h) (Or.inl ⟨rfl, rfl⟩) e_hA e_hB e_hM e_ck147
theorem e_ck148 : e_ckM e_p0 e_fin false false 11 0 3 prog_1_method_38_code e_k148 = true := by decide +kernel
theorem e_to148 : e_T1 e_ms e_m148 (3, e_k148) 0 := e_T1_of e_mo148 e_po0 e_fin_ok (fun h => by cases h) (fun h => by cases h) (fun h => by cases h) (Or.inl ⟨rfl, rfl⟩) e_hA e_hB e_hM e_ck148
theorem e_ck149 : e_ckM e_p0 e_fin false false 11 0 2 prog_1_method_31_code e_k149 = true := by decide +kernel
theorem e_to149 : e_T1 e_ms e_m149 (2, e_k149) 1 := e_T1_of e_mo149 e_po0 e_fin_ok (fun h => by cases h) (fun h => by cases h) (fun h => by cases h) (Or.inl ⟨rfl, rfl⟩) e_hA e_hB e_hM e_ck149
theorem e_ck150 : e_ckM e_p2 e_fin false false 10 5 2 prog_12_method_3_code e_k150 = true := by decide +kernel
theorem e_to150 : e_T1 e_ms e_m150 (2, e_k150) 1 := e_T1_of e_mo150 e_po2 e_fin_ok (fun h => by cases h) (fun h => by cases h) (fun h => by cases h) (Or.inr (Or.inr (Or.inr (Or.inr (Or.inr ⟨rfl, rfl⟩))))) e_hA e_hB e_hM e_ck150
theorem e_ck151 : e_ckM e_p5 e_fin false false 5 5 2 prog_7_method_4_code e_k151 = true := by decide +kernel
theorem e_to151 : e_T1 e_ms e_m151 (2, e_k151) 1 := e_T1_of e_mo151 e_po5 e_fin_ok (fun h => by cases h) (fun h => by cases h) (fun h => by cases h) (Or.inr (Or.inr (Or.inr (Or.inr (Or.inr ⟨rfl, rfl⟩))))) e_hA e_hB e_hM e_ck151
theorem e_ck152 : e_ckM e_p0 e_fin false false 11 0 2 prog_1_method_32_code e_k152 = true := by decide +kernel
theorem e_to152 : e_T1 e_ms e_m152 (2, e_k152) 1 := e_T1_of e_mo152 e_po0 e_fin_ok (fun h => by cases h) (fun h => by cases h) (fun h => by cases h) (Or.inl ⟨rfl, rfl⟩) e_hA e_hB e_hM e_ck152
theorem e_ck153 : e_ckM e_p18 e_fin false true 12 5 1 prog_14_method_1_code e_k153 = true := by decide +kernel
theorem e_to153 : e_T1 e_ms e_m153 (1, e_k153) 0 := e_T1_of e_mo153 e_po18 e_fin_ok (fun h => by cases h) (fun _ => rfl) (fun _ => ⟨_, rfl, rfl⟩) (Or.inr (Or.inr (Or.inr (Or.inr (Or.inr ⟨rfl, rfl⟩))))) e_hA e_hB e_hM e_ck153
theorem e_ck154 : e_ckM e_p18 e_fin false false 12 0 6 prog_14_method_7_code e_k154 = true := by decide +kernel
theorem e_to154 : e_T1 e_ms e_m154 (6, e_k154) 5 := e_T1_of e_mo154 e_po18 e_fin_ok (fun h => by cases h) (fun h => by cases h) (fun h => by cases h) (Or.inl ⟨rfl, rfl⟩) e_hA e_hB e_hM e_ck154
theorem e_ck155 : e_ckM e_p18 e_fin false false 12 5 3 prog_14_method_6_code e_k155 = true := by decide +kernel
theorem e_to155 : e_T1 e_ms e_m155 (3, e_k155) 1 := e_T1_of e_mo155 e_po18 e_fin_ok (fun h => by cases h) (fun h => by cases h) (fun h => by cases h) (Or.inr (Or.inr (Or.inr (Or.inr (Or.inr ⟨rfl, rfl⟩))))) e_hA e_hB e_hM e_ck155
theorem e_ck156 : e_ckM e_p18 e_fin false false 12 0 2 prog_14_method_8_code e_k156 = true := by decide +kernel
theorem e_to156 : e_T1 e_ms e_m156 (2, e_k156) 1 := e_T1_of e_mo156 e_po18 e_fin_ok (fun h => by cases h) (fun h => by cases h) (fun h => by cases h) (Or.inl ⟨rfl, rfl⟩) e_hA e_hB e_hM e_ck156
theorem e_ck157 : e_ckM e_p18 e_fin false false 12 0 1 prog_14_method_42_code e_k157 = true := by decide +kernel
theorem e_to157 : e_T1 e_ms e_m157 (1, e_k157) 0 := e_T1_of e_mo157 e_po18 e_fin_ok (fun h => by cases h) (fun h => by cases h) (fun h => by cases h) (Or.inl ⟨rfl, rfl⟩) e_hA e_hB e_hM e_ck157
theorem e_ck158 : e_ckM e_p18 e_fin false false 12 1 2 prog_14_method_41_code e_k158 = true := by decide +kernel
theorem e_to158 : e_T1 e_ms e_m158 (2, e_k158) 0 := e_T1_of e_mo158 e_po18 e_fin_ok (fun h => by cases h) (fun h => by cases h) (fun h => by cases h) (Or.inr (Or.inl ⟨rfl, rfl⟩)) e_hA e_hB e_hM e_ck158
theorem e_ck159 : e_ckM e_p18 e_fin false false 12 1 3 prog_14_method_40_code e_k159 = true := by decide +kernel
theorem e_to159 : e_T1 e_ms e_m159 (3, e_k159) 0 := e_T1_of e_mo159 e_po18 e_fin_ok (fun h => by cases h) (fun h => by cases h) (fun h => by cases h) (Or.inr (Or.inl ⟨rfl, rfl⟩)) e_hA e_hB e_hM e_ck159
theorem e_ck160 : e_ckM e_p18 e_fin false false 12 0 1 prog_14_method_10_code e_k160 = true := by decide +kernel
theorem e_to160 : e_T1 e_ms e_m160 (1, e_k160) 0 := e_T1_of e_mo160 e_po18 e_fin_ok (fun h => by cases h) (fun h => by cases h) (fun h => by cases h) (Or.inl ⟨rfl, rfl⟩) e_hA e_hB e_hM e_ck160
theorem e_ck161 : e_ckM e_p18 e_fin false false 12 1 1 prog_14_method_39_code e_k161 = true := by decide +kernel
theorem e_to161 : e_T1 e_ms e_m161 (1, e_k161) 0 := e_T1_of e_mo161 e_po18 e_fin_ok (fun h => by cases h) (fun h => by cases h) (fun h => by cases h) (Or.inr (Or.inl ⟨rfl, rfl⟩)) e_hA e_hB e_hM e_ck161
