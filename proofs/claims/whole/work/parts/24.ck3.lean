theorem e_ck162 : e_ckM e_p18 e_fin false false 12 1 6 prog_14_method_13_code e_k162 = true := by decide +kernel
theorem e_to162 : e_T1 e_ms e_m162 (6, e_k162) 1 := e_T1_of e_mo162 e_po18 e_fin_ok (fun h => by cases h) (fun h => by cases h) (fun h => by cases h) (Or.inr (Or.inl ⟨rfl, rfl⟩)) e_hA e_hB e_hM e_ck162
theorem e_ck163 : e_ckM e_p18 e_fin false false 12 1 2 prog_14_method_12_code e_k163 = true := by decide +kernel
theorem e_to163 : e_T1 e_ms e_m163 (2, e_k163) 1 := e_T1_of e_mo163 e_po18 e_fin_ok (fun h => by cases h) (fun h => by cases h) (fun h => by cases h) (Or.inr (Or.inl ⟨rfl, rfl⟩)) e_hA e_hB e_hM e_ck163
theorem e_ck164 : e_ckM e_p18 e_fin false false 12 1 3 prog_14_method_9_code e_k164 = true := by decide +kernel
theorem e_to164 : e_T1 e_ms e_m164 (3, e_k164) 2 := e_T1_of e_mo164 e_po18 e_fin_ok (fun h => by cases h) (fun h => by cases h) (fun h => by cases h) (Or.inr (Or.inl ⟨rfl, rfl⟩)) e_hA e_hB e_hM e_ck164
theorem e_ck165 : e_ckM e_p18 e_fin false false 12 1 2 prog_14_method_38_code e_k165 = true := by decide +kernel
theorem e_to165 : e_T1 e_ms e_m165 (2, e_k165) 1 := e_T1_of e_mo165 e_po18 e_fin_ok (fun h => by cases h) (fun h => by cases h) (fun h => by cases h) (Or.inr (Or.inl ⟨rfl, rfl⟩)) e_hA e_hB e_hM e_ck165
theorem e_ck166 : e_ckM e_p18 e_fin false false 12 1 3 prog_14_method_33_code e_k166 = true := by decide +kernel
theorem e_to166 : e_T1 e_ms e_m166 (3, e_k166) 1 := e_T1_of e_mo166 e_po18 e_fin_ok (fun h => by cases h) (fun h => by cases h) (fun h => by cases h) (Or.inr (Or.inl ⟨rfl, rfl⟩)) e_hA e_hB e_hM e_ck166
theorem e_ck167 : e_ckM e_p18 e_fin false false 12 5 1 prog_14_method_14_code e_k167 = true := by decide +kernel
theorem e_to167 : e_T1 e_ms e_m167 (1, e_k167) 0 := e_T1_of e_mo167 e_po18 e_fin_ok (fun h => by cases h) (fun h => by cases h) (fun h => by cases h) (Or.inr (Or.inr (Or.inr (Or.inr (Or.inr ⟨rfl, rfl⟩))))) e_hA e_hB e_hM e_ck167
theorem e_ck168 : e_ckM e_p18 e_fin false false 12 1 4 prog_14_method_32_code e_k168 = true := by decide +kernel
theorem e_to168 : e_T1 e_ms e_m168 (4, e_k168) 3 := e_T1_of e_mo168 e_po18 e_fin_ok (fun h => by cases h) (fun h => by cases h) (fun h => by cases h) (Or.inr (Or.inl ⟨rfl, rfl⟩)) e_hA e_hB e_hM e_ck168
theorem e_ck169 : e_ckM e_p18 e_fin false false 12 1 5 prog_14_method_16_code e_k169 = true := by decide +kernel
theorem e_to169 : e_T1 e_ms e_m169 (5, e_k169) 2 := e_T1_of e_mo169 e_po18 e_fin_ok (fun h => by cases h) (fun h => by cases h) (fun h => by cases h) (Or.inr (Or.inl ⟨rfl, rfl⟩)) e_hA e_hB e_hM e_ck169
theorem e_ck170 : e_ckM e_p18 e_fin false false 12 1 2 prog_14_method_11_code e_k170 = true := by decide +kernel
theorem e_to170 : e_T1 e_ms e_m170 (2, e_k170) 1 := e_T1_of e_mo170 e_po18 e_fin_ok (fun h => by cases h) (fun h => by cases h) (fun h => by cases h) (Or.inr (Or.inl ⟨rfl, rfl⟩)) e_hA e_hB e_hM e_ck170
theorem e_ck171 : e_ckM e_p18 e_fin false false 12 1 6 prog_14_method_2_code e_k171 = true := by decide +kernel
theorem e_to171 : e_T1 e_ms e_m171 (6, e_k171) 3 := e_T1_of e_mo171 e_po18 e_fin_ok (fun h => by cases h) (fun h => by cases h) (fun h => by cases h) (Or.inr (Or.inl ⟨rfl, rfl⟩)) e_hA e_hB e_hM e_ck171
theorem e_ck172 : e_ckM e_p18 e_fin false false 12 1 2 prog_14_method_34_code e_k172 = true := by decide +kernel
theorem e_to172 : e_T1 e_ms e_m172 (2, e_k172) 1 := e_T1_of e_mo172 e_po18 e_fin_ok (fun h => by cases h) (fun h => by cases h) (fun h => by cases h) (Or.inr (Or.inl ⟨rfl, rfl⟩)) e_hA e_hB e_hM e_ck172
theorem e_ck173 : e_ckM e_p18 e_fin false false 12 1 2 prog_14_method_35_code e_k173 = true := by decide +kernel
theorem e_to173 : e_T1 e_ms e_m173 (2, e_k173) 1 := e_T1_of e_mo173 e_po18 e_fin_ok (fun h => by cases h) (fun h => by cases h) (fun h => by cases h) (Or.inr (Or.inl ⟨rfl, rfl⟩)) e_hA e_hB e_hM e_ck173
theorem e_ck174 : e_ckM e_p18 e_fin false false 12 1 2 prog_14_method_36_code e_k174 = true := by decide +kernel
theorem e_to174 : e_T1 e_ms e_m174 (2, e_k174) 0 := e_T1_of e_mo174 e_po18 e_fin_ok (fun h => by cases h) (fun h => by cases h) (fun h => by cases h) (Or.inr (Or.inl ⟨rfl, rfl⟩)) e_hA e_hB e_hM e_ck174
theorem e_ck175 : e_ckM e_p18 e_fin false false 12 1 3 prog_14_method_37_code e_k175 = true := by decide +kernel
theorem e_to175 : e_T1 e_ms e_m175 (3, e_k175) 0 := e_T1_of e_mo175 e_po18 e_fin_ok (fun h => by cases h) (fun h => by cases h) (fun h => by cases h) (Or.inr (Or.inl ⟨rfl, rfl⟩)) e_hA e_hB e_hM e_ck175
theorem e_ck176 : e_ckM e_p18 e_fin false false 12 1 2 prog_14_method_31_code e_k176 = true := by decide +kernel
theorem e_to176 : e_T1 e_ms e_m176 (2, e_k176) 0 := e_T1_of e_mo176 e_po18 e_fin_ok (fun h => by cases h) (fun h => by cases h) (fun h => by cases h) (Or.inr (Or.inl ⟨rfl, rfl⟩)) e_hA e_hB e_hM e_ck176
theorem e_ck177 : e_ckM e_p18 e_fin false false 12 1 2 prog_14_method_25_code e_k177 = true := by decide +kernel
theorem e_to177 : e_T1 e_ms e_m177 (2, e_k177) 0 := e_T1_of e_mo177 e_po18 e_fin_ok (fun h => by cases h) (fun h => by cases h) (fun h => by cases h) (Or.inr (Or.inl ⟨rfl, rfl⟩)) e_hA e_hB e_hM e_ck177
theorem e_ck178 : e_ckM e_p18 e_fin false false 12 1 2 prog_14_method_24_code e_k178 = true := by decide +kernel
theorem e_to178 : e_T1 e_ms e_m178 (2, e_k178) 0 := e_T1_of e_mo178 e_po18 e_fin_ok (fun h => by cases h) (fun h => by cases h) (fun h => by cases h) (Or.inr (Or.inl ⟨rfl, rfl⟩)) e_hA e_hB e_hM e_ck178
theorem e_ck179 : e_ckM e_p18 e_fin false false 12 1 3 prog_14_method_23_code e_k179 = true := by decide +kernel
theorem e_to179 : e_T1 e_ms e_m179 (3, e_k179) 0 := e_T1_of e_mo179 e_po18 e_fin_ok (fun h => by cases h) (fun h => by cases h) (fun h => by cases h) (Or.inr (Or.inl ⟨rfl, rfl⟩)) e_hA e_hB e_hM e_ck179
theorem e_ck180 : e_ckM e_p18 e_fin false false 12 1 2 prog_14_method_19_code e_k180 = true := by decide +kernel
theorem e_to180 : e_T1 e_ms e_m180 (2, e_k180) 1 := e_T1_of e_mo180 e_po18 e_fin_ok (fun h => by cases h) (fun h => by cases h) (fun h => by cases h) (Or.inr (Or.inl ⟨rfl, rfl⟩)) e_hA e_hB e_hM e_ck180
theorem e_ck181 : e_ckM e_p18 e_fin false false 12 5 3 prog_14_method_18_code e_k181 = true := by decide +kernel
theorem e_to181 : e_T1 e_ms e_m181 (3, e_k181) 2 := e_T1_of e_mo181 e_po18 e_fin_ok (fun h => by cases h) (fun h => by cases h) (fun h => by cases h) (Or.inr (Or.inr (Or.inr (Or.inr (Or.inr ⟨rfl, rfl⟩))))) e_hA e_hB e_hM e_ck181
theorem e_ck182 : e_ckM e_p18 e_fin false false 12 0 1 prog_14_method_17_code e_k182 = true := by decide +kernel
theorem e_to182 : e_T1 e_ms e_m182 (1, e_k182) 0 := e_T1_of e_mo182 e_po18 e_fin_ok (fun h => by cases h) (fun h => by cases h) (fun h => by cases h) (Or.inl ⟨rfl, rfl⟩) e_hA e_hB e_hM e_ck182
theorem e_ck183 : e_ckM e_p18 e_fin false false 12 1 3 prog_14_method_15_code e_k183 = true := by decide +kernel
theorem e_to183 : e_T1 e_ms e_m183 (3, e_k183) 1 := e_T1_of e_mo183 e_po18 e_fin_ok (fun h => by cases h) (fun h => by cases h) (fun h => by cases h) (Or.inr (Or.inl ⟨rfl, rfl⟩)) e_hA e_hB e_hM e_ck183
theorem e_ck184 : e_ckM e_p18 e_fin false false 12 1 3 prog_14_method_30_code e_k184 = true := by decide +kernel
theorem e_to184 : e_T1 e_ms e_m184 (3, e_k184) 0 := e_T1_of e_mo184 e_po18 e_fin_ok (fun h => by cases h) (fun h => by cases h) (fun h => by cases h) (Or.inr (Or.inl ⟨rfl, rfl⟩)) e_hA e_hB e_hM e_ck184
theorem e_ck185 : e_ckM e_p18 e_fin false false 12 1 3 prog_14_method_27_code e_k185 = true := by decide +kernel
theorem e_to185 : e_T1 e_ms e_m185 (3, e_k185) 0 := e_T1_of e_mo185 e_po18 e_fin_ok (fun h => by cases h) (fun h => by cases h) (fun h => by cases h) (Or.inr (Or.inl ⟨rfl, rfl⟩)) e_hA e_hB e_hM e_ck185
theorem e_ck186 : e_ckM e_p18 e_fin false false 12 1 2 prog_14_method_20_code e_k186 = true := by decide +kernel
theorem e_to186 : e_T1 e_ms e_m186 (2, e_k186) 1 := e_T1_of e_mo186 e_po18 e_fin_ok (fun h => by cases h) (fun h => by cases h) (fun h => by cases h) (Or.inr (Or.inl ⟨rfl, rfl⟩)) e_hA e_hB e_hM e_ck186
theorem e_ck187 : e_ckM e_p18 e_fin false false 12 1 5 prog_14_method_26_code e_k187 = true := by decide +kernel
theorem e_to187 : e_T1 e_ms e_m187 (5, e_k187) 0 := e_T1_of e_mo187 e_po18 e_fin_ok (fun h => by cases h) (fun h => by cases h) (fun h => by cases h) (Or.inr (Or.inl ⟨rfl, rfl⟩)) e_hA e_hB e_hM e_ck187
theorem e_ck188 : e_ckM e_p18 e_fin false false 12 5 1 prog_14_method_29_code e_k188 = true := by decide +kernel
theorem e_to188 : e_T1 e_ms e_m188 (1, e_k188) 0 := e_T1_of e_mo188 e_po18 e_fin_ok (fun h => by cases h) (fun h => by cases h) (fun h => by cases h) (Or.inr (Or.inr (Or.inr (Or.inr (Or.inr ⟨rfl, rfl⟩))))) e_hA e_hB e_hM e_ck188
theorem e_ck189 : e_ckM e_p18 e_fin false false 12 5 2 prog_14_method_22_code e_k189 = true := by decide +kernel
theorem e_to189 : e_T1 e_ms e_m189 (2, e_k189) 1 := e_T1_of e_mo189 e_po18 e_fin_ok (fun h => by cases h) (fun h => by cases h) (fun h => by cases h) (Or.inr (Or.inr (Or.inr (Or.inr (Or.inr ⟨rfl, rfl⟩))))) e_hA e_hB e_hM e_ck189
theorem e_ck190 : e_ckM e_p18 e_fin false false 12 0 1 prog_14_method_21_code e_k190 = true := by decide +kernel
theorem e_to190 : e_T1 e_ms e_m190 (1, e_k190) 1 := e_T1_of e_mo190 e_po18 e_fin_ok (fun h => by cases h) (fun h => by cases h) (fun h => by cases h) (Or.inl ⟨rfl, rfl⟩) e_hA e_hB e_hM e_ck190
theorem e_ck191 : e_ckM e_p18 e_fin false false 12 1 2 prog_14_method_28_code e_k191 = true := by decide +kernel
theorem e_to191 : e_T1 e_ms e_m191 (2, e_k191) 0 := e_T1_of e_mo191 e_po18 e_fin_ok (fun h => by cases h) (fun h => by cases h) (fun h => by cases h) (Or.inr (Or.inl ⟨rfl, rfl⟩)) e_hA e_hB e_hM e_ck191
theorem e_ck192 : e_ckM e_p18 e_fin false false 12 0 2 prog_14_method_43_code e_k192 = true := by decide +kernel
theorem e_to192 : e_T1 e_ms e_m192 (2, e_k192) 0 := e_T1_of e_mo192 e_po18 e_fin_ok (fun h => by cases h) (fun h => by cases h) (fun h => by cases h) (Or.inl ⟨rfl, rfl⟩) e_hA e_hB e_hM e_ck192
theorem e_ck193 : e_ckM e_p18 e_fin false false 12 5 2 prog_14_method_59_code e_k193 = true := by decide +kernel
theorem e_to193 : e_T1 e_ms e_m193 (2, e_k193) 0 := e_T1_of e_mo193 e_po18 e_fin_ok (fun h => by cases h) (fun h => by cases h) (fun h => by cases h) (Or.inr (Or.inr (Or.inr (Or.inr (Or.inr ⟨rfl, rfl⟩))))) e_hA e_hB e_hM e_ck193
theorem e_ck194 : e_ckM e_p18 e_fin false false 12 0 3 prog_14_method_60_code e_k194 = true := by decide +kernel
theorem e_to194 : e_T1 e_ms e_m194 (3, e_k194) 1 := e_T1_of e_mo194 e_po18 e_fin_ok (fun h => by cases h) (fun h => by cases h) (fun h => by cases h) (Or.inl ⟨rfl, rfl⟩) e_hA e_hB e_hM e_ck194
theorem e_ck195 : e_ckM e_p18 e_fin false false 12 1 2 prog_14_method_44_code e_k195 = true := by decide +kernel
theorem e_to195 : e_T1 e_ms e_m195 (2, e_k195) 1 := e_T1_of e_mo195 e_po18 e_fin_ok (fun h => by cases h) (fun h => by cases h) (fun h => by cases h) (Or.inr (Or.inl ⟨rfl, rfl⟩)) e_hA e_hB e_hM e_ck195
theorem e_ck196 : e_ckM e_p18 e_fin false false 12 0 3 prog_14_method_61_code e_k196 = true := by decide +kernel
theorem e_to196 : e_T1 e_ms e_m196 (3, e_k196) 2 := e_T1_of e_mo196 e_po18 e_fin_ok (fun h => by cases h) (fun h => by cases h) (fun h => by cases h) (Or.inl ⟨rfl, rfl⟩) e_hA e_hB e_hM e_ck196
theorem e_ck197 : e_ckM e_p18 e_fin false false 12 1 2 prog_14_method_50_code e_k197 = true := by decide +kernel
theorem e_to197 : e_T1 e_ms e_m197 (2, e_k197) 1 := e_T1_of e_mo197 e_po18 e_fin_ok (fun h => by cases h) (fun h => by cases h) (fun h => by cases h) (Or.inr (Or.inl ⟨rfl, rfl⟩)) e_hA e_hB e_hM e_ck197
theorem e_ck198 : e_ckM e_p18 e_fin false false 12 0 5 prog_14_method_54_code e_k198 = true := by decide +kernel
theorem e_to198 : e_T1 e_ms e_m198 (5, e_k198) 1 := e_T1_of e_mo198 e_po18 e_fin_ok (fun h => by cases h) (fun h => by cases h) (fun h => by cases h) (Or.inl ⟨rfl, rfl⟩) e_hA e_hB e_hM e_ck198
theorem e_ck199 : e_ckM e_p18 e_fin false false 12 0 4 prog_14_method_55_code e_k199 = true := by decide +kernel
theorem e_to199 : e_T1 e_ms e_m199 (4, e_k199) 1 := e_T1_of e_mo199 e_po18 e_fin_ok (fun h => by cases h) (fun h => by cases h) (fun h => by cases h) (Or.inl ⟨rfl, rfl⟩) e_hA e_hB e_hM e_ck199
theorem e_ck200 : e_ckM e_p18 e_fin false false 12 0 3 prog_14_method_4_code e_k200 = true := by decide +kernel
theorem e_to200 : e_T1 e_ms e_m200 (3, e_k200) 1 := e_T1_of e_mo200 e_po18 e_fin_ok (fun h => by cases h) (fun h => by cases h) (fun h => by cases h) (Or.inl ⟨rfl, rfl⟩) e_hA e_hB e_hM e_ck200
theorem e_ck201 : e_ckM e_p18 e_fin false false 12 0 3 prog_14_method_62_code e_k201 = true := by decide +kernel
theorem e_to201 : e_T1 e_ms e_m201 (3, e_k201) 2 := e_T1_of e_mo201 e_po18 e_fin_ok (fun h => by cases h) (fun h => by cases h) (fun h => by cases h) (Or.inl ⟨rfl, rfl⟩) e_hA e_hB e_hM e_ck201
theorem e_ck202 : e_ckM e_p18 e_fin false false 12 1 2 prog_14_method_51_code e_k202 = true := by decide +kernel
theorem e_to202 : e_T1 e_ms e_m202 (2, e_k202) 1 := e_T1_of e_mo202 e_po18 e_fin_ok (fun h => by cases h) (fun h => by cases h) (fun h => by cases h) (Or.inr (Or.inl ⟨rfl, rfl⟩)) e_hA e_hB e_hM e_ck202
theorem e_ck203 : e_ckM e_p18 e_fin false false 12 0 4 prog_14_method_53_code e_k203 = true := by decide +kernel
theorem e_to203 : e_T1 e_ms e_m203 (4, e_k203) 1 := e_T1_of e_mo203 e_po18 e_fin_ok (fun h => by cases h) (fun h => by cases h) (fun h => by cases h) (Or.inl ⟨rfl, rfl⟩) e_hA e_hB e_hM e_ck203
theorem e_ck204 : e_ckM e_p18 e_fin false false 12 0 3 prog_14_method_63_code e_k204 = true := by decide +kernel
theorem e_to204 : e_T1 e_ms e_m204 (3, e_k204) 2 := e_T1_of e_mo204 e_po18 e_fin_ok (fun h => by cases h) (fun h => by cases h) (fun h => by cases h) (Or.inl ⟨rfl, rfl⟩) e_hA e_hB e_hM e_ck204
theorem e_ck205 : e_ckM e_p18 e_fin false false 12 0 3 prog_14_method_52_code e_k205 = true := by decide +kernel
theorem e_to205 : e_T1 e_ms e_m205 (3, e_k205) 2 := e_T1_of e_mo205 e_po18 e_fin_ok (fun h => by cases h) (fun h => by cases h) (fun h => by cases h) (Or.inl ⟨rfl, rfl⟩) e_hA e_hB e_hM e_ck205
theorem e_ck206 : e_ckM e_p18 e_fin false false 12 0 2 prog_14_method_71_code e_k206 = true := by decide +kernel
theorem e_to206 : e_T1 e_ms e_m206 (2, e_k206) 0 := e_T1_of e_mo206 e_po18 e_fin_ok (fun h => by cases h) (fun h => by cases h) (fun h => by cases h) (Or.inl ⟨rfl, rfl⟩) e_hA e_hB e_hM e_ck206
theorem e_ck207 : e_ckM e_p18 e_fin false false 12 0 1 prog_14_method_72_code e_k207 = true := by decide +kernel
theorem e_to207 : e_T1 e_ms e_m207 (1, e_k207) 0 := e_T1_of e_mo207 e_po18 e_fin_ok (fun h => by cases h) (fun h => by cases h) (fun h => by cases h) (Or.inl ⟨rfl, rfl⟩) e_hA e_hB e_hM e_ck207
theorem e_ck208 : e_ckM e_p18 e_fin false false 12 1 1 prog_14_method_49_code e_k208 = true := by decide +kernel
theorem e_to208 : e_T1 e_ms e_m208 (1, e_k208) 0 := e_T1_of e_mo208 e_po18 e_fin_ok (fun h => by cases h) (fun h => by cases h) (fun h => by cases h) (Or.inr (Or.inl ⟨rfl, rfl⟩)) e_hA e_hB e_hM e_ck208
theorem e_ck209 : e_ckM e_p18 e_fin false false 12 5 2 prog_14_method_70_code e_k209 = true := by decide +kernel
theorem e_to209 : e_T1 e_ms e_m209 (2, e_k209) 0 := e_T1_of e_mo209 e_po18 e_fin_ok (fun h => by cases h) (fun h => by cases h) (fun h => by cases h) (Or.inr (Or.inr (Or.inr (Or.inr (Or.inr ⟨rfl, rfl⟩))))) e_hA e_hB e_hM e_ck209
theorem e_ck210 : e_ckM e_p18 e_fin false false 12 0 4 prog_14_method_69_code e_k210 = true := by decide +kernel
theorem e_to210 : e_T1 e_ms e_m210 (4, e_k210) 0 := e_T1_of e_mo210 e_po18 e_fin_ok (fun h => by cases h) (fun h => by cases h) (fun h => by cases h) (Or.inl ⟨rfl, rfl⟩) e_hA e_hB e_hM e_ck210
theorem e_ck211 : e_ckM e_p18 e_fin false false 12 1 2 prog_14_method_56_code e_k211 = true := by decide +kernel
theorem e_to211 : e_T1 e_ms e_m211 (2, e_k211) 1 := e_T1_of e_mo211 e_po18 e_fin_ok (fun h => by cases h) (fun h => by cases h) (fun h => by cases h) (Or.inr (Or.inl ⟨rfl, rfl⟩)) e_hA e_hB e_hM e_ck211
theorem e_ck212 : e_ckM e_p18 e_fin false false 12 1 2 prog_14_method_3_code e_k212 = true := by decide +kernel
theorem e_to212 : e_T1 e_ms e_m212 (2, e_k212) 2 := e_T1_of e_mo212 e_po18 e_fin_ok (fun h => by cases h) (fun h => by cases h) (fun h => by cases h) (Or.inr (Or.inl ⟨rfl, rfl⟩)) e_hA e_hB e_hM e_ck212
theorem e_ck213 : e_ckM e_p18 e_fin false false 12 0 8 prog_14_method_66_code e_k213 = true := by decide +kernel
theorem e_to213 : e_T1 e_ms e_m213 (8, e_k213) 1 := e_T1_of e_mo213 e_po18 e_fin_ok (fun h => by cases h) (fun h => by cases h) (fun h => by cases h) (Or.inl ⟨rfl, rfl⟩) e_hA e_hB e_hM e_ck213
theorem e_ck214 : e_ckM e_p18 e_fin false false 12 5 3 prog_14_method_65_code e_k214 = true := by decide +kernel
theorem e_to214 : e_T1 e_ms e_m214 (3, e_k214) 2 := e_T1_of e_mo214 e_po18 e_fin_ok (fun h => by cases h) (fun h => by cases h) (fun h => by cases h) (Or.inr (Or.inr (Or.inr (Or.inr (Or.inr ⟨rfl, rfl⟩))))) e_hA e_hB e_hM e_ck214
theorem e_ck215 : e_ckM e_p18 e_fin false false 12 0 4 prog_14_method_57_code e_k215 = true := by decide +kernel
theorem e_to215 : e_T1 e_ms e_m215 (4, e_k215) 1 := e_T1_of e_mo215 e_po18 e_fin_ok (fun h => by cases h) (fun h => by cases h) (fun h => by cases h) (Or.inl ⟨rfl, rfl⟩) e_hA e_hB e_hM e_ck215
