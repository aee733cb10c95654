theorem e_ck216 : e_ckM e_p18 e_fin false false 12 3 4 prog_14_method_64_code e_k216 = true := by decide +kernel
theorem e_to216 : e_T1 e_ms e_m216 (4, e_k216) 1 := e_T1_of e_mo216 e_po18 e_fin_ok (fun h => by cases h) (fun h => by cases h) (fun h => by cases h) (Or.inr (Or.inr (Or.inr (Or.inl ⟨rfl, rfl⟩)))) e_hA e_hB e_hM e_ck216
theorem e_ck217 : e_ckM e_p18 e_fin false false 12 3 11 prog_14_method_48_code e_k217 = true := by decide +kernel
theorem e_to217 : e_T1 e_ms e_m217 (11, e_k217) 3 := e_T1_of e_mo217 e_po18 e_fin_ok (fun h => by cases h) (fun h => by cases h) (fun h => by cases h) (Or.inr (Or.inr (Or.inr (Or.inl ⟨rfl, rfl⟩)))) e_hA e_hB e_hM e_ck217
theorem e_ck218 : e_ckM e_p18 e_fin false false 12 5 3 prog_14_method_45_code e_k218 = true := by decide +kernel
theorem e_to218 : e_T1 e_ms e_m218 (3, e_k218) 1 := e_T1_of e_mo218 e_po18 e_fin_ok (fun h => by cases h) (fun h => by cases h) (fun h => by cases h) (Or.inr (Or.inr (Or.inr (Or.inr (Or.inr ⟨rfl, rfl⟩))))) e_hA e_hB e_hM e_ck218
theorem e_ck219 : e_ckM e_p18 e_fin false false 12 3 1 prog_14_method_46_code e_k219 = true := by decide +kernel
theorem e_to219 : e_T1 e_ms e_m219 (1, e_k219) 0 := e_T1_of e_mo219 e_po18 e_fin_ok (fun h => by cases h) (fun h => by cases h) (fun h => by cases h) (Or.inr (Or.inr (Or.inr (Or.inl ⟨rfl, rfl⟩)))) e_hA e_hB e_hM e_ck219
theorem e_ck220 : e_ckM e_p18 e_fin false false 12 3 5 prog_14_method_47_code e_k220 = true := by decide +kernel
theorem e_to220 : e_T1 e_ms e_m220 (5, e_k220) 3 := e_T1_of e_mo220 e_po18 e_fin_ok (fun h => by cases h) (fun h => by cases h) (fun h => by cases h) (Or.inr (Or.inr (Or.inr (Or.inl ⟨rfl, rfl⟩)))) e_hA e_hB e_hM e_ck220
theorem e_ck221 : e_ckM e_p18 e_fin false false 12 5 4 prog_14_method_67_code e_k221 = true := by decide +kernel
theorem e_to221 : e_T1 e_ms e_m221 (4, e_k221) 1 := e_T1_of e_mo221 e_po18 e_fin_ok (fun h => by cases h) (fun h => by cases h) (fun h => by cases h) (Or.inr (Or.inr (Or.inr (Or.inr (Or.inr ⟨rfl, rfl⟩))))) e_hA e_hB e_hM e_ck221
theorem e_ck222 : e_ckM e_p18 e_fin false false 12 0 2 prog_14_method_5_code e_k222 = true := by decide +kernel
theorem e_to222 : e_T1 e_ms e_m222 (2, e_k222) 2 := e_T1_of e_mo222 e_po18 e_fin_ok (fun h => by cases h) (fun h => by cases h) (fun h => by cases h) (Or.inl ⟨rfl, rfl⟩) e_hA e_hB e_hM e_ck222
theorem e_ck223 : e_ckM e_p18 e_fin false false 12 5 6 prog_14_method_68_code e_k223 = true := by decide +kernel
theorem e_to223 : e_T1 e_ms e_m223 (6, e_k223) 1 := e_T1_of e_mo223 e_po18 e_fin_ok (fun h => by cases h) (fun h => by cases h) (fun h => by cases h) (Or.inr (Or.inr (Or.inr (Or.inr (Or.inr ⟨rfl, rfl⟩))))) e_hA e_hB e_hM e_ck223
theorem e_ck224 : e_ckM e_p18 e_fin false false 12 0 4 prog_14_method_73_code e_k224 = true := by decide +kernel
theorem e_to224 : e_T1 e_ms e_m224 (4, e_k224) 3 := e_T1_of e_mo224 e_po18 e_fin_ok (fun h => by cases h) (fun h => by cases h) (fun h => by cases h) (Or.inl ⟨rfl, rfl⟩) e_hA e_hB e_hM e_ck224
theorem e_ck225 : e_ckM e_p18 e_fin false false 12 0 4 prog_14_method_75_code e_k225 = true := by decide +kernel
theorem e_to225 : e_T1 e_ms e_m225 (4, e_k225) 2 := e_T1_of e_mo225 e_po18 e_fin_ok (fun h => by cases h) (fun h => by cases h) (fun h => by cases h) (Or.inl ⟨rfl, rfl⟩) e_hA e_hB e_hM e_ck225
theorem e_ck226 : e_ckM e_p18 e_fin false false 12 1 3 prog_14_method_74_code e_k226 = true := by decide +kernel
theorem e_to226 : e_T1 e_ms e_m226 (3, e_k226) 2 := e_T1_of e_mo226 e_po18 e_fin_ok (fun h => by cases h) (fun h => by cases h) (fun h => by cases h) (Or.inr (Or.inl ⟨rfl, rfl⟩)) e_hA e_hB e_hM e_ck226
theorem e_ck227 : e_ckM e_p18 e_fin false false 12 0 4 prog_14_method_76_code e_k227 = true := by decide +kernel
theorem e_to227 : e_T1 e_ms e_m227 (4, e_k227) 2 := e_T1_of e_mo227 e_po18 e_fin_ok (fun h => by cases h) (fun h => by cases h) (fun h => by cases h) (Or.inl ⟨rfl, rfl⟩) e_hA e_hB e_hM e_ck227
theorem e_ck228 : e_ckM e_p18 e_fin false false 12 0 5 prog_14_method_79_code e_k228 = true := by decide +kernel
theorem e_to228 : e_T1 e_ms e_m228 (5, e_k228) 3 := e_T1_of e_mo228 e_po18 e_fin_ok (fun h => by cases h) (fun h => by cases h) (fun h => by cases h) (Or.inl ⟨rfl, rfl⟩) e_hA e_hB e_hM e_ck228
theorem e_ck229 : e_ckM e_p18 e_fin false false 12 5 2 prog_14_method_77_code e_k229 = true := by decide +kernel
theorem e_to229 : e_T1 e_ms e_m229 (2, e_k229) 0 := e_T1_of e_mo229 e_po18 e_fin_ok (fun h => by cases h) (fun h => by cases h) (fun h => by cases h) (Or.inr (Or.inr (Or.inr (Or.inr (Or.inr ⟨rfl, rfl⟩))))) e_hA e_hB e_hM e_ck229
theorem e_ck230 : e_ckM e_p18 e_fin false false 12 5 2 prog_14_method_78_code e_k230 = true := by decide +kernel
theorem e_to230 : e_T1 e_ms e_m230 (2, e_k230) 0 := e_T1_of e_mo230 e_po18 e_fin_ok (fun h => by cases h) (fun h => by cases h) (fun h => by cases h) (Or.inr (Or.inr (Or.inr (Or.inr (Or.inr ⟨rfl, rfl⟩))))) e_hA e_hB e_hM e_ck230
theorem e_ck231 : e_ckM e_p18 e_fin false false 12 0 7 prog_14_method_81_code e_k231 = true := by decide +kernel
theorem e_to231 : e_T1 e_ms e_m231 (7, e_k231) 3 := e_T1_of e_mo231 e_po18 e_fin_ok (fun h => by cases h) (fun h => by cases h) (fun h => by cases h) (Or.inl ⟨rfl, rfl⟩) e_hA e_hB e_hM e_ck231
theorem e_ck232 : e_ckM e_p18 e_fin false false 12 0 3 prog_14_method_80_code e_k232 = true := by decide +kernel
theorem e_to232 : e_T1 e_ms e_m232 (3, e_k232) 1 := e_T1_of e_mo232 e_po18 e_fin_ok (fun h => by cases h) (fun h => by cases h) (fun h => by cases h) (Or.inl ⟨rfl, rfl⟩) e_hA e_hB e_hM e_ck232
theorem e_ck233 : e_ckM e_p18 e_fin false false 12 0 7 prog_14_method_85_code e_k233 = true := by decide +kernel
theorem e_to233 : e_T1 e_ms e_m233 (7, e_k233) 3 := e_T1_of e_mo233 e_po18 e_fin_ok (fun h => by cases h) (fun h => by cases h) (fun h => by cases h) (Or.inl ⟨rfl, rfl⟩) e_hA e_hB e_hM e_ck233
theorem e_ck234 : e_ckM e_p18 e_fin false false 12 0 6 prog_14_method_82_code e_k234 = true := by decide +kernel
theorem e_to234 : e_T1 e_ms e_m234 (6, e_k234) 2 := e_T1_of e_mo234 e_po18 e_fin_ok (fun h => by cases h) (fun h => by cases h) (fun h => by cases h) (Or.inl ⟨rfl, rfl⟩) e_hA e_hB e_hM e_ck234
theorem e_ck235 : e_ckM e_p18 e_fin false false 12 0 4 prog_14_method_83_code e_k235 = true := by decide +kernel
theorem e_to235 : e_T1 e_ms e_m235 (4, e_k235) 1 := e_T1_of e_mo235 e_po18 e_fin_ok (fun h => by cases h) (fun h => by cases h) (fun h => by cases h) (Or.inl ⟨rfl, rfl⟩) e_hA e_hB e_hM e_ck235
theorem e_ck236 : e_ckM e_p18 e_fin false false 12 0 4 prog_14_method_84_code e_k236 = true := by decide +kernel
theorem e_to236 : e_T1 e_ms e_m236 (4, e_k236) 1 := e_T1_of e_mo236 e_po18 e_fin_ok (fun h => by cases h) (fun h => by cases h) (fun h => by cases h) (Or.inl ⟨rfl, rfl⟩) e_hA e_hB e_hM e_ck236
theorem e_ck237 : e_ckM e_p18 e_fin false false 12 0 4 prog_14_method_87_code e_k237 = true := by decide +kernel
theorem e_to237 : e_T1 e_ms e_m237 (4, e_k237) 1 := e_T1_of e_mo237 e_po18 e_fin_ok (fun h => by cases h) (fun h => by cases h) (fun h => by cases h) (Or.inl ⟨rfl, rfl⟩) e_hA e_hB e_hM e_ck237
theorem e_ck238 : e_ckM e_p18 e_fin false false 12 0 4 prog_14_method_86_code e_k238 = true := by decide +kernel
theorem e_to238 : e_T1 e_ms e_m238 (4, e_k238) 1 := e_T1_of e_mo238 e_po18 e_fin_ok (fun h => by cases h) (fun h => by cases h) (fun h => by cases h) (Or.inl ⟨rfl, rfl⟩) e_hA e_hB e_hM e_ck238
theorem e_ck239 : e_ckM e_p18 e_fin false false 12 0 10 prog_14_method_89_code e_k239 = true := by decide +kernel
theorem e_to239 : e_T1 e_ms e_m239 (10, e_k239) 4 := e_T1_of e_mo239 e_po18 e_fin_ok (fun h => by cases h) (fun h => by cases h) (fun h => by cases h) (Or.inl ⟨rfl, rfl⟩) e_hA e_hB e_hM e_ck239
theorem e_ck240 : e_ckM e_p18 e_fin false false 12 1 4 prog_14_method_88_code e_k240 = true := by decide +kernel
theorem e_to240 : e_T1 e_ms e_m240 (4, e_k240) 2 := e_T1_of e_mo240 e_po18 e_fin_ok (fun h => by cases h) (fun h => by cases h) (fun h => by cases h) (Or.inr (Or.inl ⟨rfl, rfl⟩)) e_hA e_hB e_hM e_ck240
theorem e_ck241 : e_ckM e_p18 e_fin false false 12 0 7 prog_14_method_90_code e_k241 = true := by decide +kernel
theorem e_to241 : e_T1 e_ms e_m241 (7, e_k241) 2 := e_T1_of e_mo241 e_po18 e_fin_ok (fun h => by cases h) (fun h => by cases h) (fun h => by cases h) (Or.inl ⟨rfl, rfl⟩) e_hA e_hB e_hM e_ck241
theorem e_ck242 : e_ckM e_p18 e_fin false false 12 0 4 prog_14_method_92_code e_k242 = true := by decide +kernel
theorem e_to242 : e_T1 e_ms e_m242 (4, e_k242) 1 := e_T1_of e_mo242 e_po18 e_fin_ok (fun h => by cases h) (fun h => by cases h) (fun h => by cases h) (Or.inl ⟨rfl, rfl⟩) e_hA e_hB e_hM e_ck242
theorem e_ck243 : e_ckM e_p18 e_fin false false 12 1 4 prog_14_method_91_code e_k243 = true := by decide +kernel
theorem e_to243 : e_T1 e_ms e_m243 (4, e_k243) 2 := e_T1_of e_mo243 e_po18 e_fin_ok (fun h => by cases h) (fun h => by cases h) (fun h => by cases h) (Or.inr (Or.inl ⟨rfl, rfl⟩)) e_hA e_hB e_hM e_ck243
theorem e_ck244 : e_ckM e_p18 e_fin false false 12 0 4 prog_14_method_95_code e_k244 = true := by decide +kernel
theorem e_to244 : e_T1 e_ms e_m244 (4, e_k244) 1 := e_T1_of e_mo244 e_po18 e_fin_ok (fun h => by cases h) (fun h => by cases h) (fun h => by cases h) (Or.inl ⟨rfl, rfl⟩) e_hA e_hB e_hM e_ck244
theorem e_ck245 : e_ckM e_p18 e_fin false false 12 1 3 prog_14_method_93_code e_k245 = true := by decide +kernel
theorem e_to245 : e_T1 e_ms e_m245 (3, e_k245) 1 := e_T1_of e_mo245 e_po18 e_fin_ok (fun h => by cases h) (fun h => by cases h) (fun h => by cases h) (Or.inr (Or.inl ⟨rfl, rfl⟩)) e_hA e_hB e_hM e_ck245
theorem e_ck246 : e_ckM e_p18 e_fin false false 12 0 3 prog_14_method_94_code e_k246 = true := by decide +kernel
theorem e_to246 : e_T1 e_ms e_m246 (3, e_k246) 1 := e_T1_of e_mo246 e_po18 e_fin_ok (fun h => by cases h) (fun h => by cases h) (fun h => by cases h) (Or.inl ⟨rfl, rfl⟩) e_hA e_hB e_hM e_ck246
theorem e_ck247 : e_ckM e_p18 e_fin false false 12 0 9 prog_14_method_96_code e_k247 = true := by decide +kernel
theorem e_to247 : e_T1 e_ms e_m247 (9, e_k247) 2 := e_T1_of e_mo247 e_po18 e_fin_ok (fun h => by cases h) (fun h => by cases h) (fun h => by cases h) (Or.inl ⟨rfl, rfl⟩) e_hA e_hB e_hM e_ck247
theorem e_ck248 : e_ckM e_p18 e_fin false false 12 0 5 prog_14_method_98_code e_k248 = true := by decide +kernel
theorem e_to248 : e_T1 e_ms e_m248 (5, e_k248) 3 := e_T1_of e_mo248 e_po18 e_fin_ok (fun h => by cases h) (fun h => by cases h) (fun h => by cases h) (Or.inl ⟨rfl, rfl⟩) e_hA e_hB e_hM e_ck248
theorem e_ck249 : e_ckM e_p18 e_fin false false 12 0 4 prog_14_method_97_code e_k249 = true := by decide +kernel
theorem e_to249 : e_T1 e_ms e_m249 (4, e_k249) 2 := e_T1_of e_mo249 e_po18 e_fin_ok (fun h => by cases h) (fun h => by cases h) (fun h => by cases h) (Or.inl ⟨rfl, rfl⟩) e_hA e_hB e_hM e_ck249
theorem e_ck250 : e_ckM e_p18 e_fin false false 12 0 5 prog_14_method_99_code e_k250 = true := by decide +kernel
theorem e_to250 : e_T1 e_ms e_m250 (5, e_k250) 3 := e_T1_of e_mo250 e_po18 e_fin_ok (fun h => by cases h) (fun h => by cases h) (fun h => by cases h) (Or.inl ⟨rfl, rfl⟩) e_hA e_hB e_hM e_ck250
theorem e_ck251 : e_ckM e_p18 e_fin false false 12 0 5 prog_14_method_102_code e_k251 = true := by decide +kernel
theorem e_to251 : e_T1 e_ms e_m251 (5, e_k251) 1 := e_T1_of e_mo251 e_po18 e_fin_ok (fun h => by cases h) (fun h => by cases h) (fun h => by cases h) (Or.inl ⟨rfl, rfl⟩) e_hA e_hB e_hM e_ck251
theorem e_ck252 : e_ckM e_p18 e_fin false false 12 5 7 prog_14_method_101_code e_k252 = true := by decide +kernel
theorem e_to252 : e_T1 e_ms e_m252 (7, e_k252) 1 := e_T1_of e_mo252 e_po18 e_fin_ok (fun h => by cases h) (fun h => by cases h) (fun h => by cases h) (Or.inr (Or.inr (Or.inr (Or.inr (Or.inr ⟨rfl, rfl⟩))))) e_hA e_hB e_hM e_ck252
theorem e_ck253 : e_ckM e_p18 e_fin false false 12 1 3 prog_14_method_100_code e_k253 = true := by decide +kernel
theorem e_to253 : e_T1 e_ms e_m253 (3, e_k253) 1 := e_T1_of e_mo253 e_po18 e_fin_ok (fun h => by cases h) (fun h => by cases h) (fun h => by cases h) (Or.inr (Or.inl ⟨rfl, rfl⟩)) e_hA e_hB e_hM e_ck253
theorem e_ck254 : e_ckM e_p18 e_fin false false 12 0 7 prog_14_method_104_code e_k254 = true := by decide +kernel
theorem e_to254 : e_T1 e_ms e_m254 (7, e_k254) 2 := e_T1_of e_mo254 e_po18 e_fin_ok (fun h => by cases h) (fun h => by cases h) (fun h => by cases h) (Or.inl ⟨rfl, rfl⟩) e_hA e_hB e_hM e_ck254
theorem e_ck255 : e_ckM e_p18 e_fin false false 12 0 6 prog_14_method_103_code e_k255 = true := by decide +kernel
theorem e_to255 : e_T1 e_ms e_m255 (6, e_k255) 1 := e_T1_of e_mo255 e_po18 e_fin_ok (fun h => by cases h) (fun h => by cases h) (fun h => by cases h) (Or.inl ⟨rfl, rfl⟩) e_hA e_hB e_hM e_ck255
theorem e_ck256 : e_ckM e_p18 e_fin false false 12 0 3 prog_14_method_105_code e_k256 = true := by decide +kernel
theorem e_to256 : e_T1 e_ms e_m256 (3, e_k256) 1 := e_T1_of e_mo256 e_po18 e_fin_ok (fun h => by cases h) (fun h => by cases h) (fun h => by cases h) (Or.inl ⟨rfl, rfl⟩) e_hA e_hB e_hM e_ck256
theorem e_ck257 : e_ckM e_p18 e_fin false false 12 0 10 prog_14_method_107_code e_k257 = true := by decide +kernel
theorem e_to257 : e_T1 e_ms e_m257 (10, e_k257) 4 := e_T1_of e_mo257 e_po18 e_fin_ok (fun h => by cases h) (fun h => by cases h) (fun h => by cases h) (Or.inl ⟨rfl, rfl⟩) e_hA e_hB e_hM e_ck257
theorem e_ck258 : e_ckM e_p18 e_fin false false 12 0 2 prog_14_method_106_code e_k258 = true := by decide +kernel
theorem e_to258 : e_T1 e_ms e_m258 (2, e_k258) 1 := e_T1_of e_mo258 e_po18 e_fin_ok (fun h => by cases h) (fun h => by cases h) (fun h => by cases h) (Or.inl ⟨rfl, rfl⟩) e_hA e_hB e_hM e_ck258
theorem e_ck259 : e_ckM e_p18 e_fin false false 12 0 3 prog_14_method_58_code e_k259 = true := by decide +kernel
theorem e_to259 : e_T1 e_ms e_m259 (3, e_k259) 0 := e_T1_of e_mo259 e_po18 e_fin_ok (fun h => by cases h) (fun h => by cases h) (fun h => by cases h) (Or.inl ⟨rfl, rfl⟩) e_hA e_hB e_hM e_ck259
theorem e_ck260 : e_ckM e_p18 e_fin false false 12 0 4 prog_14_method_108_code e_k260 = true := by decide +kernel
theorem e_to260 : e_T1 e_ms e_m260 (4, e_k260) 1 := e_T1_of e_mo260 e_po18 e_fin_ok (fun h => by cases h) (fun h => by cases h) (fun h => by cases h) (Or.inl ⟨rfl, rfl⟩) e_hA e_hB e_hM e_ck260
theorem e_ck261 : e_ckM e_p18 e_fin false false 12 0 3 prog_14_method_109_code e_k261 = true := by decide +kernel
theorem e_to261 : e_T1 e_ms e_m261 (3, e_k261) 1 := e_T1_of e_mo261 e_po18 e_fin_ok (fun h => by cases h) (fun h => by cases h) (fun h => by cases h) (Or.inl ⟨rfl, rfl⟩) e_hA e_hB e_hM e_ck261
theorem e_ck262 : e_ckM e_p18 e_fin false false 12 0 3 prog_14_method_110_code e_k262 = true := by decide +kernel
theorem e_to262 : e_T1 e_ms e_m262 (3, e_k262) 1 := e_T1_of e_mo262 e_po18 e_fin_ok (fun h => by cases h) (fun h => by cases h) (fun h => by cases h) (Or.inl ⟨rfl, rfl⟩) e_hA e_hB e_hM e_ck262
