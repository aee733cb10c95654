/-- the pools of MaySheep -/
def e_p0 : eP := ([(10, 11, 0, 3), (19, 11, 1, 3), (23, 11, 2, 3), (30, 11, 3, 3), (37, 11, 4, 3), (43, 11, 5, 3), (47, 11, 6, 0), (54, 11, 7, 3), (61, 11, 8, 3), (68, 11, 9, 3), (75, 11, 10, 3), (87, 9, 0, 0), (98, 9, 1, 0), (108, 10, 0, 3), (111, 2, 3, 0), (122, 10, 3, 0), (129, 10, 1, 3), (137, 2, 5, 3), (141, 8, 0, 3), (146, 8, 1, 3), (149, 3, 0, 3), (152, 3, 1, 3), (158, 2, 6, 3), (161, 2, 7, 3), (164, 8, 3, 3), (281, 2, 4, 0), (171, 8, 2, 3), (175, 2, 0, 1), (179, 8, 4, 0), (197, 4, 0, 3), (209, 0, 0, 0), (220, 1, 0, 3), (251, 10, 2, 3), (255, 5, 0, 0), (269, 10, 4, 0), (275, 2, 1, 0), (278, 2, 2, 0)], [(1, 0, 1, 11), (9, 1, 1, 2), (18, 2, 1, 2), (29, 3, 1, 2), (36, 6, 1, 2), (53, 7, 1, 2), (60, 8, 1, 2), (67, 9, 1, 2), (74, 10, 1, 2), (79, 12, 1, 29), (83, 13, 2, 29), (90, 15, 3, 0), (94, 17, 2, 22), (101, 53, 2, 30), (105, 56, 1, 20), (114, 58, 2, 27), (115, 69, 1, 27), (119, 71, 2, 1), (125, 74, 2, 31), (133, 75, 3, 23), (155, 78, 2, 31), (167, 79, 2, 31), (182, 82, 2, 20), (186, 83, 1, 31), (190, 84, 4, 24), (194, 85, 2, 24), (198, 55, 2, 28), (201, 97, 4, 28), (205, 102, 2, 20), (212, 88, 3, 28), (216, 105, 5, 21), (223, 110, 4, 21), (227, 113, 2, 21), (230, 116, 6, 21), (234, 119, 3, 21), (238, 122, 3, 21), (242, 125, 2, 21), (246, 127, 4, 21), (258, 131, 1, 25), (259, 132, 4, 25), (261, 134, 4, 21), (265, 139, 5, 21), (272, 144, 6, 21), (284, 148, 1, 31), (288, 146, 2, 28), (293, 89, 2, 23), (291, 150, 2, 30)], [(7, 9, 8), (16, 10, 5), (16, 24, 0), (27, 2, 9), (34, 7, 3), (41, 25, 0), (51, 0, 3), (58, 3, 3), (65, 4, 9), (72, 1, 10), (41, 6, 1)], [(250, (-100000))], [])
theorem e_pf0 : ∀ q ∈ e_p0.1, e_fok "MaySheep" q := by
  intro q hq
  rcases List.mem_cons.mp hq with rfl | hq
  · exact Or.inr (Or.inr ⟨by decide, _, rfl, by decide, rfl, lw_g2 132 (by decide +kernel) (by decide +kernel)⟩)
  rcases List.mem_cons.mp hq with rfl | hq
  · exact Or.inr (Or.inr ⟨by decide, _, rfl, by decide, rfl, lw_g2 133 (by decide +kernel) (by decide +kernel)⟩)
  rcases List.mem_cons.mp hq with rfl | hq
  · exact Or.inr (Or.inr ⟨by decide, _, rfl, by decide, rfl, lw_g2 134 (by decide +kernel) (by decide +kernel)⟩)
  rcases List.mem_cons.mp hq with rfl | hq
  · exact Or.inr (Or.inr ⟨by decide, _, rfl, by decide, rfl, lw_g2 135 (by decide +kernel) (by decide +kernel)⟩)
  rcases List.mem_cons.mp hq with rfl | hq
  · exact Or.inr (Or.inr ⟨by decide, _, rfl, by decide, rfl, lw_g2 136 (by decide +kernel) (by decide +kernel)⟩)
  rcases List.mem_cons.mp hq with rfl | hq
  · exact Or.inr (Or.inr ⟨by decide, _, rfl, by decide, rfl, lw_g2 137 (by decide +kernel) (by decide +kernel)⟩)
  rcases List.mem_cons.mp hq with rfl | hq
  · exact Or.inr (Or.inr ⟨by decide, _, rfl, by decide, rfl, lw_g2 138 (by decide +kernel) (by decide +kernel)⟩)
  rcases List.mem_cons.mp hq with rfl | hq
  · exact Or.inr (Or.inr ⟨by decide, _, rfl, by decide, rfl, lw_g2 139 (by decide +kernel) (by decide +kernel)⟩)
  rcases List.mem_cons.mp hq with rfl | hq
  · exact Or.inr (Or.inr ⟨by decide, _, rfl, by decide, rfl, lw_g2 140 (by decide +kernel) (by decide +kernel)⟩)
  rcases List.mem_cons.mp hq with rfl | hq
  · exact Or.inr (Or.inr ⟨by decide, _, rfl, by decide, rfl, lw_g2 141 (by decide +kernel) (by decide +kernel)⟩)
  rcases List.mem_cons.mp hq with rfl | hq
  · exact Or.inr (Or.inr ⟨by decide, _, rfl, by decide, rfl, lw_g2 142 (by decide +kernel) (by decide +kernel)⟩)
  rcases List.mem_cons.mp hq with rfl | hq
  · exact Or.inr (Or.inr ⟨by decide, _, rfl, by decide, rfl, lw_g1 37 (by decide +kernel) (by decide +kernel)⟩)
  rcases List.mem_cons.mp hq with rfl | hq
  · exact Or.inr (Or.inr ⟨by decide, _, rfl, by decide, rfl, lw_g1 40 (by decide +kernel) (by decide +kernel)⟩)
  rcases List.mem_cons.mp hq with rfl | hq
  · exact Or.inr (Or.inr ⟨by decide, _, rfl, by decide, rfl, lw_g1 198 (by decide +kernel) (by decide +kernel)⟩)
  rcases List.mem_cons.mp hq with rfl | hq
  · exact Or.inr (Or.inr ⟨by decide, _, rfl, by decide, rfl, lw_g1 133 (by decide +kernel) (by decide +kernel)⟩)
  rcases List.mem_cons.mp hq with rfl | hq
  · exact Or.inr (Or.inr ⟨by decide, _, rfl, by decide, rfl, lw_g1 206 (by decide +kernel) (by decide +kernel)⟩)
  rcases List.mem_cons.mp hq with rfl | hq
  · exact Or.inr (Or.inr ⟨by decide, _, rfl, by decide, rfl, lw_g1 201 (by decide +kernel) (by decide +kernel)⟩)
  rcases List.mem_cons.mp hq with rfl | hq
  · exact Or.inr (Or.inr ⟨by decide, _, rfl, by decide, rfl, lw_g1 140 (by decide +kernel) (by decide +kernel)⟩)
  rcases List.mem_cons.mp hq with rfl | hq
  · exact Or.inr (Or.inr ⟨by decide, _, rfl, by decide, rfl, lw_g1 90 (by decide +kernel) (by decide +kernel)⟩)
  rcases List.mem_cons.mp hq with rfl | hq
  · exact Or.inr (Or.inr ⟨by decide, _, rfl, by decide, rfl, lw_g1 93 (by decide +kernel) (by decide +kernel)⟩)
  rcases List.mem_cons.mp hq with rfl | hq
  · exact Or.inr (Or.inr ⟨by decide, _, rfl, by decide, rfl, lw_g2 29 (by decide +kernel) (by decide +kernel)⟩)
  rcases List.mem_cons.mp hq with rfl | hq
  · exact Or.inr (Or.inr ⟨by decide, _, rfl, by decide, rfl, lw_g2 34 (by decide +kernel) (by decide +kernel)⟩)
  rcases List.mem_cons.mp hq with rfl | hq
  · exact Or.inr (Or.inr ⟨by decide, _, rfl, by decide, rfl, lw_g1 145 (by decide +kernel) (by decide +kernel)⟩)
  rcases List.mem_cons.mp hq with rfl | hq
  · exact Or.inr (Or.inr ⟨by decide, _, rfl, by decide, rfl, lw_g1 149 (by decide +kernel) (by decide +kernel)⟩)
  rcases List.mem_cons.mp hq with rfl | hq
  · exact Or.inr (Or.inr ⟨by decide, _, rfl, by decide, rfl, lw_g1 103 (by decide +kernel) (by decide +kernel)⟩)
  rcases List.mem_cons.mp hq with rfl | hq
  · exact Or.inr (Or.inr ⟨by decide, _, rfl, by decide, rfl, lw_g1 137 (by decide +kernel) (by decide +kernel)⟩)
  rcases List.mem_cons.mp hq with rfl | hq
  · exact Or.inr (Or.inr ⟨by decide, _, rfl, by decide, rfl, lw_g1 99 (by decide +kernel) (by decide +kernel)⟩)
  rcases List.mem_cons.mp hq with rfl | hq
  · exact Or.inr (Or.inr ⟨by decide, _, rfl, by decide, rfl, lw_g1 121 (by decide +kernel) (by decide +kernel)⟩)
  rcases List.mem_cons.mp hq with rfl | hq
  · exact Or.inr (Or.inr ⟨by decide, _, rfl, by decide, rfl, lw_g1 107 (by decide +kernel) (by decide +kernel)⟩)
  rcases List.mem_cons.mp hq with rfl | hq
  · exact Or.inr (Or.inr ⟨by decide, _, rfl, by decide, rfl, lw_g2 59 (by decide +kernel) (by decide +kernel)⟩)
  rcases List.mem_cons.mp hq with rfl | hq
  · exact Or.inr (Or.inr ⟨by decide, _, rfl, by decide, rfl, lw_g2 11 (by decide +kernel) (by decide +kernel)⟩)
  rcases List.mem_cons.mp hq with rfl | hq
  · exact Or.inr (Or.inr ⟨by decide, _, rfl, by decide, rfl, lw_g2 101 (by decide +kernel) (by decide +kernel)⟩)
  rcases List.mem_cons.mp hq with rfl | hq
  · exact Or.inr (Or.inr ⟨by decide, _, rfl, by decide, rfl, lw_g1 204 (by decide +kernel) (by decide +kernel)⟩)
  rcases List.mem_cons.mp hq with rfl | hq
  · exact Or.inr (Or.inr ⟨by decide, _, rfl, by decide, rfl, lw_g1 183 (by decide +kernel) (by decide +kernel)⟩)
  rcases List.mem_cons.mp hq with rfl | hq
  · exact Or.inr (Or.inr ⟨by decide, _, rfl, by decide, rfl, lw_g1 209 (by decide +kernel) (by decide +kernel)⟩)
  rcases List.mem_cons.mp hq with rfl | hq
  · exact Or.inr (Or.inr ⟨by decide, _, rfl, by decide, rfl, lw_g1 124 (by decide +kernel) (by decide +kernel)⟩)
  rcases List.mem_cons.mp hq with rfl | hq
  · exact Or.inr (Or.inr ⟨by decide, _, rfl, by decide, rfl, lw_g1 128 (by decide +kernel) (by decide +kernel)⟩)
  cases hq
theorem e_pm0 : ∀ q ∈ e_p0.2.1, e_mlk e_ms "MaySheep" q := by
  intro q hq
  rcases List.mem_cons.mp hq with rfl | hq
  · exact Or.inr (Or.inl ⟨rfl, lw_g1 27 (by decide +kernel) (by decide +kernel)⟩)
  rcases List.mem_cons.mp hq with rfl | hq
  · exact Or.inr (Or.inr (Or.inr (Or.inr (Or.inr ⟨e_m1, 0, rfl, e_mo1, Or.inr (Or.inr (Or.inl ⟨rfl, rfl, rfl, "MaySheep", lw_ex_of 139 (by decide +kernel) (by decide +kernel)⟩))⟩))))
  rcases List.mem_cons.mp hq with rfl | hq
  · exact Or.inr (Or.inr (Or.inr (Or.inr (Or.inr ⟨e_m2, 0, rfl, e_mo2, Or.inr (Or.inr (Or.inl ⟨rfl, rfl, rfl, "MaySheep", lw_ex_of 176 (by decide +kernel) (by decide +kernel)⟩))⟩))))
  rcases List.mem_cons.mp hq with rfl | hq
  · exact Or.inr (Or.inr (Or.inr (Or.inr (Or.inr ⟨e_m3, 0, rfl, e_mo3, Or.inr (Or.inr (Or.inl ⟨rfl, rfl, rfl, "MaySheep", lw_ex_of 330 (by decide +kernel) (by decide +kernel)⟩))⟩))))
  rcases List.mem_cons.mp hq with rfl | hq
  · exact Or.inr (Or.inr (Or.inr (Or.inr (Or.inr ⟨e_m6, 0, rfl, e_mo6, Or.inr (Or.inr (Or.inl ⟨rfl, rfl, rfl, "MaySheep", lw_ex_of 333 (by decide +kernel) (by decide +kernel)⟩))⟩))))
  rcases List.mem_cons.mp hq with rfl | hq
  · exact Or.inr (Or.inr (Or.inr (Or.inr (Or.inr ⟨e_m7, 0, rfl, e_mo7, Or.inr (Or.inr (Or.inl ⟨rfl, rfl, rfl, "MaySheep", lw_ex_of 351 (by decide +kernel) (by decide +kernel)⟩))⟩))))
  rcases List.mem_cons.mp hq with rfl | hq
  · exact Or.inr (Or.inr (Or.inr (Or.inr (Or.inr ⟨e_m8, 0, rfl, e_mo8, Or.inr (Or.inr (Or.inl ⟨rfl, rfl, rfl, "MaySheep", lw_ex_of 370 (by decide +kernel) (by decide +kernel)⟩))⟩))))
  rcases List.mem_cons.mp hq with rfl | hq
  · exact Or.inr (Or.inr (Or.inr (Or.inr (Or.inr ⟨e_m9, 0, rfl, e_mo9, Or.inr (Or.inr (Or.inl ⟨rfl, rfl, rfl, "MaySheep", lw_ex_of 394 (by decide +kernel) (by decide +kernel)⟩))⟩))))
  rcases List.mem_cons.mp hq with rfl | hq
  · exact Or.inr (Or.inr (Or.inr (Or.inr (Or.inr ⟨e_m10, 0, rfl, e_mo10, Or.inr (Or.inr (Or.inl ⟨rfl, rfl, rfl, "MaySheep", lw_ex_of 441 (by decide +kernel) (by decide +kernel)⟩))⟩))))
  rcases List.mem_cons.mp hq with rfl | hq
  · exact Or.inr (Or.inr (Or.inr (Or.inr (Or.inr ⟨e_m12, 0, rfl, e_mo12, Or.inr (Or.inr (Or.inr ⟨by decide, rfl, rfl, lw_g2 170 (by decide +kernel) (by decide +kernel)⟩))⟩))))
  rcases List.mem_cons.mp hq with rfl | hq
  · exact Or.inr (Or.inr (Or.inr (Or.inr (Or.inr ⟨e_m13, 1, rfl, e_mo13, Or.inr (Or.inr (Or.inr ⟨by decide, rfl, rfl, lw_g2 174 (by decide +kernel) (by decide +kernel)⟩))⟩))))
  rcases List.mem_cons.mp hq with rfl | hq
  · exact Or.inr (Or.inr (Or.inr (Or.inr (Or.inr ⟨e_m15, 3, rfl, e_mo15, Or.inl ⟨rfl, rfl, rfl, lw_g2 182 (by decide +kernel) (by decide +kernel)⟩⟩))))
  rcases List.mem_cons.mp hq with rfl | hq
  · exact Or.inr (Or.inr (Or.inr (Or.inr (Or.inr ⟨e_m17, 1, rfl, e_mo17, Or.inr (Or.inr (Or.inr ⟨by decide, rfl, rfl, lw_g2 189 (by decide +kernel) (by decide +kernel)⟩))⟩))))
  rcases List.mem_cons.mp hq with rfl | hq
  · exact Or.inr (Or.inr (Or.inr (Or.inr (Or.inr ⟨e_m53, 1, rfl, e_mo53, Or.inr (Or.inr (Or.inr ⟨by decide, rfl, rfl, lw_g3 101 (by decide +kernel) (by decide +kernel)⟩))⟩))))
  rcases List.mem_cons.mp hq with rfl | hq
  · exact Or.inr (Or.inr (Or.inr (Or.inr (Or.inr ⟨e_m56, 0, rfl, e_mo56, Or.inr (Or.inr (Or.inr ⟨by decide, rfl, rfl, lw_g3 118 (by decide +kernel) (by decide +kernel)⟩))⟩))))
  rcases List.mem_cons.mp hq with rfl | hq
  · exact Or.inr (Or.inr (Or.inr (Or.inr (Or.inr ⟨e_m58, 1, rfl, e_mo58, Or.inr (Or.inr (Or.inr ⟨by decide, rfl, rfl, lw_g3 126 (by decide +kernel) (by decide +kernel)⟩))⟩))))
  rcases List.mem_cons.mp hq with rfl | hq
  · exact Or.inr (Or.inr (Or.inr (Or.inr (Or.inr ⟨e_m69, 0, rfl, e_mo69, Or.inr (Or.inr (Or.inr ⟨by decide, rfl, rfl, lw_g3 176 (by decide +kernel) (by decide +kernel)⟩))⟩))))
  rcases List.mem_cons.mp hq with rfl | hq
  · exact Or.inr (Or.inr (Or.inr (Or.inr (Or.inr ⟨e_m71, 1, rfl, e_mo71, Or.inr (Or.inl ⟨rfl, rfl, rfl, lw_g3 194 (by decide +kernel) (by decide +kernel)⟩)⟩))))
  rcases List.mem_cons.mp hq with rfl | hq
  · exact Or.inr (Or.inr (Or.inr (Or.inr (Or.inr ⟨e_m74, 1, rfl, e_mo74, Or.inr (Or.inr (Or.inr ⟨by decide, rfl, rfl, lw_g3 210 (by decide +kernel) (by decide +kernel)⟩))⟩))))
  rcases List.mem_cons.mp hq with rfl | hq
  · exact Or.inr (Or.inr (Or.inr (Or.inr (Or.inr ⟨e_m75, 2, rfl, e_mo75, Or.inr (Or.inr (Or.inr ⟨by decide, rfl, rfl, lw_g3 214 (by decide +kernel) (by decide +kernel)⟩))⟩))))
  rcases List.mem_cons.mp hq with rfl | hq
  · exact Or.inr (Or.inr (Or.inr (Or.inr (Or.inr ⟨e_m78, 1, rfl, e_mo78, Or.inr (Or.inr (Or.inr ⟨by decide, rfl, rfl, lw_g3 227 (by decide +kernel) (by decide +kernel)⟩))⟩))))
  rcases List.mem_cons.mp hq with rfl | hq
  · exact Or.inr (Or.inr (Or.inr (Or.inr (Or.inr ⟨e_m79, 1, rfl, e_mo79, Or.inr (Or.inr (Or.inr ⟨by decide, rfl, rfl, lw_g3 231 (by decide +kernel) (by decide +kernel)⟩))⟩))))
  rcases List.mem_cons.mp hq with rfl | hq
  · exact Or.inr (Or.inr (Or.inr (Or.inr (Or.inr ⟨e_m82, 1, rfl, e_mo82, Or.inr (Or.inr (Or.inr ⟨by decide, rfl, rfl, lw_g4 3 (by decide +kernel) (by decide +kernel)⟩))⟩))))
  rcases List.mem_cons.mp hq with rfl | hq
  · exact Or.inr (Or.inr (Or.inr (Or.inr (Or.inr ⟨e_m83, 0, rfl, e_mo83, Or.inr (Or.inr (Or.inr ⟨by decide, rfl, rfl, lw_g4 10 (by decide +kernel) (by decide +kernel)⟩))⟩))))
  rcases List.mem_cons.mp hq with rfl | hq
  · exact Or.inr (Or.inr (Or.inr (Or.inr (Or.inr ⟨e_m84, 3, rfl, e_mo84, Or.inr (Or.inr (Or.inr ⟨by decide, rfl, rfl, lw_g4 14 (by decide +kernel) (by decide +kernel)⟩))⟩))))
  rcases List.mem_cons.mp hq with rfl | hq
  · exact Or.inr (Or.inr (Or.inr (Or.inr (Or.inr ⟨e_m85, 1, rfl, e_mo85, Or.inr (Or.inr (Or.inr ⟨by decide, rfl, rfl, lw_g4 21 (by decide +kernel) (by decide +kernel)⟩))⟩))))
  rcases List.mem_cons.mp hq with rfl | hq
  · exact Or.inr (Or.inr (Or.inr (Or.inr (Or.inr ⟨e_m55, 1, rfl, e_mo55, Or.inr (Or.inr (Or.inr ⟨by decide, rfl, rfl, lw_g4 75 (by decide +kernel) (by decide +kernel)⟩))⟩))))
  rcases List.mem_cons.mp hq with rfl | hq
  · exact Or.inr (Or.inr (Or.inr (Or.inr (Or.inr ⟨e_m97, 3, rfl, e_mo97, Or.inr (Or.inr (Or.inr ⟨by decide, rfl, rfl, lw_g4 80 (by decide +kernel) (by decide +kernel)⟩))⟩))))
  rcases List.mem_cons.mp hq with rfl | hq
  · exact Or.inr (Or.inr (Or.inr (Or.inr (Or.inr ⟨e_m102, 1, rfl, e_mo102, Or.inr (Or.inr (Or.inr ⟨by decide, rfl, rfl, lw_g4 93 (by decide +kernel) (by decide +kernel)⟩))⟩))))
  rcases List.mem_cons.mp hq with rfl | hq
  · exact Or.inr (Or.inr (Or.inr (Or.inr (Or.inr ⟨e_m88, 2, rfl, e_mo88, Or.inr (Or.inr (Or.inr ⟨by decide, rfl, rfl, lw_g4 101 (by decide +kernel) (by decide +kernel)⟩))⟩))))
  rcases List.mem_cons.mp hq with rfl | hq
  · exact Or.inr (Or.inr (Or.inr (Or.inr (Or.inr ⟨e_m105, 4, rfl, e_mo105, Or.inr (Or.inr (Or.inr ⟨by decide, rfl, rfl, lw_g4 106 (by decide +kernel) (by decide +kernel)⟩))⟩))))
  rcases List.mem_cons.mp hq with rfl | hq
  · exact Or.inr (Or.inr (Or.inr (Or.inr (Or.inr ⟨e_m110, 3, rfl, e_mo110, Or.inr (Or.inr (Or.inr ⟨by decide, rfl, rfl, lw_g4 130 (by decide +kernel) (by decide +kernel)⟩))⟩))))
  rcases List.mem_cons.mp hq with rfl | hq
  · exact Or.inr (Or.inr (Or.inr (Or.inr (Or.inr ⟨e_m113, 1, rfl, e_mo113, Or.inr (Or.inr (Or.inr ⟨by decide, rfl, rfl, lw_g4 142 (by decide +kernel) (by decide +kernel)⟩))⟩))))
  rcases List.mem_cons.mp hq with rfl | hq
  · exact Or.inr (Or.inr (Or.inr (Or.inr (Or.inr ⟨e_m116, 5, rfl, e_mo116, Or.inr (Or.inr (Or.inr ⟨by decide, rfl, rfl, lw_g4 157 (by decide +kernel) (by decide +kernel)⟩))⟩))))
  rcases List.mem_cons.mp hq with rfl | hq
  · exact Or.inr (Or.inr (Or.inr (Or.inr (Or.inr ⟨e_m119, 2, rfl, e_mo119, Or.inr (Or.inr (Or.inr ⟨by decide, rfl, rfl, lw_g4 170 (by decide +kernel) (by decide +kernel)⟩))⟩))))
  rcases List.mem_cons.mp hq with rfl | hq
  · exact Or.inr (Or.inr (Or.inr (Or.inr (Or.inr ⟨e_m122, 2, rfl, e_mo122, Or.inr (Or.inr (Or.inr ⟨by decide, rfl, rfl, lw_g4 181 (by decide +kernel) (by decide +kernel)⟩))⟩))))
  rcases List.mem_cons.mp hq with rfl | hq
  · exact Or.inr (Or.inr (Or.inr (Or.inr (Or.inr ⟨e_m125, 1, rfl, e_mo125, Or.inr (Or.inr (Or.inr ⟨by decide, rfl, rfl, lw_g4 193 (by decide +kernel) (by decide +kernel)⟩))⟩))))
  rcases List.mem_cons.mp hq with rfl | hq
  · exact Or.inr (Or.inr (Or.inr (Or.inr (Or.inr ⟨e_m127, 3, rfl, e_mo127, Or.inr (Or.inr (Or.inr ⟨by decide, rfl, rfl, lw_g4 204 (by decide +kernel) (by decide +kernel)⟩))⟩))))
  rcases List.mem_cons.mp hq with rfl | hq
  · exact Or.inr (Or.inr (Or.inr (Or.inr (Or.inr ⟨e_m131, 0, rfl, e_mo131, Or.inr (Or.inr (Or.inr ⟨by decide, rfl, rfl, lw_g4 224 (by decide +kernel) (by decide +kernel)⟩))⟩))))
  rcases List.mem_cons.mp hq with rfl | hq
  · exact Or.inr (Or.inr (Or.inr (Or.inr (Or.inr ⟨e_m132, 3, rfl, e_mo132, Or.inr (Or.inr (Or.inr ⟨by decide, rfl, rfl, lw_g4 228 (by decide +kernel) (by decide +kernel)⟩))⟩))))
  rcases List.mem_cons.mp hq with rfl | hq
  · exact Or.inr (Or.inr (Or.inr (Or.inr (Or.inr ⟨e_m134, 3, rfl, e_mo134, Or.inr (Or.inr (Or.inr ⟨by decide, rfl, rfl, lw_g4 237 (by decide +kernel) (by decide +kernel)⟩))⟩))))
  rcases List.mem_cons.mp hq with rfl | hq
  · exact Or.inr (Or.inr (Or.inr (Or.inr (Or.inr ⟨e_m139, 4, rfl, e_mo139, Or.inr (Or.inr (Or.inr ⟨by decide, rfl, rfl, lw_g5 18 (by decide +kernel) (by decide +kernel)⟩))⟩))))
  rcases List.mem_cons.mp hq with rfl | hq
  · exact Or.inr (Or.inr (Or.inr (Or.inr (Or.inr ⟨e_m144, 5, rfl, e_mo144, Or.inr (Or.inr (Or.inr ⟨by decide, rfl, rfl, lw_g5 38 (by decide +kernel) (by decide +kernel)⟩))⟩))))
  rcases List.mem_cons.mp hq with rfl | hq
  · exact Or.inr (Or.inr (Or.inr (Or.inr (Or.inr ⟨e_m148, 0, rfl, e_mo148, Or.inr (Or.inr (Or.inr ⟨by decide, rfl, rfl, lw_g5 59 (by decide +kernel) (by decide +kernel)⟩))⟩))))
  rcases List.mem_cons.mp hq with rfl | hq
  · exact Or.inr (Or.inr (Or.inr (Or.inr (Or.inr ⟨e_m146, 1, rfl, e_mo146, Or.inr (Or.inr (Or.inr ⟨by decide, rfl, rfl, lw_g5 64 (by decide +kernel) (by decide +kernel)⟩))⟩))))
  rcases List.mem_cons.mp hq with rfl | hq
  · exact Or.inr (Or.inr (Or.inr (Or.inr (Or.inr ⟨e_m89, 1, rfl, e_mo89, Or.inr (Or.inr (Or.inr ⟨by decide, rfl, rfl, lw_g5 63 (by decide +kernel) (by decide +kernel)⟩))⟩))))
  rcases List.mem_cons.mp hq with rfl | hq
  · exact Or.inr (Or.inr (Or.inr (Or.inr (Or.inr ⟨e_m150, 1, rfl, e_mo150, Or.inr (Or.inr (Or.inr ⟨by decide, rfl, rfl, lw_g5 69 (by decide +kernel) (by decide +kernel)⟩))⟩))))
  cases hq
theorem e_pc0 : ∀ q ∈ e_p0.2.2.1, e_cok "MaySheep" q := by
  intro q hq
  rcases List.mem_cons.mp hq with rfl | hq
  · exact Or.inl ⟨by decide, _, rfl, rfl, lw_g1 30 (by decide +kernel) (by decide +kernel)⟩
  rcases List.mem_cons.mp hq with rfl | hq
  · exact Or.inl ⟨by decide, _, rfl, rfl, lw_g1 67 (by decide +kernel) (by decide +kernel)⟩
  rcases List.mem_cons.mp hq with rfl | hq
  · exact Or.inr (Or.inl ⟨_, Or.inl ⟨rfl, rfl⟩, lw_g1 67 (by decide +kernel) (by decide +kernel), lw_ex_of 328 (by decide +kernel) (by decide +kernel)⟩)
  rcases List.mem_cons.mp hq with rfl | hq
  · exact Or.inl ⟨by decide, _, rfl, rfl, lw_g1 222 (by decide +kernel) (by decide +kernel)⟩
  rcases List.mem_cons.mp hq with rfl | hq
  · exact Or.inl ⟨by decide, _, rfl, rfl, lw_g1 224 (by decide +kernel) (by decide +kernel)⟩
  rcases List.mem_cons.mp hq with rfl | hq
  · exact Or.inr (Or.inl ⟨_, Or.inr (Or.inl ⟨rfl, rfl⟩), lw_g2 0 (by decide +kernel) (by decide +kernel), lw_ex_of 348 (by decide +kernel) (by decide +kernel)⟩)
  rcases List.mem_cons.mp hq with rfl | hq
  · exact Or.inl ⟨by decide, _, rfl, rfl, lw_g2 2 (by decide +kernel) (by decide +kernel)⟩
  rcases List.mem_cons.mp hq with rfl | hq
  · exact Or.inl ⟨by decide, _, rfl, rfl, lw_g2 21 (by decide +kernel) (by decide +kernel)⟩
  rcases List.mem_cons.mp hq with rfl | hq
  · exact Or.inl ⟨by decide, _, rfl, rfl, lw_g2 45 (by decide +kernel) (by decide +kernel)⟩
  rcases List.mem_cons.mp hq with rfl | hq
  · exact Or.inl ⟨by decide, _, rfl, rfl, lw_g2 92 (by decide +kernel) (by decide +kernel)⟩
  rcases List.mem_cons.mp hq with rfl | hq
  · exact Or.inl ⟨by decide, _, rfl, rfl, lw_g2 0 (by decide +kernel) (by decide +kernel)⟩
  cases hq
theorem e_pi0 : ∀ q ∈ e_p0.2.2.2.1, Cond.constant "MaySheep" q.1 (Int32.ofInt q.2) ∈ lw_good := by
  intro q hq
  rcases List.mem_cons.mp hq with rfl | hq
  · exact lw_g4 219 (by decide +kernel) (by decide +kernel)
  cases hq
theorem e_pl0 : ∀ q ∈ e_p0.2.2.2.2, Cond.constantLong "MaySheep" q.1 (Int64.ofInt q.2) ∈ lw_good := by
  intro q hq
  cases hq
theorem e_po0 : e_pok e_ms "MaySheep" e_p0 := ⟨e_pf0, e_pm0, e_pc0, e_pi0, e_pl0⟩
/-- the pools of MaySheep$Tape -/
def e_p1 : eP := ([(11, 9, 0, 0), (15, 9, 1, 0), (18, 9, 2, 3), (22, 9, 3, 3), (26, 9, 4, 3), (29, 9, 5, 3), (32, 9, 6, 0), (35, 9, 7, 0)], [(5, 0, 1, 11), (38, 21, 2, 29), (42, 0, 2, 12), (48, 36, 4, 29), (52, 22, 1, 0), (56, 23, 2, 29), (59, 37, 1, 0), (62, 38, 2, 29), (65, 24, 3, 29), (70, 25, 1, 33), (75, 27, 2, 33), (79, 43, 3, 29), (83, 41, 1, 29), (86, 45, 2, 29), (89, 40, 1, 29)], [], [], [])
theorem e_pf1 : ∀ q ∈ e_p1.1, e_fok "MaySheep$Tape" q := by
  intro q hq
  rcases List.mem_cons.mp hq with rfl | hq
  · exact Or.inr (Or.inr ⟨by decide, _, rfl, by decide, rfl, lw_g1 36 (by decide +kernel) (by decide +kernel)⟩)
  rcases List.mem_cons.mp hq with rfl | hq
  · exact Or.inr (Or.inr ⟨by decide, _, rfl, by decide, rfl, lw_g1 38 (by decide +kernel) (by decide +kernel)⟩)
  rcases List.mem_cons.mp hq with rfl | hq
  · exact Or.inr (Or.inr ⟨by decide, _, rfl, by decide, rfl, lw_g1 42 (by decide +kernel) (by decide +kernel)⟩)
  rcases List.mem_cons.mp hq with rfl | hq
  · exact Or.inr (Or.inr ⟨by decide, _, rfl, by decide, rfl, lw_g1 43 (by decide +kernel) (by decide +kernel)⟩)
  rcases List.mem_cons.mp hq with rfl | hq
  · exact Or.inr (Or.inr ⟨by decide, _, rfl, by decide, rfl, lw_g1 44 (by decide +kernel) (by decide +kernel)⟩)
  rcases List.mem_cons.mp hq with rfl | hq
  · exact Or.inr (Or.inr ⟨by decide, _, rfl, by decide, rfl, lw_g1 45 (by decide +kernel) (by decide +kernel)⟩)
  rcases List.mem_cons.mp hq with rfl | hq
  · exact Or.inr (Or.inr ⟨by decide, _, rfl, by decide, rfl, lw_g1 46 (by decide +kernel) (by decide +kernel)⟩)
  rcases List.mem_cons.mp hq with rfl | hq
  · exact Or.inr (Or.inr ⟨by decide, _, rfl, by decide, rfl, lw_g1 47 (by decide +kernel) (by decide +kernel)⟩)
  cases hq
theorem e_pm1 : ∀ q ∈ e_p1.2.1, e_mlk e_ms "MaySheep$Tape" q := by
  intro q hq
  rcases List.mem_cons.mp hq with rfl | hq
  · exact Or.inr (Or.inl ⟨rfl, lw_g1 35 (by decide +kernel) (by decide +kernel)⟩)
  rcases List.mem_cons.mp hq with rfl | hq
  · exact Or.inr (Or.inr (Or.inr (Or.inr (Or.inr ⟨e_m21, 1, rfl, e_mo21, Or.inr (Or.inr (Or.inr ⟨by decide, rfl, rfl, lw_g2 204 (by decide +kernel) (by decide +kernel)⟩))⟩))))
  rcases List.mem_cons.mp hq with rfl | hq
  · exact Or.inr (Or.inr (Or.inl ⟨rfl, lw_g3 39 (by decide +kernel) (by decide +kernel)⟩))
  rcases List.mem_cons.mp hq with rfl | hq
  · exact Or.inr (Or.inr (Or.inr (Or.inr (Or.inr ⟨e_m36, 3, rfl, e_mo36, Or.inr (Or.inr (Or.inr ⟨by decide, rfl, rfl, lw_g3 28 (by decide +kernel) (by decide +kernel)⟩))⟩))))
  rcases List.mem_cons.mp hq with rfl | hq
  · exact Or.inr (Or.inr (Or.inr (Or.inr (Or.inr ⟨e_m22, 1, rfl, e_mo22, Or.inl ⟨rfl, rfl, rfl, lw_g2 208 (by decide +kernel) (by decide +kernel)⟩⟩))))
  rcases List.mem_cons.mp hq with rfl | hq
  · exact Or.inr (Or.inr (Or.inr (Or.inr (Or.inr ⟨e_m23, 1, rfl, e_mo23, Or.inr (Or.inr (Or.inr ⟨by decide, rfl, rfl, lw_g2 211 (by decide +kernel) (by decide +kernel)⟩))⟩))))
  rcases List.mem_cons.mp hq with rfl | hq
  · exact Or.inr (Or.inr (Or.inr (Or.inr (Or.inr ⟨e_m37, 1, rfl, e_mo37, Or.inl ⟨rfl, rfl, rfl, lw_g3 32 (by decide +kernel) (by decide +kernel)⟩⟩))))
  rcases List.mem_cons.mp hq with rfl | hq
  · exact Or.inr (Or.inr (Or.inr (Or.inr (Or.inr ⟨e_m38, 1, rfl, e_mo38, Or.inr (Or.inr (Or.inr ⟨by decide, rfl, rfl, lw_g3 35 (by decide +kernel) (by decide +kernel)⟩))⟩))))
  rcases List.mem_cons.mp hq with rfl | hq
  · exact Or.inr (Or.inr (Or.inr (Or.inr (Or.inr ⟨e_m24, 2, rfl, e_mo24, Or.inr (Or.inr (Or.inr ⟨by decide, rfl, rfl, lw_g2 215 (by decide +kernel) (by decide +kernel)⟩))⟩))))
  rcases List.mem_cons.mp hq with rfl | hq
  · exact Or.inr (Or.inr (Or.inr (Or.inr (Or.inr ⟨e_m25, 0, rfl, e_mo25, Or.inr (Or.inr (Or.inr ⟨by decide, rfl, rfl, lw_g2 220 (by decide +kernel) (by decide +kernel)⟩))⟩))))
  rcases List.mem_cons.mp hq with rfl | hq
  · exact Or.inr (Or.inr (Or.inr (Or.inr (Or.inr ⟨e_m27, 1, rfl, e_mo27, Or.inr (Or.inr (Or.inr ⟨by decide, rfl, rfl, lw_g2 230 (by decide +kernel) (by decide +kernel)⟩))⟩))))
  rcases List.mem_cons.mp hq with rfl | hq
  · exact Or.inr (Or.inr (Or.inr (Or.inr (Or.inr ⟨e_m43, 2, rfl, e_mo43, Or.inr (Or.inr (Or.inr ⟨by decide, rfl, rfl, lw_g3 77 (by decide +kernel) (by decide +kernel)⟩))⟩))))
  rcases List.mem_cons.mp hq with rfl | hq
  · exact Or.inr (Or.inr (Or.inr (Or.inr (Or.inr ⟨e_m41, 0, rfl, e_mo41, Or.inr (Or.inr (Or.inr ⟨by decide, rfl, rfl, lw_g3 98 (by decide +kernel) (by decide +kernel)⟩))⟩))))
  rcases List.mem_cons.mp hq with rfl | hq
  · exact Or.inr (Or.inr (Or.inr (Or.inr (Or.inr ⟨e_m45, 1, rfl, e_mo45, Or.inr (Or.inr (Or.inr ⟨by decide, rfl, rfl, lw_g3 99 (by decide +kernel) (by decide +kernel)⟩))⟩))))
  rcases List.mem_cons.mp hq with rfl | hq
  · exact Or.inr (Or.inr (Or.inr (Or.inr (Or.inr ⟨e_m40, 0, rfl, e_mo40, Or.inr (Or.inr (Or.inr ⟨by decide, rfl, rfl, lw_g3 100 (by decide +kernel) (by decide +kernel)⟩))⟩))))
  cases hq
theorem e_pc1 : ∀ q ∈ e_p1.2.2.1, e_cok "MaySheep$Tape" q := by
  intro q hq
  cases hq
theorem e_pi1 : ∀ q ∈ e_p1.2.2.2.1, Cond.constant "MaySheep$Tape" q.1 (Int32.ofInt q.2) ∈ lw_good := by
  intro q hq
  cases hq
theorem e_pl1 : ∀ q ∈ e_p1.2.2.2.2, Cond.constantLong "MaySheep$Tape" q.1 (Int64.ofInt q.2) ∈ lw_good := by
  intro q hq
  cases hq
theorem e_po1 : e_pok e_ms "MaySheep$Tape" e_p1 := ⟨e_pf1, e_pm1, e_pc1, e_pi1, e_pl1⟩
/-- the pools of MaySheep$World -/
def e_p2 : eP := ([(12, 10, 0, 3), (21, 10, 1, 3), (28, 10, 2, 3), (32, 10, 3, 0), (36, 10, 4, 0), (43, 2, 8, 3), (49, 5, 0, 0)], [(3, 0, 1, 11), (11, 3, 1, 2), (20, 4, 1, 2), (27, 5, 1, 2), (39, 54, 2, 22), (46, 55, 2, 28), (52, 151, 2, 25)], [(9, 2, 9), (18, 8, 5), (25, 5, 4)], [], [])
theorem e_pf2 : ∀ q ∈ e_p2.1, e_fok "MaySheep$World" q := by
  intro q hq
  rcases List.mem_cons.mp hq with rfl | hq
  · exact Or.inr (Or.inr ⟨by decide, _, rfl, by decide, rfl, lw_g1 196 (by decide +kernel) (by decide +kernel)⟩)
  rcases List.mem_cons.mp hq with rfl | hq
  · exact Or.inr (Or.inr ⟨by decide, _, rfl, by decide, rfl, lw_g1 199 (by decide +kernel) (by decide +kernel)⟩)
  rcases List.mem_cons.mp hq with rfl | hq
  · exact Or.inr (Or.inr ⟨by decide, _, rfl, by decide, rfl, lw_g1 202 (by decide +kernel) (by decide +kernel)⟩)
  rcases List.mem_cons.mp hq with rfl | hq
  · exact Or.inr (Or.inr ⟨by decide, _, rfl, by decide, rfl, lw_g1 205 (by decide +kernel) (by decide +kernel)⟩)
  rcases List.mem_cons.mp hq with rfl | hq
  · exact Or.inr (Or.inr ⟨by decide, _, rfl, by decide, rfl, lw_g1 207 (by decide +kernel) (by decide +kernel)⟩)
  rcases List.mem_cons.mp hq with rfl | hq
  · exact Or.inr (Or.inr ⟨by decide, _, rfl, by decide, rfl, lw_g1 152 (by decide +kernel) (by decide +kernel)⟩)
  rcases List.mem_cons.mp hq with rfl | hq
  · exact Or.inr (Or.inr ⟨by decide, _, rfl, by decide, rfl, lw_g1 182 (by decide +kernel) (by decide +kernel)⟩)
  cases hq
theorem e_pm2 : ∀ q ∈ e_p2.2.1, e_mlk e_ms "MaySheep$World" q := by
  intro q hq
  rcases List.mem_cons.mp hq with rfl | hq
  · exact Or.inr (Or.inl ⟨rfl, lw_g1 72 (by decide +kernel) (by decide +kernel)⟩)
  rcases List.mem_cons.mp hq with rfl | hq
  · exact Or.inr (Or.inr (Or.inr (Or.inr (Or.inr ⟨e_m3, 0, rfl, e_mo3, Or.inr (Or.inr (Or.inl ⟨rfl, rfl, rfl, "MaySheep", lw_ex_of 182 (by decide +kernel) (by decide +kernel)⟩))⟩))))
  rcases List.mem_cons.mp hq with rfl | hq
  · exact Or.inr (Or.inr (Or.inr (Or.inr (Or.inr ⟨e_m4, 0, rfl, e_mo4, Or.inr (Or.inr (Or.inl ⟨rfl, rfl, rfl, "MaySheep", lw_ex_of 281 (by decide +kernel) (by decide +kernel)⟩))⟩))))
  rcases List.mem_cons.mp hq with rfl | hq
  · exact Or.inr (Or.inr (Or.inr (Or.inr (Or.inr ⟨e_m5, 0, rfl, e_mo5, Or.inr (Or.inr (Or.inl ⟨rfl, rfl, rfl, "MaySheep", lw_ex_of 284 (by decide +kernel) (by decide +kernel)⟩))⟩))))
  rcases List.mem_cons.mp hq with rfl | hq
  · exact Or.inr (Or.inr (Or.inr (Or.inr (Or.inr ⟨e_m54, 1, rfl, e_mo54, Or.inr (Or.inr (Or.inr ⟨by decide, rfl, rfl, lw_g3 105 (by decide +kernel) (by decide +kernel)⟩))⟩))))
  rcases List.mem_cons.mp hq with rfl | hq
  · exact Or.inr (Or.inr (Or.inr (Or.inr (Or.inr ⟨e_m55, 1, rfl, e_mo55, Or.inr (Or.inr (Or.inr ⟨by decide, rfl, rfl, lw_g3 117 (by decide +kernel) (by decide +kernel)⟩))⟩))))
  rcases List.mem_cons.mp hq with rfl | hq
  · exact Or.inr (Or.inr (Or.inr (Or.inr (Or.inr ⟨e_m151, 1, rfl, e_mo151, Or.inr (Or.inr (Or.inr ⟨by decide, rfl, rfl, lw_g5 73 (by decide +kernel) (by decide +kernel)⟩))⟩))))
  cases hq
theorem e_pc2 : ∀ q ∈ e_p2.2.2.1, e_cok "MaySheep$World" q := by
  intro q hq
  rcases List.mem_cons.mp hq with rfl | hq
  · exact Or.inl ⟨by decide, _, rfl, rfl, lw_g1 73 (by decide +kernel) (by decide +kernel)⟩
  rcases List.mem_cons.mp hq with rfl | hq
  · exact Or.inl ⟨by decide, _, rfl, rfl, lw_g1 173 (by decide +kernel) (by decide +kernel)⟩
  rcases List.mem_cons.mp hq with rfl | hq
  · exact Or.inl ⟨by decide, _, rfl, rfl, lw_g1 175 (by decide +kernel) (by decide +kernel)⟩
  cases hq
theorem e_pi2 : ∀ q ∈ e_p2.2.2.2.1, Cond.constant "MaySheep$World" q.1 (Int32.ofInt q.2) ∈ lw_good := by
  intro q hq
  cases hq
theorem e_pl2 : ∀ q ∈ e_p2.2.2.2.2, Cond.constantLong "MaySheep$World" q.1 (Int64.ofInt q.2) ∈ lw_good := by
  intro q hq
  cases hq
theorem e_po2 : e_pok e_ms "MaySheep$World" e_p2 := ⟨e_pf2, e_pm2, e_pc2, e_pi2, e_pl2⟩
/-- the pools of MaySheep$Hill -/
def e_p3 : eP := ([(9, 2, 0, 1), (15, 2, 1, 0), (19, 2, 2, 0), (22, 2, 3, 0), (25, 2, 4, 0), (28, 2, 5, 3), (32, 2, 6, 3), (35, 2, 7, 3), (41, 2, 8, 3), (113, 9, 1, 0), (116, 8, 2, 3), (120, 8, 1, 3)], [(3, 0, 1, 11), (40, 4, 1, 2), (55, 18, 1, 28), (58, 20, 1, 29), (63, 39, 3, 22), (67, 52, 1, 29), (71, 40, 1, 29), (75, 41, 1, 29), (78, 42, 1, 0), (82, 43, 3, 29), (86, 44, 3, 22), (90, 45, 2, 29), (93, 46, 3, 22), (96, 47, 3, 29), (100, 48, 2, 22), (104, 49, 2, 22), (107, 50, 2, 22), (110, 51, 2, 22), (45, 0, 5, 10), (51, 55, 2, 28)], [(38, 8, 5)], [], [])
theorem e_pf3 : ∀ q ∈ e_p3.1, e_fok "MaySheep$Hill" q := by
  intro q hq
  rcases List.mem_cons.mp hq with rfl | hq
  · exact Or.inr (Or.inr ⟨by decide, _, rfl, by decide, rfl, lw_g1 120 (by decide +kernel) (by decide +kernel)⟩)
  rcases List.mem_cons.mp hq with rfl | hq
  · exact Or.inr (Or.inr ⟨by decide, _, rfl, by decide, rfl, lw_g1 122 (by decide +kernel) (by decide +kernel)⟩)
  rcases List.mem_cons.mp hq with rfl | hq
  · exact Or.inr (Or.inr ⟨by decide, _, rfl, by decide, rfl, lw_g1 125 (by decide +kernel) (by decide +kernel)⟩)
  rcases List.mem_cons.mp hq with rfl | hq
  · exact Or.inr (Or.inr ⟨by decide, _, rfl, by decide, rfl, lw_g1 129 (by decide +kernel) (by decide +kernel)⟩)
  rcases List.mem_cons.mp hq with rfl | hq
  · exact Or.inr (Or.inr ⟨by decide, _, rfl, by decide, rfl, lw_g1 134 (by decide +kernel) (by decide +kernel)⟩)
  rcases List.mem_cons.mp hq with rfl | hq
  · exact Or.inr (Or.inr ⟨by decide, _, rfl, by decide, rfl, lw_g1 138 (by decide +kernel) (by decide +kernel)⟩)
  rcases List.mem_cons.mp hq with rfl | hq
  · exact Or.inr (Or.inr ⟨by decide, _, rfl, by decide, rfl, lw_g1 143 (by decide +kernel) (by decide +kernel)⟩)
  rcases List.mem_cons.mp hq with rfl | hq
  · exact Or.inr (Or.inr ⟨by decide, _, rfl, by decide, rfl, lw_g1 147 (by decide +kernel) (by decide +kernel)⟩)
  rcases List.mem_cons.mp hq with rfl | hq
  · exact Or.inr (Or.inr ⟨by decide, _, rfl, by decide, rfl, lw_g1 151 (by decide +kernel) (by decide +kernel)⟩)
  rcases List.mem_cons.mp hq with rfl | hq
  · exact Or.inr (Or.inr ⟨by decide, _, rfl, by decide, rfl, lw_g1 41 (by decide +kernel) (by decide +kernel)⟩)
  rcases List.mem_cons.mp hq with rfl | hq
  · exact Or.inr (Or.inr ⟨by decide, _, rfl, by decide, rfl, lw_g1 100 (by decide +kernel) (by decide +kernel)⟩)
  rcases List.mem_cons.mp hq with rfl | hq
  · exact Or.inr (Or.inr ⟨by decide, _, rfl, by decide, rfl, lw_g1 94 (by decide +kernel) (by decide +kernel)⟩)
  cases hq
theorem e_pm3 : ∀ q ∈ e_p3.2.1, e_mlk e_ms "MaySheep$Hill" q := by
  intro q hq
  rcases List.mem_cons.mp hq with rfl | hq
  · exact Or.inr (Or.inl ⟨rfl, lw_g1 78 (by decide +kernel) (by decide +kernel)⟩)
  rcases List.mem_cons.mp hq with rfl | hq
  · exact Or.inr (Or.inr (Or.inr (Or.inr (Or.inr ⟨e_m4, 0, rfl, e_mo4, Or.inr (Or.inr (Or.inl ⟨rfl, rfl, rfl, "MaySheep", lw_ex_of 188 (by decide +kernel) (by decide +kernel)⟩))⟩))))
  rcases List.mem_cons.mp hq with rfl | hq
  · exact Or.inr (Or.inr (Or.inr (Or.inr (Or.inr ⟨e_m18, 0, rfl, e_mo18, Or.inr (Or.inr (Or.inr ⟨by decide, rfl, rfl, lw_g2 193 (by decide +kernel) (by decide +kernel)⟩))⟩))))
  rcases List.mem_cons.mp hq with rfl | hq
  · exact Or.inr (Or.inr (Or.inr (Or.inr (Or.inr ⟨e_m20, 0, rfl, e_mo20, Or.inr (Or.inr (Or.inr ⟨by decide, rfl, rfl, lw_g2 200 (by decide +kernel) (by decide +kernel)⟩))⟩))))
  rcases List.mem_cons.mp hq with rfl | hq
  · exact Or.inr (Or.inr (Or.inr (Or.inr (Or.inr ⟨e_m39, 2, rfl, e_mo39, Or.inr (Or.inr (Or.inr ⟨by decide, rfl, rfl, lw_g3 42 (by decide +kernel) (by decide +kernel)⟩))⟩))))
  rcases List.mem_cons.mp hq with rfl | hq
  · exact Or.inr (Or.inr (Or.inr (Or.inr (Or.inr ⟨e_m52, 0, rfl, e_mo52, Or.inr (Or.inr (Or.inr ⟨by decide, rfl, rfl, lw_g3 94 (by decide +kernel) (by decide +kernel)⟩))⟩))))
  rcases List.mem_cons.mp hq with rfl | hq
  · exact Or.inr (Or.inr (Or.inr (Or.inr (Or.inr ⟨e_m40, 0, rfl, e_mo40, Or.inr (Or.inr (Or.inr ⟨by decide, rfl, rfl, lw_g3 46 (by decide +kernel) (by decide +kernel)⟩))⟩))))
  rcases List.mem_cons.mp hq with rfl | hq
  · exact Or.inr (Or.inr (Or.inr (Or.inr (Or.inr ⟨e_m41, 0, rfl, e_mo41, Or.inr (Or.inr (Or.inr ⟨by decide, rfl, rfl, lw_g3 50 (by decide +kernel) (by decide +kernel)⟩))⟩))))
  rcases List.mem_cons.mp hq with rfl | hq
  · exact Or.inr (Or.inr (Or.inr (Or.inr (Or.inr ⟨e_m42, 1, rfl, e_mo42, Or.inl ⟨rfl, rfl, rfl, lw_g3 54 (by decide +kernel) (by decide +kernel)⟩⟩))))
  rcases List.mem_cons.mp hq with rfl | hq
  · exact Or.inr (Or.inr (Or.inr (Or.inr (Or.inr ⟨e_m43, 2, rfl, e_mo43, Or.inr (Or.inr (Or.inr ⟨by decide, rfl, rfl, lw_g3 57 (by decide +kernel) (by decide +kernel)⟩))⟩))))
  rcases List.mem_cons.mp hq with rfl | hq
  · exact Or.inr (Or.inr (Or.inr (Or.inr (Or.inr ⟨e_m44, 2, rfl, e_mo44, Or.inr (Or.inr (Or.inr ⟨by decide, rfl, rfl, lw_g3 61 (by decide +kernel) (by decide +kernel)⟩))⟩))))
  rcases List.mem_cons.mp hq with rfl | hq
  · exact Or.inr (Or.inr (Or.inr (Or.inr (Or.inr ⟨e_m45, 1, rfl, e_mo45, Or.inr (Or.inr (Or.inr ⟨by decide, rfl, rfl, lw_g3 65 (by decide +kernel) (by decide +kernel)⟩))⟩))))
  rcases List.mem_cons.mp hq with rfl | hq
  · exact Or.inr (Or.inr (Or.inr (Or.inr (Or.inr ⟨e_m46, 2, rfl, e_mo46, Or.inr (Or.inr (Or.inr ⟨by decide, rfl, rfl, lw_g3 69 (by decide +kernel) (by decide +kernel)⟩))⟩))))
  rcases List.mem_cons.mp hq with rfl | hq
  · exact Or.inr (Or.inr (Or.inr (Or.inr (Or.inr ⟨e_m47, 2, rfl, e_mo47, Or.inr (Or.inr (Or.inr ⟨by decide, rfl, rfl, lw_g3 73 (by decide +kernel) (by decide +kernel)⟩))⟩))))
  rcases List.mem_cons.mp hq with rfl | hq
  · exact Or.inr (Or.inr (Or.inr (Or.inr (Or.inr ⟨e_m48, 1, rfl, e_mo48, Or.inr (Or.inr (Or.inr ⟨by decide, rfl, rfl, lw_g3 78 (by decide +kernel) (by decide +kernel)⟩))⟩))))
  rcases List.mem_cons.mp hq with rfl | hq
  · exact Or.inr (Or.inr (Or.inr (Or.inr (Or.inr ⟨e_m49, 1, rfl, e_mo49, Or.inr (Or.inr (Or.inr ⟨by decide, rfl, rfl, lw_g3 82 (by decide +kernel) (by decide +kernel)⟩))⟩))))
  rcases List.mem_cons.mp hq with rfl | hq
  · exact Or.inr (Or.inr (Or.inr (Or.inr (Or.inr ⟨e_m50, 1, rfl, e_mo50, Or.inr (Or.inr (Or.inr ⟨by decide, rfl, rfl, lw_g3 86 (by decide +kernel) (by decide +kernel)⟩))⟩))))
  rcases List.mem_cons.mp hq with rfl | hq
  · exact Or.inr (Or.inr (Or.inr (Or.inr (Or.inr ⟨e_m51, 1, rfl, e_mo51, Or.inr (Or.inr (Or.inr ⟨by decide, rfl, rfl, lw_g3 90 (by decide +kernel) (by decide +kernel)⟩))⟩))))
  rcases List.mem_cons.mp hq with rfl | hq
  · exact Or.inl ⟨rfl, lw_g3 109 (by decide +kernel) (by decide +kernel)⟩
  rcases List.mem_cons.mp hq with rfl | hq
  · exact Or.inr (Or.inr (Or.inr (Or.inr (Or.inr ⟨e_m55, 1, rfl, e_mo55, Or.inr (Or.inr (Or.inr ⟨by decide, rfl, rfl, lw_g3 112 (by decide +kernel) (by decide +kernel)⟩))⟩))))
  cases hq
theorem e_pc3 : ∀ q ∈ e_p3.2.2.1, e_cok "MaySheep$Hill" q := by
  intro q hq
  rcases List.mem_cons.mp hq with rfl | hq
  · exact Or.inl ⟨by decide, _, rfl, rfl, lw_g1 79 (by decide +kernel) (by decide +kernel)⟩
  cases hq
theorem e_pi3 : ∀ q ∈ e_p3.2.2.2.1, Cond.constant "MaySheep$Hill" q.1 (Int32.ofInt q.2) ∈ lw_good := by
  intro q hq
  cases hq
theorem e_pl3 : ∀ q ∈ e_p3.2.2.2.2, Cond.constantLong "MaySheep$Hill" q.1 (Int64.ofInt q.2) ∈ lw_good := by
  intro q hq
  cases hq
theorem e_po3 : e_pok e_ms "MaySheep$Hill" e_p3 := ⟨e_pf3, e_pm3, e_pc3, e_pi3, e_pl3⟩
/-- the pools of MaySheep$State -/
def e_p4 : eP := ([(9, 8, 0, 3), (15, 8, 1, 3), (20, 8, 2, 3), (23, 8, 3, 3), (26, 8, 4, 0)], [(3, 0, 1, 11), (30, 19, 2, 0), (36, 0, 5, 10), (42, 0, 2, 13), (48, 0, 2, 12)], [(18, 27, 0)], [], [])
theorem e_pf4 : ∀ q ∈ e_p4.1, e_fok "MaySheep$State" q := by
  intro q hq
  rcases List.mem_cons.mp hq with rfl | hq
  · exact Or.inr (Or.inr ⟨by decide, _, rfl, by decide, rfl, lw_g1 87 (by decide +kernel) (by decide +kernel)⟩)
  rcases List.mem_cons.mp hq with rfl | hq
  · exact Or.inr (Or.inr ⟨by decide, _, rfl, by decide, rfl, lw_g1 91 (by decide +kernel) (by decide +kernel)⟩)
  rcases List.mem_cons.mp hq with rfl | hq
  · exact Or.inr (Or.inr ⟨by decide, _, rfl, by decide, rfl, lw_g1 96 (by decide +kernel) (by decide +kernel)⟩)
  rcases List.mem_cons.mp hq with rfl | hq
  · exact Or.inr (Or.inr ⟨by decide, _, rfl, by decide, rfl, lw_g1 101 (by decide +kernel) (by decide +kernel)⟩)
  rcases List.mem_cons.mp hq with rfl | hq
  · exact Or.inr (Or.inr ⟨by decide, _, rfl, by decide, rfl, lw_g1 105 (by decide +kernel) (by decide +kernel)⟩)
  cases hq
theorem e_pm4 : ∀ q ∈ e_p4.2.1, e_mlk e_ms "MaySheep$State" q := by
  intro q hq
  rcases List.mem_cons.mp hq with rfl | hq
  · exact Or.inr (Or.inl ⟨rfl, lw_g1 84 (by decide +kernel) (by decide +kernel)⟩)
  rcases List.mem_cons.mp hq with rfl | hq
  · exact Or.inr (Or.inr (Or.inr (Or.inr (Or.inr ⟨e_m19, 2, rfl, e_mo19, Or.inl ⟨rfl, rfl, rfl, lw_g2 197 (by decide +kernel) (by decide +kernel)⟩⟩))))
  rcases List.mem_cons.mp hq with rfl | hq
  · exact Or.inl ⟨rfl, lw_g3 116 (by decide +kernel) (by decide +kernel)⟩
  rcases List.mem_cons.mp hq with rfl | hq
  · exact Or.inr (Or.inr (Or.inr (Or.inl ⟨rfl, lw_g4 73 (by decide +kernel) (by decide +kernel)⟩)))
  rcases List.mem_cons.mp hq with rfl | hq
  · exact Or.inr (Or.inr (Or.inl ⟨rfl, lw_g4 74 (by decide +kernel) (by decide +kernel)⟩))
  cases hq
theorem e_pc4 : ∀ q ∈ e_p4.2.2.1, e_cok "MaySheep$State" q := by
  intro q hq
  rcases List.mem_cons.mp hq with rfl | hq
  · exact Or.inr (Or.inr ⟨rfl, lw_g1 85 (by decide +kernel) (by decide +kernel)⟩)
  cases hq
theorem e_pi4 : ∀ q ∈ e_p4.2.2.2.1, Cond.constant "MaySheep$State" q.1 (Int32.ofInt q.2) ∈ lw_good := by
  intro q hq
  cases hq
theorem e_pl4 : ∀ q ∈ e_p4.2.2.2.2, Cond.constantLong "MaySheep$State" q.1 (Int64.ofInt q.2) ∈ lw_good := by
  intro q hq
  cases hq
theorem e_po4 : e_pok e_ms "MaySheep$State" e_p4 := ⟨e_pf4, e_pm4, e_pc4, e_pi4, e_pl4⟩
/-- the pools of MaySheep$Notes -/
def e_p5 : eP := ([(7, 5, 0, 0), (13, 5, 1, 3), (17, 5, 2, 3), (20, 5, 3, 3), (39, 8, 0, 3)], [(1, 0, 1, 11), (23, 131, 1, 25), (33, 0, 2, 12), (27, 0, 5, 10)], [], [], [])
theorem e_pf5 : ∀ q ∈ e_p5.1, e_fok "MaySheep$Notes" q := by
  intro q hq
  rcases List.mem_cons.mp hq with rfl | hq
  · exact Or.inr (Or.inr ⟨by decide, _, rfl, by decide, rfl, lw_g1 181 (by decide +kernel) (by decide +kernel)⟩)
  rcases List.mem_cons.mp hq with rfl | hq
  · exact Or.inr (Or.inr ⟨by decide, _, rfl, by decide, rfl, lw_g1 184 (by decide +kernel) (by decide +kernel)⟩)
  rcases List.mem_cons.mp hq with rfl | hq
  · exact Or.inr (Or.inr ⟨by decide, _, rfl, by decide, rfl, lw_g1 185 (by decide +kernel) (by decide +kernel)⟩)
  rcases List.mem_cons.mp hq with rfl | hq
  · exact Or.inr (Or.inr ⟨by decide, _, rfl, by decide, rfl, lw_g1 186 (by decide +kernel) (by decide +kernel)⟩)
  rcases List.mem_cons.mp hq with rfl | hq
  · exact Or.inr (Or.inr ⟨by decide, _, rfl, by decide, rfl, lw_g1 89 (by decide +kernel) (by decide +kernel)⟩)
  cases hq
theorem e_pm5 : ∀ q ∈ e_p5.2.1, e_mlk e_ms "MaySheep$Notes" q := by
  intro q hq
  rcases List.mem_cons.mp hq with rfl | hq
  · exact Or.inr (Or.inl ⟨rfl, lw_g1 180 (by decide +kernel) (by decide +kernel)⟩)
  rcases List.mem_cons.mp hq with rfl | hq
  · exact Or.inr (Or.inr (Or.inr (Or.inr (Or.inr ⟨e_m131, 0, rfl, e_mo131, Or.inr (Or.inr (Or.inr ⟨by decide, rfl, rfl, lw_g4 232 (by decide +kernel) (by decide +kernel)⟩))⟩))))
  rcases List.mem_cons.mp hq with rfl | hq
  · exact Or.inr (Or.inr (Or.inl ⟨rfl, lw_g5 9 (by decide +kernel) (by decide +kernel)⟩))
  rcases List.mem_cons.mp hq with rfl | hq
  · exact Or.inl ⟨rfl, lw_g5 77 (by decide +kernel) (by decide +kernel)⟩
  cases hq
theorem e_pc5 : ∀ q ∈ e_p5.2.2.1, e_cok "MaySheep$Notes" q := by
  intro q hq
  cases hq
theorem e_pi5 : ∀ q ∈ e_p5.2.2.2.1, Cond.constant "MaySheep$Notes" q.1 (Int32.ofInt q.2) ∈ lw_good := by
  intro q hq
  cases hq
theorem e_pl5 : ∀ q ∈ e_p5.2.2.2.2, Cond.constantLong "MaySheep$Notes" q.1 (Int64.ofInt q.2) ∈ lw_good := by
  intro q hq
  cases hq
theorem e_po5 : e_pok e_ms "MaySheep$Notes" e_p5 := ⟨e_pf5, e_pm5, e_pc5, e_pi5, e_pl5⟩
/-- the pools of MaySheep$RuleReader -/
def e_p6 : eP := ([(11, 7, 0, 3), (17, 7, 1, 0), (21, 7, 2, 0), (43, 9, 1, 0)], [(3, 0, 1, 11), (24, 20, 1, 29), (27, 40, 1, 29), (31, 45, 2, 29), (35, 43, 3, 29), (39, 59, 2, 27), (46, 65, 3, 27), (52, 61, 3, 27), (55, 52, 1, 29), (82, 60, 2, 27), (72, 41, 1, 29), (85, 63, 1, 0), (88, 64, 1, 0), (92, 47, 3, 29), (79, 62, 1, 27), (65, 66, 3, 27), (68, 67, 2, 27), (75, 68, 1, 0), (59, 70, 2, 0)], [], [(91, 99999)], [])
theorem e_pf6 : ∀ q ∈ e_p6.1, e_fok "MaySheep$RuleReader" q := by
  intro q hq
  rcases List.mem_cons.mp hq with rfl | hq
  · exact Or.inr (Or.inr ⟨by decide, _, rfl, by decide, rfl, lw_g1 230 (by decide +kernel) (by decide +kernel)⟩)
  rcases List.mem_cons.mp hq with rfl | hq
  · exact Or.inr (Or.inr ⟨by decide, _, rfl, by decide, rfl, lw_g1 231 (by decide +kernel) (by decide +kernel)⟩)
  rcases List.mem_cons.mp hq with rfl | hq
  · exact Or.inr (Or.inr ⟨by decide, _, rfl, by decide, rfl, lw_g1 232 (by decide +kernel) (by decide +kernel)⟩)
  rcases List.mem_cons.mp hq with rfl | hq
  · exact Or.inr (Or.inr ⟨by decide, _, rfl, by decide, rfl, lw_g1 39 (by decide +kernel) (by decide +kernel)⟩)
  cases hq
theorem e_pm6 : ∀ q ∈ e_p6.2.1, e_mlk e_ms "MaySheep$RuleReader" q := by
  intro q hq
  rcases List.mem_cons.mp hq with rfl | hq
  · exact Or.inr (Or.inl ⟨rfl, lw_g1 229 (by decide +kernel) (by decide +kernel)⟩)
  rcases List.mem_cons.mp hq with rfl | hq
  · exact Or.inr (Or.inr (Or.inr (Or.inr (Or.inr ⟨e_m20, 0, rfl, e_mo20, Or.inr (Or.inr (Or.inr ⟨by decide, rfl, rfl, lw_g3 130 (by decide +kernel) (by decide +kernel)⟩))⟩))))
  rcases List.mem_cons.mp hq with rfl | hq
  · exact Or.inr (Or.inr (Or.inr (Or.inr (Or.inr ⟨e_m40, 0, rfl, e_mo40, Or.inr (Or.inr (Or.inr ⟨by decide, rfl, rfl, lw_g3 131 (by decide +kernel) (by decide +kernel)⟩))⟩))))
  rcases List.mem_cons.mp hq with rfl | hq
  · exact Or.inr (Or.inr (Or.inr (Or.inr (Or.inr ⟨e_m45, 1, rfl, e_mo45, Or.inr (Or.inr (Or.inr ⟨by decide, rfl, rfl, lw_g3 132 (by decide +kernel) (by decide +kernel)⟩))⟩))))
  rcases List.mem_cons.mp hq with rfl | hq
  · exact Or.inr (Or.inr (Or.inr (Or.inr (Or.inr ⟨e_m43, 2, rfl, e_mo43, Or.inr (Or.inr (Or.inr ⟨by decide, rfl, rfl, lw_g3 133 (by decide +kernel) (by decide +kernel)⟩))⟩))))
  rcases List.mem_cons.mp hq with rfl | hq
  · exact Or.inr (Or.inr (Or.inr (Or.inr (Or.inr ⟨e_m59, 1, rfl, e_mo59, Or.inr (Or.inr (Or.inr ⟨by decide, rfl, rfl, lw_g3 134 (by decide +kernel) (by decide +kernel)⟩))⟩))))
  rcases List.mem_cons.mp hq with rfl | hq
  · exact Or.inr (Or.inr (Or.inr (Or.inr (Or.inr ⟨e_m65, 2, rfl, e_mo65, Or.inr (Or.inr (Or.inr ⟨by decide, rfl, rfl, lw_g3 159 (by decide +kernel) (by decide +kernel)⟩))⟩))))
  rcases List.mem_cons.mp hq with rfl | hq
  · exact Or.inr (Or.inr (Or.inr (Or.inr (Or.inr ⟨e_m61, 2, rfl, e_mo61, Or.inr (Or.inr (Or.inr ⟨by decide, rfl, rfl, lw_g3 143 (by decide +kernel) (by decide +kernel)⟩))⟩))))
  rcases List.mem_cons.mp hq with rfl | hq
  · exact Or.inr (Or.inr (Or.inr (Or.inr (Or.inr ⟨e_m52, 0, rfl, e_mo52, Or.inr (Or.inr (Or.inr ⟨by decide, rfl, rfl, lw_g3 174 (by decide +kernel) (by decide +kernel)⟩))⟩))))
  rcases List.mem_cons.mp hq with rfl | hq
  · exact Or.inr (Or.inr (Or.inr (Or.inr (Or.inr ⟨e_m60, 1, rfl, e_mo60, Or.inr (Or.inr (Or.inr ⟨by decide, rfl, rfl, lw_g3 138 (by decide +kernel) (by decide +kernel)⟩))⟩))))
  rcases List.mem_cons.mp hq with rfl | hq
  · exact Or.inr (Or.inr (Or.inr (Or.inr (Or.inr ⟨e_m41, 0, rfl, e_mo41, Or.inr (Or.inr (Or.inr ⟨by decide, rfl, rfl, lw_g3 142 (by decide +kernel) (by decide +kernel)⟩))⟩))))
  rcases List.mem_cons.mp hq with rfl | hq
  · exact Or.inr (Or.inr (Or.inr (Or.inr (Or.inr ⟨e_m63, 1, rfl, e_mo63, Or.inl ⟨rfl, rfl, rfl, lw_g3 153 (by decide +kernel) (by decide +kernel)⟩⟩))))
  rcases List.mem_cons.mp hq with rfl | hq
  · exact Or.inr (Or.inr (Or.inr (Or.inr (Or.inr ⟨e_m64, 1, rfl, e_mo64, Or.inl ⟨rfl, rfl, rfl, lw_g3 156 (by decide +kernel) (by decide +kernel)⟩⟩))))
  rcases List.mem_cons.mp hq with rfl | hq
  · exact Or.inr (Or.inr (Or.inr (Or.inr (Or.inr ⟨e_m47, 2, rfl, e_mo47, Or.inr (Or.inr (Or.inr ⟨by decide, rfl, rfl, lw_g3 148 (by decide +kernel) (by decide +kernel)⟩))⟩))))
  rcases List.mem_cons.mp hq with rfl | hq
  · exact Or.inr (Or.inr (Or.inr (Or.inr (Or.inr ⟨e_m62, 0, rfl, e_mo62, Or.inr (Or.inr (Or.inr ⟨by decide, rfl, rfl, lw_g3 149 (by decide +kernel) (by decide +kernel)⟩))⟩))))
  rcases List.mem_cons.mp hq with rfl | hq
  · exact Or.inr (Or.inr (Or.inr (Or.inr (Or.inr ⟨e_m66, 2, rfl, e_mo66, Or.inr (Or.inr (Or.inr ⟨by decide, rfl, rfl, lw_g3 163 (by decide +kernel) (by decide +kernel)⟩))⟩))))
  rcases List.mem_cons.mp hq with rfl | hq
  · exact Or.inr (Or.inr (Or.inr (Or.inr (Or.inr ⟨e_m67, 1, rfl, e_mo67, Or.inr (Or.inr (Or.inr ⟨by decide, rfl, rfl, lw_g3 167 (by decide +kernel) (by decide +kernel)⟩))⟩))))
  rcases List.mem_cons.mp hq with rfl | hq
  · exact Or.inr (Or.inr (Or.inr (Or.inr (Or.inr ⟨e_m68, 1, rfl, e_mo68, Or.inl ⟨rfl, rfl, rfl, lw_g3 171 (by decide +kernel) (by decide +kernel)⟩⟩))))
  rcases List.mem_cons.mp hq with rfl | hq
  · exact Or.inr (Or.inr (Or.inr (Or.inr (Or.inr ⟨e_m70, 2, rfl, e_mo70, Or.inl ⟨rfl, rfl, rfl, lw_g3 180 (by decide +kernel) (by decide +kernel)⟩⟩))))
  cases hq
theorem e_pc6 : ∀ q ∈ e_p6.2.2.1, e_cok "MaySheep$RuleReader" q := by
  intro q hq
  cases hq
theorem e_pi6 : ∀ q ∈ e_p6.2.2.2.1, Cond.constant "MaySheep$RuleReader" q.1 (Int32.ofInt q.2) ∈ lw_good := by
  intro q hq
  rcases List.mem_cons.mp hq with rfl | hq
  · exact lw_g3 147 (by decide +kernel) (by decide +kernel)
  cases hq
theorem e_pl6 : ∀ q ∈ e_p6.2.2.2.2, Cond.constantLong "MaySheep$RuleReader" q.1 (Int64.ofInt q.2) ∈ lw_good := by
  intro q hq
  cases hq
theorem e_po6 : e_pok e_ms "MaySheep$RuleReader" e_p6 := ⟨e_pf6, e_pm6, e_pc6, e_pi6, e_pl6⟩
/-- the pools of MaySheep$Acts -/
def e_p7 : eP := ([(7, 0, 0, 0), (13, 0, 1, 0), (18, 0, 2, 3)], [(1, 0, 1, 11), (22, 4, 1, 2), (23, 55, 2, 28), (27, 0, 2, 13)], [(16, 26, 0), (16, 8, 5)], [], [])
theorem e_pf7 : ∀ q ∈ e_p7.1, e_fok "MaySheep$Acts" q := by
  intro q hq
  rcases List.mem_cons.mp hq with rfl | hq
  · exact Or.inr (Or.inr ⟨by decide, _, rfl, by decide, rfl, lw_g2 10 (by decide +kernel) (by decide +kernel)⟩)
  rcases List.mem_cons.mp hq with rfl | hq
  · exact Or.inr (Or.inr ⟨by decide, _, rfl, by decide, rfl, lw_g2 12 (by decide +kernel) (by decide +kernel)⟩)
  rcases List.mem_cons.mp hq with rfl | hq
  · exact Or.inr (Or.inr ⟨by decide, _, rfl, by decide, rfl, lw_g2 13 (by decide +kernel) (by decide +kernel)⟩)
  cases hq
theorem e_pm7 : ∀ q ∈ e_p7.2.1, e_mlk e_ms "MaySheep$Acts" q := by
  intro q hq
  rcases List.mem_cons.mp hq with rfl | hq
  · exact Or.inr (Or.inl ⟨rfl, lw_g2 7 (by decide +kernel) (by decide +kernel)⟩)
  rcases List.mem_cons.mp hq with rfl | hq
  · exact Or.inr (Or.inr (Or.inr (Or.inr (Or.inr ⟨e_m4, 0, rfl, e_mo4, Or.inr (Or.inr (Or.inl ⟨rfl, rfl, rfl, "MaySheep", lw_ex_of 834 (by decide +kernel) (by decide +kernel)⟩))⟩))))
  rcases List.mem_cons.mp hq with rfl | hq
  · exact Or.inr (Or.inr (Or.inr (Or.inr (Or.inr ⟨e_m55, 1, rfl, e_mo55, Or.inr (Or.inr (Or.inr ⟨by decide, rfl, rfl, lw_g4 8 (by decide +kernel) (by decide +kernel)⟩))⟩))))
  rcases List.mem_cons.mp hq with rfl | hq
  · exact Or.inr (Or.inr (Or.inr (Or.inl ⟨rfl, lw_g4 9 (by decide +kernel) (by decide +kernel)⟩)))
  cases hq
theorem e_pc7 : ∀ q ∈ e_p7.2.2.1, e_cok "MaySheep$Acts" q := by
  intro q hq
  rcases List.mem_cons.mp hq with rfl | hq
  · exact Or.inr (Or.inl ⟨_, Or.inr (Or.inr ⟨rfl, rfl⟩), lw_g2 8 (by decide +kernel) (by decide +kernel), lw_ex_of 356 (by decide +kernel) (by decide +kernel)⟩)
  rcases List.mem_cons.mp hq with rfl | hq
  · exact Or.inl ⟨by decide, _, rfl, rfl, lw_g2 8 (by decide +kernel) (by decide +kernel)⟩
  cases hq
theorem e_pi7 : ∀ q ∈ e_p7.2.2.2.1, Cond.constant "MaySheep$Acts" q.1 (Int32.ofInt q.2) ∈ lw_good := by
  intro q hq
  cases hq
theorem e_pl7 : ∀ q ∈ e_p7.2.2.2.2, Cond.constantLong "MaySheep$Acts" q.1 (Int64.ofInt q.2) ∈ lw_good := by
  intro q hq
  cases hq
theorem e_po7 : e_pok e_ms "MaySheep$Acts" e_p7 := ⟨e_pf7, e_pm7, e_pc7, e_pi7, e_pl7⟩
/-- the pools of MaySheep$Leaders -/
def e_p8 : eP := ([(9, 3, 0, 3), (15, 3, 1, 3), (18, 3, 2, 3), (27, 2, 3, 0), (33, 8, 1, 3), (42, 2, 5, 3)], [(3, 0, 1, 11), (21, 19, 2, 0), (38, 76, 2, 0), (43, 0, 2, 13)], [], [], [])
theorem e_pf8 : ∀ q ∈ e_p8.1, e_fok "MaySheep$Leaders" q := by
  intro q hq
  rcases List.mem_cons.mp hq with rfl | hq
  · exact Or.inr (Or.inr ⟨by decide, _, rfl, by decide, rfl, lw_g2 27 (by decide +kernel) (by decide +kernel)⟩)
  rcases List.mem_cons.mp hq with rfl | hq
  · exact Or.inr (Or.inr ⟨by decide, _, rfl, by decide, rfl, lw_g2 31 (by decide +kernel) (by decide +kernel)⟩)
  rcases List.mem_cons.mp hq with rfl | hq
  · exact Or.inr (Or.inr ⟨by decide, _, rfl, by decide, rfl, lw_g2 35 (by decide +kernel) (by decide +kernel)⟩)
  rcases List.mem_cons.mp hq with rfl | hq
  · exact Or.inr (Or.inr ⟨by decide, _, rfl, by decide, rfl, lw_g1 130 (by decide +kernel) (by decide +kernel)⟩)
  rcases List.mem_cons.mp hq with rfl | hq
  · exact Or.inr (Or.inr ⟨by decide, _, rfl, by decide, rfl, lw_g1 92 (by decide +kernel) (by decide +kernel)⟩)
  rcases List.mem_cons.mp hq with rfl | hq
  · exact Or.inr (Or.inr ⟨by decide, _, rfl, by decide, rfl, lw_g1 139 (by decide +kernel) (by decide +kernel)⟩)
  cases hq
theorem e_pm8 : ∀ q ∈ e_p8.2.1, e_mlk e_ms "MaySheep$Leaders" q := by
  intro q hq
  rcases List.mem_cons.mp hq with rfl | hq
  · exact Or.inr (Or.inl ⟨rfl, lw_g2 26 (by decide +kernel) (by decide +kernel)⟩)
  rcases List.mem_cons.mp hq with rfl | hq
  · exact Or.inr (Or.inr (Or.inr (Or.inr (Or.inr ⟨e_m19, 2, rfl, e_mo19, Or.inl ⟨rfl, rfl, rfl, lw_g3 218 (by decide +kernel) (by decide +kernel)⟩⟩))))
  rcases List.mem_cons.mp hq with rfl | hq
  · exact Or.inr (Or.inr (Or.inr (Or.inr (Or.inr ⟨e_m76, 2, rfl, e_mo76, Or.inl ⟨rfl, rfl, rfl, lw_g3 219 (by decide +kernel) (by decide +kernel)⟩⟩))))
  rcases List.mem_cons.mp hq with rfl | hq
  · exact Or.inr (Or.inr (Or.inr (Or.inl ⟨rfl, lw_g3 222 (by decide +kernel) (by decide +kernel)⟩)))
  cases hq
theorem e_pc8 : ∀ q ∈ e_p8.2.2.1, e_cok "MaySheep$Leaders" q := by
  intro q hq
  cases hq
theorem e_pi8 : ∀ q ∈ e_p8.2.2.2.1, Cond.constant "MaySheep$Leaders" q.1 (Int32.ofInt q.2) ∈ lw_good := by
  intro q hq
  cases hq
theorem e_pl8 : ∀ q ∈ e_p8.2.2.2.2, Cond.constantLong "MaySheep$Leaders" q.1 (Int64.ofInt q.2) ∈ lw_good := by
  intro q hq
  cases hq
theorem e_po8 : e_pok e_ms "MaySheep$Leaders" e_p8 := ⟨e_pf8, e_pm8, e_pc8, e_pi8, e_pl8⟩
/-- the pools of MaySheep$Mays -/
def e_p9 : eP := ([(12, 4, 0, 3), (21, 4, 1, 3), (28, 4, 2, 3), (32, 4, 3, 3), (36, 4, 4, 3), (40, 4, 5, 3), (44, 4, 6, 3), (49, 4, 7, 3), (53, 4, 8, 3), (70, 2, 4, 0), (81, 8, 4, 0), (87, 2, 3, 0), (98, 8, 0, 3), (101, 3, 0, 3), (104, 8, 2, 3), (119, 2, 7, 3), (122, 2, 6, 3), (125, 3, 1, 3), (128, 3, 2, 3), (131, 8, 3, 3), (134, 2, 2, 0), (137, 2, 5, 3), (139, 2, 1, 0)], [(3, 0, 1, 11), (11, 4, 1, 2), (20, 8, 1, 2), (27, 3, 1, 2), (56, 54, 2, 22), (60, 55, 2, 28), (63, 75, 3, 23), (67, 86, 1, 24), (74, 95, 2, 24), (78, 96, 2, 24), (84, 87, 1, 24), (90, 89, 2, 23), (94, 90, 2, 24), (116, 88, 3, 28), (108, 91, 3, 24), (112, 92, 3, 26), (142, 0, 2, 13), (147, 97, 4, 28)], [(9, 8, 5), (18, 3, 3), (25, 2, 9)], [(138, 99999)], [])
theorem e_pf9 : ∀ q ∈ e_p9.1, e_fok "MaySheep$Mays" q := by
  intro q hq
  rcases List.mem_cons.mp hq with rfl | hq
  · exact Or.inr (Or.inr ⟨by decide, _, rfl, by decide, rfl, lw_g2 57 (by decide +kernel) (by decide +kernel)⟩)
  rcases List.mem_cons.mp hq with rfl | hq
  · exact Or.inr (Or.inr ⟨by decide, _, rfl, by decide, rfl, lw_g2 60 (by decide +kernel) (by decide +kernel)⟩)
  rcases List.mem_cons.mp hq with rfl | hq
  · exact Or.inr (Or.inr ⟨by decide, _, rfl, by decide, rfl, lw_g2 62 (by decide +kernel) (by decide +kernel)⟩)
  rcases List.mem_cons.mp hq with rfl | hq
  · exact Or.inr (Or.inr ⟨by decide, _, rfl, by decide, rfl, lw_g2 64 (by decide +kernel) (by decide +kernel)⟩)
  rcases List.mem_cons.mp hq with rfl | hq
  · exact Or.inr (Or.inr ⟨by decide, _, rfl, by decide, rfl, lw_g2 66 (by decide +kernel) (by decide +kernel)⟩)
  rcases List.mem_cons.mp hq with rfl | hq
  · exact Or.inr (Or.inr ⟨by decide, _, rfl, by decide, rfl, lw_g2 67 (by decide +kernel) (by decide +kernel)⟩)
  rcases List.mem_cons.mp hq with rfl | hq
  · exact Or.inr (Or.inr ⟨by decide, _, rfl, by decide, rfl, lw_g2 68 (by decide +kernel) (by decide +kernel)⟩)
  rcases List.mem_cons.mp hq with rfl | hq
  · exact Or.inr (Or.inr ⟨by decide, _, rfl, by decide, rfl, lw_g2 69 (by decide +kernel) (by decide +kernel)⟩)
  rcases List.mem_cons.mp hq with rfl | hq
  · exact Or.inr (Or.inr ⟨by decide, _, rfl, by decide, rfl, lw_g2 70 (by decide +kernel) (by decide +kernel)⟩)
  rcases List.mem_cons.mp hq with rfl | hq
  · exact Or.inr (Or.inr ⟨by decide, _, rfl, by decide, rfl, lw_g1 135 (by decide +kernel) (by decide +kernel)⟩)
  rcases List.mem_cons.mp hq with rfl | hq
  · exact Or.inr (Or.inr ⟨by decide, _, rfl, by decide, rfl, lw_g1 106 (by decide +kernel) (by decide +kernel)⟩)
  rcases List.mem_cons.mp hq with rfl | hq
  · exact Or.inr (Or.inr ⟨by decide, _, rfl, by decide, rfl, lw_g1 132 (by decide +kernel) (by decide +kernel)⟩)
  rcases List.mem_cons.mp hq with rfl | hq
  · exact Or.inr (Or.inr ⟨by decide, _, rfl, by decide, rfl, lw_g1 88 (by decide +kernel) (by decide +kernel)⟩)
  rcases List.mem_cons.mp hq with rfl | hq
  · exact Or.inr (Or.inr ⟨by decide, _, rfl, by decide, rfl, lw_g2 28 (by decide +kernel) (by decide +kernel)⟩)
  rcases List.mem_cons.mp hq with rfl | hq
  · exact Or.inr (Or.inr ⟨by decide, _, rfl, by decide, rfl, lw_g1 98 (by decide +kernel) (by decide +kernel)⟩)
  rcases List.mem_cons.mp hq with rfl | hq
  · exact Or.inr (Or.inr ⟨by decide, _, rfl, by decide, rfl, lw_g1 148 (by decide +kernel) (by decide +kernel)⟩)
  rcases List.mem_cons.mp hq with rfl | hq
  · exact Or.inr (Or.inr ⟨by decide, _, rfl, by decide, rfl, lw_g1 144 (by decide +kernel) (by decide +kernel)⟩)
  rcases List.mem_cons.mp hq with rfl | hq
  · exact Or.inr (Or.inr ⟨by decide, _, rfl, by decide, rfl, lw_g2 33 (by decide +kernel) (by decide +kernel)⟩)
  rcases List.mem_cons.mp hq with rfl | hq
  · exact Or.inr (Or.inr ⟨by decide, _, rfl, by decide, rfl, lw_g2 36 (by decide +kernel) (by decide +kernel)⟩)
  rcases List.mem_cons.mp hq with rfl | hq
  · exact Or.inr (Or.inr ⟨by decide, _, rfl, by decide, rfl, lw_g1 102 (by decide +kernel) (by decide +kernel)⟩)
  rcases List.mem_cons.mp hq with rfl | hq
  · exact Or.inr (Or.inr ⟨by decide, _, rfl, by decide, rfl, lw_g1 126 (by decide +kernel) (by decide +kernel)⟩)
  rcases List.mem_cons.mp hq with rfl | hq
  · exact Or.inr (Or.inr ⟨by decide, _, rfl, by decide, rfl, lw_g1 141 (by decide +kernel) (by decide +kernel)⟩)
  rcases List.mem_cons.mp hq with rfl | hq
  · exact Or.inr (Or.inr ⟨by decide, _, rfl, by decide, rfl, lw_g1 123 (by decide +kernel) (by decide +kernel)⟩)
  cases hq
theorem e_pm9 : ∀ q ∈ e_p9.2.1, e_mlk e_ms "MaySheep$Mays" q := by
  intro q hq
  rcases List.mem_cons.mp hq with rfl | hq
  · exact Or.inr (Or.inl ⟨rfl, lw_g2 50 (by decide +kernel) (by decide +kernel)⟩)
  rcases List.mem_cons.mp hq with rfl | hq
  · exact Or.inr (Or.inr (Or.inr (Or.inr (Or.inr ⟨e_m4, 0, rfl, e_mo4, Or.inr (Or.inr (Or.inl ⟨rfl, rfl, rfl, "MaySheep", lw_ex_of 399 (by decide +kernel) (by decide +kernel)⟩))⟩))))
  rcases List.mem_cons.mp hq with rfl | hq
  · exact Or.inr (Or.inr (Or.inr (Or.inr (Or.inr ⟨e_m8, 0, rfl, e_mo8, Or.inr (Or.inr (Or.inl ⟨rfl, rfl, rfl, "MaySheep", lw_ex_of 401 (by decide +kernel) (by decide +kernel)⟩))⟩))))
  rcases List.mem_cons.mp hq with rfl | hq
  · exact Or.inr (Or.inr (Or.inr (Or.inr (Or.inr ⟨e_m3, 0, rfl, e_mo3, Or.inr (Or.inr (Or.inl ⟨rfl, rfl, rfl, "MaySheep", lw_ex_of 403 (by decide +kernel) (by decide +kernel)⟩))⟩))))
  rcases List.mem_cons.mp hq with rfl | hq
  · exact Or.inr (Or.inr (Or.inr (Or.inr (Or.inr ⟨e_m54, 1, rfl, e_mo54, Or.inr (Or.inr (Or.inr ⟨by decide, rfl, rfl, lw_g4 18 (by decide +kernel) (by decide +kernel)⟩))⟩))))
  rcases List.mem_cons.mp hq with rfl | hq
  · exact Or.inr (Or.inr (Or.inr (Or.inr (Or.inr ⟨e_m55, 1, rfl, e_mo55, Or.inr (Or.inr (Or.inr ⟨by decide, rfl, rfl, lw_g4 19 (by decide +kernel) (by decide +kernel)⟩))⟩))))
  rcases List.mem_cons.mp hq with rfl | hq
  · exact Or.inr (Or.inr (Or.inr (Or.inr (Or.inr ⟨e_m75, 2, rfl, e_mo75, Or.inr (Or.inr (Or.inr ⟨by decide, rfl, rfl, lw_g4 20 (by decide +kernel) (by decide +kernel)⟩))⟩))))
  rcases List.mem_cons.mp hq with rfl | hq
  · exact Or.inr (Or.inr (Or.inr (Or.inr (Or.inr ⟨e_m86, 0, rfl, e_mo86, Or.inr (Or.inr (Or.inr ⟨by decide, rfl, rfl, lw_g4 25 (by decide +kernel) (by decide +kernel)⟩))⟩))))
  rcases List.mem_cons.mp hq with rfl | hq
  · exact Or.inr (Or.inr (Or.inr (Or.inr (Or.inr ⟨e_m95, 1, rfl, e_mo95, Or.inr (Or.inr (Or.inr ⟨by decide, rfl, rfl, lw_g4 59 (by decide +kernel) (by decide +kernel)⟩))⟩))))
  rcases List.mem_cons.mp hq with rfl | hq
  · exact Or.inr (Or.inr (Or.inr (Or.inr (Or.inr ⟨e_m96, 1, rfl, e_mo96, Or.inr (Or.inr (Or.inr ⟨by decide, rfl, rfl, lw_g4 65 (by decide +kernel) (by decide +kernel)⟩))⟩))))
  rcases List.mem_cons.mp hq with rfl | hq
  · exact Or.inr (Or.inr (Or.inr (Or.inr (Or.inr ⟨e_m87, 0, rfl, e_mo87, Or.inr (Or.inr (Or.inr ⟨by decide, rfl, rfl, lw_g4 29 (by decide +kernel) (by decide +kernel)⟩))⟩))))
  rcases List.mem_cons.mp hq with rfl | hq
  · exact Or.inr (Or.inr (Or.inr (Or.inr (Or.inr ⟨e_m89, 1, rfl, e_mo89, Or.inr (Or.inr (Or.inr ⟨by decide, rfl, rfl, lw_g4 37 (by decide +kernel) (by decide +kernel)⟩))⟩))))
  rcases List.mem_cons.mp hq with rfl | hq
  · exact Or.inr (Or.inr (Or.inr (Or.inr (Or.inr ⟨e_m90, 1, rfl, e_mo90, Or.inr (Or.inr (Or.inr ⟨by decide, rfl, rfl, lw_g4 41 (by decide +kernel) (by decide +kernel)⟩))⟩))))
  rcases List.mem_cons.mp hq with rfl | hq
  · exact Or.inr (Or.inr (Or.inr (Or.inr (Or.inr ⟨e_m88, 2, rfl, e_mo88, Or.inr (Or.inr (Or.inr ⟨by decide, rfl, rfl, lw_g4 33 (by decide +kernel) (by decide +kernel)⟩))⟩))))
  rcases List.mem_cons.mp hq with rfl | hq
  · exact Or.inr (Or.inr (Or.inr (Or.inr (Or.inr ⟨e_m91, 2, rfl, e_mo91, Or.inr (Or.inr (Or.inr ⟨by decide, rfl, rfl, lw_g4 45 (by decide +kernel) (by decide +kernel)⟩))⟩))))
  rcases List.mem_cons.mp hq with rfl | hq
  · exact Or.inr (Or.inr (Or.inr (Or.inr (Or.inr ⟨e_m92, 2, rfl, e_mo92, Or.inr (Or.inr (Or.inr ⟨by decide, rfl, rfl, lw_g4 49 (by decide +kernel) (by decide +kernel)⟩))⟩))))
  rcases List.mem_cons.mp hq with rfl | hq
  · exact Or.inr (Or.inr (Or.inr (Or.inl ⟨rfl, lw_g4 64 (by decide +kernel) (by decide +kernel)⟩)))
  rcases List.mem_cons.mp hq with rfl | hq
  · exact Or.inr (Or.inr (Or.inr (Or.inr (Or.inr ⟨e_m97, 3, rfl, e_mo97, Or.inr (Or.inr (Or.inr ⟨by decide, rfl, rfl, lw_g4 69 (by decide +kernel) (by decide +kernel)⟩))⟩))))
  cases hq
theorem e_pc9 : ∀ q ∈ e_p9.2.2.1, e_cok "MaySheep$Mays" q := by
  intro q hq
  rcases List.mem_cons.mp hq with rfl | hq
  · exact Or.inl ⟨by decide, _, rfl, rfl, lw_g2 51 (by decide +kernel) (by decide +kernel)⟩
  rcases List.mem_cons.mp hq with rfl | hq
  · exact Or.inl ⟨by decide, _, rfl, rfl, lw_g2 53 (by decide +kernel) (by decide +kernel)⟩
  rcases List.mem_cons.mp hq with rfl | hq
  · exact Or.inl ⟨by decide, _, rfl, rfl, lw_g2 55 (by decide +kernel) (by decide +kernel)⟩
  cases hq
theorem e_pi9 : ∀ q ∈ e_p9.2.2.2.1, Cond.constant "MaySheep$Mays" q.1 (Int32.ofInt q.2) ∈ lw_good := by
  intro q hq
  rcases List.mem_cons.mp hq with rfl | hq
  · exact lw_g4 63 (by decide +kernel) (by decide +kernel)
  cases hq
theorem e_pl9 : ∀ q ∈ e_p9.2.2.2.2, Cond.constantLong "MaySheep$Mays" q.1 (Int64.ofInt q.2) ∈ lw_good := by
  intro q hq
  cases hq
theorem e_po9 : e_pok e_ms "MaySheep$Mays" e_p9 := ⟨e_pf9, e_pm9, e_pc9, e_pi9, e_pl9⟩
/-- the pools of MaySheep$Asked -/
def e_p10 : eP := ([(9, 1, 0, 3), (18, 1, 1, 3), (22, 1, 2, 3), (25, 1, 3, 3), (28, 1, 4, 3), (31, 1, 5, 3), (34, 1, 6, 3), (37, 1, 7, 3), (40, 1, 8, 3), (43, 1, 9, 3), (46, 10, 0, 3), (52, 2, 3, 0), (58, 10, 1, 3), (73, 4, 0, 3), (74, 8, 2, 3), (84, 4, 1, 3), (98, 3, 1, 3), (105, 2, 4, 0), (117, 2, 6, 3), (120, 2, 2, 0), (131, 4, 2, 3), (132, 2, 7, 3), (139, 8, 3, 3), (150, 3, 2, 3), (156, 8, 4, 0), (159, 2, 5, 3), (160, 3, 0, 3), (170, 8, 1, 3), (199, 10, 2, 3), (209, 2, 8, 3), (216, 10, 4, 0), (232, 4, 3, 3)], [(3, 0, 1, 11), (17, 9, 1, 2), (62, 84, 4, 24), (66, 87, 1, 24), (69, 106, 3, 21), (80, 107, 3, 21), (88, 89, 2, 23), (94, 90, 2, 24), (113, 108, 4, 21), (101, 111, 3, 0), (108, 0, 2, 12), (123, 0, 2, 13), (126, 114, 1, 0), (135, 85, 2, 24), (142, 117, 3, 21), (146, 120, 2, 0), (153, 123, 2, 28), (163, 0, 1, 14), (166, 128, 6, 21), (173, 75, 3, 23), (177, 86, 1, 24), (180, 88, 3, 28), (183, 135, 4, 21), (203, 136, 1, 25), (212, 137, 3, 25), (187, 140, 3, 21), (190, 19, 2, 0), (196, 141, 2, 0), (219, 145, 4, 21), (223, 146, 2, 28)], [(15, 4, 9)], [], [(226, 1103515245), (228, 12345), (230, 2147483648), (236, 65536), (238, 100)])
theorem e_pf10 : ∀ q ∈ e_p10.1, e_fok "MaySheep$Asked" q := by
  intro q hq
  rcases List.mem_cons.mp hq with rfl | hq
  · exact Or.inr (Or.inr ⟨by decide, _, rfl, by decide, rfl, lw_g2 100 (by decide +kernel) (by decide +kernel)⟩)
  rcases List.mem_cons.mp hq with rfl | hq
  · exact Or.inr (Or.inr ⟨by decide, _, rfl, by decide, rfl, lw_g2 102 (by decide +kernel) (by decide +kernel)⟩)
  rcases List.mem_cons.mp hq with rfl | hq
  · exact Or.inr (Or.inr ⟨by decide, _, rfl, by decide, rfl, lw_g2 103 (by decide +kernel) (by decide +kernel)⟩)
  rcases List.mem_cons.mp hq with rfl | hq
  · exact Or.inr (Or.inr ⟨by decide, _, rfl, by decide, rfl, lw_g2 104 (by decide +kernel) (by decide +kernel)⟩)
  rcases List.mem_cons.mp hq with rfl | hq
  · exact Or.inr (Or.inr ⟨by decide, _, rfl, by decide, rfl, lw_g2 105 (by decide +kernel) (by decide +kernel)⟩)
  rcases List.mem_cons.mp hq with rfl | hq
  · exact Or.inr (Or.inr ⟨by decide, _, rfl, by decide, rfl, lw_g2 106 (by decide +kernel) (by decide +kernel)⟩)
  rcases List.mem_cons.mp hq with rfl | hq
  · exact Or.inr (Or.inr ⟨by decide, _, rfl, by decide, rfl, lw_g2 107 (by decide +kernel) (by decide +kernel)⟩)
  rcases List.mem_cons.mp hq with rfl | hq
  · exact Or.inr (Or.inr ⟨by decide, _, rfl, by decide, rfl, lw_g2 108 (by decide +kernel) (by decide +kernel)⟩)
  rcases List.mem_cons.mp hq with rfl | hq
  · exact Or.inr (Or.inr ⟨by decide, _, rfl, by decide, rfl, lw_g2 109 (by decide +kernel) (by decide +kernel)⟩)
  rcases List.mem_cons.mp hq with rfl | hq
  · exact Or.inr (Or.inr ⟨by decide, _, rfl, by decide, rfl, lw_g2 110 (by decide +kernel) (by decide +kernel)⟩)
  rcases List.mem_cons.mp hq with rfl | hq
  · exact Or.inr (Or.inr ⟨by decide, _, rfl, by decide, rfl, lw_g1 197 (by decide +kernel) (by decide +kernel)⟩)
  rcases List.mem_cons.mp hq with rfl | hq
  · exact Or.inr (Or.inr ⟨by decide, _, rfl, by decide, rfl, lw_g1 131 (by decide +kernel) (by decide +kernel)⟩)
  rcases List.mem_cons.mp hq with rfl | hq
  · exact Or.inr (Or.inr ⟨by decide, _, rfl, by decide, rfl, lw_g1 200 (by decide +kernel) (by decide +kernel)⟩)
  rcases List.mem_cons.mp hq with rfl | hq
  · exact Or.inr (Or.inr ⟨by decide, _, rfl, by decide, rfl, lw_g2 58 (by decide +kernel) (by decide +kernel)⟩)
  rcases List.mem_cons.mp hq with rfl | hq
  · exact Or.inr (Or.inr ⟨by decide, _, rfl, by decide, rfl, lw_g1 97 (by decide +kernel) (by decide +kernel)⟩)
  rcases List.mem_cons.mp hq with rfl | hq
  · exact Or.inr (Or.inr ⟨by decide, _, rfl, by decide, rfl, lw_g2 61 (by decide +kernel) (by decide +kernel)⟩)
  rcases List.mem_cons.mp hq with rfl | hq
  · exact Or.inr (Or.inr ⟨by decide, _, rfl, by decide, rfl, lw_g2 32 (by decide +kernel) (by decide +kernel)⟩)
  rcases List.mem_cons.mp hq with rfl | hq
  · exact Or.inr (Or.inr ⟨by decide, _, rfl, by decide, rfl, lw_g1 136 (by decide +kernel) (by decide +kernel)⟩)
  rcases List.mem_cons.mp hq with rfl | hq
  · exact Or.inr (Or.inr ⟨by decide, _, rfl, by decide, rfl, lw_g1 146 (by decide +kernel) (by decide +kernel)⟩)
  rcases List.mem_cons.mp hq with rfl | hq
  · exact Or.inr (Or.inr ⟨by decide, _, rfl, by decide, rfl, lw_g1 127 (by decide +kernel) (by decide +kernel)⟩)
  rcases List.mem_cons.mp hq with rfl | hq
  · exact Or.inr (Or.inr ⟨by decide, _, rfl, by decide, rfl, lw_g2 63 (by decide +kernel) (by decide +kernel)⟩)
  rcases List.mem_cons.mp hq with rfl | hq
  · exact Or.inr (Or.inr ⟨by decide, _, rfl, by decide, rfl, lw_g1 150 (by decide +kernel) (by decide +kernel)⟩)
  rcases List.mem_cons.mp hq with rfl | hq
  · exact Or.inr (Or.inr ⟨by decide, _, rfl, by decide, rfl, lw_g1 104 (by decide +kernel) (by decide +kernel)⟩)
  rcases List.mem_cons.mp hq with rfl | hq
  · exact Or.inr (Or.inr ⟨by decide, _, rfl, by decide, rfl, lw_g2 37 (by decide +kernel) (by decide +kernel)⟩)
  rcases List.mem_cons.mp hq with rfl | hq
  · exact Or.inr (Or.inr ⟨by decide, _, rfl, by decide, rfl, lw_g1 108 (by decide +kernel) (by decide +kernel)⟩)
  rcases List.mem_cons.mp hq with rfl | hq
  · exact Or.inr (Or.inr ⟨by decide, _, rfl, by decide, rfl, lw_g1 142 (by decide +kernel) (by decide +kernel)⟩)
  rcases List.mem_cons.mp hq with rfl | hq
  · exact Or.inr (Or.inr ⟨by decide, _, rfl, by decide, rfl, lw_g2 30 (by decide +kernel) (by decide +kernel)⟩)
  rcases List.mem_cons.mp hq with rfl | hq
  · exact Or.inr (Or.inr ⟨by decide, _, rfl, by decide, rfl, lw_g1 95 (by decide +kernel) (by decide +kernel)⟩)
  rcases List.mem_cons.mp hq with rfl | hq
  · exact Or.inr (Or.inr ⟨by decide, _, rfl, by decide, rfl, lw_g1 203 (by decide +kernel) (by decide +kernel)⟩)
  rcases List.mem_cons.mp hq with rfl | hq
  · exact Or.inr (Or.inr ⟨by decide, _, rfl, by decide, rfl, lw_g1 153 (by decide +kernel) (by decide +kernel)⟩)
  rcases List.mem_cons.mp hq with rfl | hq
  · exact Or.inr (Or.inr ⟨by decide, _, rfl, by decide, rfl, lw_g1 208 (by decide +kernel) (by decide +kernel)⟩)
  rcases List.mem_cons.mp hq with rfl | hq
  · exact Or.inr (Or.inr ⟨by decide, _, rfl, by decide, rfl, lw_g2 65 (by decide +kernel) (by decide +kernel)⟩)
  cases hq
theorem e_pm10 : ∀ q ∈ e_p10.2.1, e_mlk e_ms "MaySheep$Asked" q := by
  intro q hq
  rcases List.mem_cons.mp hq with rfl | hq
  · exact Or.inr (Or.inl ⟨rfl, lw_g2 97 (by decide +kernel) (by decide +kernel)⟩)
  rcases List.mem_cons.mp hq with rfl | hq
  · exact Or.inr (Or.inr (Or.inr (Or.inr (Or.inr ⟨e_m9, 0, rfl, e_mo9, Or.inr (Or.inr (Or.inl ⟨rfl, rfl, rfl, "MaySheep", lw_ex_of 446 (by decide +kernel) (by decide +kernel)⟩))⟩))))
  rcases List.mem_cons.mp hq with rfl | hq
  · exact Or.inr (Or.inr (Or.inr (Or.inr (Or.inr ⟨e_m84, 3, rfl, e_mo84, Or.inr (Or.inr (Or.inr ⟨by decide, rfl, rfl, lw_g4 110 (by decide +kernel) (by decide +kernel)⟩))⟩))))
  rcases List.mem_cons.mp hq with rfl | hq
  · exact Or.inr (Or.inr (Or.inr (Or.inr (Or.inr ⟨e_m87, 0, rfl, e_mo87, Or.inr (Or.inr (Or.inr ⟨by decide, rfl, rfl, lw_g4 111 (by decide +kernel) (by decide +kernel)⟩))⟩))))
  rcases List.mem_cons.mp hq with rfl | hq
  · exact Or.inr (Or.inr (Or.inr (Or.inr (Or.inr ⟨e_m106, 2, rfl, e_mo106, Or.inr (Or.inr (Or.inr ⟨by decide, rfl, rfl, lw_g4 112 (by decide +kernel) (by decide +kernel)⟩))⟩))))
  rcases List.mem_cons.mp hq with rfl | hq
  · exact Or.inr (Or.inr (Or.inr (Or.inr (Or.inr ⟨e_m107, 2, rfl, e_mo107, Or.inr (Or.inr (Or.inr ⟨by decide, rfl, rfl, lw_g4 118 (by decide +kernel) (by decide +kernel)⟩))⟩))))
  rcases List.mem_cons.mp hq with rfl | hq
  · exact Or.inr (Or.inr (Or.inr (Or.inr (Or.inr ⟨e_m89, 1, rfl, e_mo89, Or.inr (Or.inr (Or.inr ⟨by decide, rfl, rfl, lw_g4 116 (by decide +kernel) (by decide +kernel)⟩))⟩))))
  rcases List.mem_cons.mp hq with rfl | hq
  · exact Or.inr (Or.inr (Or.inr (Or.inr (Or.inr ⟨e_m90, 1, rfl, e_mo90, Or.inr (Or.inr (Or.inr ⟨by decide, rfl, rfl, lw_g4 117 (by decide +kernel) (by decide +kernel)⟩))⟩))))
  rcases List.mem_cons.mp hq with rfl | hq
  · exact Or.inr (Or.inr (Or.inr (Or.inr (Or.inr ⟨e_m108, 3, rfl, e_mo108, Or.inr (Or.inr (Or.inr ⟨by decide, rfl, rfl, lw_g4 122 (by decide +kernel) (by decide +kernel)⟩))⟩))))
  rcases List.mem_cons.mp hq with rfl | hq
  · exact Or.inr (Or.inr (Or.inr (Or.inr (Or.inr ⟨e_m111, 3, rfl, e_mo111, Or.inl ⟨rfl, rfl, rfl, lw_g4 134 (by decide +kernel) (by decide +kernel)⟩⟩))))
  rcases List.mem_cons.mp hq with rfl | hq
  · exact Or.inr (Or.inr (Or.inl ⟨rfl, lw_g4 137 (by decide +kernel) (by decide +kernel)⟩))
  rcases List.mem_cons.mp hq with rfl | hq
  · exact Or.inr (Or.inr (Or.inr (Or.inl ⟨rfl, lw_g4 146 (by decide +kernel) (by decide +kernel)⟩)))
  rcases List.mem_cons.mp hq with rfl | hq
  · exact Or.inr (Or.inr (Or.inr (Or.inr (Or.inr ⟨e_m114, 1, rfl, e_mo114, Or.inl ⟨rfl, rfl, rfl, lw_g4 147 (by decide +kernel) (by decide +kernel)⟩⟩))))
  rcases List.mem_cons.mp hq with rfl | hq
  · exact Or.inr (Or.inr (Or.inr (Or.inr (Or.inr ⟨e_m85, 1, rfl, e_mo85, Or.inr (Or.inr (Or.inr ⟨by decide, rfl, rfl, lw_g4 161 (by decide +kernel) (by decide +kernel)⟩))⟩))))
  rcases List.mem_cons.mp hq with rfl | hq
  · exact Or.inr (Or.inr (Or.inr (Or.inr (Or.inr ⟨e_m117, 2, rfl, e_mo117, Or.inr (Or.inr (Or.inr ⟨by decide, rfl, rfl, lw_g4 162 (by decide +kernel) (by decide +kernel)⟩))⟩))))
  rcases List.mem_cons.mp hq with rfl | hq
  · exact Or.inr (Or.inr (Or.inr (Or.inr (Or.inr ⟨e_m120, 2, rfl, e_mo120, Or.inl ⟨rfl, rfl, rfl, lw_g4 174 (by decide +kernel) (by decide +kernel)⟩⟩))))
  rcases List.mem_cons.mp hq with rfl | hq
  · exact Or.inr (Or.inr (Or.inr (Or.inr (Or.inr ⟨e_m123, 1, rfl, e_mo123, Or.inr (Or.inr (Or.inr ⟨by decide, rfl, rfl, lw_g4 185 (by decide +kernel) (by decide +kernel)⟩))⟩))))
  rcases List.mem_cons.mp hq with rfl | hq
  · exact Or.inr (Or.inr (Or.inr (Or.inr (Or.inl ⟨rfl, lw_g4 197 (by decide +kernel) (by decide +kernel)⟩))))
  rcases List.mem_cons.mp hq with rfl | hq
  · exact Or.inr (Or.inr (Or.inr (Or.inr (Or.inr ⟨e_m128, 5, rfl, e_mo128, Or.inr (Or.inr (Or.inr ⟨by decide, rfl, rfl, lw_g4 208 (by decide +kernel) (by decide +kernel)⟩))⟩))))
  rcases List.mem_cons.mp hq with rfl | hq
  · exact Or.inr (Or.inr (Or.inr (Or.inr (Or.inr ⟨e_m75, 2, rfl, e_mo75, Or.inr (Or.inr (Or.inr ⟨by decide, rfl, rfl, lw_g4 212 (by decide +kernel) (by decide +kernel)⟩))⟩))))
  rcases List.mem_cons.mp hq with rfl | hq
  · exact Or.inr (Or.inr (Or.inr (Or.inr (Or.inr ⟨e_m86, 0, rfl, e_mo86, Or.inr (Or.inr (Or.inr ⟨by decide, rfl, rfl, lw_g4 213 (by decide +kernel) (by decide +kernel)⟩))⟩))))
  rcases List.mem_cons.mp hq with rfl | hq
  · exact Or.inr (Or.inr (Or.inr (Or.inr (Or.inr ⟨e_m88, 2, rfl, e_mo88, Or.inr (Or.inr (Or.inr ⟨by decide, rfl, rfl, lw_g4 214 (by decide +kernel) (by decide +kernel)⟩))⟩))))
  rcases List.mem_cons.mp hq with rfl | hq
  · exact Or.inr (Or.inr (Or.inr (Or.inr (Or.inr ⟨e_m135, 3, rfl, e_mo135, Or.inr (Or.inr (Or.inr ⟨by decide, rfl, rfl, lw_g5 1 (by decide +kernel) (by decide +kernel)⟩))⟩))))
  rcases List.mem_cons.mp hq with rfl | hq
  · exact Or.inr (Or.inr (Or.inr (Or.inr (Or.inr ⟨e_m136, 0, rfl, e_mo136, Or.inr (Or.inr (Or.inr ⟨by decide, rfl, rfl, lw_g5 5 (by decide +kernel) (by decide +kernel)⟩))⟩))))
  rcases List.mem_cons.mp hq with rfl | hq
  · exact Or.inr (Or.inr (Or.inr (Or.inr (Or.inr ⟨e_m137, 2, rfl, e_mo137, Or.inr (Or.inr (Or.inr ⟨by decide, rfl, rfl, lw_g5 10 (by decide +kernel) (by decide +kernel)⟩))⟩))))
  rcases List.mem_cons.mp hq with rfl | hq
  · exact Or.inr (Or.inr (Or.inr (Or.inr (Or.inr ⟨e_m140, 2, rfl, e_mo140, Or.inr (Or.inr (Or.inr ⟨by decide, rfl, rfl, lw_g5 22 (by decide +kernel) (by decide +kernel)⟩))⟩))))
  rcases List.mem_cons.mp hq with rfl | hq
  · exact Or.inr (Or.inr (Or.inr (Or.inr (Or.inr ⟨e_m19, 2, rfl, e_mo19, Or.inl ⟨rfl, rfl, rfl, lw_g5 26 (by decide +kernel) (by decide +kernel)⟩⟩))))
  rcases List.mem_cons.mp hq with rfl | hq
  · exact Or.inr (Or.inr (Or.inr (Or.inr (Or.inr ⟨e_m141, 2, rfl, e_mo141, Or.inl ⟨rfl, rfl, rfl, lw_g5 27 (by decide +kernel) (by decide +kernel)⟩⟩))))
  rcases List.mem_cons.mp hq with rfl | hq
  · exact Or.inr (Or.inr (Or.inr (Or.inr (Or.inr ⟨e_m145, 3, rfl, e_mo145, Or.inr (Or.inr (Or.inr ⟨by decide, rfl, rfl, lw_g5 42 (by decide +kernel) (by decide +kernel)⟩))⟩))))
  rcases List.mem_cons.mp hq with rfl | hq
  · exact Or.inr (Or.inr (Or.inr (Or.inr (Or.inr ⟨e_m146, 1, rfl, e_mo146, Or.inr (Or.inr (Or.inr ⟨by decide, rfl, rfl, lw_g5 51 (by decide +kernel) (by decide +kernel)⟩))⟩))))
  cases hq
theorem e_pc10 : ∀ q ∈ e_p10.2.2.1, e_cok "MaySheep$Asked" q := by
  intro q hq
  rcases List.mem_cons.mp hq with rfl | hq
  · exact Or.inl ⟨by decide, _, rfl, rfl, lw_g2 98 (by decide +kernel) (by decide +kernel)⟩
  cases hq
theorem e_pi10 : ∀ q ∈ e_p10.2.2.2.1, Cond.constant "MaySheep$Asked" q.1 (Int32.ofInt q.2) ∈ lw_good := by
  intro q hq
  cases hq
theorem e_pl10 : ∀ q ∈ e_p10.2.2.2.2, Cond.constantLong "MaySheep$Asked" q.1 (Int64.ofInt q.2) ∈ lw_good := by
  intro q hq
  rcases List.mem_cons.mp hq with rfl | hq
  · exact lw_g5 46 (by decide +kernel) (by decide +kernel)
  rcases List.mem_cons.mp hq with rfl | hq
  · exact lw_g5 47 (by decide +kernel) (by decide +kernel)
  rcases List.mem_cons.mp hq with rfl | hq
  · exact lw_g5 48 (by decide +kernel) (by decide +kernel)
  rcases List.mem_cons.mp hq with rfl | hq
  · exact lw_g5 49 (by decide +kernel) (by decide +kernel)
  rcases List.mem_cons.mp hq with rfl | hq
  · exact lw_g5 50 (by decide +kernel) (by decide +kernel)
  cases hq
theorem e_po10 : e_pok e_ms "MaySheep$Asked" e_p10 := ⟨e_pf10, e_pm10, e_pc10, e_pi10, e_pl10⟩
/-- the pools of java/util/Arrays -/
def e_p11 : eP := ([], [(304, 0, 2, 13), (150, 0, 5, 10)], [], [], [])
theorem e_pf11 : ∀ q ∈ e_p11.1, e_fok "java/util/Arrays" q := by
  intro q hq
  cases hq
theorem e_pm11 : ∀ q ∈ e_p11.2.1, e_mlk e_ms "java/util/Arrays" q := by
  intro q hq
  rcases List.mem_cons.mp hq with rfl | hq
  · exact Or.inr (Or.inr (Or.inr (Or.inl ⟨rfl, lw_g3 190 (by decide +kernel) (by decide +kernel)⟩)))
  rcases List.mem_cons.mp hq with rfl | hq
  · exact Or.inl ⟨rfl, lw_g3 193 (by decide +kernel) (by decide +kernel)⟩
  cases hq
theorem e_pc11 : ∀ q ∈ e_p11.2.2.1, e_cok "java/util/Arrays" q := by
  intro q hq
  cases hq
theorem e_pi11 : ∀ q ∈ e_p11.2.2.2.1, Cond.constant "java/util/Arrays" q.1 (Int32.ofInt q.2) ∈ lw_good := by
  intro q hq
  cases hq
theorem e_pl11 : ∀ q ∈ e_p11.2.2.2.2, Cond.constantLong "java/util/Arrays" q.1 (Int64.ofInt q.2) ∈ lw_good := by
  intro q hq
  cases hq
theorem e_po11 : e_pok e_ms "java/util/Arrays" e_p11 := ⟨e_pf11, e_pm11, e_pc11, e_pi11, e_pl11⟩
/-- the pools of java/lang/String -/
def e_p12 : eP := ([(9, 13, 0, 3), (38, 14, 0, 0), (15, 13, 1, 4), (1053, 14, 1, 0)], [(335, 26, 1, 33), (492, 28, 1, 33), (495, 29, 2, 0), (498, 32, 2, 0), (1059, 31, 3, 0)], [], [], [])
theorem e_pf12 : ∀ q ∈ e_p12.1, e_fok "java/lang/String" q := by
  intro q hq
  rcases List.mem_cons.mp hq with rfl | hq
  · exact Or.inr (Or.inl ⟨rfl, Or.inl ⟨rfl, rfl, lw_g7 190 (by decide +kernel) (by decide +kernel)⟩⟩)
  rcases List.mem_cons.mp hq with rfl | hq
  · exact Or.inl (Or.inl ⟨rfl, rfl, lw_g2 228 (by decide +kernel) (by decide +kernel)⟩)
  rcases List.mem_cons.mp hq with rfl | hq
  · exact Or.inr (Or.inl ⟨rfl, Or.inr ⟨rfl, rfl, lw_g7 191 (by decide +kernel) (by decide +kernel)⟩⟩)
  rcases List.mem_cons.mp hq with rfl | hq
  · exact Or.inl (Or.inr ⟨rfl, rfl, lw_g3 4 (by decide +kernel) (by decide +kernel)⟩)
  cases hq
theorem e_pm12 : ∀ q ∈ e_p12.2.1, e_mlk e_ms "java/lang/String" q := by
  intro q hq
  rcases List.mem_cons.mp hq with rfl | hq
  · exact Or.inr (Or.inr (Or.inr (Or.inr (Or.inr ⟨e_m26, 0, rfl, e_mo26, Or.inr (Or.inr (Or.inr ⟨by decide, rfl, rfl, lw_g2 224 (by decide +kernel) (by decide +kernel)⟩))⟩))))
  rcases List.mem_cons.mp hq with rfl | hq
  · exact Or.inr (Or.inr (Or.inr (Or.inr (Or.inr ⟨e_m28, 0, rfl, e_mo28, Or.inr (Or.inr (Or.inr ⟨by decide, rfl, rfl, lw_g2 234 (by decide +kernel) (by decide +kernel)⟩))⟩))))
  rcases List.mem_cons.mp hq with rfl | hq
  · exact Or.inr (Or.inr (Or.inr (Or.inr (Or.inr ⟨e_m29, 2, rfl, e_mo29, Or.inl ⟨rfl, rfl, rfl, lw_g2 238 (by decide +kernel) (by decide +kernel)⟩⟩))))
  rcases List.mem_cons.mp hq with rfl | hq
  · exact Or.inr (Or.inr (Or.inr (Or.inr (Or.inr ⟨e_m32, 2, rfl, e_mo32, Or.inl ⟨rfl, rfl, rfl, lw_g3 9 (by decide +kernel) (by decide +kernel)⟩⟩))))
  rcases List.mem_cons.mp hq with rfl | hq
  · exact Or.inr (Or.inr (Or.inr (Or.inr (Or.inr ⟨e_m31, 3, rfl, e_mo31, Or.inl ⟨rfl, rfl, rfl, lw_g3 6 (by decide +kernel) (by decide +kernel)⟩⟩))))
  cases hq
theorem e_pc12 : ∀ q ∈ e_p12.2.2.1, e_cok "java/lang/String" q := by
  intro q hq
  cases hq
theorem e_pi12 : ∀ q ∈ e_p12.2.2.2.1, Cond.constant "java/lang/String" q.1 (Int32.ofInt q.2) ∈ lw_good := by
  intro q hq
  cases hq
theorem e_pl12 : ∀ q ∈ e_p12.2.2.2.2, Cond.constantLong "java/lang/String" q.1 (Int64.ofInt q.2) ∈ lw_good := by
  intro q hq
  cases hq
theorem e_po12 : e_pok e_ms "java/lang/String" e_p12 := ⟨e_pf12, e_pm12, e_pc12, e_pi12, e_pl12⟩
/-- the pools of java/lang/StringLatin1 -/
def e_p13 : eP := ([], [(9, 30, 2, 0)], [], [], [])
theorem e_pf13 : ∀ q ∈ e_p13.1, e_fok "java/lang/StringLatin1" q := by
  intro q hq
  cases hq
theorem e_pm13 : ∀ q ∈ e_p13.2.1, e_mlk e_ms "java/lang/StringLatin1" q := by
  intro q hq
  rcases List.mem_cons.mp hq with rfl | hq
  · exact Or.inr (Or.inr (Or.inr (Or.inr (Or.inr ⟨e_m30, 2, rfl, e_mo30, Or.inl ⟨rfl, rfl, rfl, lw_g3 1 (by decide +kernel) (by decide +kernel)⟩⟩))))
  cases hq
theorem e_pc13 : ∀ q ∈ e_p13.2.2.1, e_cok "java/lang/StringLatin1" q := by
  intro q hq
  cases hq
theorem e_pi13 : ∀ q ∈ e_p13.2.2.2.1, Cond.constant "java/lang/StringLatin1" q.1 (Int32.ofInt q.2) ∈ lw_good := by
  intro q hq
  cases hq
theorem e_pl13 : ∀ q ∈ e_p13.2.2.2.2, Cond.constantLong "java/lang/StringLatin1" q.1 (Int64.ofInt q.2) ∈ lw_good := by
  intro q hq
  cases hq
theorem e_po13 : e_pok e_ms "java/lang/StringLatin1" e_p13 := ⟨e_pf13, e_pm13, e_pc13, e_pi13, e_pl13⟩
/-- the pools of jdk/internal/util/Preconditions -/
def e_p14 : eP := ([], [], [], [], [])
theorem e_pf14 : ∀ q ∈ e_p14.1, e_fok "jdk/internal/util/Preconditions" q := by
  intro q hq
  cases hq
theorem e_pm14 : ∀ q ∈ e_p14.2.1, e_mlk e_ms "jdk/internal/util/Preconditions" q := by
  intro q hq
  cases hq
theorem e_pc14 : ∀ q ∈ e_p14.2.2.1, e_cok "jdk/internal/util/Preconditions" q := by
  intro q hq
  cases hq
theorem e_pi14 : ∀ q ∈ e_p14.2.2.2.1, Cond.constant "jdk/internal/util/Preconditions" q.1 (Int32.ofInt q.2) ∈ lw_good := by
  intro q hq
  cases hq
theorem e_pl14 : ∀ q ∈ e_p14.2.2.2.2, Cond.constantLong "jdk/internal/util/Preconditions" q.1 (Int64.ofInt q.2) ∈ lw_good := by
  intro q hq
  cases hq
theorem e_po14 : e_pok e_ms "jdk/internal/util/Preconditions" e_p14 := ⟨e_pf14, e_pm14, e_pc14, e_pi14, e_pl14⟩
/-- the pools of java/lang/StringUTF16 -/
def e_p15 : eP := ([], [(67, 33, 2, 0), (71, 35, 2, 0), (48, 34, 1, 0), (414, 30, 2, 0)], [], [], [])
theorem e_pf15 : ∀ q ∈ e_p15.1, e_fok "java/lang/StringUTF16" q := by
  intro q hq
  cases hq
theorem e_pm15 : ∀ q ∈ e_p15.2.1, e_mlk e_ms "java/lang/StringUTF16" q := by
  intro q hq
  rcases List.mem_cons.mp hq with rfl | hq
  · exact Or.inr (Or.inr (Or.inr (Or.inr (Or.inr ⟨e_m33, 2, rfl, e_mo33, Or.inl ⟨rfl, rfl, rfl, lw_g3 12 (by decide +kernel) (by decide +kernel)⟩⟩))))
  rcases List.mem_cons.mp hq with rfl | hq
  · exact Or.inr (Or.inr (Or.inr (Or.inr (Or.inr ⟨e_m35, 2, rfl, e_mo35, Or.inl ⟨rfl, rfl, rfl, lw_g3 19 (by decide +kernel) (by decide +kernel)⟩⟩))))
  rcases List.mem_cons.mp hq with rfl | hq
  · exact Or.inr (Or.inr (Or.inr (Or.inr (Or.inr ⟨e_m34, 1, rfl, e_mo34, Or.inl ⟨rfl, rfl, rfl, lw_g3 15 (by decide +kernel) (by decide +kernel)⟩⟩))))
  rcases List.mem_cons.mp hq with rfl | hq
  · exact Or.inr (Or.inr (Or.inr (Or.inr (Or.inr ⟨e_m30, 2, rfl, e_mo30, Or.inl ⟨rfl, rfl, rfl, lw_g3 18 (by decide +kernel) (by decide +kernel)⟩⟩))))
  cases hq
theorem e_pc15 : ∀ q ∈ e_p15.2.2.1, e_cok "java/lang/StringUTF16" q := by
  intro q hq
  cases hq
theorem e_pi15 : ∀ q ∈ e_p15.2.2.2.1, Cond.constant "java/lang/StringUTF16" q.1 (Int32.ofInt q.2) ∈ lw_good := by
  intro q hq
  cases hq
theorem e_pl15 : ∀ q ∈ e_p15.2.2.2.2, Cond.constantLong "java/lang/StringUTF16" q.1 (Int64.ofInt q.2) ∈ lw_good := by
  intro q hq
  cases hq
theorem e_po15 : e_pok e_ms "java/lang/StringUTF16" e_p15 := ⟨e_pf15, e_pm15, e_pc15, e_pi15, e_pl15⟩
/-- the pools of MaySheep$Rule -/
def e_p16 : eP := ([(7, 6, 0, 3)], [(1, 0, 1, 11), (13, 93, 1, 0), (17, 94, 3, 0)], [], [], [])
theorem e_pf16 : ∀ q ∈ e_p16.1, e_fok "MaySheep$Rule" q := by
  intro q hq
  rcases List.mem_cons.mp hq with rfl | hq
  · exact Or.inr (Or.inr ⟨by decide, _, rfl, by decide, rfl, lw_g3 198 (by decide +kernel) (by decide +kernel)⟩)
  cases hq
theorem e_pm16 : ∀ q ∈ e_p16.2.1, e_mlk e_ms "MaySheep$Rule" q := by
  intro q hq
  rcases List.mem_cons.mp hq with rfl | hq
  · exact Or.inr (Or.inl ⟨rfl, lw_g3 197 (by decide +kernel) (by decide +kernel)⟩)
  rcases List.mem_cons.mp hq with rfl | hq
  · exact Or.inr (Or.inr (Or.inr (Or.inr (Or.inr ⟨e_m93, 1, rfl, e_mo93, Or.inl ⟨rfl, rfl, rfl, lw_g4 53 (by decide +kernel) (by decide +kernel)⟩⟩))))
  rcases List.mem_cons.mp hq with rfl | hq
  · exact Or.inr (Or.inr (Or.inr (Or.inr (Or.inr ⟨e_m94, 3, rfl, e_mo94, Or.inl ⟨rfl, rfl, rfl, lw_g4 56 (by decide +kernel) (by decide +kernel)⟩⟩))))
  cases hq
theorem e_pc16 : ∀ q ∈ e_p16.2.2.1, e_cok "MaySheep$Rule" q := by
  intro q hq
  cases hq
theorem e_pi16 : ∀ q ∈ e_p16.2.2.2.1, Cond.constant "MaySheep$Rule" q.1 (Int32.ofInt q.2) ∈ lw_good := by
  intro q hq
  cases hq
theorem e_pl16 : ∀ q ∈ e_p16.2.2.2.2, Cond.constantLong "MaySheep$Rule" q.1 (Int64.ofInt q.2) ∈ lw_good := by
  intro q hq
  cases hq
theorem e_po16 : e_pok e_ms "MaySheep$Rule" e_p16 := ⟨e_pf16, e_pm16, e_pc16, e_pi16, e_pl16⟩
/-- the pools of java/lang/Integer -/
def e_p17 : eP := ([], [], [], [(265, 1431655765), (266, 858993459), (267, 252645135)], [])
theorem e_pf17 : ∀ q ∈ e_p17.1, e_fok "java/lang/Integer" q := by
  intro q hq
  cases hq
theorem e_pm17 : ∀ q ∈ e_p17.2.1, e_mlk e_ms "java/lang/Integer" q := by
  intro q hq
  cases hq
theorem e_pc17 : ∀ q ∈ e_p17.2.2.1, e_cok "java/lang/Integer" q := by
  intro q hq
  cases hq
theorem e_pi17 : ∀ q ∈ e_p17.2.2.2.1, Cond.constant "java/lang/Integer" q.1 (Int32.ofInt q.2) ∈ lw_good := by
  intro q hq
  rcases List.mem_cons.mp hq with rfl | hq
  · exact lw_g4 150 (by decide +kernel) (by decide +kernel)
  rcases List.mem_cons.mp hq with rfl | hq
  · exact lw_g4 151 (by decide +kernel) (by decide +kernel)
  rcases List.mem_cons.mp hq with rfl | hq
  · exact lw_g4 152 (by decide +kernel) (by decide +kernel)
  cases hq
theorem e_pl17 : ∀ q ∈ e_p17.2.2.2.2, Cond.constantLong "java/lang/Integer" q.1 (Int64.ofInt q.2) ∈ lw_good := by
  intro q hq
  cases hq
theorem e_po17 : e_pok e_ms "java/lang/Integer" e_p17 := ⟨e_pf17, e_pm17, e_pc17, e_pi17, e_pl17⟩
/-- the pools of MaySheepModel -/
def e_p18 : eP := ([(7, 12, 0, 3), (13, 12, 3, 3), (17, 12, 4, 3), (20, 12, 5, 3), (23, 12, 6, 3), (26, 12, 7, 3), (29, 12, 15, 3), (32, 12, 17, 3), (36, 12, 19, 3), (39, 12, 20, 3), (42, 12, 21, 0), (46, 12, 24, 3), (49, 12, 25, 3), (52, 12, 27, 3), (55, 12, 28, 3), (58, 12, 29, 3), (61, 12, 30, 3), (64, 12, 31, 3), (67, 12, 32, 3), (71, 12, 33, 3), (74, 12, 35, 3), (77, 12, 36, 3), (80, 12, 37, 3), (83, 12, 38, 3), (86, 12, 1, 0), (264, 12, 2, 0), (152, 12, 11, 0), (93, 12, 9, 0), (252, 12, 14, 0), (96, 12, 8, 0), (155, 12, 12, 0), (121, 12, 10, 0), (161, 12, 16, 0), (158, 12, 13, 0), (273, 12, 26, 0), (341, 12, 23, 0), (276, 12, 18, 0), (423, 12, 22, 0), (426, 12, 34, 2)], [(1, 0, 1, 11), (89, 155, 2, 32), (267, 158, 1, 32), (261, 159, 1, 32), (99, 160, 1, 32), (117, 164, 3, 32), (247, 161, 1, 32), (107, 162, 2, 32), (255, 165, 2, 32), (258, 176, 1, 32), (103, 163, 2, 32), (230, 166, 2, 32), (233, 172, 2, 32), (236, 173, 2, 32), (239, 174, 1, 32), (242, 175, 1, 32), (111, 167, 1, 32), (224, 168, 4, 32), (173, 169, 3, 32), (114, 170, 2, 32), (124, 171, 3, 0), (189, 177, 1, 32), (218, 183, 2, 32), (221, 184, 1, 32), (186, 178, 1, 32), (168, 181, 3, 32), (182, 179, 1, 32), (176, 180, 2, 32), (179, 182, 1, 32), (206, 185, 1, 32), (209, 188, 1, 32), (164, 190, 1, 0), (200, 189, 2, 32), (203, 191, 1, 32), (194, 186, 2, 32), (197, 187, 1, 32), (270, 193, 1, 32), (297, 195, 2, 32), (300, 197, 2, 32), (291, 198, 2, 32), (303, 199, 2, 32), (306, 200, 1, 0), (309, 202, 2, 32), (314, 203, 2, 32), (317, 205, 3, 32), (353, 208, 1, 32), (356, 209, 1, 32), (359, 210, 1, 32), (338, 211, 2, 32), (294, 212, 2, 0), (344, 213, 2, 32), (347, 221, 2, 32), (350, 223, 2, 32), (328, 214, 3, 32), (331, 216, 2, 32), (325, 215, 2, 32), (321, 217, 4, 32), (279, 218, 2, 32), (283, 219, 1, 32), (287, 220, 3, 0), (335, 222, 2, 0), (364, 226, 3, 32), (371, 229, 1, 32), (374, 230, 1, 32), (379, 232, 2, 32), (382, 234, 3, 32), (385, 235, 2, 32), (388, 236, 2, 32), (391, 238, 2, 32), (394, 240, 3, 32), (399, 243, 3, 32), (402, 245, 2, 32), (405, 246, 2, 32), (409, 249, 3, 32), (417, 252, 2, 32), (414, 253, 2, 32), (420, 255, 2, 32), (442, 258, 2, 32), (445, 259, 1, 32)], [], [(172, 99999), (408, (-100000))], [(250, 26479), (228, 1751739500), (128, 495672714608), (130, 7168366), (132, 465625113971), (245, 28832959090882419), (216, 26982), (134, 1935764596), (136, 448311223411), (138, 439905903467), (140, 1835626085), (142, 7103844), (144, 2003791724), (146, 427070942835), (148, 444300620659), (150, 2036687218), (212, 6385252), (214, 28530), (192, 7237492), (312, 3), (362, 20), (367, 60), (369, 2), (377, 8), (397, 99), (412, 40), (438, 10), (440, 100), (430, 1103515245), (432, 12345), (434, 2147483648), (436, 65536)])
theorem e_pf18 : ∀ q ∈ e_p18.1, e_fok "MaySheepModel" q := by
  intro q hq
  rcases List.mem_cons.mp hq with rfl | hq
  · exact Or.inr (Or.inr ⟨by decide, _, rfl, by decide, rfl, lw_g5 88 (by decide +kernel) (by decide +kernel)⟩)
  rcases List.mem_cons.mp hq with rfl | hq
  · exact Or.inr (Or.inr ⟨by decide, _, rfl, by decide, rfl, lw_g5 91 (by decide +kernel) (by decide +kernel)⟩)
  rcases List.mem_cons.mp hq with rfl | hq
  · exact Or.inr (Or.inr ⟨by decide, _, rfl, by decide, rfl, lw_g5 92 (by decide +kernel) (by decide +kernel)⟩)
  rcases List.mem_cons.mp hq with rfl | hq
  · exact Or.inr (Or.inr ⟨by decide, _, rfl, by decide, rfl, lw_g5 93 (by decide +kernel) (by decide +kernel)⟩)
  rcases List.mem_cons.mp hq with rfl | hq
  · exact Or.inr (Or.inr ⟨by decide, _, rfl, by decide, rfl, lw_g5 94 (by decide +kernel) (by decide +kernel)⟩)
  rcases List.mem_cons.mp hq with rfl | hq
  · exact Or.inr (Or.inr ⟨by decide, _, rfl, by decide, rfl, lw_g5 95 (by decide +kernel) (by decide +kernel)⟩)
  rcases List.mem_cons.mp hq with rfl | hq
  · exact Or.inr (Or.inr ⟨by decide, _, rfl, by decide, rfl, lw_g5 103 (by decide +kernel) (by decide +kernel)⟩)
  rcases List.mem_cons.mp hq with rfl | hq
  · exact Or.inr (Or.inr ⟨by decide, _, rfl, by decide, rfl, lw_g5 105 (by decide +kernel) (by decide +kernel)⟩)
  rcases List.mem_cons.mp hq with rfl | hq
  · exact Or.inr (Or.inr ⟨by decide, _, rfl, by decide, rfl, lw_g5 107 (by decide +kernel) (by decide +kernel)⟩)
  rcases List.mem_cons.mp hq with rfl | hq
  · exact Or.inr (Or.inr ⟨by decide, _, rfl, by decide, rfl, lw_g5 108 (by decide +kernel) (by decide +kernel)⟩)
  rcases List.mem_cons.mp hq with rfl | hq
  · exact Or.inr (Or.inr ⟨by decide, _, rfl, by decide, rfl, lw_g5 109 (by decide +kernel) (by decide +kernel)⟩)
  rcases List.mem_cons.mp hq with rfl | hq
  · exact Or.inr (Or.inr ⟨by decide, _, rfl, by decide, rfl, lw_g5 112 (by decide +kernel) (by decide +kernel)⟩)
  rcases List.mem_cons.mp hq with rfl | hq
  · exact Or.inr (Or.inr ⟨by decide, _, rfl, by decide, rfl, lw_g5 113 (by decide +kernel) (by decide +kernel)⟩)
  rcases List.mem_cons.mp hq with rfl | hq
  · exact Or.inr (Or.inr ⟨by decide, _, rfl, by decide, rfl, lw_g5 115 (by decide +kernel) (by decide +kernel)⟩)
  rcases List.mem_cons.mp hq with rfl | hq
  · exact Or.inr (Or.inr ⟨by decide, _, rfl, by decide, rfl, lw_g5 116 (by decide +kernel) (by decide +kernel)⟩)
  rcases List.mem_cons.mp hq with rfl | hq
  · exact Or.inr (Or.inr ⟨by decide, _, rfl, by decide, rfl, lw_g5 117 (by decide +kernel) (by decide +kernel)⟩)
  rcases List.mem_cons.mp hq with rfl | hq
  · exact Or.inr (Or.inr ⟨by decide, _, rfl, by decide, rfl, lw_g5 118 (by decide +kernel) (by decide +kernel)⟩)
  rcases List.mem_cons.mp hq with rfl | hq
  · exact Or.inr (Or.inr ⟨by decide, _, rfl, by decide, rfl, lw_g5 119 (by decide +kernel) (by decide +kernel)⟩)
  rcases List.mem_cons.mp hq with rfl | hq
  · exact Or.inr (Or.inr ⟨by decide, _, rfl, by decide, rfl, lw_g5 120 (by decide +kernel) (by decide +kernel)⟩)
  rcases List.mem_cons.mp hq with rfl | hq
  · exact Or.inr (Or.inr ⟨by decide, _, rfl, by decide, rfl, lw_g5 121 (by decide +kernel) (by decide +kernel)⟩)
  rcases List.mem_cons.mp hq with rfl | hq
  · exact Or.inr (Or.inr ⟨by decide, _, rfl, by decide, rfl, lw_g5 123 (by decide +kernel) (by decide +kernel)⟩)
  rcases List.mem_cons.mp hq with rfl | hq
  · exact Or.inr (Or.inr ⟨by decide, _, rfl, by decide, rfl, lw_g5 124 (by decide +kernel) (by decide +kernel)⟩)
  rcases List.mem_cons.mp hq with rfl | hq
  · exact Or.inr (Or.inr ⟨by decide, _, rfl, by decide, rfl, lw_g5 125 (by decide +kernel) (by decide +kernel)⟩)
  rcases List.mem_cons.mp hq with rfl | hq
  · exact Or.inr (Or.inr ⟨by decide, _, rfl, by decide, rfl, lw_g5 126 (by decide +kernel) (by decide +kernel)⟩)
  rcases List.mem_cons.mp hq with rfl | hq
  · exact Or.inr (Or.inr ⟨by decide, _, rfl, by decide, rfl, lw_g5 89 (by decide +kernel) (by decide +kernel)⟩)
  rcases List.mem_cons.mp hq with rfl | hq
  · exact Or.inr (Or.inr ⟨by decide, _, rfl, by decide, rfl, lw_g5 90 (by decide +kernel) (by decide +kernel)⟩)
  rcases List.mem_cons.mp hq with rfl | hq
  · exact Or.inr (Or.inr ⟨by decide, _, rfl, by decide, rfl, lw_g5 99 (by decide +kernel) (by decide +kernel)⟩)
  rcases List.mem_cons.mp hq with rfl | hq
  · exact Or.inr (Or.inr ⟨by decide, _, rfl, by decide, rfl, lw_g5 97 (by decide +kernel) (by decide +kernel)⟩)
  rcases List.mem_cons.mp hq with rfl | hq
  · exact Or.inr (Or.inr ⟨by decide, _, rfl, by decide, rfl, lw_g5 102 (by decide +kernel) (by decide +kernel)⟩)
  rcases List.mem_cons.mp hq with rfl | hq
  · exact Or.inr (Or.inr ⟨by decide, _, rfl, by decide, rfl, lw_g5 96 (by decide +kernel) (by decide +kernel)⟩)
  rcases List.mem_cons.mp hq with rfl | hq
  · exact Or.inr (Or.inr ⟨by decide, _, rfl, by decide, rfl, lw_g5 100 (by decide +kernel) (by decide +kernel)⟩)
  rcases List.mem_cons.mp hq with rfl | hq
  · exact Or.inr (Or.inr ⟨by decide, _, rfl, by decide, rfl, lw_g5 98 (by decide +kernel) (by decide +kernel)⟩)
  rcases List.mem_cons.mp hq with rfl | hq
  · exact Or.inr (Or.inr ⟨by decide, _, rfl, by decide, rfl, lw_g5 104 (by decide +kernel) (by decide +kernel)⟩)
  rcases List.mem_cons.mp hq with rfl | hq
  · exact Or.inr (Or.inr ⟨by decide, _, rfl, by decide, rfl, lw_g5 101 (by decide +kernel) (by decide +kernel)⟩)
  rcases List.mem_cons.mp hq with rfl | hq
  · exact Or.inr (Or.inr ⟨by decide, _, rfl, by decide, rfl, lw_g5 114 (by decide +kernel) (by decide +kernel)⟩)
  rcases List.mem_cons.mp hq with rfl | hq
  · exact Or.inr (Or.inr ⟨by decide, _, rfl, by decide, rfl, lw_g5 111 (by decide +kernel) (by decide +kernel)⟩)
  rcases List.mem_cons.mp hq with rfl | hq
  · exact Or.inr (Or.inr ⟨by decide, _, rfl, by decide, rfl, lw_g5 106 (by decide +kernel) (by decide +kernel)⟩)
  rcases List.mem_cons.mp hq with rfl | hq
  · exact Or.inr (Or.inr ⟨by decide, _, rfl, by decide, rfl, lw_g5 110 (by decide +kernel) (by decide +kernel)⟩)
  rcases List.mem_cons.mp hq with rfl | hq
  · exact Or.inr (Or.inr ⟨by decide, _, rfl, by decide, rfl, lw_g5 122 (by decide +kernel) (by decide +kernel)⟩)
  cases hq
theorem e_pm18 : ∀ q ∈ e_p18.2.1, e_mlk e_ms "MaySheepModel" q := by
  intro q hq
  rcases List.mem_cons.mp hq with rfl | hq
  · exact Or.inr (Or.inl ⟨rfl, lw_g5 87 (by decide +kernel) (by decide +kernel)⟩)
  rcases List.mem_cons.mp hq with rfl | hq
  · exact Or.inr (Or.inr (Or.inr (Or.inr (Or.inr ⟨e_m155, 1, rfl, e_mo155, Or.inr (Or.inr (Or.inr ⟨by decide, rfl, rfl, lw_g5 210 (by decide +kernel) (by decide +kernel)⟩))⟩))))
  rcases List.mem_cons.mp hq with rfl | hq
  · exact Or.inr (Or.inr (Or.inr (Or.inr (Or.inr ⟨e_m158, 0, rfl, e_mo158, Or.inr (Or.inr (Or.inr ⟨by decide, rfl, rfl, lw_g5 222 (by decide +kernel) (by decide +kernel)⟩))⟩))))
  rcases List.mem_cons.mp hq with rfl | hq
  · exact Or.inr (Or.inr (Or.inr (Or.inr (Or.inr ⟨e_m159, 0, rfl, e_mo159, Or.inr (Or.inr (Or.inr ⟨by decide, rfl, rfl, lw_g5 226 (by decide +kernel) (by decide +kernel)⟩))⟩))))
  rcases List.mem_cons.mp hq with rfl | hq
  · exact Or.inr (Or.inr (Or.inr (Or.inr (Or.inr ⟨e_m160, 0, rfl, e_mo160, Or.inr (Or.inr (Or.inr ⟨by decide, rfl, rfl, lw_g5 230 (by decide +kernel) (by decide +kernel)⟩))⟩))))
  rcases List.mem_cons.mp hq with rfl | hq
  · exact Or.inr (Or.inr (Or.inr (Or.inr (Or.inr ⟨e_m164, 2, rfl, e_mo164, Or.inr (Or.inr (Or.inr ⟨by decide, rfl, rfl, lw_g6 12 (by decide +kernel) (by decide +kernel)⟩))⟩))))
  rcases List.mem_cons.mp hq with rfl | hq
  · exact Or.inr (Or.inr (Or.inr (Or.inr (Or.inr ⟨e_m161, 0, rfl, e_mo161, Or.inr (Or.inr (Or.inr ⟨by decide, rfl, rfl, lw_g5 234 (by decide +kernel) (by decide +kernel)⟩))⟩))))
  rcases List.mem_cons.mp hq with rfl | hq
  · exact Or.inr (Or.inr (Or.inr (Or.inr (Or.inr ⟨e_m162, 1, rfl, e_mo162, Or.inr (Or.inr (Or.inr ⟨by decide, rfl, rfl, lw_g5 239 (by decide +kernel) (by decide +kernel)⟩))⟩))))
  rcases List.mem_cons.mp hq with rfl | hq
  · exact Or.inr (Or.inr (Or.inr (Or.inr (Or.inr ⟨e_m165, 1, rfl, e_mo165, Or.inr (Or.inr (Or.inr ⟨by decide, rfl, rfl, lw_g6 16 (by decide +kernel) (by decide +kernel)⟩))⟩))))
  rcases List.mem_cons.mp hq with rfl | hq
  · exact Or.inr (Or.inr (Or.inr (Or.inr (Or.inr ⟨e_m176, 0, rfl, e_mo176, Or.inr (Or.inr (Or.inr ⟨by decide, rfl, rfl, lw_g6 59 (by decide +kernel) (by decide +kernel)⟩))⟩))))
  rcases List.mem_cons.mp hq with rfl | hq
  · exact Or.inr (Or.inr (Or.inr (Or.inr (Or.inr ⟨e_m163, 1, rfl, e_mo163, Or.inr (Or.inr (Or.inr ⟨by decide, rfl, rfl, lw_g6 3 (by decide +kernel) (by decide +kernel)⟩))⟩))))
  rcases List.mem_cons.mp hq with rfl | hq
  · exact Or.inr (Or.inr (Or.inr (Or.inr (Or.inr ⟨e_m166, 1, rfl, e_mo166, Or.inr (Or.inr (Or.inr ⟨by decide, rfl, rfl, lw_g6 20 (by decide +kernel) (by decide +kernel)⟩))⟩))))
  rcases List.mem_cons.mp hq with rfl | hq
  · exact Or.inr (Or.inr (Or.inr (Or.inr (Or.inr ⟨e_m172, 1, rfl, e_mo172, Or.inr (Or.inr (Or.inr ⟨by decide, rfl, rfl, lw_g6 43 (by decide +kernel) (by decide +kernel)⟩))⟩))))
  rcases List.mem_cons.mp hq with rfl | hq
  · exact Or.inr (Or.inr (Or.inr (Or.inr (Or.inr ⟨e_m173, 1, rfl, e_mo173, Or.inr (Or.inr (Or.inr ⟨by decide, rfl, rfl, lw_g6 47 (by decide +kernel) (by decide +kernel)⟩))⟩))))
  rcases List.mem_cons.mp hq with rfl | hq
  · exact Or.inr (Or.inr (Or.inr (Or.inr (Or.inr ⟨e_m174, 0, rfl, e_mo174, Or.inr (Or.inr (Or.inr ⟨by decide, rfl, rfl, lw_g6 51 (by decide +kernel) (by decide +kernel)⟩))⟩))))
  rcases List.mem_cons.mp hq with rfl | hq
  · exact Or.inr (Or.inr (Or.inr (Or.inr (Or.inr ⟨e_m175, 0, rfl, e_mo175, Or.inr (Or.inr (Or.inr ⟨by decide, rfl, rfl, lw_g6 55 (by decide +kernel) (by decide +kernel)⟩))⟩))))
  rcases List.mem_cons.mp hq with rfl | hq
  · exact Or.inr (Or.inr (Or.inr (Or.inr (Or.inr ⟨e_m167, 0, rfl, e_mo167, Or.inr (Or.inr (Or.inr ⟨by decide, rfl, rfl, lw_g6 24 (by decide +kernel) (by decide +kernel)⟩))⟩))))
  rcases List.mem_cons.mp hq with rfl | hq
  · exact Or.inr (Or.inr (Or.inr (Or.inr (Or.inr ⟨e_m168, 3, rfl, e_mo168, Or.inr (Or.inr (Or.inr ⟨by decide, rfl, rfl, lw_g6 28 (by decide +kernel) (by decide +kernel)⟩))⟩))))
  rcases List.mem_cons.mp hq with rfl | hq
  · exact Or.inr (Or.inr (Or.inr (Or.inr (Or.inr ⟨e_m169, 2, rfl, e_mo169, Or.inr (Or.inr (Or.inr ⟨by decide, rfl, rfl, lw_g6 32 (by decide +kernel) (by decide +kernel)⟩))⟩))))
  rcases List.mem_cons.mp hq with rfl | hq
  · exact Or.inr (Or.inr (Or.inr (Or.inr (Or.inr ⟨e_m170, 1, rfl, e_mo170, Or.inr (Or.inr (Or.inr ⟨by decide, rfl, rfl, lw_g6 36 (by decide +kernel) (by decide +kernel)⟩))⟩))))
  rcases List.mem_cons.mp hq with rfl | hq
  · exact Or.inr (Or.inr (Or.inr (Or.inr (Or.inr ⟨e_m171, 3, rfl, e_mo171, Or.inl ⟨rfl, rfl, rfl, lw_g6 40 (by decide +kernel) (by decide +kernel)⟩⟩))))
  rcases List.mem_cons.mp hq with rfl | hq
  · exact Or.inr (Or.inr (Or.inr (Or.inr (Or.inr ⟨e_m177, 0, rfl, e_mo177, Or.inr (Or.inr (Or.inr ⟨by decide, rfl, rfl, lw_g6 63 (by decide +kernel) (by decide +kernel)⟩))⟩))))
  rcases List.mem_cons.mp hq with rfl | hq
  · exact Or.inr (Or.inr (Or.inr (Or.inr (Or.inr ⟨e_m183, 1, rfl, e_mo183, Or.inr (Or.inr (Or.inr ⟨by decide, rfl, rfl, lw_g6 98 (by decide +kernel) (by decide +kernel)⟩))⟩))))
  rcases List.mem_cons.mp hq with rfl | hq
  · exact Or.inr (Or.inr (Or.inr (Or.inr (Or.inr ⟨e_m184, 0, rfl, e_mo184, Or.inr (Or.inr (Or.inr ⟨by decide, rfl, rfl, lw_g6 102 (by decide +kernel) (by decide +kernel)⟩))⟩))))
  rcases List.mem_cons.mp hq with rfl | hq
  · exact Or.inr (Or.inr (Or.inr (Or.inr (Or.inr ⟨e_m178, 0, rfl, e_mo178, Or.inr (Or.inr (Or.inr ⟨by decide, rfl, rfl, lw_g6 67 (by decide +kernel) (by decide +kernel)⟩))⟩))))
  rcases List.mem_cons.mp hq with rfl | hq
  · exact Or.inr (Or.inr (Or.inr (Or.inr (Or.inr ⟨e_m181, 2, rfl, e_mo181, Or.inr (Or.inr (Or.inr ⟨by decide, rfl, rfl, lw_g6 80 (by decide +kernel) (by decide +kernel)⟩))⟩))))
  rcases List.mem_cons.mp hq with rfl | hq
  · exact Or.inr (Or.inr (Or.inr (Or.inr (Or.inr ⟨e_m179, 0, rfl, e_mo179, Or.inr (Or.inr (Or.inr ⟨by decide, rfl, rfl, lw_g6 71 (by decide +kernel) (by decide +kernel)⟩))⟩))))
  rcases List.mem_cons.mp hq with rfl | hq
  · exact Or.inr (Or.inr (Or.inr (Or.inr (Or.inr ⟨e_m180, 1, rfl, e_mo180, Or.inr (Or.inr (Or.inr ⟨by decide, rfl, rfl, lw_g6 76 (by decide +kernel) (by decide +kernel)⟩))⟩))))
  rcases List.mem_cons.mp hq with rfl | hq
  · exact Or.inr (Or.inr (Or.inr (Or.inr (Or.inr ⟨e_m182, 0, rfl, e_mo182, Or.inr (Or.inr (Or.inr ⟨by decide, rfl, rfl, lw_g6 84 (by decide +kernel) (by decide +kernel)⟩))⟩))))
  rcases List.mem_cons.mp hq with rfl | hq
  · exact Or.inr (Or.inr (Or.inr (Or.inr (Or.inr ⟨e_m185, 0, rfl, e_mo185, Or.inr (Or.inr (Or.inr ⟨by decide, rfl, rfl, lw_g6 106 (by decide +kernel) (by decide +kernel)⟩))⟩))))
  rcases List.mem_cons.mp hq with rfl | hq
  · exact Or.inr (Or.inr (Or.inr (Or.inr (Or.inr ⟨e_m188, 0, rfl, e_mo188, Or.inr (Or.inr (Or.inr ⟨by decide, rfl, rfl, lw_g6 119 (by decide +kernel) (by decide +kernel)⟩))⟩))))
  rcases List.mem_cons.mp hq with rfl | hq
  · exact Or.inr (Or.inr (Or.inr (Or.inr (Or.inr ⟨e_m190, 1, rfl, e_mo190, Or.inl ⟨rfl, rfl, rfl, lw_g6 127 (by decide +kernel) (by decide +kernel)⟩⟩))))
  rcases List.mem_cons.mp hq with rfl | hq
  · exact Or.inr (Or.inr (Or.inr (Or.inr (Or.inr ⟨e_m189, 1, rfl, e_mo189, Or.inr (Or.inr (Or.inr ⟨by decide, rfl, rfl, lw_g6 123 (by decide +kernel) (by decide +kernel)⟩))⟩))))
  rcases List.mem_cons.mp hq with rfl | hq
  · exact Or.inr (Or.inr (Or.inr (Or.inr (Or.inr ⟨e_m191, 0, rfl, e_mo191, Or.inr (Or.inr (Or.inr ⟨by decide, rfl, rfl, lw_g6 130 (by decide +kernel) (by decide +kernel)⟩))⟩))))
  rcases List.mem_cons.mp hq with rfl | hq
  · exact Or.inr (Or.inr (Or.inr (Or.inr (Or.inr ⟨e_m186, 1, rfl, e_mo186, Or.inr (Or.inr (Or.inr ⟨by decide, rfl, rfl, lw_g6 111 (by decide +kernel) (by decide +kernel)⟩))⟩))))
  rcases List.mem_cons.mp hq with rfl | hq
  · exact Or.inr (Or.inr (Or.inr (Or.inr (Or.inr ⟨e_m187, 0, rfl, e_mo187, Or.inr (Or.inr (Or.inr ⟨by decide, rfl, rfl, lw_g6 115 (by decide +kernel) (by decide +kernel)⟩))⟩))))
  rcases List.mem_cons.mp hq with rfl | hq
  · exact Or.inr (Or.inr (Or.inr (Or.inr (Or.inr ⟨e_m193, 0, rfl, e_mo193, Or.inr (Or.inr (Or.inr ⟨by decide, rfl, rfl, lw_g6 140 (by decide +kernel) (by decide +kernel)⟩))⟩))))
  rcases List.mem_cons.mp hq with rfl | hq
  · exact Or.inr (Or.inr (Or.inr (Or.inr (Or.inr ⟨e_m195, 1, rfl, e_mo195, Or.inr (Or.inr (Or.inr ⟨by decide, rfl, rfl, lw_g6 148 (by decide +kernel) (by decide +kernel)⟩))⟩))))
  rcases List.mem_cons.mp hq with rfl | hq
  · exact Or.inr (Or.inr (Or.inr (Or.inr (Or.inr ⟨e_m197, 1, rfl, e_mo197, Or.inr (Or.inr (Or.inr ⟨by decide, rfl, rfl, lw_g6 156 (by decide +kernel) (by decide +kernel)⟩))⟩))))
  rcases List.mem_cons.mp hq with rfl | hq
  · exact Or.inr (Or.inr (Or.inr (Or.inr (Or.inr ⟨e_m198, 1, rfl, e_mo198, Or.inr (Or.inr (Or.inr ⟨by decide, rfl, rfl, lw_g6 160 (by decide +kernel) (by decide +kernel)⟩))⟩))))
  rcases List.mem_cons.mp hq with rfl | hq
  · exact Or.inr (Or.inr (Or.inr (Or.inr (Or.inr ⟨e_m199, 1, rfl, e_mo199, Or.inr (Or.inr (Or.inr ⟨by decide, rfl, rfl, lw_g6 164 (by decide +kernel) (by decide +kernel)⟩))⟩))))
  rcases List.mem_cons.mp hq with rfl | hq
  · exact Or.inr (Or.inr (Or.inr (Or.inr (Or.inr ⟨e_m200, 1, rfl, e_mo200, Or.inl ⟨rfl, rfl, rfl, lw_g6 168 (by decide +kernel) (by decide +kernel)⟩⟩))))
  rcases List.mem_cons.mp hq with rfl | hq
  · exact Or.inr (Or.inr (Or.inr (Or.inr (Or.inr ⟨e_m202, 1, rfl, e_mo202, Or.inr (Or.inr (Or.inr ⟨by decide, rfl, rfl, lw_g6 175 (by decide +kernel) (by decide +kernel)⟩))⟩))))
  rcases List.mem_cons.mp hq with rfl | hq
  · exact Or.inr (Or.inr (Or.inr (Or.inr (Or.inr ⟨e_m203, 1, rfl, e_mo203, Or.inr (Or.inr (Or.inr ⟨by decide, rfl, rfl, lw_g6 180 (by decide +kernel) (by decide +kernel)⟩))⟩))))
  rcases List.mem_cons.mp hq with rfl | hq
  · exact Or.inr (Or.inr (Or.inr (Or.inr (Or.inr ⟨e_m205, 2, rfl, e_mo205, Or.inr (Or.inr (Or.inr ⟨by decide, rfl, rfl, lw_g6 188 (by decide +kernel) (by decide +kernel)⟩))⟩))))
  rcases List.mem_cons.mp hq with rfl | hq
  · exact Or.inr (Or.inr (Or.inr (Or.inr (Or.inr ⟨e_m208, 0, rfl, e_mo208, Or.inr (Or.inr (Or.inr ⟨by decide, rfl, rfl, lw_g6 200 (by decide +kernel) (by decide +kernel)⟩))⟩))))
  rcases List.mem_cons.mp hq with rfl | hq
  · exact Or.inr (Or.inr (Or.inr (Or.inr (Or.inr ⟨e_m209, 0, rfl, e_mo209, Or.inr (Or.inr (Or.inr ⟨by decide, rfl, rfl, lw_g6 204 (by decide +kernel) (by decide +kernel)⟩))⟩))))
  rcases List.mem_cons.mp hq with rfl | hq
  · exact Or.inr (Or.inr (Or.inr (Or.inr (Or.inr ⟨e_m210, 0, rfl, e_mo210, Or.inr (Or.inr (Or.inr ⟨by decide, rfl, rfl, lw_g6 208 (by decide +kernel) (by decide +kernel)⟩))⟩))))
  rcases List.mem_cons.mp hq with rfl | hq
  · exact Or.inr (Or.inr (Or.inr (Or.inr (Or.inr ⟨e_m211, 1, rfl, e_mo211, Or.inr (Or.inr (Or.inr ⟨by decide, rfl, rfl, lw_g6 212 (by decide +kernel) (by decide +kernel)⟩))⟩))))
  rcases List.mem_cons.mp hq with rfl | hq
  · exact Or.inr (Or.inr (Or.inr (Or.inr (Or.inr ⟨e_m212, 2, rfl, e_mo212, Or.inl ⟨rfl, rfl, rfl, lw_g6 216 (by decide +kernel) (by decide +kernel)⟩⟩))))
  rcases List.mem_cons.mp hq with rfl | hq
  · exact Or.inr (Or.inr (Or.inr (Or.inr (Or.inr ⟨e_m213, 1, rfl, e_mo213, Or.inr (Or.inr (Or.inr ⟨by decide, rfl, rfl, lw_g6 219 (by decide +kernel) (by decide +kernel)⟩))⟩))))
  rcases List.mem_cons.mp hq with rfl | hq
  · exact Or.inr (Or.inr (Or.inr (Or.inr (Or.inr ⟨e_m221, 1, rfl, e_mo221, Or.inr (Or.inr (Or.inr ⟨by decide, rfl, rfl, lw_g7 10 (by decide +kernel) (by decide +kernel)⟩))⟩))))
  rcases List.mem_cons.mp hq with rfl | hq
  · exact Or.inr (Or.inr (Or.inr (Or.inr (Or.inr ⟨e_m223, 1, rfl, e_mo223, Or.inr (Or.inr (Or.inr ⟨by decide, rfl, rfl, lw_g7 17 (by decide +kernel) (by decide +kernel)⟩))⟩))))
  rcases List.mem_cons.mp hq with rfl | hq
  · exact Or.inr (Or.inr (Or.inr (Or.inr (Or.inr ⟨e_m214, 2, rfl, e_mo214, Or.inr (Or.inr (Or.inr ⟨by decide, rfl, rfl, lw_g6 223 (by decide +kernel) (by decide +kernel)⟩))⟩))))
  rcases List.mem_cons.mp hq with rfl | hq
  · exact Or.inr (Or.inr (Or.inr (Or.inr (Or.inr ⟨e_m216, 1, rfl, e_mo216, Or.inr (Or.inr (Or.inr ⟨by decide, rfl, rfl, lw_g6 231 (by decide +kernel) (by decide +kernel)⟩))⟩))))
  rcases List.mem_cons.mp hq with rfl | hq
  · exact Or.inr (Or.inr (Or.inr (Or.inr (Or.inr ⟨e_m215, 1, rfl, e_mo215, Or.inr (Or.inr (Or.inr ⟨by decide, rfl, rfl, lw_g6 227 (by decide +kernel) (by decide +kernel)⟩))⟩))))
  rcases List.mem_cons.mp hq with rfl | hq
  · exact Or.inr (Or.inr (Or.inr (Or.inr (Or.inr ⟨e_m217, 3, rfl, e_mo217, Or.inr (Or.inr (Or.inr ⟨by decide, rfl, rfl, lw_g6 235 (by decide +kernel) (by decide +kernel)⟩))⟩))))
  rcases List.mem_cons.mp hq with rfl | hq
  · exact Or.inr (Or.inr (Or.inr (Or.inr (Or.inr ⟨e_m218, 1, rfl, e_mo218, Or.inr (Or.inr (Or.inr ⟨by decide, rfl, rfl, lw_g6 239 (by decide +kernel) (by decide +kernel)⟩))⟩))))
  rcases List.mem_cons.mp hq with rfl | hq
  · exact Or.inr (Or.inr (Or.inr (Or.inr (Or.inr ⟨e_m219, 0, rfl, e_mo219, Or.inr (Or.inr (Or.inr ⟨by decide, rfl, rfl, lw_g7 3 (by decide +kernel) (by decide +kernel)⟩))⟩))))
  rcases List.mem_cons.mp hq with rfl | hq
  · exact Or.inr (Or.inr (Or.inr (Or.inr (Or.inr ⟨e_m220, 3, rfl, e_mo220, Or.inl ⟨rfl, rfl, rfl, lw_g7 7 (by decide +kernel) (by decide +kernel)⟩⟩))))
  rcases List.mem_cons.mp hq with rfl | hq
  · exact Or.inr (Or.inr (Or.inr (Or.inr (Or.inr ⟨e_m222, 2, rfl, e_mo222, Or.inl ⟨rfl, rfl, rfl, lw_g7 14 (by decide +kernel) (by decide +kernel)⟩⟩))))
  rcases List.mem_cons.mp hq with rfl | hq
  · exact Or.inr (Or.inr (Or.inr (Or.inr (Or.inr ⟨e_m226, 2, rfl, e_mo226, Or.inr (Or.inr (Or.inr ⟨by decide, rfl, rfl, lw_g7 30 (by decide +kernel) (by decide +kernel)⟩))⟩))))
  rcases List.mem_cons.mp hq with rfl | hq
  · exact Or.inr (Or.inr (Or.inr (Or.inr (Or.inr ⟨e_m229, 0, rfl, e_mo229, Or.inr (Or.inr (Or.inr ⟨by decide, rfl, rfl, lw_g7 44 (by decide +kernel) (by decide +kernel)⟩))⟩))))
  rcases List.mem_cons.mp hq with rfl | hq
  · exact Or.inr (Or.inr (Or.inr (Or.inr (Or.inr ⟨e_m230, 0, rfl, e_mo230, Or.inr (Or.inr (Or.inr ⟨by decide, rfl, rfl, lw_g7 48 (by decide +kernel) (by decide +kernel)⟩))⟩))))
  rcases List.mem_cons.mp hq with rfl | hq
  · exact Or.inr (Or.inr (Or.inr (Or.inr (Or.inr ⟨e_m232, 1, rfl, e_mo232, Or.inr (Or.inr (Or.inr ⟨by decide, rfl, rfl, lw_g7 57 (by decide +kernel) (by decide +kernel)⟩))⟩))))
  rcases List.mem_cons.mp hq with rfl | hq
  · exact Or.inr (Or.inr (Or.inr (Or.inr (Or.inr ⟨e_m234, 2, rfl, e_mo234, Or.inr (Or.inr (Or.inr ⟨by decide, rfl, rfl, lw_g7 65 (by decide +kernel) (by decide +kernel)⟩))⟩))))
  rcases List.mem_cons.mp hq with rfl | hq
  · exact Or.inr (Or.inr (Or.inr (Or.inr (Or.inr ⟨e_m235, 1, rfl, e_mo235, Or.inr (Or.inr (Or.inr ⟨by decide, rfl, rfl, lw_g7 69 (by decide +kernel) (by decide +kernel)⟩))⟩))))
  rcases List.mem_cons.mp hq with rfl | hq
  · exact Or.inr (Or.inr (Or.inr (Or.inr (Or.inr ⟨e_m236, 1, rfl, e_mo236, Or.inr (Or.inr (Or.inr ⟨by decide, rfl, rfl, lw_g7 73 (by decide +kernel) (by decide +kernel)⟩))⟩))))
  rcases List.mem_cons.mp hq with rfl | hq
  · exact Or.inr (Or.inr (Or.inr (Or.inr (Or.inr ⟨e_m238, 1, rfl, e_mo238, Or.inr (Or.inr (Or.inr ⟨by decide, rfl, rfl, lw_g7 81 (by decide +kernel) (by decide +kernel)⟩))⟩))))
  rcases List.mem_cons.mp hq with rfl | hq
  · exact Or.inr (Or.inr (Or.inr (Or.inr (Or.inr ⟨e_m240, 2, rfl, e_mo240, Or.inr (Or.inr (Or.inr ⟨by decide, rfl, rfl, lw_g7 89 (by decide +kernel) (by decide +kernel)⟩))⟩))))
  rcases List.mem_cons.mp hq with rfl | hq
  · exact Or.inr (Or.inr (Or.inr (Or.inr (Or.inr ⟨e_m243, 2, rfl, e_mo243, Or.inr (Or.inr (Or.inr ⟨by decide, rfl, rfl, lw_g7 102 (by decide +kernel) (by decide +kernel)⟩))⟩))))
  rcases List.mem_cons.mp hq with rfl | hq
  · exact Or.inr (Or.inr (Or.inr (Or.inr (Or.inr ⟨e_m245, 1, rfl, e_mo245, Or.inr (Or.inr (Or.inr ⟨by decide, rfl, rfl, lw_g7 110 (by decide +kernel) (by decide +kernel)⟩))⟩))))
  rcases List.mem_cons.mp hq with rfl | hq
  · exact Or.inr (Or.inr (Or.inr (Or.inr (Or.inr ⟨e_m246, 1, rfl, e_mo246, Or.inr (Or.inr (Or.inr ⟨by decide, rfl, rfl, lw_g7 114 (by decide +kernel) (by decide +kernel)⟩))⟩))))
  rcases List.mem_cons.mp hq with rfl | hq
  · exact Or.inr (Or.inr (Or.inr (Or.inr (Or.inr ⟨e_m249, 2, rfl, e_mo249, Or.inr (Or.inr (Or.inr ⟨by decide, rfl, rfl, lw_g7 127 (by decide +kernel) (by decide +kernel)⟩))⟩))))
  rcases List.mem_cons.mp hq with rfl | hq
  · exact Or.inr (Or.inr (Or.inr (Or.inr (Or.inr ⟨e_m252, 1, rfl, e_mo252, Or.inr (Or.inr (Or.inr ⟨by decide, rfl, rfl, lw_g7 140 (by decide +kernel) (by decide +kernel)⟩))⟩))))
  rcases List.mem_cons.mp hq with rfl | hq
  · exact Or.inr (Or.inr (Or.inr (Or.inr (Or.inr ⟨e_m253, 1, rfl, e_mo253, Or.inr (Or.inr (Or.inr ⟨by decide, rfl, rfl, lw_g7 144 (by decide +kernel) (by decide +kernel)⟩))⟩))))
  rcases List.mem_cons.mp hq with rfl | hq
  · exact Or.inr (Or.inr (Or.inr (Or.inr (Or.inr ⟨e_m255, 1, rfl, e_mo255, Or.inr (Or.inr (Or.inr ⟨by decide, rfl, rfl, lw_g7 152 (by decide +kernel) (by decide +kernel)⟩))⟩))))
  rcases List.mem_cons.mp hq with rfl | hq
  · exact Or.inr (Or.inr (Or.inr (Or.inr (Or.inr ⟨e_m258, 1, rfl, e_mo258, Or.inr (Or.inr (Or.inr ⟨by decide, rfl, rfl, lw_g7 166 (by decide +kernel) (by decide +kernel)⟩))⟩))))
  rcases List.mem_cons.mp hq with rfl | hq
  · exact Or.inr (Or.inr (Or.inr (Or.inr (Or.inr ⟨e_m259, 0, rfl, e_mo259, Or.inr (Or.inr (Or.inr ⟨by decide, rfl, rfl, lw_g7 174 (by decide +kernel) (by decide +kernel)⟩))⟩))))
  cases hq
theorem e_pc18 : ∀ q ∈ e_p18.2.2.1, e_cok "MaySheepModel" q := by
  intro q hq
  cases hq
theorem e_pi18 : ∀ q ∈ e_p18.2.2.2.1, Cond.constant "MaySheepModel" q.1 (Int32.ofInt q.2) ∈ lw_good := by
  intro q hq
  rcases List.mem_cons.mp hq with rfl | hq
  · exact lw_g6 75 (by decide +kernel) (by decide +kernel)
  rcases List.mem_cons.mp hq with rfl | hq
  · exact lw_g7 126 (by decide +kernel) (by decide +kernel)
  cases hq
theorem e_pl18 : ∀ q ∈ e_p18.2.2.2.2, Cond.constantLong "MaySheepModel" q.1 (Int64.ofInt q.2) ∈ lw_good := by
  intro q hq
  rcases List.mem_cons.mp hq with rfl | hq
  · exact lw_g6 11 (by decide +kernel) (by decide +kernel)
  rcases List.mem_cons.mp hq with rfl | hq
  · exact lw_g5 238 (by decide +kernel) (by decide +kernel)
  rcases List.mem_cons.mp hq with rfl | hq
  · exact lw_g6 7 (by decide +kernel) (by decide +kernel)
  rcases List.mem_cons.mp hq with rfl | hq
  · exact lw_g6 8 (by decide +kernel) (by decide +kernel)
  rcases List.mem_cons.mp hq with rfl | hq
  · exact lw_g6 9 (by decide +kernel) (by decide +kernel)
  rcases List.mem_cons.mp hq with rfl | hq
  · exact lw_g6 10 (by decide +kernel) (by decide +kernel)
  rcases List.mem_cons.mp hq with rfl | hq
  · exact lw_g6 97 (by decide +kernel) (by decide +kernel)
  rcases List.mem_cons.mp hq with rfl | hq
  · exact lw_g6 88 (by decide +kernel) (by decide +kernel)
  rcases List.mem_cons.mp hq with rfl | hq
  · exact lw_g6 89 (by decide +kernel) (by decide +kernel)
  rcases List.mem_cons.mp hq with rfl | hq
  · exact lw_g6 90 (by decide +kernel) (by decide +kernel)
  rcases List.mem_cons.mp hq with rfl | hq
  · exact lw_g6 91 (by decide +kernel) (by decide +kernel)
  rcases List.mem_cons.mp hq with rfl | hq
  · exact lw_g6 92 (by decide +kernel) (by decide +kernel)
  rcases List.mem_cons.mp hq with rfl | hq
  · exact lw_g6 93 (by decide +kernel) (by decide +kernel)
  rcases List.mem_cons.mp hq with rfl | hq
  · exact lw_g6 94 (by decide +kernel) (by decide +kernel)
  rcases List.mem_cons.mp hq with rfl | hq
  · exact lw_g6 95 (by decide +kernel) (by decide +kernel)
  rcases List.mem_cons.mp hq with rfl | hq
  · exact lw_g6 96 (by decide +kernel) (by decide +kernel)
  rcases List.mem_cons.mp hq with rfl | hq
  · exact lw_g6 134 (by decide +kernel) (by decide +kernel)
  rcases List.mem_cons.mp hq with rfl | hq
  · exact lw_g6 135 (by decide +kernel) (by decide +kernel)
  rcases List.mem_cons.mp hq with rfl | hq
  · exact lw_g6 110 (by decide +kernel) (by decide +kernel)
  rcases List.mem_cons.mp hq with rfl | hq
  · exact lw_g6 179 (by decide +kernel) (by decide +kernel)
  rcases List.mem_cons.mp hq with rfl | hq
  · exact lw_g7 25 (by decide +kernel) (by decide +kernel)
  rcases List.mem_cons.mp hq with rfl | hq
  · exact lw_g7 42 (by decide +kernel) (by decide +kernel)
  rcases List.mem_cons.mp hq with rfl | hq
  · exact lw_g7 43 (by decide +kernel) (by decide +kernel)
  rcases List.mem_cons.mp hq with rfl | hq
  · exact lw_g7 56 (by decide +kernel) (by decide +kernel)
  rcases List.mem_cons.mp hq with rfl | hq
  · exact lw_g7 97 (by decide +kernel) (by decide +kernel)
  rcases List.mem_cons.mp hq with rfl | hq
  · exact lw_g7 135 (by decide +kernel) (by decide +kernel)
  rcases List.mem_cons.mp hq with rfl | hq
  · exact lw_g7 164 (by decide +kernel) (by decide +kernel)
  rcases List.mem_cons.mp hq with rfl | hq
  · exact lw_g7 165 (by decide +kernel) (by decide +kernel)
  rcases List.mem_cons.mp hq with rfl | hq
  · exact lw_g7 170 (by decide +kernel) (by decide +kernel)
  rcases List.mem_cons.mp hq with rfl | hq
  · exact lw_g7 171 (by decide +kernel) (by decide +kernel)
  rcases List.mem_cons.mp hq with rfl | hq
  · exact lw_g7 172 (by decide +kernel) (by decide +kernel)
  rcases List.mem_cons.mp hq with rfl | hq
  · exact lw_g7 173 (by decide +kernel) (by decide +kernel)
  cases hq
theorem e_po18 : e_pok e_ms "MaySheepModel" e_p18 := ⟨e_pf18, e_pm18, e_pc18, e_pi18, e_pl18⟩
/-- the pools of MaySheepLaw -/
def e_p19 : eP := ([], [(9, 0, 1, 1), (12, 153, 1, 1), (13, 11, 6, 31), (17, 154, 6, 32), (18, 14, 2, 31), (22, 156, 2, 32), (23, 16, 1, 31), (27, 192, 1, 32), (28, 57, 1, 31), (31, 157, 1, 32), (32, 72, 2, 31), (35, 194, 2, 32), (36, 73, 3, 31), (40, 196, 3, 32), (41, 77, 3, 31), (44, 201, 3, 32), (45, 80, 3, 31), (48, 204, 3, 32), (49, 81, 1, 31), (52, 207, 1, 32), (53, 98, 4, 31), (57, 224, 4, 32), (58, 99, 3, 31), (61, 225, 3, 32), (62, 100, 3, 31), (65, 227, 3, 32), (66, 101, 1, 31), (69, 206, 1, 32), (70, 103, 4, 31), (73, 228, 4, 32), (74, 104, 4, 31), (77, 231, 4, 32), (78, 109, 4, 31), (81, 233, 4, 32), (82, 112, 2, 31), (85, 237, 2, 32), (86, 115, 5, 31), (90, 239, 5, 32), (91, 118, 3, 31), (94, 241, 3, 32), (95, 121, 2, 31), (98, 242, 2, 32), (99, 124, 2, 31), (102, 244, 2, 32), (103, 126, 3, 31), (106, 247, 3, 32), (107, 129, 4, 31), (110, 248, 4, 32), (111, 130, 4, 31), (114, 250, 4, 32), (115, 133, 2, 31), (118, 251, 2, 32), (119, 138, 3, 31), (122, 254, 3, 32), (123, 142, 2, 31), (126, 256, 2, 32), (127, 143, 5, 31), (130, 257, 5, 32), (131, 147, 2, 31), (134, 260, 2, 32), (135, 149, 2, 31), (138, 261, 2, 32), (139, 152, 2, 31), (142, 262, 2, 32)], [(7, 11, 11), (10, 12, 39)], [], [])
theorem e_pf19 : ∀ q ∈ e_p19.1, e_fok "MaySheepLaw" q := by
  intro q hq
  cases hq
theorem e_pm19 : ∀ q ∈ e_p19.2.1, e_mlk e_ms "MaySheepLaw" q := by
  intro q hq
  rcases List.mem_cons.mp hq with rfl | hq
  · exact Or.inr (Or.inr (Or.inr (Or.inr (Or.inr ⟨e_m0, 0, rfl, e_mo0, Or.inr (Or.inl ⟨rfl, rfl, rfl, lw_g1 24 (by decide +kernel) (by decide +kernel)⟩)⟩))))
  rcases List.mem_cons.mp hq with rfl | hq
  · exact Or.inr (Or.inr (Or.inr (Or.inr (Or.inr ⟨e_m153, 0, rfl, e_mo153, Or.inr (Or.inl ⟨rfl, rfl, rfl, lw_g5 84 (by decide +kernel) (by decide +kernel)⟩)⟩))))
  rcases List.mem_cons.mp hq with rfl | hq
  · exact Or.inr (Or.inr (Or.inr (Or.inr (Or.inr ⟨e_m11, 5, rfl, e_mo11, Or.inr (Or.inr (Or.inr ⟨by decide, rfl, rfl, lw_g2 166 (by decide +kernel) (by decide +kernel)⟩))⟩))))
  rcases List.mem_cons.mp hq with rfl | hq
  · exact Or.inr (Or.inr (Or.inr (Or.inr (Or.inr ⟨e_m154, 5, rfl, e_mo154, Or.inr (Or.inr (Or.inr ⟨by decide, rfl, rfl, lw_g5 206 (by decide +kernel) (by decide +kernel)⟩))⟩))))
  rcases List.mem_cons.mp hq with rfl | hq
  · exact Or.inr (Or.inr (Or.inr (Or.inr (Or.inr ⟨e_m14, 1, rfl, e_mo14, Or.inr (Or.inr (Or.inr ⟨by decide, rfl, rfl, lw_g2 178 (by decide +kernel) (by decide +kernel)⟩))⟩))))
  rcases List.mem_cons.mp hq with rfl | hq
  · exact Or.inr (Or.inr (Or.inr (Or.inr (Or.inr ⟨e_m156, 1, rfl, e_mo156, Or.inr (Or.inr (Or.inr ⟨by decide, rfl, rfl, lw_g5 214 (by decide +kernel) (by decide +kernel)⟩))⟩))))
  rcases List.mem_cons.mp hq with rfl | hq
  · exact Or.inr (Or.inr (Or.inr (Or.inr (Or.inr ⟨e_m16, 0, rfl, e_mo16, Or.inr (Or.inr (Or.inr ⟨by decide, rfl, rfl, lw_g2 185 (by decide +kernel) (by decide +kernel)⟩))⟩))))
  rcases List.mem_cons.mp hq with rfl | hq
  · exact Or.inr (Or.inr (Or.inr (Or.inr (Or.inr ⟨e_m192, 0, rfl, e_mo192, Or.inr (Or.inr (Or.inr ⟨by decide, rfl, rfl, lw_g6 136 (by decide +kernel) (by decide +kernel)⟩))⟩))))
  rcases List.mem_cons.mp hq with rfl | hq
  · exact Or.inr (Or.inr (Or.inr (Or.inr (Or.inr ⟨e_m57, 0, rfl, e_mo57, Or.inr (Or.inr (Or.inr ⟨by decide, rfl, rfl, lw_g3 122 (by decide +kernel) (by decide +kernel)⟩))⟩))))
  rcases List.mem_cons.mp hq with rfl | hq
  · exact Or.inr (Or.inr (Or.inr (Or.inr (Or.inr ⟨e_m157, 0, rfl, e_mo157, Or.inr (Or.inr (Or.inr ⟨by decide, rfl, rfl, lw_g5 218 (by decide +kernel) (by decide +kernel)⟩))⟩))))
  rcases List.mem_cons.mp hq with rfl | hq
  · exact Or.inr (Or.inr (Or.inr (Or.inr (Or.inr ⟨e_m72, 1, rfl, e_mo72, Or.inr (Or.inr (Or.inr ⟨by decide, rfl, rfl, lw_g3 202 (by decide +kernel) (by decide +kernel)⟩))⟩))))
  rcases List.mem_cons.mp hq with rfl | hq
  · exact Or.inr (Or.inr (Or.inr (Or.inr (Or.inr ⟨e_m194, 1, rfl, e_mo194, Or.inr (Or.inr (Or.inr ⟨by decide, rfl, rfl, lw_g6 144 (by decide +kernel) (by decide +kernel)⟩))⟩))))
  rcases List.mem_cons.mp hq with rfl | hq
  · exact Or.inr (Or.inr (Or.inr (Or.inr (Or.inr ⟨e_m73, 2, rfl, e_mo73, Or.inr (Or.inr (Or.inr ⟨by decide, rfl, rfl, lw_g3 206 (by decide +kernel) (by decide +kernel)⟩))⟩))))
  rcases List.mem_cons.mp hq with rfl | hq
  · exact Or.inr (Or.inr (Or.inr (Or.inr (Or.inr ⟨e_m196, 2, rfl, e_mo196, Or.inr (Or.inr (Or.inr ⟨by decide, rfl, rfl, lw_g6 152 (by decide +kernel) (by decide +kernel)⟩))⟩))))
  rcases List.mem_cons.mp hq with rfl | hq
  · exact Or.inr (Or.inr (Or.inr (Or.inr (Or.inr ⟨e_m77, 2, rfl, e_mo77, Or.inr (Or.inr (Or.inr ⟨by decide, rfl, rfl, lw_g3 223 (by decide +kernel) (by decide +kernel)⟩))⟩))))
  rcases List.mem_cons.mp hq with rfl | hq
  · exact Or.inr (Or.inr (Or.inr (Or.inr (Or.inr ⟨e_m201, 2, rfl, e_mo201, Or.inr (Or.inr (Or.inr ⟨by decide, rfl, rfl, lw_g6 171 (by decide +kernel) (by decide +kernel)⟩))⟩))))
  rcases List.mem_cons.mp hq with rfl | hq
  · exact Or.inr (Or.inr (Or.inr (Or.inr (Or.inr ⟨e_m80, 2, rfl, e_mo80, Or.inr (Or.inr (Or.inr ⟨by decide, rfl, rfl, lw_g3 235 (by decide +kernel) (by decide +kernel)⟩))⟩))))
  rcases List.mem_cons.mp hq with rfl | hq
  · exact Or.inr (Or.inr (Or.inr (Or.inr (Or.inr ⟨e_m204, 2, rfl, e_mo204, Or.inr (Or.inr (Or.inr ⟨by decide, rfl, rfl, lw_g6 184 (by decide +kernel) (by decide +kernel)⟩))⟩))))
  rcases List.mem_cons.mp hq with rfl | hq
  · exact Or.inr (Or.inr (Or.inr (Or.inr (Or.inr ⟨e_m81, 0, rfl, e_mo81, Or.inr (Or.inr (Or.inr ⟨by decide, rfl, rfl, lw_g3 239 (by decide +kernel) (by decide +kernel)⟩))⟩))))
  rcases List.mem_cons.mp hq with rfl | hq
  · exact Or.inr (Or.inr (Or.inr (Or.inr (Or.inr ⟨e_m207, 0, rfl, e_mo207, Or.inr (Or.inr (Or.inr ⟨by decide, rfl, rfl, lw_g6 196 (by decide +kernel) (by decide +kernel)⟩))⟩))))
  rcases List.mem_cons.mp hq with rfl | hq
  · exact Or.inr (Or.inr (Or.inr (Or.inr (Or.inr ⟨e_m98, 3, rfl, e_mo98, Or.inr (Or.inr (Or.inr ⟨by decide, rfl, rfl, lw_g4 76 (by decide +kernel) (by decide +kernel)⟩))⟩))))
  rcases List.mem_cons.mp hq with rfl | hq
  · exact Or.inr (Or.inr (Or.inr (Or.inr (Or.inr ⟨e_m224, 3, rfl, e_mo224, Or.inr (Or.inr (Or.inr ⟨by decide, rfl, rfl, lw_g7 21 (by decide +kernel) (by decide +kernel)⟩))⟩))))
  rcases List.mem_cons.mp hq with rfl | hq
  · exact Or.inr (Or.inr (Or.inr (Or.inr (Or.inr ⟨e_m99, 2, rfl, e_mo99, Or.inr (Or.inr (Or.inr ⟨by decide, rfl, rfl, lw_g4 81 (by decide +kernel) (by decide +kernel)⟩))⟩))))
  rcases List.mem_cons.mp hq with rfl | hq
  · exact Or.inr (Or.inr (Or.inr (Or.inr (Or.inr ⟨e_m225, 2, rfl, e_mo225, Or.inr (Or.inr (Or.inr ⟨by decide, rfl, rfl, lw_g7 26 (by decide +kernel) (by decide +kernel)⟩))⟩))))
  rcases List.mem_cons.mp hq with rfl | hq
  · exact Or.inr (Or.inr (Or.inr (Or.inr (Or.inr ⟨e_m100, 2, rfl, e_mo100, Or.inr (Or.inr (Or.inr ⟨by decide, rfl, rfl, lw_g4 85 (by decide +kernel) (by decide +kernel)⟩))⟩))))
  rcases List.mem_cons.mp hq with rfl | hq
  · exact Or.inr (Or.inr (Or.inr (Or.inr (Or.inr ⟨e_m227, 2, rfl, e_mo227, Or.inr (Or.inr (Or.inr ⟨by decide, rfl, rfl, lw_g7 34 (by decide +kernel) (by decide +kernel)⟩))⟩))))
  rcases List.mem_cons.mp hq with rfl | hq
  · exact Or.inr (Or.inr (Or.inr (Or.inr (Or.inr ⟨e_m101, 0, rfl, e_mo101, Or.inr (Or.inr (Or.inr ⟨by decide, rfl, rfl, lw_g4 89 (by decide +kernel) (by decide +kernel)⟩))⟩))))
  rcases List.mem_cons.mp hq with rfl | hq
  · exact Or.inr (Or.inr (Or.inr (Or.inr (Or.inr ⟨e_m206, 0, rfl, e_mo206, Or.inr (Or.inr (Or.inr ⟨by decide, rfl, rfl, lw_g6 192 (by decide +kernel) (by decide +kernel)⟩))⟩))))
  rcases List.mem_cons.mp hq with rfl | hq
  · exact Or.inr (Or.inr (Or.inr (Or.inr (Or.inr ⟨e_m103, 3, rfl, e_mo103, Or.inr (Or.inr (Or.inr ⟨by decide, rfl, rfl, lw_g4 97 (by decide +kernel) (by decide +kernel)⟩))⟩))))
  rcases List.mem_cons.mp hq with rfl | hq
  · exact Or.inr (Or.inr (Or.inr (Or.inr (Or.inr ⟨e_m228, 3, rfl, e_mo228, Or.inr (Or.inr (Or.inr ⟨by decide, rfl, rfl, lw_g7 38 (by decide +kernel) (by decide +kernel)⟩))⟩))))
  rcases List.mem_cons.mp hq with rfl | hq
  · exact Or.inr (Or.inr (Or.inr (Or.inr (Or.inr ⟨e_m104, 3, rfl, e_mo104, Or.inr (Or.inr (Or.inr ⟨by decide, rfl, rfl, lw_g4 102 (by decide +kernel) (by decide +kernel)⟩))⟩))))
  rcases List.mem_cons.mp hq with rfl | hq
  · exact Or.inr (Or.inr (Or.inr (Or.inr (Or.inr ⟨e_m231, 3, rfl, e_mo231, Or.inr (Or.inr (Or.inr ⟨by decide, rfl, rfl, lw_g7 52 (by decide +kernel) (by decide +kernel)⟩))⟩))))
  rcases List.mem_cons.mp hq with rfl | hq
  · exact Or.inr (Or.inr (Or.inr (Or.inr (Or.inr ⟨e_m109, 3, rfl, e_mo109, Or.inr (Or.inr (Or.inr ⟨by decide, rfl, rfl, lw_g4 126 (by decide +kernel) (by decide +kernel)⟩))⟩))))
  rcases List.mem_cons.mp hq with rfl | hq
  · exact Or.inr (Or.inr (Or.inr (Or.inr (Or.inr ⟨e_m233, 3, rfl, e_mo233, Or.inr (Or.inr (Or.inr ⟨by decide, rfl, rfl, lw_g7 61 (by decide +kernel) (by decide +kernel)⟩))⟩))))
  rcases List.mem_cons.mp hq with rfl | hq
  · exact Or.inr (Or.inr (Or.inr (Or.inr (Or.inr ⟨e_m112, 1, rfl, e_mo112, Or.inr (Or.inr (Or.inr ⟨by decide, rfl, rfl, lw_g4 138 (by decide +kernel) (by decide +kernel)⟩))⟩))))
  rcases List.mem_cons.mp hq with rfl | hq
  · exact Or.inr (Or.inr (Or.inr (Or.inr (Or.inr ⟨e_m237, 1, rfl, e_mo237, Or.inr (Or.inr (Or.inr ⟨by decide, rfl, rfl, lw_g7 77 (by decide +kernel) (by decide +kernel)⟩))⟩))))
  rcases List.mem_cons.mp hq with rfl | hq
  · exact Or.inr (Or.inr (Or.inr (Or.inr (Or.inr ⟨e_m115, 4, rfl, e_mo115, Or.inr (Or.inr (Or.inr ⟨by decide, rfl, rfl, lw_g4 153 (by decide +kernel) (by decide +kernel)⟩))⟩))))
  rcases List.mem_cons.mp hq with rfl | hq
  · exact Or.inr (Or.inr (Or.inr (Or.inr (Or.inr ⟨e_m239, 4, rfl, e_mo239, Or.inr (Or.inr (Or.inr ⟨by decide, rfl, rfl, lw_g7 85 (by decide +kernel) (by decide +kernel)⟩))⟩))))
  rcases List.mem_cons.mp hq with rfl | hq
  · exact Or.inr (Or.inr (Or.inr (Or.inr (Or.inr ⟨e_m118, 2, rfl, e_mo118, Or.inr (Or.inr (Or.inr ⟨by decide, rfl, rfl, lw_g4 166 (by decide +kernel) (by decide +kernel)⟩))⟩))))
  rcases List.mem_cons.mp hq with rfl | hq
  · exact Or.inr (Or.inr (Or.inr (Or.inr (Or.inr ⟨e_m241, 2, rfl, e_mo241, Or.inr (Or.inr (Or.inr ⟨by decide, rfl, rfl, lw_g7 93 (by decide +kernel) (by decide +kernel)⟩))⟩))))
  rcases List.mem_cons.mp hq with rfl | hq
  · exact Or.inr (Or.inr (Or.inr (Or.inr (Or.inr ⟨e_m121, 1, rfl, e_mo121, Or.inr (Or.inr (Or.inr ⟨by decide, rfl, rfl, lw_g4 177 (by decide +kernel) (by decide +kernel)⟩))⟩))))
  rcases List.mem_cons.mp hq with rfl | hq
  · exact Or.inr (Or.inr (Or.inr (Or.inr (Or.inr ⟨e_m242, 1, rfl, e_mo242, Or.inr (Or.inr (Or.inr ⟨by decide, rfl, rfl, lw_g7 98 (by decide +kernel) (by decide +kernel)⟩))⟩))))
  rcases List.mem_cons.mp hq with rfl | hq
  · exact Or.inr (Or.inr (Or.inr (Or.inr (Or.inr ⟨e_m124, 1, rfl, e_mo124, Or.inr (Or.inr (Or.inr ⟨by decide, rfl, rfl, lw_g4 189 (by decide +kernel) (by decide +kernel)⟩))⟩))))
  rcases List.mem_cons.mp hq with rfl | hq
  · exact Or.inr (Or.inr (Or.inr (Or.inr (Or.inr ⟨e_m244, 1, rfl, e_mo244, Or.inr (Or.inr (Or.inr ⟨by decide, rfl, rfl, lw_g7 106 (by decide +kernel) (by decide +kernel)⟩))⟩))))
  rcases List.mem_cons.mp hq with rfl | hq
  · exact Or.inr (Or.inr (Or.inr (Or.inr (Or.inr ⟨e_m126, 2, rfl, e_mo126, Or.inr (Or.inr (Or.inr ⟨by decide, rfl, rfl, lw_g4 200 (by decide +kernel) (by decide +kernel)⟩))⟩))))
  rcases List.mem_cons.mp hq with rfl | hq
  · exact Or.inr (Or.inr (Or.inr (Or.inr (Or.inr ⟨e_m247, 2, rfl, e_mo247, Or.inr (Or.inr (Or.inr ⟨by decide, rfl, rfl, lw_g7 118 (by decide +kernel) (by decide +kernel)⟩))⟩))))
  rcases List.mem_cons.mp hq with rfl | hq
  · exact Or.inr (Or.inr (Or.inr (Or.inr (Or.inr ⟨e_m129, 3, rfl, e_mo129, Or.inr (Or.inr (Or.inr ⟨by decide, rfl, rfl, lw_g4 215 (by decide +kernel) (by decide +kernel)⟩))⟩))))
  rcases List.mem_cons.mp hq with rfl | hq
  · exact Or.inr (Or.inr (Or.inr (Or.inr (Or.inr ⟨e_m248, 3, rfl, e_mo248, Or.inr (Or.inr (Or.inr ⟨by decide, rfl, rfl, lw_g7 122 (by decide +kernel) (by decide +kernel)⟩))⟩))))
  rcases List.mem_cons.mp hq with rfl | hq
  · exact Or.inr (Or.inr (Or.inr (Or.inr (Or.inr ⟨e_m130, 3, rfl, e_mo130, Or.inr (Or.inr (Or.inr ⟨by decide, rfl, rfl, lw_g4 220 (by decide +kernel) (by decide +kernel)⟩))⟩))))
  rcases List.mem_cons.mp hq with rfl | hq
  · exact Or.inr (Or.inr (Or.inr (Or.inr (Or.inr ⟨e_m250, 3, rfl, e_mo250, Or.inr (Or.inr (Or.inr ⟨by decide, rfl, rfl, lw_g7 131 (by decide +kernel) (by decide +kernel)⟩))⟩))))
  rcases List.mem_cons.mp hq with rfl | hq
  · exact Or.inr (Or.inr (Or.inr (Or.inr (Or.inr ⟨e_m133, 1, rfl, e_mo133, Or.inr (Or.inr (Or.inr ⟨by decide, rfl, rfl, lw_g4 233 (by decide +kernel) (by decide +kernel)⟩))⟩))))
  rcases List.mem_cons.mp hq with rfl | hq
  · exact Or.inr (Or.inr (Or.inr (Or.inr (Or.inr ⟨e_m251, 1, rfl, e_mo251, Or.inr (Or.inr (Or.inr ⟨by decide, rfl, rfl, lw_g7 136 (by decide +kernel) (by decide +kernel)⟩))⟩))))
  rcases List.mem_cons.mp hq with rfl | hq
  · exact Or.inr (Or.inr (Or.inr (Or.inr (Or.inr ⟨e_m138, 2, rfl, e_mo138, Or.inr (Or.inr (Or.inr ⟨by decide, rfl, rfl, lw_g5 14 (by decide +kernel) (by decide +kernel)⟩))⟩))))
  rcases List.mem_cons.mp hq with rfl | hq
  · exact Or.inr (Or.inr (Or.inr (Or.inr (Or.inr ⟨e_m254, 2, rfl, e_mo254, Or.inr (Or.inr (Or.inr ⟨by decide, rfl, rfl, lw_g7 148 (by decide +kernel) (by decide +kernel)⟩))⟩))))
  rcases List.mem_cons.mp hq with rfl | hq
  · exact Or.inr (Or.inr (Or.inr (Or.inr (Or.inr ⟨e_m142, 1, rfl, e_mo142, Or.inr (Or.inr (Or.inr ⟨by decide, rfl, rfl, lw_g5 30 (by decide +kernel) (by decide +kernel)⟩))⟩))))
  rcases List.mem_cons.mp hq with rfl | hq
  · exact Or.inr (Or.inr (Or.inr (Or.inr (Or.inr ⟨e_m256, 1, rfl, e_mo256, Or.inr (Or.inr (Or.inr ⟨by decide, rfl, rfl, lw_g7 156 (by decide +kernel) (by decide +kernel)⟩))⟩))))
  rcases List.mem_cons.mp hq with rfl | hq
  · exact Or.inr (Or.inr (Or.inr (Or.inr (Or.inr ⟨e_m143, 4, rfl, e_mo143, Or.inr (Or.inr (Or.inr ⟨by decide, rfl, rfl, lw_g5 34 (by decide +kernel) (by decide +kernel)⟩))⟩))))
  rcases List.mem_cons.mp hq with rfl | hq
  · exact Or.inr (Or.inr (Or.inr (Or.inr (Or.inr ⟨e_m257, 4, rfl, e_mo257, Or.inr (Or.inr (Or.inr ⟨by decide, rfl, rfl, lw_g7 160 (by decide +kernel) (by decide +kernel)⟩))⟩))))
  rcases List.mem_cons.mp hq with rfl | hq
  · exact Or.inr (Or.inr (Or.inr (Or.inr (Or.inr ⟨e_m147, 1, rfl, e_mo147, Or.inr (Or.inr (Or.inr ⟨by decide, rfl, rfl, lw_g5 55 (by decide +kernel) (by decide +kernel)⟩))⟩))))
  rcases List.mem_cons.mp hq with rfl | hq
  · exact Or.inr (Or.inr (Or.inr (Or.inr (Or.inr ⟨e_m260, 1, rfl, e_mo260, Or.inr (Or.inr (Or.inr ⟨by decide, rfl, rfl, lw_g7 178 (by decide +kernel) (by decide +kernel)⟩))⟩))))
  rcases List.mem_cons.mp hq with rfl | hq
  · exact Or.inr (Or.inr (Or.inr (Or.inr (Or.inr ⟨e_m149, 1, rfl, e_mo149, Or.inr (Or.inr (Or.inr ⟨by decide, rfl, rfl, lw_g5 65 (by decide +kernel) (by decide +kernel)⟩))⟩))))
  rcases List.mem_cons.mp hq with rfl | hq
  · exact Or.inr (Or.inr (Or.inr (Or.inr (Or.inr ⟨e_m261, 1, rfl, e_mo261, Or.inr (Or.inr (Or.inr ⟨by decide, rfl, rfl, lw_g7 182 (by decide +kernel) (by decide +kernel)⟩))⟩))))
  rcases List.mem_cons.mp hq with rfl | hq
  · exact Or.inr (Or.inr (Or.inr (Or.inr (Or.inr ⟨e_m152, 1, rfl, e_mo152, Or.inr (Or.inr (Or.inr ⟨by decide, rfl, rfl, lw_g5 78 (by decide +kernel) (by decide +kernel)⟩))⟩))))
  rcases List.mem_cons.mp hq with rfl | hq
  · exact Or.inr (Or.inr (Or.inr (Or.inr (Or.inr ⟨e_m262, 1, rfl, e_mo262, Or.inr (Or.inr (Or.inr ⟨by decide, rfl, rfl, lw_g7 186 (by decide +kernel) (by decide +kernel)⟩))⟩))))
  cases hq
theorem e_pc19 : ∀ q ∈ e_p19.2.2.1, e_cok "MaySheepLaw" q := by
  intro q hq
  rcases List.mem_cons.mp hq with rfl | hq
  · exact Or.inl ⟨by decide, _, rfl, rfl, lw_g1 22 (by decide +kernel) (by decide +kernel)⟩
  rcases List.mem_cons.mp hq with rfl | hq
  · exact Or.inl ⟨by decide, _, rfl, rfl, lw_g5 82 (by decide +kernel) (by decide +kernel)⟩
  cases hq
theorem e_pi19 : ∀ q ∈ e_p19.2.2.2.1, Cond.constant "MaySheepLaw" q.1 (Int32.ofInt q.2) ∈ lw_good := by
  intro q hq
  cases hq
theorem e_pl19 : ∀ q ∈ e_p19.2.2.2.2, Cond.constantLong "MaySheepLaw" q.1 (Int64.ofInt q.2) ∈ lw_good := by
  intro q hq
  cases hq
theorem e_po19 : e_pok e_ms "MaySheepLaw" e_p19 := ⟨e_pf19, e_pm19, e_pc19, e_pi19, e_pl19⟩
theorem e_hA : Cond.arrayClass .int ∈ lw_good ∧ Cond.arrayClass .long ∈ lw_good ∧ Cond.arrayClass .byte ∈ lw_good ∧ Cond.arrayClass .boolean ∈ lw_good ∧ Cond.arrayOver (.array .int) ∈ lw_ex := ⟨lw_g1 66 (by decide +kernel) (by decide +kernel), lw_g2 91 (by decide +kernel) (by decide +kernel), lw_g1 65 (by decide +kernel) (by decide +kernel), lw_g2 90 (by decide +kernel) (by decide +kernel), lw_ex_of 193 (by decide +kernel) (by decide +kernel)⟩
theorem e_hB : Cond.native arraycopyName ∈ lw_good ∧ Cond.static arraycopyName ∈ lw_good ∧ Cond.initialized "java/lang/System" ∈ lw_good ∧ Cond.instanceMethod Lib.objectInit ∈ lw_good ∧ Cond.code Lib.objectInit ⟨#[0xb1]⟩ 1 none ∈ lw_good := ⟨lw_g3 111 (by decide +kernel) (by decide +kernel), lw_g3 110 (by decide +kernel) (by decide +kernel), lw_g1 19 (by decide +kernel) (by decide +kernel), lw_g1 28 (by decide +kernel) (by decide +kernel), lw_g1 29 (by decide +kernel) (by decide +kernel)⟩
theorem e_hM : Cond.initialized "java/lang/Math" ∈ lw_good ∧ (Cond.static Lib.Math.max.name ∈ lw_good ∧ Cond.code Lib.Math.max.name Lib.Math.max.code 2 (some .int) ∈ lw_good) ∧ (Cond.static Lib.Math.min.name ∈ lw_good ∧ Cond.code Lib.Math.min.name Lib.Math.min.code 2 (some .int) ∈ lw_good) ∧ Cond.static Lib.Math.abs.name ∈ lw_good ∧ Cond.code Lib.Math.abs.name Lib.Math.abs.code 1 (some .int) ∈ lw_good := ⟨lw_g1 18 (by decide +kernel) (by decide +kernel), ⟨lw_g3 40 (by decide +kernel) (by decide +kernel), lw_g3 41 (by decide +kernel) (by decide +kernel)⟩, ⟨lw_g3 191 (by decide +kernel) (by decide +kernel), lw_g3 192 (by decide +kernel) (by decide +kernel)⟩, lw_g4 198 (by decide +kernel) (by decide +kernel), lw_g4 199 (by decide +kernel) (by decide +kernel)⟩
