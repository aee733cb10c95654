/-! THE CLASS'S CELLS 3 to 160, as its constructors made them (without the two rules, the images, the rules, the acts) -/
def t_ck : List (Nat × Nat) := [(11, 11), (9, 8), (22, 400), (20, 401), (20, 401), (20, 401), (10, 5), (2, 9), (20, 8), (20, 4), (20, 4), (8, 5), (20, 8), (20, 8), (27, 8), (20, 4), (20, 4), (20, 4), (20, 4), (20, 4), (20, 4), (20, 4), (20, 4), (20, 4), (8, 5), (20, 8), (20, 8), (27, 8), (20, 4), (20, 4), (20, 4), (20, 4), (20, 4), (20, 4), (20, 4), (20, 4), (20, 4), (5, 4), (20, 10), (20, 10), (20, 10), (24, 4), (2, 9), (20, 8), (20, 4), (20, 4), (8, 5), (20, 8), (20, 8), (27, 8), (20, 4), (20, 4), (20, 4), (20, 4), (20, 4), (20, 4), (20, 4), (20, 4), (20, 4), (7, 3), (20, 400), (25, 6), (0, 3), (26, 20), (3, 3), (20, 8), (20, 8), (20, 8), (4, 9), (8, 5), (20, 8), (20, 8), (27, 8), (20, 4), (20, 4), (20, 4), (20, 4), (20, 4), (20, 4), (20, 4), (20, 4), (20, 4), (3, 3), (20, 8), (20, 8), (20, 8), (2, 9), (20, 8), (20, 4), (20, 4), (8, 5), (20, 8), (20, 8), (27, 8), (20, 4), (20, 4), (20, 4), (20, 4), (20, 4), (20, 4), (20, 4), (20, 4), (20, 4), (23, 8), (20, 4), (20, 8), (21, 12), (21, 32), (1, 10), (20, 3), (4, 9), (8, 5), (20, 8), (20, 8), (27, 8), (20, 4), (20, 4), (20, 4), (20, 4), (20, 4), (20, 4), (20, 4), (20, 4), (20, 4), (3, 3), (20, 8), (20, 8), (20, 8), (2, 9), (20, 8), (20, 4), (20, 4), (8, 5), (20, 8), (20, 8), (27, 8), (20, 4), (20, 4), (20, 4), (20, 4), (20, 4), (20, 4), (20, 4), (20, 4), (20, 4), (23, 8), (20, 4), (20, 8), (21, 12), (21, 32), (20, 8), (20, 8), (20, 8), (20, 25), (20, 25), (20, 41), (20, 7), (20, 5)]
def t_cr : List (Nat × Nat × Nat) := [(3, 0, 6), (3, 1, 11), (3, 2, 46), (3, 3, 47), (3, 4, 64), (3, 5, 66), (3, 7, 67), (3, 8, 69), (3, 9, 73), (3, 10, 113), (4, 2, 7), (4, 3, 8), (4, 4, 9), (4, 5, 10), (9, 0, 12), (9, 1, 29), (9, 2, 42), (10, 5, 13), (10, 6, 14), (10, 7, 15), (10, 8, 16), (14, 0, 17), (14, 1, 18), (14, 2, 19), (14, 3, 28), (17, 0, 20), (17, 1, 21), (17, 2, 22), (17, 3, 23), (17, 4, 24), (17, 5, 25), (17, 6, 26), (17, 7, 27), (27, 0, 30), (27, 1, 31), (27, 2, 32), (27, 3, 41), (30, 0, 33), (30, 1, 34), (30, 2, 35), (30, 3, 36), (30, 4, 37), (30, 5, 38), (30, 6, 39), (30, 7, 40), (40, 1, 43), (40, 2, 44), (40, 3, 45), (45, 5, 48), (45, 6, 49), (45, 7, 50), (45, 8, 51), (49, 0, 52), (49, 1, 53), (49, 2, 54), (49, 3, 63), (52, 0, 55), (52, 1, 56), (52, 2, 57), (52, 3, 58), (52, 4, 59), (52, 5, 60), (52, 6, 61), (52, 7, 62), (62, 0, 65), (65, 2, 68), (67, 0, 70), (67, 1, 71), (67, 2, 72), (71, 0, 74), (71, 1, 87), (71, 2, 91), (71, 3, 108), (71, 5, 109), (71, 6, 110), (71, 7, 111), (71, 8, 112), (72, 0, 75), (72, 1, 76), (72, 2, 77), (72, 3, 86), (75, 0, 78), (75, 1, 79), (75, 2, 80), (75, 3, 81), (75, 4, 82), (75, 5, 83), (75, 6, 84), (75, 7, 85), (85, 0, 88), (85, 1, 89), (85, 2, 90), (89, 5, 92), (89, 6, 93), (89, 7, 94), (89, 8, 95), (93, 0, 96), (93, 1, 97), (93, 2, 98), (93, 3, 107), (96, 0, 99), (96, 1, 100), (96, 2, 101), (96, 3, 102), (96, 4, 103), (96, 5, 104), (96, 6, 105), (96, 7, 106), (111, 0, 114), (111, 1, 115), (111, 2, 155), (111, 3, 156), (111, 4, 157), (111, 5, 158), (111, 6, 159), (111, 7, 160), (111, 8, 161), (111, 9, 162), (113, 0, 116), (113, 1, 129), (113, 2, 133), (113, 3, 150), (113, 5, 151), (113, 6, 152), (113, 7, 153), (113, 8, 154), (114, 0, 117), (114, 1, 118), (114, 2, 119), (114, 3, 128), (117, 0, 120), (117, 1, 121), (117, 2, 122), (117, 3, 123), (117, 4, 124), (117, 5, 125), (117, 6, 126), (117, 7, 127), (127, 0, 130), (127, 1, 131), (127, 2, 132), (131, 5, 134), (131, 6, 135), (131, 7, 136), (131, 8, 137), (135, 0, 138), (135, 1, 139), (135, 2, 140), (135, 3, 149), (138, 0, 141), (138, 1, 142), (138, 2, 143), (138, 3, 144), (138, 4, 145), (138, 5, 146), (138, 6, 147), (138, 7, 148)]
def Ck (σ : eH) : Prop := (∀ c, c < 158 → σ.2.2.1 (3 + c) = t_ck.getD c (0, 0)) ∧ ∀ x, x ∈ t_cr → σ.2.2.2.2 x.1 x.2.1 = x.2.2
theorem ck3 {σ : eH} (h : Ck σ) : σ.2.2.1 3 = (11, 11) := h.1 0 (by decide)
theorem ck4 {σ : eH} (h : Ck σ) : σ.2.2.1 4 = (9, 8) := h.1 1 (by decide)
theorem ck5 {σ : eH} (h : Ck σ) : σ.2.2.1 5 = (22, 400) := h.1 2 (by decide)
theorem ck6 {σ : eH} (h : Ck σ) : σ.2.2.1 6 = (20, 401) := h.1 3 (by decide)
theorem ck7 {σ : eH} (h : Ck σ) : σ.2.2.1 7 = (20, 401) := h.1 4 (by decide)
theorem ck8 {σ : eH} (h : Ck σ) : σ.2.2.1 8 = (20, 401) := h.1 5 (by decide)
theorem ck9 {σ : eH} (h : Ck σ) : σ.2.2.1 9 = (10, 5) := h.1 6 (by decide)
theorem ck10 {σ : eH} (h : Ck σ) : σ.2.2.1 10 = (2, 9) := h.1 7 (by decide)
theorem ck11 {σ : eH} (h : Ck σ) : σ.2.2.1 11 = (20, 8) := h.1 8 (by decide)
theorem ck12 {σ : eH} (h : Ck σ) : σ.2.2.1 12 = (20, 4) := h.1 9 (by decide)
theorem ck13 {σ : eH} (h : Ck σ) : σ.2.2.1 13 = (20, 4) := h.1 10 (by decide)
theorem ck14 {σ : eH} (h : Ck σ) : σ.2.2.1 14 = (8, 5) := h.1 11 (by decide)
theorem ck15 {σ : eH} (h : Ck σ) : σ.2.2.1 15 = (20, 8) := h.1 12 (by decide)
theorem ck16 {σ : eH} (h : Ck σ) : σ.2.2.1 16 = (20, 8) := h.1 13 (by decide)
theorem ck17 {σ : eH} (h : Ck σ) : σ.2.2.1 17 = (27, 8) := h.1 14 (by decide)
theorem ck18 {σ : eH} (h : Ck σ) : σ.2.2.1 18 = (20, 4) := h.1 15 (by decide)
theorem ck19 {σ : eH} (h : Ck σ) : σ.2.2.1 19 = (20, 4) := h.1 16 (by decide)
theorem ck20 {σ : eH} (h : Ck σ) : σ.2.2.1 20 = (20, 4) := h.1 17 (by decide)
theorem ck21 {σ : eH} (h : Ck σ) : σ.2.2.1 21 = (20, 4) := h.1 18 (by decide)
theorem ck22 {σ : eH} (h : Ck σ) : σ.2.2.1 22 = (20, 4) := h.1 19 (by decide)
theorem ck23 {σ : eH} (h : Ck σ) : σ.2.2.1 23 = (20, 4) := h.1 20 (by decide)
theorem ck24 {σ : eH} (h : Ck σ) : σ.2.2.1 24 = (20, 4) := h.1 21 (by decide)
theorem ck25 {σ : eH} (h : Ck σ) : σ.2.2.1 25 = (20, 4) := h.1 22 (by decide)
theorem ck26 {σ : eH} (h : Ck σ) : σ.2.2.1 26 = (20, 4) := h.1 23 (by decide)
theorem ck27 {σ : eH} (h : Ck σ) : σ.2.2.1 27 = (8, 5) := h.1 24 (by decide)
theorem ck28 {σ : eH} (h : Ck σ) : σ.2.2.1 28 = (20, 8) := h.1 25 (by decide)
theorem ck29 {σ : eH} (h : Ck σ) : σ.2.2.1 29 = (20, 8) := h.1 26 (by decide)
theorem ck30 {σ : eH} (h : Ck σ) : σ.2.2.1 30 = (27, 8) := h.1 27 (by decide)
theorem ck31 {σ : eH} (h : Ck σ) : σ.2.2.1 31 = (20, 4) := h.1 28 (by decide)
theorem ck32 {σ : eH} (h : Ck σ) : σ.2.2.1 32 = (20, 4) := h.1 29 (by decide)
theorem ck33 {σ : eH} (h : Ck σ) : σ.2.2.1 33 = (20, 4) := h.1 30 (by decide)
theorem ck34 {σ : eH} (h : Ck σ) : σ.2.2.1 34 = (20, 4) := h.1 31 (by decide)
theorem ck35 {σ : eH} (h : Ck σ) : σ.2.2.1 35 = (20, 4) := h.1 32 (by decide)
theorem ck36 {σ : eH} (h : Ck σ) : σ.2.2.1 36 = (20, 4) := h.1 33 (by decide)
theorem ck37 {σ : eH} (h : Ck σ) : σ.2.2.1 37 = (20, 4) := h.1 34 (by decide)
theorem ck38 {σ : eH} (h : Ck σ) : σ.2.2.1 38 = (20, 4) := h.1 35 (by decide)
theorem ck39 {σ : eH} (h : Ck σ) : σ.2.2.1 39 = (20, 4) := h.1 36 (by decide)
theorem ck40 {σ : eH} (h : Ck σ) : σ.2.2.1 40 = (5, 4) := h.1 37 (by decide)
theorem ck41 {σ : eH} (h : Ck σ) : σ.2.2.1 41 = (20, 10) := h.1 38 (by decide)
theorem ck42 {σ : eH} (h : Ck σ) : σ.2.2.1 42 = (20, 10) := h.1 39 (by decide)
theorem ck43 {σ : eH} (h : Ck σ) : σ.2.2.1 43 = (20, 10) := h.1 40 (by decide)
theorem ck44 {σ : eH} (h : Ck σ) : σ.2.2.1 44 = (24, 4) := h.1 41 (by decide)
theorem ck45 {σ : eH} (h : Ck σ) : σ.2.2.1 45 = (2, 9) := h.1 42 (by decide)
theorem ck46 {σ : eH} (h : Ck σ) : σ.2.2.1 46 = (20, 8) := h.1 43 (by decide)
theorem ck47 {σ : eH} (h : Ck σ) : σ.2.2.1 47 = (20, 4) := h.1 44 (by decide)
theorem ck48 {σ : eH} (h : Ck σ) : σ.2.2.1 48 = (20, 4) := h.1 45 (by decide)
theorem ck49 {σ : eH} (h : Ck σ) : σ.2.2.1 49 = (8, 5) := h.1 46 (by decide)
theorem ck50 {σ : eH} (h : Ck σ) : σ.2.2.1 50 = (20, 8) := h.1 47 (by decide)
theorem ck51 {σ : eH} (h : Ck σ) : σ.2.2.1 51 = (20, 8) := h.1 48 (by decide)
theorem ck52 {σ : eH} (h : Ck σ) : σ.2.2.1 52 = (27, 8) := h.1 49 (by decide)
theorem ck53 {σ : eH} (h : Ck σ) : σ.2.2.1 53 = (20, 4) := h.1 50 (by decide)
theorem ck54 {σ : eH} (h : Ck σ) : σ.2.2.1 54 = (20, 4) := h.1 51 (by decide)
theorem ck55 {σ : eH} (h : Ck σ) : σ.2.2.1 55 = (20, 4) := h.1 52 (by decide)
theorem ck56 {σ : eH} (h : Ck σ) : σ.2.2.1 56 = (20, 4) := h.1 53 (by decide)
theorem ck57 {σ : eH} (h : Ck σ) : σ.2.2.1 57 = (20, 4) := h.1 54 (by decide)
theorem ck58 {σ : eH} (h : Ck σ) : σ.2.2.1 58 = (20, 4) := h.1 55 (by decide)
theorem ck59 {σ : eH} (h : Ck σ) : σ.2.2.1 59 = (20, 4) := h.1 56 (by decide)
theorem ck60 {σ : eH} (h : Ck σ) : σ.2.2.1 60 = (20, 4) := h.1 57 (by decide)
theorem ck61 {σ : eH} (h : Ck σ) : σ.2.2.1 61 = (20, 4) := h.1 58 (by decide)
theorem ck62 {σ : eH} (h : Ck σ) : σ.2.2.1 62 = (7, 3) := h.1 59 (by decide)
theorem ck63 {σ : eH} (h : Ck σ) : σ.2.2.1 63 = (20, 400) := h.1 60 (by decide)
theorem ck64 {σ : eH} (h : Ck σ) : σ.2.2.1 64 = (25, 6) := h.1 61 (by decide)
theorem ck65 {σ : eH} (h : Ck σ) : σ.2.2.1 65 = (0, 3) := h.1 62 (by decide)
theorem ck66 {σ : eH} (h : Ck σ) : σ.2.2.1 66 = (26, 20) := h.1 63 (by decide)
theorem ck67 {σ : eH} (h : Ck σ) : σ.2.2.1 67 = (3, 3) := h.1 64 (by decide)
theorem ck68 {σ : eH} (h : Ck σ) : σ.2.2.1 68 = (20, 8) := h.1 65 (by decide)
theorem ck69 {σ : eH} (h : Ck σ) : σ.2.2.1 69 = (20, 8) := h.1 66 (by decide)
theorem ck70 {σ : eH} (h : Ck σ) : σ.2.2.1 70 = (20, 8) := h.1 67 (by decide)
theorem ck71 {σ : eH} (h : Ck σ) : σ.2.2.1 71 = (4, 9) := h.1 68 (by decide)
theorem ck72 {σ : eH} (h : Ck σ) : σ.2.2.1 72 = (8, 5) := h.1 69 (by decide)
theorem ck73 {σ : eH} (h : Ck σ) : σ.2.2.1 73 = (20, 8) := h.1 70 (by decide)
theorem ck74 {σ : eH} (h : Ck σ) : σ.2.2.1 74 = (20, 8) := h.1 71 (by decide)
theorem ck75 {σ : eH} (h : Ck σ) : σ.2.2.1 75 = (27, 8) := h.1 72 (by decide)
theorem ck76 {σ : eH} (h : Ck σ) : σ.2.2.1 76 = (20, 4) := h.1 73 (by decide)
theorem ck77 {σ : eH} (h : Ck σ) : σ.2.2.1 77 = (20, 4) := h.1 74 (by decide)
theorem ck78 {σ : eH} (h : Ck σ) : σ.2.2.1 78 = (20, 4) := h.1 75 (by decide)
theorem ck79 {σ : eH} (h : Ck σ) : σ.2.2.1 79 = (20, 4) := h.1 76 (by decide)
theorem ck80 {σ : eH} (h : Ck σ) : σ.2.2.1 80 = (20, 4) := h.1 77 (by decide)
theorem ck81 {σ : eH} (h : Ck σ) : σ.2.2.1 81 = (20, 4) := h.1 78 (by decide)
theorem ck82 {σ : eH} (h : Ck σ) : σ.2.2.1 82 = (20, 4) := h.1 79 (by decide)
theorem ck83 {σ : eH} (h : Ck σ) : σ.2.2.1 83 = (20, 4) := h.1 80 (by decide)
theorem ck84 {σ : eH} (h : Ck σ) : σ.2.2.1 84 = (20, 4) := h.1 81 (by decide)
theorem ck85 {σ : eH} (h : Ck σ) : σ.2.2.1 85 = (3, 3) := h.1 82 (by decide)
theorem ck86 {σ : eH} (h : Ck σ) : σ.2.2.1 86 = (20, 8) := h.1 83 (by decide)
theorem ck87 {σ : eH} (h : Ck σ) : σ.2.2.1 87 = (20, 8) := h.1 84 (by decide)
theorem ck88 {σ : eH} (h : Ck σ) : σ.2.2.1 88 = (20, 8) := h.1 85 (by decide)
theorem ck89 {σ : eH} (h : Ck σ) : σ.2.2.1 89 = (2, 9) := h.1 86 (by decide)
theorem ck90 {σ : eH} (h : Ck σ) : σ.2.2.1 90 = (20, 8) := h.1 87 (by decide)
theorem ck91 {σ : eH} (h : Ck σ) : σ.2.2.1 91 = (20, 4) := h.1 88 (by decide)
theorem ck92 {σ : eH} (h : Ck σ) : σ.2.2.1 92 = (20, 4) := h.1 89 (by decide)
theorem ck93 {σ : eH} (h : Ck σ) : σ.2.2.1 93 = (8, 5) := h.1 90 (by decide)
theorem ck94 {σ : eH} (h : Ck σ) : σ.2.2.1 94 = (20, 8) := h.1 91 (by decide)
theorem ck95 {σ : eH} (h : Ck σ) : σ.2.2.1 95 = (20, 8) := h.1 92 (by decide)
theorem ck96 {σ : eH} (h : Ck σ) : σ.2.2.1 96 = (27, 8) := h.1 93 (by decide)
theorem ck97 {σ : eH} (h : Ck σ) : σ.2.2.1 97 = (20, 4) := h.1 94 (by decide)
theorem ck98 {σ : eH} (h : Ck σ) : σ.2.2.1 98 = (20, 4) := h.1 95 (by decide)
theorem ck99 {σ : eH} (h : Ck σ) : σ.2.2.1 99 = (20, 4) := h.1 96 (by decide)
theorem ck100 {σ : eH} (h : Ck σ) : σ.2.2.1 100 = (20, 4) := h.1 97 (by decide)
theorem ck101 {σ : eH} (h : Ck σ) : σ.2.2.1 101 = (20, 4) := h.1 98 (by decide)
theorem ck102 {σ : eH} (h : Ck σ) : σ.2.2.1 102 = (20, 4) := h.1 99 (by decide)
theorem ck103 {σ : eH} (h : Ck σ) : σ.2.2.1 103 = (20, 4) := h.1 100 (by decide)
theorem ck104 {σ : eH} (h : Ck σ) : σ.2.2.1 104 = (20, 4) := h.1 101 (by decide)
theorem ck105 {σ : eH} (h : Ck σ) : σ.2.2.1 105 = (20, 4) := h.1 102 (by decide)
theorem ck106 {σ : eH} (h : Ck σ) : σ.2.2.1 106 = (23, 8) := h.1 103 (by decide)
theorem ck107 {σ : eH} (h : Ck σ) : σ.2.2.1 107 = (20, 4) := h.1 104 (by decide)
theorem ck108 {σ : eH} (h : Ck σ) : σ.2.2.1 108 = (20, 8) := h.1 105 (by decide)
theorem ck109 {σ : eH} (h : Ck σ) : σ.2.2.1 109 = (21, 12) := h.1 106 (by decide)
theorem ck110 {σ : eH} (h : Ck σ) : σ.2.2.1 110 = (21, 32) := h.1 107 (by decide)
theorem ck111 {σ : eH} (h : Ck σ) : σ.2.2.1 111 = (1, 10) := h.1 108 (by decide)
theorem ck112 {σ : eH} (h : Ck σ) : σ.2.2.1 112 = (20, 3) := h.1 109 (by decide)
theorem ck113 {σ : eH} (h : Ck σ) : σ.2.2.1 113 = (4, 9) := h.1 110 (by decide)
theorem ck114 {σ : eH} (h : Ck σ) : σ.2.2.1 114 = (8, 5) := h.1 111 (by decide)
theorem ck115 {σ : eH} (h : Ck σ) : σ.2.2.1 115 = (20, 8) := h.1 112 (by decide)
theorem ck116 {σ : eH} (h : Ck σ) : σ.2.2.1 116 = (20, 8) := h.1 113 (by decide)
theorem ck117 {σ : eH} (h : Ck σ) : σ.2.2.1 117 = (27, 8) := h.1 114 (by decide)
theorem ck118 {σ : eH} (h : Ck σ) : σ.2.2.1 118 = (20, 4) := h.1 115 (by decide)
theorem ck119 {σ : eH} (h : Ck σ) : σ.2.2.1 119 = (20, 4) := h.1 116 (by decide)
theorem ck120 {σ : eH} (h : Ck σ) : σ.2.2.1 120 = (20, 4) := h.1 117 (by decide)
theorem ck121 {σ : eH} (h : Ck σ) : σ.2.2.1 121 = (20, 4) := h.1 118 (by decide)
theorem ck122 {σ : eH} (h : Ck σ) : σ.2.2.1 122 = (20, 4) := h.1 119 (by decide)
theorem ck123 {σ : eH} (h : Ck σ) : σ.2.2.1 123 = (20, 4) := h.1 120 (by decide)
theorem ck124 {σ : eH} (h : Ck σ) : σ.2.2.1 124 = (20, 4) := h.1 121 (by decide)
theorem ck125 {σ : eH} (h : Ck σ) : σ.2.2.1 125 = (20, 4) := h.1 122 (by decide)
theorem ck126 {σ : eH} (h : Ck σ) : σ.2.2.1 126 = (20, 4) := h.1 123 (by decide)
theorem ck127 {σ : eH} (h : Ck σ) : σ.2.2.1 127 = (3, 3) := h.1 124 (by decide)
theorem ck128 {σ : eH} (h : Ck σ) : σ.2.2.1 128 = (20, 8) := h.1 125 (by decide)
theorem ck129 {σ : eH} (h : Ck σ) : σ.2.2.1 129 = (20, 8) := h.1 126 (by decide)
theorem ck130 {σ : eH} (h : Ck σ) : σ.2.2.1 130 = (20, 8) := h.1 127 (by decide)
theorem ck131 {σ : eH} (h : Ck σ) : σ.2.2.1 131 = (2, 9) := h.1 128 (by decide)
theorem ck132 {σ : eH} (h : Ck σ) : σ.2.2.1 132 = (20, 8) := h.1 129 (by decide)
theorem ck133 {σ : eH} (h : Ck σ) : σ.2.2.1 133 = (20, 4) := h.1 130 (by decide)
theorem ck134 {σ : eH} (h : Ck σ) : σ.2.2.1 134 = (20, 4) := h.1 131 (by decide)
theorem ck135 {σ : eH} (h : Ck σ) : σ.2.2.1 135 = (8, 5) := h.1 132 (by decide)
theorem ck136 {σ : eH} (h : Ck σ) : σ.2.2.1 136 = (20, 8) := h.1 133 (by decide)
theorem ck137 {σ : eH} (h : Ck σ) : σ.2.2.1 137 = (20, 8) := h.1 134 (by decide)
theorem ck138 {σ : eH} (h : Ck σ) : σ.2.2.1 138 = (27, 8) := h.1 135 (by decide)
theorem ck139 {σ : eH} (h : Ck σ) : σ.2.2.1 139 = (20, 4) := h.1 136 (by decide)
theorem ck140 {σ : eH} (h : Ck σ) : σ.2.2.1 140 = (20, 4) := h.1 137 (by decide)
theorem ck141 {σ : eH} (h : Ck σ) : σ.2.2.1 141 = (20, 4) := h.1 138 (by decide)
theorem ck142 {σ : eH} (h : Ck σ) : σ.2.2.1 142 = (20, 4) := h.1 139 (by decide)
theorem ck143 {σ : eH} (h : Ck σ) : σ.2.2.1 143 = (20, 4) := h.1 140 (by decide)
theorem ck144 {σ : eH} (h : Ck σ) : σ.2.2.1 144 = (20, 4) := h.1 141 (by decide)
theorem ck145 {σ : eH} (h : Ck σ) : σ.2.2.1 145 = (20, 4) := h.1 142 (by decide)
theorem ck146 {σ : eH} (h : Ck σ) : σ.2.2.1 146 = (20, 4) := h.1 143 (by decide)
theorem ck147 {σ : eH} (h : Ck σ) : σ.2.2.1 147 = (20, 4) := h.1 144 (by decide)
theorem ck148 {σ : eH} (h : Ck σ) : σ.2.2.1 148 = (23, 8) := h.1 145 (by decide)
theorem ck149 {σ : eH} (h : Ck σ) : σ.2.2.1 149 = (20, 4) := h.1 146 (by decide)
theorem ck150 {σ : eH} (h : Ck σ) : σ.2.2.1 150 = (20, 8) := h.1 147 (by decide)
theorem ck151 {σ : eH} (h : Ck σ) : σ.2.2.1 151 = (21, 12) := h.1 148 (by decide)
theorem ck152 {σ : eH} (h : Ck σ) : σ.2.2.1 152 = (21, 32) := h.1 149 (by decide)
theorem ck153 {σ : eH} (h : Ck σ) : σ.2.2.1 153 = (20, 8) := h.1 150 (by decide)
theorem ck154 {σ : eH} (h : Ck σ) : σ.2.2.1 154 = (20, 8) := h.1 151 (by decide)
theorem ck155 {σ : eH} (h : Ck σ) : σ.2.2.1 155 = (20, 8) := h.1 152 (by decide)
theorem ck156 {σ : eH} (h : Ck σ) : σ.2.2.1 156 = (20, 25) := h.1 153 (by decide)
theorem ck157 {σ : eH} (h : Ck σ) : σ.2.2.1 157 = (20, 25) := h.1 154 (by decide)
theorem ck158 {σ : eH} (h : Ck σ) : σ.2.2.1 158 = (20, 41) := h.1 155 (by decide)
theorem ck159 {σ : eH} (h : Ck σ) : σ.2.2.1 159 = (20, 7) := h.1 156 (by decide)
theorem ck160 {σ : eH} (h : Ck σ) : σ.2.2.1 160 = (20, 5) := h.1 157 (by decide)
set_option maxRecDepth 8000 in
theorem t_cr_mem : ∀ j, j < 157 → t_cr.getD j (0, 0, 0) ∈ t_cr := by decide
theorem Ck.r {σ : eH} (h : Ck σ) (j : Nat) (hj : j < 157) : σ.2.2.2.2 (t_cr.getD j (0, 0, 0)).1 (t_cr.getD j (0, 0, 0)).2.1 = (t_cr.getD j (0, 0, 0)).2.2 := h.2 _ (t_cr_mem j hj)
theorem cr3_0 {σ : eH} (h : Ck σ) : σ.2.2.2.2 3 0 = 6 := h.r 0 (by decide)
theorem cr3_1 {σ : eH} (h : Ck σ) : σ.2.2.2.2 3 1 = 11 := h.r 1 (by decide)
theorem cr3_2 {σ : eH} (h : Ck σ) : σ.2.2.2.2 3 2 = 46 := h.r 2 (by decide)
theorem cr3_3 {σ : eH} (h : Ck σ) : σ.2.2.2.2 3 3 = 47 := h.r 3 (by decide)
theorem cr3_4 {σ : eH} (h : Ck σ) : σ.2.2.2.2 3 4 = 64 := h.r 4 (by decide)
theorem cr3_5 {σ : eH} (h : Ck σ) : σ.2.2.2.2 3 5 = 66 := h.r 5 (by decide)
theorem cr3_7 {σ : eH} (h : Ck σ) : σ.2.2.2.2 3 7 = 67 := h.r 6 (by decide)
theorem cr3_8 {σ : eH} (h : Ck σ) : σ.2.2.2.2 3 8 = 69 := h.r 7 (by decide)
theorem cr3_9 {σ : eH} (h : Ck σ) : σ.2.2.2.2 3 9 = 73 := h.r 8 (by decide)
theorem cr3_10 {σ : eH} (h : Ck σ) : σ.2.2.2.2 3 10 = 113 := h.r 9 (by decide)
theorem cr4_2 {σ : eH} (h : Ck σ) : σ.2.2.2.2 4 2 = 7 := h.r 10 (by decide)
theorem cr4_3 {σ : eH} (h : Ck σ) : σ.2.2.2.2 4 3 = 8 := h.r 11 (by decide)
theorem cr4_4 {σ : eH} (h : Ck σ) : σ.2.2.2.2 4 4 = 9 := h.r 12 (by decide)
theorem cr4_5 {σ : eH} (h : Ck σ) : σ.2.2.2.2 4 5 = 10 := h.r 13 (by decide)
theorem cr9_0 {σ : eH} (h : Ck σ) : σ.2.2.2.2 9 0 = 12 := h.r 14 (by decide)
theorem cr9_1 {σ : eH} (h : Ck σ) : σ.2.2.2.2 9 1 = 29 := h.r 15 (by decide)
theorem cr9_2 {σ : eH} (h : Ck σ) : σ.2.2.2.2 9 2 = 42 := h.r 16 (by decide)
theorem cr10_5 {σ : eH} (h : Ck σ) : σ.2.2.2.2 10 5 = 13 := h.r 17 (by decide)
theorem cr10_6 {σ : eH} (h : Ck σ) : σ.2.2.2.2 10 6 = 14 := h.r 18 (by decide)
theorem cr10_7 {σ : eH} (h : Ck σ) : σ.2.2.2.2 10 7 = 15 := h.r 19 (by decide)
theorem cr10_8 {σ : eH} (h : Ck σ) : σ.2.2.2.2 10 8 = 16 := h.r 20 (by decide)
theorem cr14_0 {σ : eH} (h : Ck σ) : σ.2.2.2.2 14 0 = 17 := h.r 21 (by decide)
theorem cr14_1 {σ : eH} (h : Ck σ) : σ.2.2.2.2 14 1 = 18 := h.r 22 (by decide)
theorem cr14_2 {σ : eH} (h : Ck σ) : σ.2.2.2.2 14 2 = 19 := h.r 23 (by decide)
theorem cr14_3 {σ : eH} (h : Ck σ) : σ.2.2.2.2 14 3 = 28 := h.r 24 (by decide)
theorem cr17_0 {σ : eH} (h : Ck σ) : σ.2.2.2.2 17 0 = 20 := h.r 25 (by decide)
theorem cr17_1 {σ : eH} (h : Ck σ) : σ.2.2.2.2 17 1 = 21 := h.r 26 (by decide)
theorem cr17_2 {σ : eH} (h : Ck σ) : σ.2.2.2.2 17 2 = 22 := h.r 27 (by decide)
theorem cr17_3 {σ : eH} (h : Ck σ) : σ.2.2.2.2 17 3 = 23 := h.r 28 (by decide)
theorem cr17_4 {σ : eH} (h : Ck σ) : σ.2.2.2.2 17 4 = 24 := h.r 29 (by decide)
theorem cr17_5 {σ : eH} (h : Ck σ) : σ.2.2.2.2 17 5 = 25 := h.r 30 (by decide)
theorem cr17_6 {σ : eH} (h : Ck σ) : σ.2.2.2.2 17 6 = 26 := h.r 31 (by decide)
theorem cr17_7 {σ : eH} (h : Ck σ) : σ.2.2.2.2 17 7 = 27 := h.r 32 (by decide)
theorem cr27_0 {σ : eH} (h : Ck σ) : σ.2.2.2.2 27 0 = 30 := h.r 33 (by decide)
theorem cr27_1 {σ : eH} (h : Ck σ) : σ.2.2.2.2 27 1 = 31 := h.r 34 (by decide)
theorem cr27_2 {σ : eH} (h : Ck σ) : σ.2.2.2.2 27 2 = 32 := h.r 35 (by decide)
theorem cr27_3 {σ : eH} (h : Ck σ) : σ.2.2.2.2 27 3 = 41 := h.r 36 (by decide)
theorem cr30_0 {σ : eH} (h : Ck σ) : σ.2.2.2.2 30 0 = 33 := h.r 37 (by decide)
theorem cr30_1 {σ : eH} (h : Ck σ) : σ.2.2.2.2 30 1 = 34 := h.r 38 (by decide)
theorem cr30_2 {σ : eH} (h : Ck σ) : σ.2.2.2.2 30 2 = 35 := h.r 39 (by decide)
theorem cr30_3 {σ : eH} (h : Ck σ) : σ.2.2.2.2 30 3 = 36 := h.r 40 (by decide)
theorem cr30_4 {σ : eH} (h : Ck σ) : σ.2.2.2.2 30 4 = 37 := h.r 41 (by decide)
theorem cr30_5 {σ : eH} (h : Ck σ) : σ.2.2.2.2 30 5 = 38 := h.r 42 (by decide)
theorem cr30_6 {σ : eH} (h : Ck σ) : σ.2.2.2.2 30 6 = 39 := h.r 43 (by decide)
theorem cr30_7 {σ : eH} (h : Ck σ) : σ.2.2.2.2 30 7 = 40 := h.r 44 (by decide)
theorem cr40_1 {σ : eH} (h : Ck σ) : σ.2.2.2.2 40 1 = 43 := h.r 45 (by decide)
theorem cr40_2 {σ : eH} (h : Ck σ) : σ.2.2.2.2 40 2 = 44 := h.r 46 (by decide)
theorem cr40_3 {σ : eH} (h : Ck σ) : σ.2.2.2.2 40 3 = 45 := h.r 47 (by decide)
theorem cr45_5 {σ : eH} (h : Ck σ) : σ.2.2.2.2 45 5 = 48 := h.r 48 (by decide)
theorem cr45_6 {σ : eH} (h : Ck σ) : σ.2.2.2.2 45 6 = 49 := h.r 49 (by decide)
theorem cr45_7 {σ : eH} (h : Ck σ) : σ.2.2.2.2 45 7 = 50 := h.r 50 (by decide)
theorem cr45_8 {σ : eH} (h : Ck σ) : σ.2.2.2.2 45 8 = 51 := h.r 51 (by decide)
theorem cr49_0 {σ : eH} (h : Ck σ) : σ.2.2.2.2 49 0 = 52 := h.r 52 (by decide)
theorem cr49_1 {σ : eH} (h : Ck σ) : σ.2.2.2.2 49 1 = 53 := h.r 53 (by decide)
theorem cr49_2 {σ : eH} (h : Ck σ) : σ.2.2.2.2 49 2 = 54 := h.r 54 (by decide)
theorem cr49_3 {σ : eH} (h : Ck σ) : σ.2.2.2.2 49 3 = 63 := h.r 55 (by decide)
theorem cr52_0 {σ : eH} (h : Ck σ) : σ.2.2.2.2 52 0 = 55 := h.r 56 (by decide)
theorem cr52_1 {σ : eH} (h : Ck σ) : σ.2.2.2.2 52 1 = 56 := h.r 57 (by decide)
theorem cr52_2 {σ : eH} (h : Ck σ) : σ.2.2.2.2 52 2 = 57 := h.r 58 (by decide)
theorem cr52_3 {σ : eH} (h : Ck σ) : σ.2.2.2.2 52 3 = 58 := h.r 59 (by decide)
theorem cr52_4 {σ : eH} (h : Ck σ) : σ.2.2.2.2 52 4 = 59 := h.r 60 (by decide)
theorem cr52_5 {σ : eH} (h : Ck σ) : σ.2.2.2.2 52 5 = 60 := h.r 61 (by decide)
theorem cr52_6 {σ : eH} (h : Ck σ) : σ.2.2.2.2 52 6 = 61 := h.r 62 (by decide)
theorem cr52_7 {σ : eH} (h : Ck σ) : σ.2.2.2.2 52 7 = 62 := h.r 63 (by decide)
theorem cr62_0 {σ : eH} (h : Ck σ) : σ.2.2.2.2 62 0 = 65 := h.r 64 (by decide)
theorem cr65_2 {σ : eH} (h : Ck σ) : σ.2.2.2.2 65 2 = 68 := h.r 65 (by decide)
theorem cr67_0 {σ : eH} (h : Ck σ) : σ.2.2.2.2 67 0 = 70 := h.r 66 (by decide)
theorem cr67_1 {σ : eH} (h : Ck σ) : σ.2.2.2.2 67 1 = 71 := h.r 67 (by decide)
theorem cr67_2 {σ : eH} (h : Ck σ) : σ.2.2.2.2 67 2 = 72 := h.r 68 (by decide)
theorem cr71_0 {σ : eH} (h : Ck σ) : σ.2.2.2.2 71 0 = 74 := h.r 69 (by decide)
theorem cr71_1 {σ : eH} (h : Ck σ) : σ.2.2.2.2 71 1 = 87 := h.r 70 (by decide)
theorem cr71_2 {σ : eH} (h : Ck σ) : σ.2.2.2.2 71 2 = 91 := h.r 71 (by decide)
theorem cr71_3 {σ : eH} (h : Ck σ) : σ.2.2.2.2 71 3 = 108 := h.r 72 (by decide)
theorem cr71_5 {σ : eH} (h : Ck σ) : σ.2.2.2.2 71 5 = 109 := h.r 73 (by decide)
theorem cr71_6 {σ : eH} (h : Ck σ) : σ.2.2.2.2 71 6 = 110 := h.r 74 (by decide)
theorem cr71_7 {σ : eH} (h : Ck σ) : σ.2.2.2.2 71 7 = 111 := h.r 75 (by decide)
theorem cr71_8 {σ : eH} (h : Ck σ) : σ.2.2.2.2 71 8 = 112 := h.r 76 (by decide)
theorem cr72_0 {σ : eH} (h : Ck σ) : σ.2.2.2.2 72 0 = 75 := h.r 77 (by decide)
theorem cr72_1 {σ : eH} (h : Ck σ) : σ.2.2.2.2 72 1 = 76 := h.r 78 (by decide)
theorem cr72_2 {σ : eH} (h : Ck σ) : σ.2.2.2.2 72 2 = 77 := h.r 79 (by decide)
theorem cr72_3 {σ : eH} (h : Ck σ) : σ.2.2.2.2 72 3 = 86 := h.r 80 (by decide)
theorem cr75_0 {σ : eH} (h : Ck σ) : σ.2.2.2.2 75 0 = 78 := h.r 81 (by decide)
theorem cr75_1 {σ : eH} (h : Ck σ) : σ.2.2.2.2 75 1 = 79 := h.r 82 (by decide)
theorem cr75_2 {σ : eH} (h : Ck σ) : σ.2.2.2.2 75 2 = 80 := h.r 83 (by decide)
theorem cr75_3 {σ : eH} (h : Ck σ) : σ.2.2.2.2 75 3 = 81 := h.r 84 (by decide)
theorem cr75_4 {σ : eH} (h : Ck σ) : σ.2.2.2.2 75 4 = 82 := h.r 85 (by decide)
theorem cr75_5 {σ : eH} (h : Ck σ) : σ.2.2.2.2 75 5 = 83 := h.r 86 (by decide)
theorem cr75_6 {σ : eH} (h : Ck σ) : σ.2.2.2.2 75 6 = 84 := h.r 87 (by decide)
theorem cr75_7 {σ : eH} (h : Ck σ) : σ.2.2.2.2 75 7 = 85 := h.r 88 (by decide)
theorem cr85_0 {σ : eH} (h : Ck σ) : σ.2.2.2.2 85 0 = 88 := h.r 89 (by decide)
theorem cr85_1 {σ : eH} (h : Ck σ) : σ.2.2.2.2 85 1 = 89 := h.r 90 (by decide)
theorem cr85_2 {σ : eH} (h : Ck σ) : σ.2.2.2.2 85 2 = 90 := h.r 91 (by decide)
theorem cr89_5 {σ : eH} (h : Ck σ) : σ.2.2.2.2 89 5 = 92 := h.r 92 (by decide)
theorem cr89_6 {σ : eH} (h : Ck σ) : σ.2.2.2.2 89 6 = 93 := h.r 93 (by decide)
theorem cr89_7 {σ : eH} (h : Ck σ) : σ.2.2.2.2 89 7 = 94 := h.r 94 (by decide)
theorem cr89_8 {σ : eH} (h : Ck σ) : σ.2.2.2.2 89 8 = 95 := h.r 95 (by decide)
theorem cr93_0 {σ : eH} (h : Ck σ) : σ.2.2.2.2 93 0 = 96 := h.r 96 (by decide)
theorem cr93_1 {σ : eH} (h : Ck σ) : σ.2.2.2.2 93 1 = 97 := h.r 97 (by decide)
theorem cr93_2 {σ : eH} (h : Ck σ) : σ.2.2.2.2 93 2 = 98 := h.r 98 (by decide)
theorem cr93_3 {σ : eH} (h : Ck σ) : σ.2.2.2.2 93 3 = 107 := h.r 99 (by decide)
theorem cr96_0 {σ : eH} (h : Ck σ) : σ.2.2.2.2 96 0 = 99 := h.r 100 (by decide)
theorem cr96_1 {σ : eH} (h : Ck σ) : σ.2.2.2.2 96 1 = 100 := h.r 101 (by decide)
theorem cr96_2 {σ : eH} (h : Ck σ) : σ.2.2.2.2 96 2 = 101 := h.r 102 (by decide)
theorem cr96_3 {σ : eH} (h : Ck σ) : σ.2.2.2.2 96 3 = 102 := h.r 103 (by decide)
theorem cr96_4 {σ : eH} (h : Ck σ) : σ.2.2.2.2 96 4 = 103 := h.r 104 (by decide)
theorem cr96_5 {σ : eH} (h : Ck σ) : σ.2.2.2.2 96 5 = 104 := h.r 105 (by decide)
theorem cr96_6 {σ : eH} (h : Ck σ) : σ.2.2.2.2 96 6 = 105 := h.r 106 (by decide)
theorem cr96_7 {σ : eH} (h : Ck σ) : σ.2.2.2.2 96 7 = 106 := h.r 107 (by decide)
theorem cr111_0 {σ : eH} (h : Ck σ) : σ.2.2.2.2 111 0 = 114 := h.r 108 (by decide)
theorem cr111_1 {σ : eH} (h : Ck σ) : σ.2.2.2.2 111 1 = 115 := h.r 109 (by decide)
theorem cr111_2 {σ : eH} (h : Ck σ) : σ.2.2.2.2 111 2 = 155 := h.r 110 (by decide)
theorem cr111_3 {σ : eH} (h : Ck σ) : σ.2.2.2.2 111 3 = 156 := h.r 111 (by decide)
theorem cr111_4 {σ : eH} (h : Ck σ) : σ.2.2.2.2 111 4 = 157 := h.r 112 (by decide)
theorem cr111_5 {σ : eH} (h : Ck σ) : σ.2.2.2.2 111 5 = 158 := h.r 113 (by decide)
theorem cr111_6 {σ : eH} (h : Ck σ) : σ.2.2.2.2 111 6 = 159 := h.r 114 (by decide)
theorem cr111_7 {σ : eH} (h : Ck σ) : σ.2.2.2.2 111 7 = 160 := h.r 115 (by decide)
theorem cr111_8 {σ : eH} (h : Ck σ) : σ.2.2.2.2 111 8 = 161 := h.r 116 (by decide)
theorem cr111_9 {σ : eH} (h : Ck σ) : σ.2.2.2.2 111 9 = 162 := h.r 117 (by decide)
theorem cr113_0 {σ : eH} (h : Ck σ) : σ.2.2.2.2 113 0 = 116 := h.r 118 (by decide)
theorem cr113_1 {σ : eH} (h : Ck σ) : σ.2.2.2.2 113 1 = 129 := h.r 119 (by decide)
theorem cr113_2 {σ : eH} (h : Ck σ) : σ.2.2.2.2 113 2 = 133 := h.r 120 (by decide)
theorem cr113_3 {σ : eH} (h : Ck σ) : σ.2.2.2.2 113 3 = 150 := h.r 121 (by decide)
theorem cr113_5 {σ : eH} (h : Ck σ) : σ.2.2.2.2 113 5 = 151 := h.r 122 (by decide)
theorem cr113_6 {σ : eH} (h : Ck σ) : σ.2.2.2.2 113 6 = 152 := h.r 123 (by decide)
theorem cr113_7 {σ : eH} (h : Ck σ) : σ.2.2.2.2 113 7 = 153 := h.r 124 (by decide)
theorem cr113_8 {σ : eH} (h : Ck σ) : σ.2.2.2.2 113 8 = 154 := h.r 125 (by decide)
theorem cr114_0 {σ : eH} (h : Ck σ) : σ.2.2.2.2 114 0 = 117 := h.r 126 (by decide)
theorem cr114_1 {σ : eH} (h : Ck σ) : σ.2.2.2.2 114 1 = 118 := h.r 127 (by decide)
theorem cr114_2 {σ : eH} (h : Ck σ) : σ.2.2.2.2 114 2 = 119 := h.r 128 (by decide)
theorem cr114_3 {σ : eH} (h : Ck σ) : σ.2.2.2.2 114 3 = 128 := h.r 129 (by decide)
theorem cr117_0 {σ : eH} (h : Ck σ) : σ.2.2.2.2 117 0 = 120 := h.r 130 (by decide)
theorem cr117_1 {σ : eH} (h : Ck σ) : σ.2.2.2.2 117 1 = 121 := h.r 131 (by decide)
theorem cr117_2 {σ : eH} (h : Ck σ) : σ.2.2.2.2 117 2 = 122 := h.r 132 (by decide)
theorem cr117_3 {σ : eH} (h : Ck σ) : σ.2.2.2.2 117 3 = 123 := h.r 133 (by decide)
theorem cr117_4 {σ : eH} (h : Ck σ) : σ.2.2.2.2 117 4 = 124 := h.r 134 (by decide)
theorem cr117_5 {σ : eH} (h : Ck σ) : σ.2.2.2.2 117 5 = 125 := h.r 135 (by decide)
theorem cr117_6 {σ : eH} (h : Ck σ) : σ.2.2.2.2 117 6 = 126 := h.r 136 (by decide)
theorem cr117_7 {σ : eH} (h : Ck σ) : σ.2.2.2.2 117 7 = 127 := h.r 137 (by decide)
theorem cr127_0 {σ : eH} (h : Ck σ) : σ.2.2.2.2 127 0 = 130 := h.r 138 (by decide)
theorem cr127_1 {σ : eH} (h : Ck σ) : σ.2.2.2.2 127 1 = 131 := h.r 139 (by decide)
theorem cr127_2 {σ : eH} (h : Ck σ) : σ.2.2.2.2 127 2 = 132 := h.r 140 (by decide)
theorem cr131_5 {σ : eH} (h : Ck σ) : σ.2.2.2.2 131 5 = 134 := h.r 141 (by decide)
theorem cr131_6 {σ : eH} (h : Ck σ) : σ.2.2.2.2 131 6 = 135 := h.r 142 (by decide)
theorem cr131_7 {σ : eH} (h : Ck σ) : σ.2.2.2.2 131 7 = 136 := h.r 143 (by decide)
theorem cr131_8 {σ : eH} (h : Ck σ) : σ.2.2.2.2 131 8 = 137 := h.r 144 (by decide)
theorem cr135_0 {σ : eH} (h : Ck σ) : σ.2.2.2.2 135 0 = 138 := h.r 145 (by decide)
theorem cr135_1 {σ : eH} (h : Ck σ) : σ.2.2.2.2 135 1 = 139 := h.r 146 (by decide)
theorem cr135_2 {σ : eH} (h : Ck σ) : σ.2.2.2.2 135 2 = 140 := h.r 147 (by decide)
theorem cr135_3 {σ : eH} (h : Ck σ) : σ.2.2.2.2 135 3 = 149 := h.r 148 (by decide)
theorem cr138_0 {σ : eH} (h : Ck σ) : σ.2.2.2.2 138 0 = 141 := h.r 149 (by decide)
theorem cr138_1 {σ : eH} (h : Ck σ) : σ.2.2.2.2 138 1 = 142 := h.r 150 (by decide)
theorem cr138_2 {σ : eH} (h : Ck σ) : σ.2.2.2.2 138 2 = 143 := h.r 151 (by decide)
theorem cr138_3 {σ : eH} (h : Ck σ) : σ.2.2.2.2 138 3 = 144 := h.r 152 (by decide)
theorem cr138_4 {σ : eH} (h : Ck σ) : σ.2.2.2.2 138 4 = 145 := h.r 153 (by decide)
theorem cr138_5 {σ : eH} (h : Ck σ) : σ.2.2.2.2 138 5 = 146 := h.r 154 (by decide)
theorem cr138_6 {σ : eH} (h : Ck σ) : σ.2.2.2.2 138 6 = 147 := h.r 155 (by decide)
theorem cr138_7 {σ : eH} (h : Ck σ) : σ.2.2.2.2 138 7 = 148 := h.r 156 (by decide)
theorem kst14 {σ : eH} (h : Ck σ) : StK σ 14 := ⟨ck14 h, ck15 h, ck16 h, ck17 h, ck26 h, (fun s hs => by
    obtain rfl | rfl | rfl | rfl | rfl | rfl | rfl | rfl : s = 0 ∨ s = 1 ∨ s = 2 ∨ s = 3 ∨ s = 4 ∨ s = 5 ∨ s = 6 ∨ s = 7 := by omega
    · exact ck18 h
    · exact ck19 h
    · exact ck20 h
    · exact ck21 h
    · exact ck22 h
    · exact ck23 h
    · exact ck24 h
    · exact ck25 h
    ), cr14_0 h, cr14_1 h, cr14_2 h, cr14_3 h, (fun s hs => by
    obtain rfl | rfl | rfl | rfl | rfl | rfl | rfl | rfl : s = 0 ∨ s = 1 ∨ s = 2 ∨ s = 3 ∨ s = 4 ∨ s = 5 ∨ s = 6 ∨ s = 7 := by omega
    · exact cr17_0 h
    · exact cr17_1 h
    · exact cr17_2 h
    · exact cr17_3 h
    · exact cr17_4 h
    · exact cr17_5 h
    · exact cr17_6 h
    · exact cr17_7 h
    )⟩
theorem kst27 {σ : eH} (h : Ck σ) : StK σ 27 := ⟨ck27 h, ck28 h, ck29 h, ck30 h, ck39 h, (fun s hs => by
    obtain rfl | rfl | rfl | rfl | rfl | rfl | rfl | rfl : s = 0 ∨ s = 1 ∨ s = 2 ∨ s = 3 ∨ s = 4 ∨ s = 5 ∨ s = 6 ∨ s = 7 := by omega
    · exact ck31 h
    · exact ck32 h
    · exact ck33 h
    · exact ck34 h
    · exact ck35 h
    · exact ck36 h
    · exact ck37 h
    · exact ck38 h
    ), cr27_0 h, cr27_1 h, cr27_2 h, cr27_3 h, (fun s hs => by
    obtain rfl | rfl | rfl | rfl | rfl | rfl | rfl | rfl : s = 0 ∨ s = 1 ∨ s = 2 ∨ s = 3 ∨ s = 4 ∨ s = 5 ∨ s = 6 ∨ s = 7 := by omega
    · exact cr30_0 h
    · exact cr30_1 h
    · exact cr30_2 h
    · exact cr30_3 h
    · exact cr30_4 h
    · exact cr30_5 h
    · exact cr30_6 h
    · exact cr30_7 h
    )⟩
theorem kst49 {σ : eH} (h : Ck σ) : StK σ 49 := ⟨ck49 h, ck50 h, ck51 h, ck52 h, ck61 h, (fun s hs => by
    obtain rfl | rfl | rfl | rfl | rfl | rfl | rfl | rfl : s = 0 ∨ s = 1 ∨ s = 2 ∨ s = 3 ∨ s = 4 ∨ s = 5 ∨ s = 6 ∨ s = 7 := by omega
    · exact ck53 h
    · exact ck54 h
    · exact ck55 h
    · exact ck56 h
    · exact ck57 h
    · exact ck58 h
    · exact ck59 h
    · exact ck60 h
    ), cr49_0 h, cr49_1 h, cr49_2 h, cr49_3 h, (fun s hs => by
    obtain rfl | rfl | rfl | rfl | rfl | rfl | rfl | rfl : s = 0 ∨ s = 1 ∨ s = 2 ∨ s = 3 ∨ s = 4 ∨ s = 5 ∨ s = 6 ∨ s = 7 := by omega
    · exact cr52_0 h
    · exact cr52_1 h
    · exact cr52_2 h
    · exact cr52_3 h
    · exact cr52_4 h
    · exact cr52_5 h
    · exact cr52_6 h
    · exact cr52_7 h
    )⟩
theorem kst72 {σ : eH} (h : Ck σ) : StK σ 72 := ⟨ck72 h, ck73 h, ck74 h, ck75 h, ck84 h, (fun s hs => by
    obtain rfl | rfl | rfl | rfl | rfl | rfl | rfl | rfl : s = 0 ∨ s = 1 ∨ s = 2 ∨ s = 3 ∨ s = 4 ∨ s = 5 ∨ s = 6 ∨ s = 7 := by omega
    · exact ck76 h
    · exact ck77 h
    · exact ck78 h
    · exact ck79 h
    · exact ck80 h
    · exact ck81 h
    · exact ck82 h
    · exact ck83 h
    ), cr72_0 h, cr72_1 h, cr72_2 h, cr72_3 h, (fun s hs => by
    obtain rfl | rfl | rfl | rfl | rfl | rfl | rfl | rfl : s = 0 ∨ s = 1 ∨ s = 2 ∨ s = 3 ∨ s = 4 ∨ s = 5 ∨ s = 6 ∨ s = 7 := by omega
    · exact cr75_0 h
    · exact cr75_1 h
    · exact cr75_2 h
    · exact cr75_3 h
    · exact cr75_4 h
    · exact cr75_5 h
    · exact cr75_6 h
    · exact cr75_7 h
    )⟩
theorem kst93 {σ : eH} (h : Ck σ) : StK σ 93 := ⟨ck93 h, ck94 h, ck95 h, ck96 h, ck105 h, (fun s hs => by
    obtain rfl | rfl | rfl | rfl | rfl | rfl | rfl | rfl : s = 0 ∨ s = 1 ∨ s = 2 ∨ s = 3 ∨ s = 4 ∨ s = 5 ∨ s = 6 ∨ s = 7 := by omega
    · exact ck97 h
    · exact ck98 h
    · exact ck99 h
    · exact ck100 h
    · exact ck101 h
    · exact ck102 h
    · exact ck103 h
    · exact ck104 h
    ), cr93_0 h, cr93_1 h, cr93_2 h, cr93_3 h, (fun s hs => by
    obtain rfl | rfl | rfl | rfl | rfl | rfl | rfl | rfl : s = 0 ∨ s = 1 ∨ s = 2 ∨ s = 3 ∨ s = 4 ∨ s = 5 ∨ s = 6 ∨ s = 7 := by omega
    · exact cr96_0 h
    · exact cr96_1 h
    · exact cr96_2 h
    · exact cr96_3 h
    · exact cr96_4 h
    · exact cr96_5 h
    · exact cr96_6 h
    · exact cr96_7 h
    )⟩
theorem kst114 {σ : eH} (h : Ck σ) : StK σ 114 := ⟨ck114 h, ck115 h, ck116 h, ck117 h, ck126 h, (fun s hs => by
    obtain rfl | rfl | rfl | rfl | rfl | rfl | rfl | rfl : s = 0 ∨ s = 1 ∨ s = 2 ∨ s = 3 ∨ s = 4 ∨ s = 5 ∨ s = 6 ∨ s = 7 := by omega
    · exact ck118 h
    · exact ck119 h
    · exact ck120 h
    · exact ck121 h
    · exact ck122 h
    · exact ck123 h
    · exact ck124 h
    · exact ck125 h
    ), cr114_0 h, cr114_1 h, cr114_2 h, cr114_3 h, (fun s hs => by
    obtain rfl | rfl | rfl | rfl | rfl | rfl | rfl | rfl : s = 0 ∨ s = 1 ∨ s = 2 ∨ s = 3 ∨ s = 4 ∨ s = 5 ∨ s = 6 ∨ s = 7 := by omega
    · exact cr117_0 h
    · exact cr117_1 h
    · exact cr117_2 h
    · exact cr117_3 h
    · exact cr117_4 h
    · exact cr117_5 h
    · exact cr117_6 h
    · exact cr117_7 h
    )⟩
theorem kst135 {σ : eH} (h : Ck σ) : StK σ 135 := ⟨ck135 h, ck136 h, ck137 h, ck138 h, ck147 h, (fun s hs => by
    obtain rfl | rfl | rfl | rfl | rfl | rfl | rfl | rfl : s = 0 ∨ s = 1 ∨ s = 2 ∨ s = 3 ∨ s = 4 ∨ s = 5 ∨ s = 6 ∨ s = 7 := by omega
    · exact ck139 h
    · exact ck140 h
    · exact ck141 h
    · exact ck142 h
    · exact ck143 h
    · exact ck144 h
    · exact ck145 h
    · exact ck146 h
    ), cr135_0 h, cr135_1 h, cr135_2 h, cr135_3 h, (fun s hs => by
    obtain rfl | rfl | rfl | rfl | rfl | rfl | rfl | rfl : s = 0 ∨ s = 1 ∨ s = 2 ∨ s = 3 ∨ s = 4 ∨ s = 5 ∨ s = 6 ∨ s = 7 := by omega
    · exact cr138_0 h
    · exact cr138_1 h
    · exact cr138_2 h
    · exact cr138_3 h
    · exact cr138_4 h
    · exact cr138_5 h
    · exact cr138_6 h
    · exact cr138_7 h
    )⟩
theorem khl10 {σ : eH} (h : Ck σ) : HlK σ 10 := ⟨ck10 h, ck11 h, ck12 h, ck13 h, cr10_5 h, cr10_6 h, cr10_7 h, cr10_8 h, kst14 h⟩
theorem khl45 {σ : eH} (h : Ck σ) : HlK σ 45 := ⟨ck45 h, ck46 h, ck47 h, ck48 h, cr45_5 h, cr45_6 h, cr45_7 h, cr45_8 h, kst49 h⟩
theorem khl89 {σ : eH} (h : Ck σ) : HlK σ 89 := ⟨ck89 h, ck90 h, ck91 h, ck92 h, cr89_5 h, cr89_6 h, cr89_7 h, cr89_8 h, kst93 h⟩
theorem khl131 {σ : eH} (h : Ck σ) : HlK σ 131 := ⟨ck131 h, ck132 h, ck133 h, ck134 h, cr131_5 h, cr131_6 h, cr131_7 h, cr131_8 h, kst135 h⟩
theorem kld67 {σ : eH} (h : Ck σ) : LdK σ 67 := ⟨ck67 h, ck68 h, ck69 h, ck70 h, cr67_0 h, cr67_1 h, cr67_2 h⟩
theorem kld85 {σ : eH} (h : Ck σ) : LdK σ 85 := ⟨ck85 h, ck86 h, ck87 h, ck88 h, cr85_0 h, cr85_1 h, cr85_2 h⟩
theorem kld127 {σ : eH} (h : Ck σ) : LdK σ 127 := ⟨ck127 h, ck128 h, ck129 h, ck130 h, cr127_0 h, cr127_1 h, cr127_2 h⟩
theorem knt40 {σ : eH} (h : Ck σ) : NtK σ 40 := ⟨ck40 h, ck41 h, ck42 h, ck43 h, cr40_1 h, cr40_2 h, cr40_3 h⟩
theorem kwo {σ : eH} (h : Ck σ) : WoK σ 9 := ⟨ck9 h, cr9_0 h, cr9_1 h, cr9_2 h, khl10 h, kst27 h, knt40 h⟩
theorem kmy71 {σ : eH} (h : Ck σ) : MyK σ 71 := ⟨ck71 h, ck106 h, ck107 h, ck108 h, ck109 h, ck110 h, cr71_0 h, cr71_1 h, cr71_2 h, cr71_3 h, cr71_5 h, cr71_6 h, cr71_7 h, cr71_8 h, kst72 h, kld85 h, khl89 h⟩
theorem kmy113 {σ : eH} (h : Ck σ) : MyK σ 113 := ⟨ck113 h, ck148 h, ck149 h, ck150 h, ck151 h, ck152 h, cr113_0 h, cr113_1 h, cr113_2 h, cr113_3 h, cr113_5 h, cr113_6 h, cr113_7 h, cr113_8 h, kst114 h, kld127 h, khl131 h⟩
/-- how two heaps differ: in the cells of L alone, and in the two rules of Mays -/
def Sg (L : Nat → Prop) (σ τ : eH) : Prop := τ.1 = σ.1 ∧ τ.2.1 = σ.2.1 ∧ τ.2.2.1 = σ.2.2.1 ∧ (∀ c i, (c = 71 ∨ c = 113) ∧ i = 4 ∨ τ.2.2.2.2 c i = σ.2.2.2.2 c i) ∧ ∀ a, ¬ L a → τ.2.2.2.1 a = σ.2.2.2.1 a
theorem Sg.rf (L : Nat → Prop) (σ : eH) : Sg L σ σ := ⟨rfl, rfl, rfl, fun _ _ => Or.inr rfl, fun _ _ => rfl⟩
theorem Sg.of {L : Nat → Prop} {σ τ : eH} (h : Sn L σ τ) : Sg L σ τ := ⟨h.1, h.2.1, h.2.2.1, fun c i => Or.inr (by rw [h.2.2.2.1]), h.2.2.2.2⟩
theorem Sg.tr {L : Nat → Prop} {σ τ ρ : eH} (h : Sg L σ τ) (g : Sg L τ ρ) : Sg L σ ρ := ⟨g.1.trans h.1, g.2.1.trans h.2.1, g.2.2.1.trans h.2.2.1, fun c i => (g.2.2.2.1 c i).elim Or.inl (fun e => (h.2.2.2.1 c i).elim Or.inl (fun e2 => Or.inr (e.trans e2))), fun a ha => (g.2.2.2.2 a ha).trans (h.2.2.2.2 a ha)⟩
theorem Sg.mn {L M : Nat → Prop} {σ τ : eH} (h : Sg L σ τ) (h1 : ∀ a, L a → M a) : Sg M σ τ := ⟨h.1, h.2.1, h.2.2.1, h.2.2.2.1, fun a ha => h.2.2.2.2 a (fun q => ha (h1 a q))⟩
theorem Sg.at {L : Nat → Prop} {σ τ : eH} (h : Sg L σ τ) (a : Nat) (ha : ¬ L a) : τ.2.2.2.1 a = σ.2.2.2.1 a := h.2.2.2.2 a ha
theorem Sg.put {L : Nat → Prop} {σ τ : eH} (h : Sg L σ τ) {a i : Nat} {x : Int} (ha : L a) : Sg L σ (e_put τ a i x) := h.tr (Sg.of (Sn.put (Sn.rf _ _) ha))
theorem Sg.n {L : Nat → Prop} {σ τ ρ : eH} (h : Sg L σ τ) {M : Nat → Prop} (g : Sn M τ ρ) (h1 : ∀ a, M a → L a) : Sg L σ ρ := h.tr (Sg.of (g.mn h1))
theorem Sg.pu {L : Nat → Prop} {σ τ : eH} {a v : Nat} (h : Sn L (e_puR σ a 4 v) τ) (ha : a = 71 ∨ a = 113) : Sg L σ τ := by
  refine ⟨h.1, h.2.1, h.2.2.1, fun c i => ?_, h.2.2.2.2⟩
  rw [h.2.2.2.1]
  by_cases e : c = a
  · subst e
    rw [e_qr1]
    by_cases e2 : i = 4
    · exact Or.inl ⟨ha, e2⟩
    · exact Or.inr (e_un _ e2)
  · exact Or.inr (by rw [e_qr2 _ e])
theorem Sg.sd {L : Nat → Prop} {σ τ : eH} (h : Sg L σ τ) : Sn L (σ.1, σ.2.1, σ.2.2.1, σ.2.2.2.1, τ.2.2.2.2) τ := ⟨h.1, h.2.1, h.2.2.1, rfl, h.2.2.2.2⟩
set_option maxRecDepth 8000 in
theorem t_cr_4 : ∀ x, x ∈ t_cr → ¬ ((x.1 = 71 ∨ x.1 = 113) ∧ x.2.1 = 4) := by decide
theorem Sg.ck {L : Nat → Prop} {σ τ : eH} (h : Sg L σ τ) (hc : Ck σ) : Ck τ := by
  refine ⟨fun c hc2 => ?_, fun x hx => ?_⟩
  · rw [h.2.2.1]
    exact hc.1 c hc2
  · exact ((h.2.2.2.1 x.1 x.2.1).resolve_left (t_cr_4 x hx)).trans (hc.2 x hx)
theorem Sg.wov {L : Nat → Prop} {σ τ : eH} (h : Sg L σ τ) {a n q c : Nat} {f x : Int} {S : Nat → Int} (hv : WoV σ a S n q c f x) (hd : ∀ c, a ≤ c → c < a + 35 → ¬ L c) : WoV τ a S n q c f x := WoV.sn (σ := (σ.1, σ.2.1, σ.2.2.1, σ.2.2.2.1, τ.2.2.2.2)) hv h.sd hd
theorem Sg.ruo {L : Nat → Prop} {σ τ : eH} (h : Sg L σ τ) {v : Nat} {R : Option rRule} (hR : RuO σ v R) (hd : ∀ c, 185 ≤ c → ¬ L c) : RuO τ v R := by
  cases R with
  | none => exact hR
  | some R =>
    obtain ⟨ρ, u, h1, h2, h3, h4⟩ := hR
    refine ⟨ρ, u, h1, h2, h3, ?_⟩
    unfold RuV
    rw [h.2.2.1, (h.2.2.2.1 ρ 0).resolve_left (by omega), h.at u (hd u h3)]
    exact h4
theorem c_begin71 {k v n q Y c : Nat} {S : Nat → Int} {f x : Int} {R : Option rRule} {σ : eH} {Q : Option eV → eH → Prop} (hk : 4 ≤ k) (hc : Ck σ) (hok : Ok S n q Y) (hv : WoV σ 9 S n q c f x) (hR : RuO σ v R) (hQ : ∀ τ, Sg (fun c => 71 < c ∧ c < 107) σ τ → MyV τ 71 S n q R → FrV τ 71 0 → Q none τ) : e_Wp k 84 [.inr (.inr 73), .inr (.inr 12), .inr (.inr 29), .inr (.inr v)] σ Q :=
  c_begin (a := 71) (hb := 10) (sb := 27) (S := S) (X := S) hk (by omega) (kmy71 hc) (khl10 hc) (kst27 hc) (by omega) (by omega) hok hv.1 hv.2.1 (fun _ _ => rfl) hR (fun τ h1 h2 h3 => hQ τ (Sg.pu h1 (by omega)) h2 h3)
theorem c_begin113 {k v n q Y c : Nat} {S : Nat → Int} {f x : Int} {R : Option rRule} {σ : eH} {Q : Option eV → eH → Prop} (hk : 4 ≤ k) (hc : Ck σ) (hok : Ok S n q Y) (hv : WoV σ 9 S n q c f x) (hR : RuO σ v R) (hQ : ∀ τ, Sg (fun c => 113 < c ∧ c < 149) σ τ → MyV τ 113 S n q R → FrV τ 113 0 → Q none τ) : e_Wp k 84 [.inr (.inr 115), .inr (.inr 12), .inr (.inr 29), .inr (.inr v)] σ Q :=
  c_begin (a := 113) (hb := 10) (sb := 27) (S := S) (X := S) hk (by omega) (kmy113 hc) (khl10 hc) (kst27 hc) (by omega) (by omega) hok hv.1 hv.2.1 (fun _ _ => rfl) hR (fun τ h1 h2 h3 => hQ τ (Sg.pu h1 (by omega)) h2 h3)
theorem c_beginS {k v n q Y c : Nat} {S : Nat → Int} {f x : Int} {R : Option rRule} {σ : eH} {Q : Option eV → eH → Prop} (hk : 4 ≤ k) (hc : Ck σ) (hpo : 0 < S 0) (hok : Ok (r_bg S 8 4 32) n q Y) (hv : WoV σ 9 S n q c f x) (hR : RuO σ v R) (hQ : ∀ τ, Sg (fun c => 113 < c ∧ c < 149) σ τ → MyV τ 113 (r_bg S 8 4 32) n q R → FrV τ 113 0 → Q none τ) : e_Wp k 84 [.inr (.inr 115), .inr (.inr 12), .inr (.inr 16), .inr (.inr v)] σ Q :=
  c_begin (a := 113) (hb := 10) (sb := 14) (S := S) (X := r_bg S 8 4 32) hk (by omega) (kmy113 hc) (khl10 hc) (kst14 hc) (by omega) (by omega) hok hv.1 (by obtain ⟨Z, z1, z2⟩ := hv.1.2.2.2.2.2.2.2.2; rw [← z2 hpo]; exact z1) (fun k hk => by unfold r_bg; rw [if_neg (by omega), if_neg (by omega), if_neg (by omega), if_neg (by omega), if_neg (by omega)]) hR (fun τ h1 h2 h3 => hQ τ (Sg.pu h1 (by omega)) h2 h3)
