/-! ===== the class: where its cells lie ===== -/
def txK : List (Nat × Nat × Nat) := [(0, 10, 0), (1, 3, 0), (2, 1, 0), (3, 15, 14), (4, 12, 5), (5, 12, 5), (6, 12, 5), (7, 12, 5), (8, 12, 5), (9, 12, 5), (10, 12, 5), (11, 12, 5), (12, 12, 5), (13, 12, 5), (14, 12, 5), (15, 12, 5), (16, 12, 5), (17, 12, 5), (18, 15, 14), (19, 12, 6), (20, 12, 6), (21, 12, 6), (22, 12, 6), (23, 12, 6), (24, 12, 6), (25, 12, 6), (26, 12, 6), (27, 12, 6), (28, 12, 6), (29, 12, 6), (30, 12, 6), (31, 12, 6), (32, 12, 6), (33, 12, 8), (34, 12, 600), (35, 12, 5), (36, 1, 0), (37, 15, 14), (38, 12, 5), (39, 12, 5), (40, 12, 5), (41, 12, 5), (42, 12, 5), (43, 12, 5), (44, 12, 5), (45, 12, 5), (46, 12, 5), (47, 12, 5), (48, 12, 5), (49, 12, 5), (50, 12, 5), (51, 12, 5), (52, 15, 14), (53, 12, 6), (54, 12, 6), (55, 12, 6), (56, 12, 6), (57, 12, 6), (58, 12, 6), (59, 12, 6), (60, 12, 6), (61, 12, 6), (62, 12, 6), (63, 12, 6), (64, 12, 6), (65, 12, 6), (66, 12, 6), (67, 12, 8), (68, 6, 0), (69, 12, 11), (70, 12, 11), (71, 12, 30), (72, 14, 3), (73, 8, 0), (74, 9, 0), (75, 12, 12), (76, 12, 11), (77, 12, 11), (78, 12, 11), (79, 12, 11), (80, 12, 11), (81, 12, 144), (82, 2, 0), (83, 7, 0), (84, 0, 0), (85, 12, 12), (86, 12, 11), (87, 6, 0), (88, 12, 11), (89, 12, 11), (90, 12, 30), (91, 1, 0), (92, 15, 14), (93, 12, 5), (94, 12, 5), (95, 12, 5), (96, 12, 5), (97, 12, 5), (98, 12, 5), (99, 12, 5), (100, 12, 5), (101, 12, 5), (102, 12, 5), (103, 12, 5), (104, 12, 5), (105, 12, 5), (106, 12, 5), (107, 15, 14), (108, 12, 6), (109, 12, 6), (110, 12, 6), (111, 12, 6), (112, 12, 6), (113, 12, 6), (114, 12, 6), (115, 12, 6), (116, 12, 6), (117, 12, 6), (118, 12, 6), (119, 12, 6), (120, 12, 6), (121, 12, 6), (122, 12, 8), (123, 5, 0), (124, 14, 4), (125, 6, 0), (126, 12, 11), (127, 12, 11), (128, 12, 30), (129, 6, 0), (130, 12, 11), (131, 12, 11), (132, 12, 30), (133, 6, 0), (134, 12, 11), (135, 12, 11), (136, 12, 30), (137, 6, 0), (138, 12, 11), (139, 12, 11), (140, 12, 30), (141, 4, 0), (142, 13, 4001), (143, 13, 4001), (144, 12, 4), (145, 6, 0), (146, 12, 11), (147, 12, 11), (148, 12, 30), (149, 6, 0), (150, 12, 11), (151, 12, 11), (152, 12, 30), (153, 6, 0), (154, 12, 11), (155, 12, 11), (156, 12, 30)]
def txR : List (Nat × Nat × Nat) := [(0, 0, 1), (0, 2, 68), (0, 3, 72), (0, 5, 73), (0, 6, 123), (0, 7, 141), (0, 8, 144), (1, 4, 34), (1, 5, 35), (2, 6, 3), (2, 7, 18), (2, 8, 33), (3, 0, 4), (3, 1, 5), (3, 2, 6), (3, 3, 7), (3, 4, 8), (3, 5, 9), (3, 6, 10), (3, 7, 11), (3, 8, 12), (3, 9, 13), (3, 10, 14), (3, 11, 15), (3, 12, 16), (3, 13, 17), (18, 0, 19), (18, 1, 20), (18, 2, 21), (18, 3, 22), (18, 4, 23), (18, 5, 24), (18, 6, 25), (18, 7, 26), (18, 8, 27), (18, 9, 28), (18, 10, 29), (18, 11, 30), (18, 12, 31), (18, 13, 32), (36, 6, 37), (36, 7, 52), (36, 8, 67), (37, 0, 38), (37, 1, 39), (37, 2, 40), (37, 3, 41), (37, 4, 42), (37, 5, 43), (37, 6, 44), (37, 7, 45), (37, 8, 46), (37, 9, 47), (37, 10, 48), (37, 11, 49), (37, 12, 50), (37, 13, 51), (52, 0, 53), (52, 1, 54), (52, 2, 55), (52, 3, 56), (52, 4, 57), (52, 5, 58), (52, 6, 59), (52, 7, 60), (52, 8, 61), (52, 9, 62), (52, 10, 63), (52, 11, 64), (52, 12, 65), (52, 13, 66), (68, 1, 69), (68, 2, 70), (68, 3, 71), (72, 0, 145), (72, 1, 149), (72, 2, 153), (73, 0, 74), (73, 1, 82), (73, 2, 83), (73, 3, 84), (73, 4, 86), (73, 5, 87), (74, 3, 75), (74, 4, 76), (74, 5, 77), (74, 6, 78), (74, 7, 79), (74, 8, 80), (74, 9, 81), (84, 0, 85), (87, 1, 88), (87, 2, 89), (87, 3, 90), (91, 6, 92), (91, 7, 107), (91, 8, 122), (92, 0, 93), (92, 1, 94), (92, 2, 95), (92, 3, 96), (92, 4, 97), (92, 5, 98), (92, 6, 99), (92, 7, 100), (92, 8, 101), (92, 9, 102), (92, 10, 103), (92, 11, 104), (92, 12, 105), (92, 13, 106), (107, 0, 108), (107, 1, 109), (107, 2, 110), (107, 3, 111), (107, 4, 112), (107, 5, 113), (107, 6, 114), (107, 7, 115), (107, 8, 116), (107, 9, 117), (107, 10, 118), (107, 11, 119), (107, 12, 120), (107, 13, 121), (123, 2, 124), (124, 0, 125), (124, 1, 129), (124, 2, 133), (124, 3, 137), (125, 1, 126), (125, 2, 127), (125, 3, 128), (129, 1, 130), (129, 2, 131), (129, 3, 132), (133, 1, 134), (133, 2, 135), (133, 3, 136), (137, 1, 138), (137, 2, 139), (137, 3, 140), (141, 3, 142), (141, 4, 143), (145, 1, 146), (145, 2, 147), (145, 3, 148), (149, 1, 150), (149, 2, 151), (149, 3, 152), (153, 1, 154), (153, 2, 155), (153, 3, 156)]
/-- a Land at i -/
def zTL (t : zT) (i : Nat) : Prop := (zK t i = (1, 0) ∧ zR t i 6 = some (i + 1) ∧ zR t i 7 = some (i + 16) ∧ zR t i 8 = some (i + 31)) ∧ (zK t (i + 1) = (15, 14) ∧ zK t (i + 16) = (15, 14) ∧ zK t (i + 31) = (12, 8)) ∧ ((∀ k, k < 14 → zR t (i + 1) k = some (i + 1 + 1 + k)) ∧ ∀ k, k < 14 → zR t (i + 16) k = some (i + 16 + 1 + k)) ∧ (∀ k, k < 14 → zK t (i + 1 + 1 + k) = (12, 5)) ∧ ∀ k, k < 14 → zK t (i + 16 + 1 + k) = (12, 6)
theorem tL_K {t : zT} {i : Nat} (hL : zTL t i) : zK t i = (1, 0) := hL.1.1
theorem tL_R_roadFacts {t : zT} {i : Nat} (hL : zTL t i) : zR t i 6 = some (i + 1) := hL.1.2.1
theorem tL_R_goingFacts {t : zT} {i : Nat} (hL : zTL t i) : zR t i 7 = some (i + 16) := hL.1.2.2.1
theorem tL_R_wetDays {t : zT} {i : Nat} (hL : zTL t i) : zR t i 8 = some (i + 31) := hL.1.2.2.2
theorem tL_K_roadFacts {t : zT} {i : Nat} (hL : zTL t i) : zK t (i + 1) = (15, 14) := hL.2.1.1
theorem tL_K_goingFacts {t : zT} {i : Nat} (hL : zTL t i) : zK t (i + 16) = (15, 14) := hL.2.1.2.1
theorem tL_K_wetDays {t : zT} {i : Nat} (hL : zTL t i) : zK t (i + 31) = (12, 8) := hL.2.1.2.2
theorem tL_row_roadFacts {t : zT} {i : Nat} (hL : zTL t i) : ∀ k, k < 14 → zR t (i + 1) k = some (i + 1 + 1 + k) := hL.2.2.1.1
theorem tL_row_goingFacts {t : zT} {i : Nat} (hL : zTL t i) : ∀ k, k < 14 → zR t (i + 16) k = some (i + 16 + 1 + k) := hL.2.2.1.2
theorem tL_KR_roadFacts {t : zT} {i : Nat} (hL : zTL t i) : ∀ k, k < 14 → zK t (i + 1 + 1 + k) = (12, 5) := hL.2.2.2.1
theorem tL_KR_goingFacts {t : zT} {i : Nat} (hL : zTL t i) : ∀ k, k < 14 → zK t (i + 16 + 1 + k) = (12, 6) := hL.2.2.2.2
/-- a State at i -/
def zTS (t : zT) (i : Nat) : Prop := (zK t i = (6, 0) ∧ zR t i 1 = some (i + 1) ∧ zR t i 2 = some (i + 2) ∧ zR t i 3 = some (i + 3)) ∧ zK t (i + 1) = (12, 11) ∧ zK t (i + 2) = (12, 11) ∧ zK t (i + 3) = (12, 30)
theorem tS_K {t : zT} {i : Nat} (hS : zTS t i) : zK t i = (6, 0) := hS.1.1
theorem tS_R_wear {t : zT} {i : Nat} (hS : zTS t i) : zR t i 1 = some (i + 1) := hS.1.2.1
theorem tS_R_rested {t : zT} {i : Nat} (hS : zTS t i) : zR t i 2 = some (i + 2) := hS.1.2.2.1
theorem tS_R_row {t : zT} {i : Nat} (hS : zTS t i) : zR t i 3 = some (i + 3) := hS.1.2.2.2
theorem tS_K_wear {t : zT} {i : Nat} (hS : zTS t i) : zK t (i + 1) = (12, 11) := hS.2.1
theorem tS_K_rested {t : zT} {i : Nat} (hS : zTS t i) : zK t (i + 2) = (12, 11) := hS.2.2.1
theorem tS_K_row {t : zT} {i : Nat} (hS : zTS t i) : zK t (i + 3) = (12, 30) := hS.2.2.2
/-- the class's cells; its land lies at a, the reader's at c, the walk's at e -/
def zTX (t : zT) (a c e : Nat) : Prop := (∀ q ∈ txK, zK t q.1 = (q.2.1, q.2.2)) ∧ (∀ q ∈ txR, zR t q.1 q.2.1 = some q.2.2) ∧ (zR t 0 1 = some a ∧ zR t 1 3 = some c ∧ zR t 73 6 = some e) ∧ ((a = 36 ∧ c = 2) ∨ (a = 2 ∧ c = 36)) ∧ (e = 2 ∨ e = 36 ∨ e = 91)
theorem tX_R_land {t : zT} {a c e : Nat} (hX : zTX t a c e) : zR t 0 1 = some a := hX.2.2.1.1
theorem tX_R_into {t : zT} {a c e : Nat} (hX : zTX t a c e) : zR t 1 3 = some c := hX.2.2.1.2.1
theorem tX_R_wland {t : zT} {a c e : Nat} (hX : zTX t a c e) : zR t 73 6 = some e := hX.2.2.1.2.2
theorem tX_K_X {t : zT} {a c e : Nat} (hX : zTX t a c e) : zK t 0 = (10, 0) := hX.1 (0, 10, 0) (by decide)
theorem tX_K_reader {t : zT} {a c e : Nat} (hX : zTX t a c e) : zK t 1 = (3, 0) := hX.1 (1, 3, 0) (by decide)
theorem tX_R_reader {t : zT} {a c e : Nat} (hX : zTX t a c e) : zR t 0 0 = some 1 := hX.2.1 (0, 0, 1) (by decide)
theorem tX_K_tape {t : zT} {a c e : Nat} (hX : zTX t a c e) : zK t 34 = (12, 600) := hX.1 (34, 12, 600) (by decide)
theorem tX_R_tape {t : zT} {a c e : Nat} (hX : zTX t a c e) : zR t 1 4 = some 34 := hX.2.1 (1, 4, 34) (by decide)
theorem tX_K_numbers {t : zT} {a c e : Nat} (hX : zTX t a c e) : zK t 35 = (12, 5) := hX.1 (35, 12, 5) (by decide)
theorem tX_R_numbers {t : zT} {a c e : Nat} (hX : zTX t a c e) : zR t 1 5 = some 35 := hX.2.1 (1, 5, 35) (by decide)
theorem tX_K_images {t : zT} {a c e : Nat} (hX : zTX t a c e) : zK t 72 = (14, 3) := hX.1 (72, 14, 3) (by decide)
theorem tX_R_images {t : zT} {a c e : Nat} (hX : zTX t a c e) : zR t 0 3 = some 72 := hX.2.1 (0, 3, 72) (by decide)
theorem tX_K_walk {t : zT} {a c e : Nat} (hX : zTX t a c e) : zK t 73 = (8, 0) := hX.1 (73, 8, 0) (by decide)
theorem tX_R_walk {t : zT} {a c e : Nat} (hX : zTX t a c e) : zR t 0 5 = some 73 := hX.2.1 (0, 5, 73) (by decide)
theorem tX_K_ways {t : zT} {a c e : Nat} (hX : zTX t a c e) : zK t 74 = (9, 0) := hX.1 (74, 9, 0) (by decide)
theorem tX_R_ways {t : zT} {a c e : Nat} (hX : zTX t a c e) : zR t 73 0 = some 74 := hX.2.1 (73, 0, 74) (by decide)
theorem tX_K_path {t : zT} {a c e : Nat} (hX : zTX t a c e) : zK t 75 = (12, 12) := hX.1 (75, 12, 12) (by decide)
theorem tX_R_path {t : zT} {a c e : Nat} (hX : zTX t a c e) : zR t 74 3 = some 75 := hX.2.1 (74, 3, 75) (by decide)
theorem tX_K_number {t : zT} {a c e : Nat} (hX : zTX t a c e) : zK t 76 = (12, 11) := hX.1 (76, 12, 11) (by decide)
theorem tX_R_number {t : zT} {a c e : Nat} (hX : zTX t a c e) : zR t 74 4 = some 76 := hX.2.1 (74, 4, 76) (by decide)
theorem tX_K_oneEnd {t : zT} {a c e : Nat} (hX : zTX t a c e) : zK t 77 = (12, 11) := hX.1 (77, 12, 11) (by decide)
theorem tX_R_oneEnd {t : zT} {a c e : Nat} (hX : zTX t a c e) : zR t 74 5 = some 77 := hX.2.1 (74, 5, 77) (by decide)
theorem tX_K_otherEnd {t : zT} {a c e : Nat} (hX : zTX t a c e) : zK t 78 = (12, 11) := hX.1 (78, 12, 11) (by decide)
theorem tX_R_otherEnd {t : zT} {a c e : Nat} (hX : zTX t a c e) : zR t 74 6 = some 78 := hX.2.1 (74, 6, 78) (by decide)
theorem tX_K_minutesOf {t : zT} {a c e : Nat} (hX : zTX t a c e) : zK t 79 = (12, 11) := hX.1 (79, 12, 11) (by decide)
theorem tX_R_minutesOf {t : zT} {a c e : Nat} (hX : zTX t a c e) : zR t 74 7 = some 79 := hX.2.1 (74, 7, 79) (by decide)
theorem tX_K_tollOf {t : zT} {a c e : Nat} (hX : zTX t a c e) : zK t 80 = (12, 11) := hX.1 (80, 12, 11) (by decide)
theorem tX_R_tollOf {t : zT} {a c e : Nat} (hX : zTX t a c e) : zR t 74 8 = some 80 := hX.2.1 (74, 8, 80) (by decide)
theorem tX_K_distance {t : zT} {a c e : Nat} (hX : zTX t a c e) : zK t 81 = (12, 144) := hX.1 (81, 12, 144) (by decide)
theorem tX_R_distance {t : zT} {a c e : Nat} (hX : zTX t a c e) : zR t 74 9 = some 81 := hX.2.1 (74, 9, 81) (by decide)
theorem tX_K_plan {t : zT} {a c e : Nat} (hX : zTX t a c e) : zK t 82 = (2, 0) := hX.1 (82, 2, 0) (by decide)
theorem tX_R_plan {t : zT} {a c e : Nat} (hX : zTX t a c e) : zR t 73 1 = some 82 := hX.2.1 (73, 1, 82) (by decide)
theorem tX_K_tally {t : zT} {a c e : Nat} (hX : zTX t a c e) : zK t 83 = (7, 0) := hX.1 (83, 7, 0) (by decide)
theorem tX_R_tally {t : zT} {a c e : Nat} (hX : zTX t a c e) : zR t 73 2 = some 83 := hX.2.1 (73, 2, 83) (by decide)
theorem tX_K_gate {t : zT} {a c e : Nat} (hX : zTX t a c e) : zK t 84 = (0, 0) := hX.1 (84, 0, 0) (by decide)
theorem tX_R_gate {t : zT} {a c e : Nat} (hX : zTX t a c e) : zR t 73 3 = some 84 := hX.2.1 (73, 3, 84) (by decide)
theorem tX_K_group {t : zT} {a c e : Nat} (hX : zTX t a c e) : zK t 85 = (12, 12) := hX.1 (85, 12, 12) (by decide)
theorem tX_R_group {t : zT} {a c e : Nat} (hX : zTX t a c e) : zR t 84 0 = some 85 := hX.2.1 (84, 0, 85) (by decide)
theorem tX_K_weights {t : zT} {a c e : Nat} (hX : zTX t a c e) : zK t 86 = (12, 11) := hX.1 (86, 12, 11) (by decide)
theorem tX_R_weights {t : zT} {a c e : Nat} (hX : zTX t a c e) : zR t 73 4 = some 86 := hX.2.1 (73, 4, 86) (by decide)
theorem tX_K_search {t : zT} {a c e : Nat} (hX : zTX t a c e) : zK t 123 = (5, 0) := hX.1 (123, 5, 0) (by decide)
theorem tX_R_search {t : zT} {a c e : Nat} (hX : zTX t a c e) : zR t 0 6 = some 123 := hX.2.1 (0, 6, 123) (by decide)
theorem tX_K_levels {t : zT} {a c e : Nat} (hX : zTX t a c e) : zK t 124 = (14, 4) := hX.1 (124, 14, 4) (by decide)
theorem tX_R_levels {t : zT} {a c e : Nat} (hX : zTX t a c e) : zR t 123 2 = some 124 := hX.2.1 (123, 2, 124) (by decide)
theorem tX_K_rounds {t : zT} {a c e : Nat} (hX : zTX t a c e) : zK t 141 = (4, 0) := hX.1 (141, 4, 0) (by decide)
theorem tX_R_rounds {t : zT} {a c e : Nat} (hX : zTX t a c e) : zR t 0 7 = some 141 := hX.2.1 (0, 7, 141) (by decide)
theorem tX_K_lowMarks {t : zT} {a c e : Nat} (hX : zTX t a c e) : zK t 142 = (13, 4001) := hX.1 (142, 13, 4001) (by decide)
theorem tX_R_lowMarks {t : zT} {a c e : Nat} (hX : zTX t a c e) : zR t 141 3 = some 142 := hX.2.1 (141, 3, 142) (by decide)
theorem tX_K_highMarks {t : zT} {a c e : Nat} (hX : zTX t a c e) : zK t 143 = (13, 4001) := hX.1 (143, 13, 4001) (by decide)
theorem tX_R_highMarks {t : zT} {a c e : Nat} (hX : zTX t a c e) : zR t 141 4 = some 143 := hX.2.1 (141, 4, 143) (by decide)
theorem tX_K_verdict {t : zT} {a c e : Nat} (hX : zTX t a c e) : zK t 144 = (12, 4) := hX.1 (144, 12, 4) (by decide)
theorem tX_R_verdict {t : zT} {a c e : Nat} (hX : zTX t a c e) : zR t 0 8 = some 144 := hX.2.1 (0, 8, 144) (by decide)
theorem tX_R_now {t : zT} {a c e : Nat} (hX : zTX t a c e) : zR t 0 2 = some 68 := hX.2.1 (0, 2, 68) (by decide)
theorem tX_R_state {t : zT} {a c e : Nat} (hX : zTX t a c e) : zR t 73 5 = some 87 := hX.2.1 (73, 5, 87) (by decide)
theorem tX_L2 {t : zT} {a c e : Nat} (hX : zTX t a c e) : zTL t 2 := by
  refine ⟨⟨hX.1 (2, 1, 0) (by decide), hX.2.1 (2, 6, 3) (by decide), hX.2.1 (2, 7, 18) (by decide), hX.2.1 (2, 8, 33) (by decide)⟩, ⟨hX.1 (3, 15, 14) (by decide), hX.1 (18, 15, 14) (by decide), hX.1 (33, 12, 8) (by decide)⟩, ⟨fun k hk => ?_, fun k hk => ?_⟩, fun k hk => ?_, fun k hk => ?_⟩
  · have : ∀ k : Fin 14, ((3 : Nat), k.val, 2 + 1 + 1 + k.val) ∈ txR := by decide
    exact hX.2.1 _ (this ⟨k, hk⟩)
  · have : ∀ k : Fin 14, ((18 : Nat), k.val, 2 + 16 + 1 + k.val) ∈ txR := by decide
    exact hX.2.1 _ (this ⟨k, hk⟩)
  · have : ∀ k : Fin 14, (2 + 1 + 1 + k.val, (12 : Nat), (5 : Nat)) ∈ txK := by decide
    exact hX.1 _ (this ⟨k, hk⟩)
  · have : ∀ k : Fin 14, (2 + 16 + 1 + k.val, (12 : Nat), (6 : Nat)) ∈ txK := by decide
    exact hX.1 _ (this ⟨k, hk⟩)
theorem tX_L36 {t : zT} {a c e : Nat} (hX : zTX t a c e) : zTL t 36 := by
  refine ⟨⟨hX.1 (36, 1, 0) (by decide), hX.2.1 (36, 6, 37) (by decide), hX.2.1 (36, 7, 52) (by decide), hX.2.1 (36, 8, 67) (by decide)⟩, ⟨hX.1 (37, 15, 14) (by decide), hX.1 (52, 15, 14) (by decide), hX.1 (67, 12, 8) (by decide)⟩, ⟨fun k hk => ?_, fun k hk => ?_⟩, fun k hk => ?_, fun k hk => ?_⟩
  · have : ∀ k : Fin 14, ((37 : Nat), k.val, 36 + 1 + 1 + k.val) ∈ txR := by decide
    exact hX.2.1 _ (this ⟨k, hk⟩)
  · have : ∀ k : Fin 14, ((52 : Nat), k.val, 36 + 16 + 1 + k.val) ∈ txR := by decide
    exact hX.2.1 _ (this ⟨k, hk⟩)
  · have : ∀ k : Fin 14, (36 + 1 + 1 + k.val, (12 : Nat), (5 : Nat)) ∈ txK := by decide
    exact hX.1 _ (this ⟨k, hk⟩)
  · have : ∀ k : Fin 14, (36 + 16 + 1 + k.val, (12 : Nat), (6 : Nat)) ∈ txK := by decide
    exact hX.1 _ (this ⟨k, hk⟩)
theorem tX_S68 {t : zT} {a c e : Nat} (hX : zTX t a c e) : zTS t 68 := ⟨⟨hX.1 (68, 6, 0) (by decide), hX.2.1 (68, 1, 69) (by decide), hX.2.1 (68, 2, 70) (by decide), hX.2.1 (68, 3, 71) (by decide)⟩, hX.1 (69, 12, 11) (by decide), hX.1 (70, 12, 11) (by decide), hX.1 (71, 12, 30) (by decide)⟩
theorem tX_S87 {t : zT} {a c e : Nat} (hX : zTX t a c e) : zTS t 87 := ⟨⟨hX.1 (87, 6, 0) (by decide), hX.2.1 (87, 1, 88) (by decide), hX.2.1 (87, 2, 89) (by decide), hX.2.1 (87, 3, 90) (by decide)⟩, hX.1 (88, 12, 11) (by decide), hX.1 (89, 12, 11) (by decide), hX.1 (90, 12, 30) (by decide)⟩
theorem tX_L91 {t : zT} {a c e : Nat} (hX : zTX t a c e) : zTL t 91 := by
  refine ⟨⟨hX.1 (91, 1, 0) (by decide), hX.2.1 (91, 6, 92) (by decide), hX.2.1 (91, 7, 107) (by decide), hX.2.1 (91, 8, 122) (by decide)⟩, ⟨hX.1 (92, 15, 14) (by decide), hX.1 (107, 15, 14) (by decide), hX.1 (122, 12, 8) (by decide)⟩, ⟨fun k hk => ?_, fun k hk => ?_⟩, fun k hk => ?_, fun k hk => ?_⟩
  · have : ∀ k : Fin 14, ((92 : Nat), k.val, 91 + 1 + 1 + k.val) ∈ txR := by decide
    exact hX.2.1 _ (this ⟨k, hk⟩)
  · have : ∀ k : Fin 14, ((107 : Nat), k.val, 91 + 16 + 1 + k.val) ∈ txR := by decide
    exact hX.2.1 _ (this ⟨k, hk⟩)
  · have : ∀ k : Fin 14, (91 + 1 + 1 + k.val, (12 : Nat), (5 : Nat)) ∈ txK := by decide
    exact hX.1 _ (this ⟨k, hk⟩)
  · have : ∀ k : Fin 14, (91 + 16 + 1 + k.val, (12 : Nat), (6 : Nat)) ∈ txK := by decide
    exact hX.1 _ (this ⟨k, hk⟩)
theorem tX_S125 {t : zT} {a c e : Nat} (hX : zTX t a c e) : zTS t 125 := ⟨⟨hX.1 (125, 6, 0) (by decide), hX.2.1 (125, 1, 126) (by decide), hX.2.1 (125, 2, 127) (by decide), hX.2.1 (125, 3, 128) (by decide)⟩, hX.1 (126, 12, 11) (by decide), hX.1 (127, 12, 11) (by decide), hX.1 (128, 12, 30) (by decide)⟩
theorem tX_S129 {t : zT} {a c e : Nat} (hX : zTX t a c e) : zTS t 129 := ⟨⟨hX.1 (129, 6, 0) (by decide), hX.2.1 (129, 1, 130) (by decide), hX.2.1 (129, 2, 131) (by decide), hX.2.1 (129, 3, 132) (by decide)⟩, hX.1 (130, 12, 11) (by decide), hX.1 (131, 12, 11) (by decide), hX.1 (132, 12, 30) (by decide)⟩
theorem tX_S133 {t : zT} {a c e : Nat} (hX : zTX t a c e) : zTS t 133 := ⟨⟨hX.1 (133, 6, 0) (by decide), hX.2.1 (133, 1, 134) (by decide), hX.2.1 (133, 2, 135) (by decide), hX.2.1 (133, 3, 136) (by decide)⟩, hX.1 (134, 12, 11) (by decide), hX.1 (135, 12, 11) (by decide), hX.1 (136, 12, 30) (by decide)⟩
theorem tX_S137 {t : zT} {a c e : Nat} (hX : zTX t a c e) : zTS t 137 := ⟨⟨hX.1 (137, 6, 0) (by decide), hX.2.1 (137, 1, 138) (by decide), hX.2.1 (137, 2, 139) (by decide), hX.2.1 (137, 3, 140) (by decide)⟩, hX.1 (138, 12, 11) (by decide), hX.1 (139, 12, 11) (by decide), hX.1 (140, 12, 30) (by decide)⟩
theorem tX_S145 {t : zT} {a c e : Nat} (hX : zTX t a c e) : zTS t 145 := ⟨⟨hX.1 (145, 6, 0) (by decide), hX.2.1 (145, 1, 146) (by decide), hX.2.1 (145, 2, 147) (by decide), hX.2.1 (145, 3, 148) (by decide)⟩, hX.1 (146, 12, 11) (by decide), hX.1 (147, 12, 11) (by decide), hX.1 (148, 12, 30) (by decide)⟩
theorem tX_S149 {t : zT} {a c e : Nat} (hX : zTX t a c e) : zTS t 149 := ⟨⟨hX.1 (149, 6, 0) (by decide), hX.2.1 (149, 1, 150) (by decide), hX.2.1 (149, 2, 151) (by decide), hX.2.1 (149, 3, 152) (by decide)⟩, hX.1 (150, 12, 11) (by decide), hX.1 (151, 12, 11) (by decide), hX.1 (152, 12, 30) (by decide)⟩
theorem tX_S153 {t : zT} {a c e : Nat} (hX : zTX t a c e) : zTS t 153 := ⟨⟨hX.1 (153, 6, 0) (by decide), hX.2.1 (153, 1, 154) (by decide), hX.2.1 (153, 2, 155) (by decide), hX.2.1 (153, 3, 156) (by decide)⟩, hX.1 (154, 12, 11) (by decide), hX.1 (155, 12, 11) (by decide), hX.1 (156, 12, 30) (by decide)⟩
theorem tX_L {t : zT} {a c e i : Nat} (hX : zTX t a c e) (hi : i = 2 ∨ i = 36 ∨ i = 91) : zTL t i := by
  rcases hi with rfl | rfl | rfl
  · exact tX_L2 hX
  · exact tX_L36 hX
  · exact tX_L91 hX
theorem tX_a {t : zT} {a c e : Nat} (hX : zTX t a c e) : a = 2 ∨ a = 36 ∨ a = 91 := by rcases hX.2.2.2.1 with ⟨h, -⟩ | ⟨h, -⟩ <;> omega
theorem tX_c {t : zT} {a c e : Nat} (hX : zTX t a c e) : c = 2 ∨ c = 36 ∨ c = 91 := by rcases hX.2.2.2.1 with ⟨-, h⟩ | ⟨-, h⟩ <;> omega
theorem tX_La {t : zT} {a c e : Nat} (hX : zTX t a c e) : zTL t a := tX_L hX (tX_a hX)
theorem tX_Lc {t : zT} {a c e : Nat} (hX : zTX t a c e) : zTL t c := tX_L hX (tX_c hX)
theorem tX_Le {t : zT} {a c e : Nat} (hX : zTX t a c e) : zTL t e := tX_L hX hX.2.2.2.2
/-- States in rows -/
theorem tX_row_images {t : zT} {a c e : Nat} (hX : zTX t a c e) : ∀ k, k < 3 → zR t 72 k = some (145 + 4 * k)
  | 0, _ => hX.2.1 (72, 0, 145) (by decide)
  | 1, _ => hX.2.1 (72, 1, 149) (by decide)
  | 2, _ => hX.2.1 (72, 2, 153) (by decide)
  | k + 3, h => absurd h (by omega)
theorem tX_Simages {t : zT} {a c e : Nat} (hX : zTX t a c e) : ∀ k, k < 3 → zTS t (145 + 4 * k)
  | 0, _ => tX_S145 hX
  | 1, _ => tX_S149 hX
  | 2, _ => tX_S153 hX
  | k + 3, h => absurd h (by omega)
theorem tX_row_levels {t : zT} {a c e : Nat} (hX : zTX t a c e) : ∀ k, k < 4 → zR t 124 k = some (125 + 4 * k)
  | 0, _ => hX.2.1 (124, 0, 125) (by decide)
  | 1, _ => hX.2.1 (124, 1, 129) (by decide)
  | 2, _ => hX.2.1 (124, 2, 133) (by decide)
  | 3, _ => hX.2.1 (124, 3, 137) (by decide)
  | k + 4, h => absurd h (by omega)
theorem tX_Slevels {t : zT} {a c e : Nat} (hX : zTX t a c e) : ∀ k, k < 4 → zTS t (125 + 4 * k)
  | 0, _ => tX_S125 hX
  | 1, _ => tX_S129 hX
  | 2, _ => tX_S133 hX
  | 3, _ => tX_S137 hX
  | k + 4, h => absurd h (by omega)
/-- the references that change -/
theorem zTX.wl {t : zT} {a c e i : Nat} (hX : zTX t a c e) (hi : i = 2 ∨ i = 36 ∨ i = 91) : zTX (zsR t 73 6 (some i)) a c i := by
  refine ⟨hX.1, fun q hq => ?_, ⟨?_, ?_, zR_self _ _ _ _⟩, hX.2.2.2.1, hi⟩
  · have : ∀ q ∈ txR, ¬ (q.1 = 73 ∧ q.2.1 = 6) := by decide +kernel
    rw [zR_sR, if_neg (this q hq)]; exact hX.2.1 q hq
  · rw [zR_sR, if_neg (by omega)]; exact hX.2.2.1.1
  · rw [zR_sR, if_neg (by omega)]; exact hX.2.2.1.2.1
theorem zTX.sw {t : zT} {a c e : Nat} (hX : zTX t a c e) : zTX (zsR (zsR t 0 1 (some c)) 1 3 (some a)) c a e := by
  refine ⟨hX.1, fun q hq => ?_, ⟨?_, zR_self _ _ _ _, ?_⟩, by have := hX.2.2.2.1; omega, hX.2.2.2.2⟩
  · have : ∀ q ∈ txR, ¬ (q.1 = 0 ∧ q.2.1 = 1) ∧ ¬ (q.1 = 1 ∧ q.2.1 = 3) := by decide +kernel
    rw [zR_sR, if_neg (this q hq).2, zR_sR, if_neg (this q hq).1]; exact hX.2.1 q hq
  · rw [zR_sR, if_neg (by omega), zR_self]
  · rw [zR_sR, if_neg (by omega), zR_sR, if_neg (by omega)]; exact hX.2.2.1.2.2
theorem zTM.sR {t : zT} {i k j : Nat} (hT : zTM t) (hi : i < 157) : zTM (zsR t i k (some j)) := by
  refine ⟨hT.1, fun q hq => ?_⟩
  have : ∀ q ∈ tmR, 157 ≤ q.1 := by decide +kernel
  have := this q hq
  rw [zR_sR, if_neg (by omega)]; exact hT.2 q hq
theorem pX1_0 : zFp 1 0 .int := ⟨rfl, rfl⟩
theorem pX1_1 : zFp 1 1 .int := ⟨rfl, rfl⟩
theorem pX1_2 : zFp 1 2 .int := ⟨rfl, rfl⟩
theorem pX1_3 : zFp 1 3 .int := ⟨rfl, rfl⟩
theorem pX1_4 : zFp 1 4 .int := ⟨rfl, rfl⟩
theorem pX1_5 : zFp 1 5 .int := ⟨rfl, rfl⟩
theorem pX2_0 : zFp 2 0 .int := ⟨rfl, rfl⟩
theorem pX2_1 : zFp 2 1 .int := ⟨rfl, rfl⟩
theorem pX2_2 : zFp 2 2 .boolean := ⟨rfl, rfl⟩
theorem pX2_3 : zFp 2 3 .boolean := ⟨rfl, rfl⟩
theorem pX2_4 : zFp 2 4 .int := ⟨rfl, rfl⟩
theorem pX2_5 : zFp 2 5 .int := ⟨rfl, rfl⟩
theorem pX2_6 : zFp 2 6 .int := ⟨rfl, rfl⟩
theorem pX2_7 : zFp 2 7 .boolean := ⟨rfl, rfl⟩
theorem pX2_8 : zFp 2 8 .boolean := ⟨rfl, rfl⟩
theorem pX2_9 : zFp 2 9 .int := ⟨rfl, rfl⟩
theorem pX3_0 : zFp 3 0 .int := ⟨rfl, rfl⟩
theorem pX3_1 : zFp 3 1 .int := ⟨rfl, rfl⟩
theorem pX3_2 : zFp 3 2 .int := ⟨rfl, rfl⟩
theorem pX3_3 : (zTb 3 3).2.2.2 = false := rfl
theorem pX3_6 : zFp 3 6 .int := ⟨rfl, rfl⟩
theorem pX3_7 : zFp 3 7 .int := ⟨rfl, rfl⟩
theorem pX3_8 : zFp 3 8 .int := ⟨rfl, rfl⟩
theorem pX4_0 : zFp 4 0 .int := ⟨rfl, rfl⟩
theorem pX4_1 : zFp 4 1 .int := ⟨rfl, rfl⟩
theorem pX4_2 : zFp 4 2 .int := ⟨rfl, rfl⟩
theorem pX5_0 : zFp 5 0 .long := ⟨rfl, rfl⟩
theorem pX5_1 : zFp 5 1 .int := ⟨rfl, rfl⟩
theorem pX5_3 : zFp 5 3 .int := ⟨rfl, rfl⟩
theorem pX6_0 : zFp 6 0 .int := ⟨rfl, rfl⟩
theorem pX6_4 : zFp 6 4 .int := ⟨rfl, rfl⟩
theorem pX7_0 : zFp 7 0 .long := ⟨rfl, rfl⟩
theorem pX7_1 : zFp 7 1 .long := ⟨rfl, rfl⟩
theorem pX7_2 : zFp 7 2 .long := ⟨rfl, rfl⟩
theorem pX7_3 : zFp 7 3 .int := ⟨rfl, rfl⟩
theorem pX7_4 : zFp 7 4 .int := ⟨rfl, rfl⟩
theorem pX7_5 : zFp 7 5 .int := ⟨rfl, rfl⟩
theorem pX7_6 : zFp 7 6 .int := ⟨rfl, rfl⟩
theorem pX8_6 : (zTb 8 6).2.2.2 = false := rfl
theorem pX8_7 : zFp 8 7 .int := ⟨rfl, rfl⟩
theorem pX9_0 : zFp 9 0 .int := ⟨rfl, rfl⟩
theorem pX9_1 : zFp 9 1 .int := ⟨rfl, rfl⟩
theorem pX9_2 : zFp 9 2 .int := ⟨rfl, rfl⟩
theorem pX9_10 : zFp 9 10 .int := ⟨rfl, rfl⟩
theorem pX9_11 : zFp 9 11 .int := ⟨rfl, rfl⟩
theorem pX9_12 : zFp 9 12 .int := ⟨rfl, rfl⟩
theorem pX10_1 : (zTb 10 1).2.2.2 = false := rfl
theorem pX10_4 : zFp 10 4 .int := ⟨rfl, rfl⟩
