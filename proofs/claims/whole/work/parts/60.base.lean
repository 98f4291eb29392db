/-! PART B. The objects by their numbers: what never changes. -/
def bz_TC : List (Int × Int × Int) := [(1, 0, 30), (1, 1, 48), (1, 2, 63), (1, 3, 66), (2, 0, 3), (3, (-1), 320), (4, 0, 5), (5, (-1), 320), (6, 0, 7), (7, (-1), 4), (6, 1, 8), (8, (-1), 64), (6, 2, 9), (9, (-1), 64), (7, 0, 10), (10, 0, 11), (11, (-1), 8), (7, 1, 12), (12, 0, 13), (13, (-1), 8), (7, 2, 14), (14, 0, 15), (15, (-1), 8), (7, 3, 16), (16, 0, 17), (17, (-1), 8), (18, 0, 19), (19, (-1), 4), (18, 1, 20), (20, (-1), 64), (18, 2, 21), (21, (-1), 64), (19, 0, 22), (22, 0, 23), (23, (-1), 8), (19, 1, 24), (24, 0, 25), (25, (-1), 8), (19, 2, 26), (26, 0, 27), (27, (-1), 8), (19, 3, 28), (28, 0, 29), (29, (-1), 8), (30, 0, 34), (30, 1, 31), (30, 2, 32), (30, 3, 33), (31, (-1), 13), (32, (-1), 4), (33, (-1), 8), (31, 0, 35), (31, 1, 36), (31, 2, 37), (31, 3, 38), (31, 4, 39), (31, 5, 40), (31, 6, 41), (31, 7, 42), (31, 8, 43), (31, 9, 44), (31, 10, 45), (31, 11, 46), (31, 12, 47), (48, 0, 49), (48, 1, 50), (49, (-1), 64), (50, (-1), 12), (50, 0, 51), (50, 1, 52), (50, 2, 53), (50, 3, 54), (50, 4, 55), (50, 5, 56), (50, 6, 57), (50, 7, 58), (50, 8, 59), (50, 9, 60), (50, 10, 61), (50, 11, 62), (63, 0, 64), (63, 1, 65), (64, (-1), 1024), (65, (-1), 4)]
def bz_TM : List (Int × Int × Int) := [(67, 0, 68), (67, 1, 69), (67, 2, 70), (67, 6, 71), (67, 8, 72), (67, 9, 73), (67, 10, 74), (67, 11, 75), (67, 12, 76), (67, 13, 77), (67, 14, 78), (67, 16, 79), (67, 17, 80), (67, 18, 81), (67, 19, 82), (67, 20, 83), (67, 21, 84), (67, 22, 85), (67, 24, 86), (67, 25, 87), (67, 26, 88), (67, 27, 89), (67, 29, 90), (67, 30, 91), (67, 31, 92), (67, 40, 93), (67, 41, 94), (67, 42, 95), (67, 43, 96), (67, 44, 97), (67, 45, 98), (67, 46, 99), (67, 50, 100), (67, 52, 101), (67, 53, 102), (67, 54, 103), (67, 55, 104), (67, 56, 105), (67, 59, 106), (67, 61, 107), (67, 63, 108), (68, (-1), 30), (69, (-1), 30), (70, (-1), 30), (71, (-1), 320), (72, (-1), 4), (73, (-1), 4), (74, (-1), 4), (75, (-1), 32), (76, (-1), 5), (77, (-1), 64), (78, (-1), 64), (79, (-1), 4), (80, (-1), 4), (81, (-1), 4), (82, (-1), 32), (83, (-1), 5), (84, (-1), 64), (85, (-1), 64), (86, (-1), 4), (87, (-1), 4), (88, (-1), 8), (89, (-1), 8), (90, (-1), 100), (91, (-1), 100), (92, (-1), 100), (93, (-1), 12), (94, (-1), 12), (95, (-1), 12), (96, (-1), 12), (97, (-1), 12), (98, (-1), 12), (99, (-1), 12), (100, (-1), 80), (101, (-1), 14), (102, (-1), 14), (103, (-1), 14), (104, (-1), 14), (105, (-1), 14), (106, (-1), 1400), (107, (-1), 1400), (108, (-1), 320), (109, (-1), 1), (68, 0, 8461826529626908769), (68, 1, 7237488), (68, 2, 422726034283), (68, 3, 1819242352), (68, 4, 26982), (68, 5, 1701606245), (68, 6, 6647396), (68, 7, 25202), (68, 8, 422825650534), (68, 9, 125780071117422), (68, 10, 1667329132), (68, 11, 1685221232), (68, 12, 126879447475060), (68, 13, 7813573148589057893), (68, 14, 7813573148589060965), (68, 15, 7813573148589061221), (68, 16, 7580457772612808307), (68, 17, 7581304396566195827), (68, 18, 29611163174400378), (68, 19, 115668606150001), (68, 20, 7580457772764127091), (68, 21, 29611163174134884), (68, 22, 29611163175318882), (68, 23, 29611163174925676), (68, 24, 29614470299218298), (68, 25, 115681524606321), (68, 26, 29614470298952804), (68, 27, 29614470299743596), (68, 28, 7580457772948545904), (68, 29, 7581304396600341605), (69, 0, 6450277), (69, 1, 0), (69, 2, 0), (69, 3, 0), (69, 4, 0), (69, 5, 0), (69, 6, 0), (69, 7, 0), (69, 8, 0), (69, 9, 0), (69, 10, 0), (69, 11, 0), (69, 12, 0), (69, 13, 116), (69, 14, 116), (69, 15, 101), (69, 16, 116), (69, 17, 116), (69, 18, 0), (69, 19, 0), (69, 20, 0), (69, 21, 0), (69, 22, 0), (69, 23, 0), (69, 24, 0), (69, 25, 0), (69, 26, 0), (69, 27, 0), (69, 28, 1600730676), (69, 29, 7954587747278282611), (70, 0, 0), (70, 1, 1), (70, 2, 2), (70, 3, 3), (70, 4, 4), (70, 5, 5), (70, 6, 11), (70, 7, 12), (70, 8, 13), (70, 9, 15), (70, 10, 16), (70, 11, 26), (70, 12, 27), (70, 13, 32), (70, 14, 33), (70, 15, 34), (70, 16, 65), (70, 17, 66), (70, 18, 69), (70, 19, 70), (70, 20, 72), (70, 21, 106), (70, 22, 107), (70, 23, 108), (70, 24, 80), (70, 25, 81), (70, 26, 124), (70, 27, 126), (70, 28, 167), (70, 29, 172)]
def bz_LC (h : qz_H) : Prop := (∀ q ∈ bz_TC, h q.1 q.2.1 = q.2.2) ∧ ∀ o j : Int, -126 ≤ o → o ≤ -1 → o ≠ -34 → j ≠ -3 → h o j = kz_dt o j
def bz_LM (h : qz_H) : Prop := ∀ q ∈ bz_TM, h q.1 q.2.1 = q.2.2
theorem bz_c1_0 {h : qz_H} (hL : bz_LC h) : h 1 0 = 30 := hL.1 _ (List.mem_of_getElem? (i := 0) rfl)
theorem bz_c1_1 {h : qz_H} (hL : bz_LC h) : h 1 1 = 48 := hL.1 _ (List.mem_of_getElem? (i := 1) rfl)
theorem bz_c1_2 {h : qz_H} (hL : bz_LC h) : h 1 2 = 63 := hL.1 _ (List.mem_of_getElem? (i := 2) rfl)
theorem bz_c1_3 {h : qz_H} (hL : bz_LC h) : h 1 3 = 66 := hL.1 _ (List.mem_of_getElem? (i := 3) rfl)
theorem bz_c2_0 {h : qz_H} (hL : bz_LC h) : h 2 0 = 3 := hL.1 _ (List.mem_of_getElem? (i := 4) rfl)
theorem bz_c3_m1 {h : qz_H} (hL : bz_LC h) : h 3 (-1) = 320 := hL.1 _ (List.mem_of_getElem? (i := 5) rfl)
theorem bz_c4_0 {h : qz_H} (hL : bz_LC h) : h 4 0 = 5 := hL.1 _ (List.mem_of_getElem? (i := 6) rfl)
theorem bz_c5_m1 {h : qz_H} (hL : bz_LC h) : h 5 (-1) = 320 := hL.1 _ (List.mem_of_getElem? (i := 7) rfl)
theorem bz_c6_0 {h : qz_H} (hL : bz_LC h) : h 6 0 = 7 := hL.1 _ (List.mem_of_getElem? (i := 8) rfl)
theorem bz_c7_m1 {h : qz_H} (hL : bz_LC h) : h 7 (-1) = 4 := hL.1 _ (List.mem_of_getElem? (i := 9) rfl)
theorem bz_c6_1 {h : qz_H} (hL : bz_LC h) : h 6 1 = 8 := hL.1 _ (List.mem_of_getElem? (i := 10) rfl)
theorem bz_c8_m1 {h : qz_H} (hL : bz_LC h) : h 8 (-1) = 64 := hL.1 _ (List.mem_of_getElem? (i := 11) rfl)
theorem bz_c6_2 {h : qz_H} (hL : bz_LC h) : h 6 2 = 9 := hL.1 _ (List.mem_of_getElem? (i := 12) rfl)
theorem bz_c9_m1 {h : qz_H} (hL : bz_LC h) : h 9 (-1) = 64 := hL.1 _ (List.mem_of_getElem? (i := 13) rfl)
theorem bz_c7_0 {h : qz_H} (hL : bz_LC h) : h 7 0 = 10 := hL.1 _ (List.mem_of_getElem? (i := 14) rfl)
theorem bz_c10_0 {h : qz_H} (hL : bz_LC h) : h 10 0 = 11 := hL.1 _ (List.mem_of_getElem? (i := 15) rfl)
theorem bz_c11_m1 {h : qz_H} (hL : bz_LC h) : h 11 (-1) = 8 := hL.1 _ (List.mem_of_getElem? (i := 16) rfl)
theorem bz_c7_1 {h : qz_H} (hL : bz_LC h) : h 7 1 = 12 := hL.1 _ (List.mem_of_getElem? (i := 17) rfl)
theorem bz_c12_0 {h : qz_H} (hL : bz_LC h) : h 12 0 = 13 := hL.1 _ (List.mem_of_getElem? (i := 18) rfl)
theorem bz_c13_m1 {h : qz_H} (hL : bz_LC h) : h 13 (-1) = 8 := hL.1 _ (List.mem_of_getElem? (i := 19) rfl)
theorem bz_c7_2 {h : qz_H} (hL : bz_LC h) : h 7 2 = 14 := hL.1 _ (List.mem_of_getElem? (i := 20) rfl)
theorem bz_c14_0 {h : qz_H} (hL : bz_LC h) : h 14 0 = 15 := hL.1 _ (List.mem_of_getElem? (i := 21) rfl)
theorem bz_c15_m1 {h : qz_H} (hL : bz_LC h) : h 15 (-1) = 8 := hL.1 _ (List.mem_of_getElem? (i := 22) rfl)
theorem bz_c7_3 {h : qz_H} (hL : bz_LC h) : h 7 3 = 16 := hL.1 _ (List.mem_of_getElem? (i := 23) rfl)
theorem bz_c16_0 {h : qz_H} (hL : bz_LC h) : h 16 0 = 17 := hL.1 _ (List.mem_of_getElem? (i := 24) rfl)
theorem bz_c17_m1 {h : qz_H} (hL : bz_LC h) : h 17 (-1) = 8 := hL.1 _ (List.mem_of_getElem? (i := 25) rfl)
theorem bz_c18_0 {h : qz_H} (hL : bz_LC h) : h 18 0 = 19 := hL.1 _ (List.mem_of_getElem? (i := 26) rfl)
theorem bz_c19_m1 {h : qz_H} (hL : bz_LC h) : h 19 (-1) = 4 := hL.1 _ (List.mem_of_getElem? (i := 27) rfl)
theorem bz_c18_1 {h : qz_H} (hL : bz_LC h) : h 18 1 = 20 := hL.1 _ (List.mem_of_getElem? (i := 28) rfl)
theorem bz_c20_m1 {h : qz_H} (hL : bz_LC h) : h 20 (-1) = 64 := hL.1 _ (List.mem_of_getElem? (i := 29) rfl)
theorem bz_c18_2 {h : qz_H} (hL : bz_LC h) : h 18 2 = 21 := hL.1 _ (List.mem_of_getElem? (i := 30) rfl)
theorem bz_c21_m1 {h : qz_H} (hL : bz_LC h) : h 21 (-1) = 64 := hL.1 _ (List.mem_of_getElem? (i := 31) rfl)
theorem bz_c19_0 {h : qz_H} (hL : bz_LC h) : h 19 0 = 22 := hL.1 _ (List.mem_of_getElem? (i := 32) rfl)
theorem bz_c22_0 {h : qz_H} (hL : bz_LC h) : h 22 0 = 23 := hL.1 _ (List.mem_of_getElem? (i := 33) rfl)
theorem bz_c23_m1 {h : qz_H} (hL : bz_LC h) : h 23 (-1) = 8 := hL.1 _ (List.mem_of_getElem? (i := 34) rfl)
theorem bz_c19_1 {h : qz_H} (hL : bz_LC h) : h 19 1 = 24 := hL.1 _ (List.mem_of_getElem? (i := 35) rfl)
theorem bz_c24_0 {h : qz_H} (hL : bz_LC h) : h 24 0 = 25 := hL.1 _ (List.mem_of_getElem? (i := 36) rfl)
theorem bz_c25_m1 {h : qz_H} (hL : bz_LC h) : h 25 (-1) = 8 := hL.1 _ (List.mem_of_getElem? (i := 37) rfl)
theorem bz_c19_2 {h : qz_H} (hL : bz_LC h) : h 19 2 = 26 := hL.1 _ (List.mem_of_getElem? (i := 38) rfl)
theorem bz_c26_0 {h : qz_H} (hL : bz_LC h) : h 26 0 = 27 := hL.1 _ (List.mem_of_getElem? (i := 39) rfl)
theorem bz_c27_m1 {h : qz_H} (hL : bz_LC h) : h 27 (-1) = 8 := hL.1 _ (List.mem_of_getElem? (i := 40) rfl)
theorem bz_c19_3 {h : qz_H} (hL : bz_LC h) : h 19 3 = 28 := hL.1 _ (List.mem_of_getElem? (i := 41) rfl)
theorem bz_c28_0 {h : qz_H} (hL : bz_LC h) : h 28 0 = 29 := hL.1 _ (List.mem_of_getElem? (i := 42) rfl)
theorem bz_c29_m1 {h : qz_H} (hL : bz_LC h) : h 29 (-1) = 8 := hL.1 _ (List.mem_of_getElem? (i := 43) rfl)
theorem bz_c30_0 {h : qz_H} (hL : bz_LC h) : h 30 0 = 34 := hL.1 _ (List.mem_of_getElem? (i := 44) rfl)
theorem bz_c30_1 {h : qz_H} (hL : bz_LC h) : h 30 1 = 31 := hL.1 _ (List.mem_of_getElem? (i := 45) rfl)
theorem bz_c30_2 {h : qz_H} (hL : bz_LC h) : h 30 2 = 32 := hL.1 _ (List.mem_of_getElem? (i := 46) rfl)
theorem bz_c30_3 {h : qz_H} (hL : bz_LC h) : h 30 3 = 33 := hL.1 _ (List.mem_of_getElem? (i := 47) rfl)
theorem bz_c31_m1 {h : qz_H} (hL : bz_LC h) : h 31 (-1) = 13 := hL.1 _ (List.mem_of_getElem? (i := 48) rfl)
theorem bz_c32_m1 {h : qz_H} (hL : bz_LC h) : h 32 (-1) = 4 := hL.1 _ (List.mem_of_getElem? (i := 49) rfl)
theorem bz_c33_m1 {h : qz_H} (hL : bz_LC h) : h 33 (-1) = 8 := hL.1 _ (List.mem_of_getElem? (i := 50) rfl)
theorem bz_c31_0 {h : qz_H} (hL : bz_LC h) : h 31 0 = 35 := hL.1 _ (List.mem_of_getElem? (i := 51) rfl)
theorem bz_c31_1 {h : qz_H} (hL : bz_LC h) : h 31 1 = 36 := hL.1 _ (List.mem_of_getElem? (i := 52) rfl)
theorem bz_c31_2 {h : qz_H} (hL : bz_LC h) : h 31 2 = 37 := hL.1 _ (List.mem_of_getElem? (i := 53) rfl)
theorem bz_c31_3 {h : qz_H} (hL : bz_LC h) : h 31 3 = 38 := hL.1 _ (List.mem_of_getElem? (i := 54) rfl)
theorem bz_c31_4 {h : qz_H} (hL : bz_LC h) : h 31 4 = 39 := hL.1 _ (List.mem_of_getElem? (i := 55) rfl)
theorem bz_c31_5 {h : qz_H} (hL : bz_LC h) : h 31 5 = 40 := hL.1 _ (List.mem_of_getElem? (i := 56) rfl)
theorem bz_c31_6 {h : qz_H} (hL : bz_LC h) : h 31 6 = 41 := hL.1 _ (List.mem_of_getElem? (i := 57) rfl)
theorem bz_c31_7 {h : qz_H} (hL : bz_LC h) : h 31 7 = 42 := hL.1 _ (List.mem_of_getElem? (i := 58) rfl)
theorem bz_c31_8 {h : qz_H} (hL : bz_LC h) : h 31 8 = 43 := hL.1 _ (List.mem_of_getElem? (i := 59) rfl)
theorem bz_c31_9 {h : qz_H} (hL : bz_LC h) : h 31 9 = 44 := hL.1 _ (List.mem_of_getElem? (i := 60) rfl)
theorem bz_c31_10 {h : qz_H} (hL : bz_LC h) : h 31 10 = 45 := hL.1 _ (List.mem_of_getElem? (i := 61) rfl)
theorem bz_c31_11 {h : qz_H} (hL : bz_LC h) : h 31 11 = 46 := hL.1 _ (List.mem_of_getElem? (i := 62) rfl)
theorem bz_c31_12 {h : qz_H} (hL : bz_LC h) : h 31 12 = 47 := hL.1 _ (List.mem_of_getElem? (i := 63) rfl)
theorem bz_c48_0 {h : qz_H} (hL : bz_LC h) : h 48 0 = 49 := hL.1 _ (List.mem_of_getElem? (i := 64) rfl)
theorem bz_c48_1 {h : qz_H} (hL : bz_LC h) : h 48 1 = 50 := hL.1 _ (List.mem_of_getElem? (i := 65) rfl)
theorem bz_c49_m1 {h : qz_H} (hL : bz_LC h) : h 49 (-1) = 64 := hL.1 _ (List.mem_of_getElem? (i := 66) rfl)
theorem bz_c50_m1 {h : qz_H} (hL : bz_LC h) : h 50 (-1) = 12 := hL.1 _ (List.mem_of_getElem? (i := 67) rfl)
theorem bz_c50_0 {h : qz_H} (hL : bz_LC h) : h 50 0 = 51 := hL.1 _ (List.mem_of_getElem? (i := 68) rfl)
theorem bz_c50_1 {h : qz_H} (hL : bz_LC h) : h 50 1 = 52 := hL.1 _ (List.mem_of_getElem? (i := 69) rfl)
theorem bz_c50_2 {h : qz_H} (hL : bz_LC h) : h 50 2 = 53 := hL.1 _ (List.mem_of_getElem? (i := 70) rfl)
theorem bz_c50_3 {h : qz_H} (hL : bz_LC h) : h 50 3 = 54 := hL.1 _ (List.mem_of_getElem? (i := 71) rfl)
theorem bz_c50_4 {h : qz_H} (hL : bz_LC h) : h 50 4 = 55 := hL.1 _ (List.mem_of_getElem? (i := 72) rfl)
theorem bz_c50_5 {h : qz_H} (hL : bz_LC h) : h 50 5 = 56 := hL.1 _ (List.mem_of_getElem? (i := 73) rfl)
theorem bz_c50_6 {h : qz_H} (hL : bz_LC h) : h 50 6 = 57 := hL.1 _ (List.mem_of_getElem? (i := 74) rfl)
theorem bz_c50_7 {h : qz_H} (hL : bz_LC h) : h 50 7 = 58 := hL.1 _ (List.mem_of_getElem? (i := 75) rfl)
theorem bz_c50_8 {h : qz_H} (hL : bz_LC h) : h 50 8 = 59 := hL.1 _ (List.mem_of_getElem? (i := 76) rfl)
theorem bz_c50_9 {h : qz_H} (hL : bz_LC h) : h 50 9 = 60 := hL.1 _ (List.mem_of_getElem? (i := 77) rfl)
theorem bz_c50_10 {h : qz_H} (hL : bz_LC h) : h 50 10 = 61 := hL.1 _ (List.mem_of_getElem? (i := 78) rfl)
theorem bz_c50_11 {h : qz_H} (hL : bz_LC h) : h 50 11 = 62 := hL.1 _ (List.mem_of_getElem? (i := 79) rfl)
theorem bz_c63_0 {h : qz_H} (hL : bz_LC h) : h 63 0 = 64 := hL.1 _ (List.mem_of_getElem? (i := 80) rfl)
theorem bz_c63_1 {h : qz_H} (hL : bz_LC h) : h 63 1 = 65 := hL.1 _ (List.mem_of_getElem? (i := 81) rfl)
theorem bz_c64_m1 {h : qz_H} (hL : bz_LC h) : h 64 (-1) = 1024 := hL.1 _ (List.mem_of_getElem? (i := 82) rfl)
theorem bz_c65_m1 {h : qz_H} (hL : bz_LC h) : h 65 (-1) = 4 := hL.1 _ (List.mem_of_getElem? (i := 83) rfl)
theorem bz_m67_0 {h : qz_H} (hL : bz_LM h) : h 67 0 = 68 := hL _ (List.mem_of_getElem? (i := 0) rfl)
theorem bz_m67_1 {h : qz_H} (hL : bz_LM h) : h 67 1 = 69 := hL _ (List.mem_of_getElem? (i := 1) rfl)
theorem bz_m67_2 {h : qz_H} (hL : bz_LM h) : h 67 2 = 70 := hL _ (List.mem_of_getElem? (i := 2) rfl)
theorem bz_m67_6 {h : qz_H} (hL : bz_LM h) : h 67 6 = 71 := hL _ (List.mem_of_getElem? (i := 3) rfl)
theorem bz_m67_8 {h : qz_H} (hL : bz_LM h) : h 67 8 = 72 := hL _ (List.mem_of_getElem? (i := 4) rfl)
theorem bz_m67_9 {h : qz_H} (hL : bz_LM h) : h 67 9 = 73 := hL _ (List.mem_of_getElem? (i := 5) rfl)
theorem bz_m67_10 {h : qz_H} (hL : bz_LM h) : h 67 10 = 74 := hL _ (List.mem_of_getElem? (i := 6) rfl)
theorem bz_m67_11 {h : qz_H} (hL : bz_LM h) : h 67 11 = 75 := hL _ (List.mem_of_getElem? (i := 7) rfl)
theorem bz_m67_12 {h : qz_H} (hL : bz_LM h) : h 67 12 = 76 := hL _ (List.mem_of_getElem? (i := 8) rfl)
theorem bz_m67_13 {h : qz_H} (hL : bz_LM h) : h 67 13 = 77 := hL _ (List.mem_of_getElem? (i := 9) rfl)
theorem bz_m67_14 {h : qz_H} (hL : bz_LM h) : h 67 14 = 78 := hL _ (List.mem_of_getElem? (i := 10) rfl)
theorem bz_m67_16 {h : qz_H} (hL : bz_LM h) : h 67 16 = 79 := hL _ (List.mem_of_getElem? (i := 11) rfl)
theorem bz_m67_17 {h : qz_H} (hL : bz_LM h) : h 67 17 = 80 := hL _ (List.mem_of_getElem? (i := 12) rfl)
theorem bz_m67_18 {h : qz_H} (hL : bz_LM h) : h 67 18 = 81 := hL _ (List.mem_of_getElem? (i := 13) rfl)
theorem bz_m67_19 {h : qz_H} (hL : bz_LM h) : h 67 19 = 82 := hL _ (List.mem_of_getElem? (i := 14) rfl)
theorem bz_m67_20 {h : qz_H} (hL : bz_LM h) : h 67 20 = 83 := hL _ (List.mem_of_getElem? (i := 15) rfl)
theorem bz_m67_21 {h : qz_H} (hL : bz_LM h) : h 67 21 = 84 := hL _ (List.mem_of_getElem? (i := 16) rfl)
theorem bz_m67_22 {h : qz_H} (hL : bz_LM h) : h 67 22 = 85 := hL _ (List.mem_of_getElem? (i := 17) rfl)
theorem bz_m67_24 {h : qz_H} (hL : bz_LM h) : h 67 24 = 86 := hL _ (List.mem_of_getElem? (i := 18) rfl)
theorem bz_m67_25 {h : qz_H} (hL : bz_LM h) : h 67 25 = 87 := hL _ (List.mem_of_getElem? (i := 19) rfl)
theorem bz_m67_26 {h : qz_H} (hL : bz_LM h) : h 67 26 = 88 := hL _ (List.mem_of_getElem? (i := 20) rfl)
theorem bz_m67_27 {h : qz_H} (hL : bz_LM h) : h 67 27 = 89 := hL _ (List.mem_of_getElem? (i := 21) rfl)
theorem bz_m67_29 {h : qz_H} (hL : bz_LM h) : h 67 29 = 90 := hL _ (List.mem_of_getElem? (i := 22) rfl)
theorem bz_m67_30 {h : qz_H} (hL : bz_LM h) : h 67 30 = 91 := hL _ (List.mem_of_getElem? (i := 23) rfl)
theorem bz_m67_31 {h : qz_H} (hL : bz_LM h) : h 67 31 = 92 := hL _ (List.mem_of_getElem? (i := 24) rfl)
theorem bz_m67_40 {h : qz_H} (hL : bz_LM h) : h 67 40 = 93 := hL _ (List.mem_of_getElem? (i := 25) rfl)
theorem bz_m67_41 {h : qz_H} (hL : bz_LM h) : h 67 41 = 94 := hL _ (List.mem_of_getElem? (i := 26) rfl)
theorem bz_m67_42 {h : qz_H} (hL : bz_LM h) : h 67 42 = 95 := hL _ (List.mem_of_getElem? (i := 27) rfl)
theorem bz_m67_43 {h : qz_H} (hL : bz_LM h) : h 67 43 = 96 := hL _ (List.mem_of_getElem? (i := 28) rfl)
theorem bz_m67_44 {h : qz_H} (hL : bz_LM h) : h 67 44 = 97 := hL _ (List.mem_of_getElem? (i := 29) rfl)
theorem bz_m67_45 {h : qz_H} (hL : bz_LM h) : h 67 45 = 98 := hL _ (List.mem_of_getElem? (i := 30) rfl)
theorem bz_m67_46 {h : qz_H} (hL : bz_LM h) : h 67 46 = 99 := hL _ (List.mem_of_getElem? (i := 31) rfl)
theorem bz_m67_50 {h : qz_H} (hL : bz_LM h) : h 67 50 = 100 := hL _ (List.mem_of_getElem? (i := 32) rfl)
theorem bz_m67_52 {h : qz_H} (hL : bz_LM h) : h 67 52 = 101 := hL _ (List.mem_of_getElem? (i := 33) rfl)
theorem bz_m67_53 {h : qz_H} (hL : bz_LM h) : h 67 53 = 102 := hL _ (List.mem_of_getElem? (i := 34) rfl)
theorem bz_m67_54 {h : qz_H} (hL : bz_LM h) : h 67 54 = 103 := hL _ (List.mem_of_getElem? (i := 35) rfl)
theorem bz_m67_55 {h : qz_H} (hL : bz_LM h) : h 67 55 = 104 := hL _ (List.mem_of_getElem? (i := 36) rfl)
theorem bz_m67_56 {h : qz_H} (hL : bz_LM h) : h 67 56 = 105 := hL _ (List.mem_of_getElem? (i := 37) rfl)
theorem bz_m67_59 {h : qz_H} (hL : bz_LM h) : h 67 59 = 106 := hL _ (List.mem_of_getElem? (i := 38) rfl)
theorem bz_m67_61 {h : qz_H} (hL : bz_LM h) : h 67 61 = 107 := hL _ (List.mem_of_getElem? (i := 39) rfl)
theorem bz_m67_63 {h : qz_H} (hL : bz_LM h) : h 67 63 = 108 := hL _ (List.mem_of_getElem? (i := 40) rfl)
theorem bz_m68_m1 {h : qz_H} (hL : bz_LM h) : h 68 (-1) = 30 := hL _ (List.mem_of_getElem? (i := 41) rfl)
theorem bz_m69_m1 {h : qz_H} (hL : bz_LM h) : h 69 (-1) = 30 := hL _ (List.mem_of_getElem? (i := 42) rfl)
theorem bz_m70_m1 {h : qz_H} (hL : bz_LM h) : h 70 (-1) = 30 := hL _ (List.mem_of_getElem? (i := 43) rfl)
theorem bz_m71_m1 {h : qz_H} (hL : bz_LM h) : h 71 (-1) = 320 := hL _ (List.mem_of_getElem? (i := 44) rfl)
theorem bz_m72_m1 {h : qz_H} (hL : bz_LM h) : h 72 (-1) = 4 := hL _ (List.mem_of_getElem? (i := 45) rfl)
theorem bz_m73_m1 {h : qz_H} (hL : bz_LM h) : h 73 (-1) = 4 := hL _ (List.mem_of_getElem? (i := 46) rfl)
theorem bz_m74_m1 {h : qz_H} (hL : bz_LM h) : h 74 (-1) = 4 := hL _ (List.mem_of_getElem? (i := 47) rfl)
theorem bz_m75_m1 {h : qz_H} (hL : bz_LM h) : h 75 (-1) = 32 := hL _ (List.mem_of_getElem? (i := 48) rfl)
theorem bz_m76_m1 {h : qz_H} (hL : bz_LM h) : h 76 (-1) = 5 := hL _ (List.mem_of_getElem? (i := 49) rfl)
theorem bz_m77_m1 {h : qz_H} (hL : bz_LM h) : h 77 (-1) = 64 := hL _ (List.mem_of_getElem? (i := 50) rfl)
theorem bz_m78_m1 {h : qz_H} (hL : bz_LM h) : h 78 (-1) = 64 := hL _ (List.mem_of_getElem? (i := 51) rfl)
theorem bz_m79_m1 {h : qz_H} (hL : bz_LM h) : h 79 (-1) = 4 := hL _ (List.mem_of_getElem? (i := 52) rfl)
theorem bz_m80_m1 {h : qz_H} (hL : bz_LM h) : h 80 (-1) = 4 := hL _ (List.mem_of_getElem? (i := 53) rfl)
theorem bz_m81_m1 {h : qz_H} (hL : bz_LM h) : h 81 (-1) = 4 := hL _ (List.mem_of_getElem? (i := 54) rfl)
theorem bz_m82_m1 {h : qz_H} (hL : bz_LM h) : h 82 (-1) = 32 := hL _ (List.mem_of_getElem? (i := 55) rfl)
theorem bz_m83_m1 {h : qz_H} (hL : bz_LM h) : h 83 (-1) = 5 := hL _ (List.mem_of_getElem? (i := 56) rfl)
theorem bz_m84_m1 {h : qz_H} (hL : bz_LM h) : h 84 (-1) = 64 := hL _ (List.mem_of_getElem? (i := 57) rfl)
theorem bz_m85_m1 {h : qz_H} (hL : bz_LM h) : h 85 (-1) = 64 := hL _ (List.mem_of_getElem? (i := 58) rfl)
theorem bz_m86_m1 {h : qz_H} (hL : bz_LM h) : h 86 (-1) = 4 := hL _ (List.mem_of_getElem? (i := 59) rfl)
theorem bz_m87_m1 {h : qz_H} (hL : bz_LM h) : h 87 (-1) = 4 := hL _ (List.mem_of_getElem? (i := 60) rfl)
theorem bz_m88_m1 {h : qz_H} (hL : bz_LM h) : h 88 (-1) = 8 := hL _ (List.mem_of_getElem? (i := 61) rfl)
theorem bz_m89_m1 {h : qz_H} (hL : bz_LM h) : h 89 (-1) = 8 := hL _ (List.mem_of_getElem? (i := 62) rfl)
theorem bz_m90_m1 {h : qz_H} (hL : bz_LM h) : h 90 (-1) = 100 := hL _ (List.mem_of_getElem? (i := 63) rfl)
theorem bz_m91_m1 {h : qz_H} (hL : bz_LM h) : h 91 (-1) = 100 := hL _ (List.mem_of_getElem? (i := 64) rfl)
theorem bz_m92_m1 {h : qz_H} (hL : bz_LM h) : h 92 (-1) = 100 := hL _ (List.mem_of_getElem? (i := 65) rfl)
theorem bz_m93_m1 {h : qz_H} (hL : bz_LM h) : h 93 (-1) = 12 := hL _ (List.mem_of_getElem? (i := 66) rfl)
theorem bz_m94_m1 {h : qz_H} (hL : bz_LM h) : h 94 (-1) = 12 := hL _ (List.mem_of_getElem? (i := 67) rfl)
theorem bz_m95_m1 {h : qz_H} (hL : bz_LM h) : h 95 (-1) = 12 := hL _ (List.mem_of_getElem? (i := 68) rfl)
theorem bz_m96_m1 {h : qz_H} (hL : bz_LM h) : h 96 (-1) = 12 := hL _ (List.mem_of_getElem? (i := 69) rfl)
theorem bz_m97_m1 {h : qz_H} (hL : bz_LM h) : h 97 (-1) = 12 := hL _ (List.mem_of_getElem? (i := 70) rfl)
theorem bz_m98_m1 {h : qz_H} (hL : bz_LM h) : h 98 (-1) = 12 := hL _ (List.mem_of_getElem? (i := 71) rfl)
theorem bz_m99_m1 {h : qz_H} (hL : bz_LM h) : h 99 (-1) = 12 := hL _ (List.mem_of_getElem? (i := 72) rfl)
theorem bz_m100_m1 {h : qz_H} (hL : bz_LM h) : h 100 (-1) = 80 := hL _ (List.mem_of_getElem? (i := 73) rfl)
theorem bz_m101_m1 {h : qz_H} (hL : bz_LM h) : h 101 (-1) = 14 := hL _ (List.mem_of_getElem? (i := 74) rfl)
theorem bz_m102_m1 {h : qz_H} (hL : bz_LM h) : h 102 (-1) = 14 := hL _ (List.mem_of_getElem? (i := 75) rfl)
theorem bz_m103_m1 {h : qz_H} (hL : bz_LM h) : h 103 (-1) = 14 := hL _ (List.mem_of_getElem? (i := 76) rfl)
theorem bz_m104_m1 {h : qz_H} (hL : bz_LM h) : h 104 (-1) = 14 := hL _ (List.mem_of_getElem? (i := 77) rfl)
theorem bz_m105_m1 {h : qz_H} (hL : bz_LM h) : h 105 (-1) = 14 := hL _ (List.mem_of_getElem? (i := 78) rfl)
theorem bz_m106_m1 {h : qz_H} (hL : bz_LM h) : h 106 (-1) = 1400 := hL _ (List.mem_of_getElem? (i := 79) rfl)
theorem bz_m107_m1 {h : qz_H} (hL : bz_LM h) : h 107 (-1) = 1400 := hL _ (List.mem_of_getElem? (i := 80) rfl)
theorem bz_m108_m1 {h : qz_H} (hL : bz_LM h) : h 108 (-1) = 320 := hL _ (List.mem_of_getElem? (i := 81) rfl)
theorem bz_m109_m1 {h : qz_H} (hL : bz_LM h) : h 109 (-1) = 1 := hL _ (List.mem_of_getElem? (i := 82) rfl)
def bz_fre (T : List (Int × Int × Int)) (a b c e : Int) : Bool := T.all fun q => !(decide (a ≤ q.1) && decide (q.1 ≤ b) && decide (c ≤ q.2.1) && decide (q.2.1 ≤ e))
theorem bz_us (h : qz_H) (o i v : Int) : qz_up h o i v o i = v := if_pos ⟨rfl, rfl⟩
theorem bz_uo {h : qz_H} {o i v a b : Int} (n : a ≠ o) : qz_up h o i v a b = h a b := if_neg fun z => n z.1
theorem bz_ui {h : qz_H} {o i v a b : Int} (n : b ≠ i) : qz_up h o i v a b = h a b := if_neg fun z => n z.2
theorem bz_bn {α β : Type} (a : α) (f : α → β) : qz_bn a f = f a := rfl
theorem bz_bc (r : Int) (h : qz_H) (f : Int → qz_H → Option qz_R) : qz_bc (some (r, h)) f = f r h := rfl
theorem bz_ck {c : Prop} [Decidable c] {t : Option qz_R} (h : c) : qz_ck c t = t := if_pos h
theorem bz_w {z : Int} (h1 : -2147483648 ≤ z) (h2 : z ≤ 2147483647) : qz_w z = z := Int32.toInt_ofInt_of_le h1 (by omega)
theorem bz_fre_ok {T : List (Int × Int × Int)} {a b c e : Int} (hf : bz_fre T a b c e = true) {h : qz_H} {o i v : Int} (h1 : a ≤ o) (h2 : o ≤ b) (h3 : c ≤ i) (h4 : i ≤ e) (hT : ∀ q ∈ T, h q.1 q.2.1 = q.2.2) : ∀ q ∈ T, qz_up h o i v q.1 q.2.1 = q.2.2 := by
  intro q hq
  have z := List.all_eq_true.mp hf q hq
  simp only [Bool.not_eq_true', Bool.and_eq_false_iff, decide_eq_false_iff_not] at z
  rw [← hT q hq]
  apply if_neg
  intro w
  obtain ⟨w1, w2⟩ := w
  rw [w1, w2] at z
  rcases z with ((z | z) | z) | z <;> exact z (by assumption)
theorem bz_LC_up {a b c e : Int} (hf : bz_fre bz_TC a b c e = true) {h : qz_H} {o i v : Int} (h0 : 0 < a) (h1 : a ≤ o) (h2 : o ≤ b) (h3 : c ≤ i) (h4 : i ≤ e) (hL : bz_LC h) : bz_LC (qz_up h o i v) :=
  ⟨bz_fre_ok hf h1 h2 h3 h4 hL.1, fun x j x1 x2 x3 x4 => by rw [bz_uo (by omega)]; exact hL.2 x j x1 x2 x3 x4⟩
theorem bz_LM_up {a b c e : Int} (hf : bz_fre bz_TM a b c e = true) {h : qz_H} {o i v : Int} (h1 : a ≤ o) (h2 : o ≤ b) (h3 : c ≤ i) (h4 : i ≤ e) (hL : bz_LM h) : bz_LM (qz_up h o i v) := bz_fre_ok hf h1 h2 h3 h4 hL
/-- a write beyond what a table speaks of -/
theorem bz_LC_far {h : qz_H} {o i v : Int} (h1 : 67 ≤ o) (hL : bz_LC h) : bz_LC (qz_up h o i v) := by
  refine ⟨fun q hq => ?_, fun x j x1 x2 x3 x4 => by rw [bz_uo (by omega)]; exact hL.2 x j x1 x2 x3 x4⟩
  have z : ∀ q ∈ bz_TC, q.1 ≤ 66 := by decide +kernel
  rw [bz_uo (by have := z q hq; omega)]
  exact hL.1 q hq
/-- two heaps that are the same but for objects of the model, of the class -/
def bz_fc (h h' : qz_H) : Prop := ∀ o i : Int, (67 ≤ o ∨ o ≤ -1) → h' o i = h o i
def bz_fm (h h' : qz_H) : Prop := ∀ o i : Int, (1 ≤ o ∧ o ≤ 66 ∨ o ≤ -1) → h' o i = h o i
theorem bz_fc.LM {h h' : qz_H} (f : bz_fc h h') (hL : bz_LM h) : bz_LM h' := by
  intro q hq
  have z : ∀ q ∈ bz_TM, 67 ≤ q.1 := by decide +kernel
  rw [f _ _ (Or.inl (z q hq))]
  exact hL q hq
theorem bz_fm.LC {h h' : qz_H} (f : bz_fm h h') (hL : bz_LC h) : bz_LC h' := by
  refine ⟨fun q hq => ?_, fun x j x1 x2 x3 x4 => by rw [f _ _ (Or.inr x2)]; exact hL.2 x j x1 x2 x3 x4⟩
  have z : ∀ q ∈ bz_TC, 1 ≤ q.1 ∧ q.1 ≤ 66 := by decide +kernel
  rw [f _ _ (Or.inl (z q hq))]
  exact hL.1 q hq
theorem bz_fc.rf (h : qz_H) : bz_fc h h := fun _ _ _ => rfl
theorem bz_fm.rf (h : qz_H) : bz_fm h h := fun _ _ _ => rfl
theorem bz_fc.tr {h h1 h2 : qz_H} (a : bz_fc h h1) (b : bz_fc h1 h2) : bz_fc h h2 := fun o i z => (b o i z).trans (a o i z)
theorem bz_fm.tr {h h1 h2 : qz_H} (a : bz_fm h h1) (b : bz_fm h1 h2) : bz_fm h h2 := fun o i z => (b o i z).trans (a o i z)
theorem bz_fc.up {h : qz_H} {o i v : Int} (h1 : 1 ≤ o) (h2 : o ≤ 66) : bz_fc h (qz_up h o i v) := fun a b z => bz_uo (by omega)
theorem bz_fm.up {h : qz_H} {o i v : Int} (h1 : 67 ≤ o) : bz_fm h (qz_up h o i v) := fun a b z => bz_uo (by omega)
/-- a text, a module, a function, a level, a frame by number -/
theorem bz_txt {h : qz_H} (hL : bz_LC h) {T : Int} (hT : T = 2 ∨ T = 4) : h T 0 = T + 1 ∧ h (T + 1) (-1) = 320 := by
  rcases hT with rfl | rfl
  · exact ⟨bz_c2_0 hL, bz_c3_m1 hL⟩
  · exact ⟨bz_c4_0 hL, bz_c5_m1 hL⟩
theorem bz_mod {h : qz_H} (hL : bz_LC h) {M : Int} (hM : M = 6 ∨ M = 18) : h M 0 = M + 1 ∧ h M 1 = M + 2 ∧ h M 2 = M + 3 ∧ h (M + 1) (-1) = 4 ∧ h (M + 2) (-1) = 64 ∧ h (M + 3) (-1) = 64 := by
  rcases hM with rfl | rfl
  · exact ⟨bz_c6_0 hL, bz_c6_1 hL, bz_c6_2 hL, bz_c7_m1 hL, bz_c8_m1 hL, bz_c9_m1 hL⟩
  · exact ⟨bz_c18_0 hL, bz_c18_1 hL, bz_c18_2 hL, bz_c19_m1 hL, bz_c20_m1 hL, bz_c21_m1 hL⟩
theorem bz_fun {h : qz_H} (hL : bz_LC h) {M f : Int} (hM : M = 6 ∨ M = 18) (h1 : 0 ≤ f) (h2 : f ≤ 3) : h (M + 1) f = M + 4 + 2 * f ∧ h (M + 4 + 2 * f) 0 = M + 5 + 2 * f ∧ h (M + 5 + 2 * f) (-1) = 8 := by
  have z : f = 0 ∨ f = 1 ∨ f = 2 ∨ f = 3 := by omega
  rcases hM with rfl | rfl
  · rcases z with rfl | rfl | rfl | rfl
    · exact ⟨bz_c7_0 hL, bz_c10_0 hL, bz_c11_m1 hL⟩
    · exact ⟨bz_c7_1 hL, bz_c12_0 hL, bz_c13_m1 hL⟩
    · exact ⟨bz_c7_2 hL, bz_c14_0 hL, bz_c15_m1 hL⟩
    · exact ⟨bz_c7_3 hL, bz_c16_0 hL, bz_c17_m1 hL⟩
  · rcases z with rfl | rfl | rfl | rfl
    · exact ⟨bz_c19_0 hL, bz_c22_0 hL, bz_c23_m1 hL⟩
    · exact ⟨bz_c19_1 hL, bz_c24_0 hL, bz_c25_m1 hL⟩
    · exact ⟨bz_c19_2 hL, bz_c26_0 hL, bz_c27_m1 hL⟩
    · exact ⟨bz_c19_3 hL, bz_c28_0 hL, bz_c29_m1 hL⟩
theorem bz_rng {h : qz_H} {T : List (Int × Int × Int)} (hL : ∀ q ∈ T, h q.1 q.2.1 = q.2.2) (o b : Int) (n : Nat) (hd : (List.range n).all (fun (d : Nat) => T.any fun q => decide (q = (o, (d : Int), b + (d : Int)))) = true) {d : Int} (h1 : 0 ≤ d) (h2 : d < n) : h o d = b + d := by
  have z := List.all_eq_true.mp hd d.toNat (List.mem_range.mpr (by omega))
  obtain ⟨q, q1, q2⟩ := List.any_eq_true.mp z
  rw [decide_eq_true_eq] at q2
  subst q2
  have e := hL _ q1
  simp only at e
  rw [Int.toNat_of_nonneg h1] at e
  exact e
theorem bz_lev {h : qz_H} (hL : bz_LC h) {d : Int} (h1 : 0 ≤ d) (h2 : d ≤ 12) : h 31 d = 35 + d := bz_rng hL.1 31 35 13 (by decide +kernel) h1 (by omega)
theorem bz_frm {h : qz_H} (hL : bz_LC h) {d : Int} (h1 : 0 ≤ d) (h2 : d ≤ 11) : h 50 d = 51 + d := bz_rng hL.1 50 51 12 (by decide +kernel) h1 (by omega)
