/-! THE CLASS: where its fixed cells stand, what kinds they are, whom they name (by gen_c.py) -/
def tabL : List (Nat × Nat × Nat) := [(0, 11, 0), (1, 10, 0), (2, 13, 64), (3, 13, 12), (4, 16, 4), (5, 9, 0), (6, 18, 8), (7, 14, 8), (8, 9, 0), (9, 18, 8), (10, 14, 8), (11, 9, 0), (12, 18, 8), (13, 14, 8), (14, 20, 4), (15, 20, 7), (16, 4, 0), (17, 3, 0), (18, 14, 8), (19, 17, 6), (20, 6, 0), (21, 2, 0), (22, 13, 8), (23, 19, 4), (24, 1, 0), (25, 13, 64), (26, 13, 64), (27, 14, 8), (28, 1, 0), (29, 13, 64), (30, 13, 64), (31, 14, 8), (32, 13, 64), (33, 9, 0), (34, 18, 8), (35, 14, 8), (36, 9, 0), (37, 18, 8), (38, 14, 8), (39, 9, 0), (40, 18, 8), (41, 14, 8), (42, 9, 0), (43, 18, 8), (44, 14, 8), (45, 5, 0), (46, 13, 64), (47, 13, 64), (48, 13, 64), (49, 13, 64), (50, 13, 16), (51, 5, 0), (52, 13, 64), (53, 13, 64), (54, 13, 64), (55, 13, 64), (56, 13, 16), (57, 5, 0), (58, 13, 64), (59, 13, 64), (60, 13, 64), (61, 13, 64), (62, 13, 16), (63, 5, 0), (64, 13, 64), (65, 13, 64), (66, 13, 64), (67, 13, 64), (68, 13, 16), (69, 5, 0), (70, 13, 64), (71, 13, 64), (72, 13, 64), (73, 13, 64), (74, 13, 16), (75, 5, 0), (76, 13, 64), (77, 13, 64), (78, 13, 64), (79, 13, 64), (80, 13, 16), (81, 8, 0), (82, 13, 40), (83, 8, 0), (84, 13, 40), (85, 8, 0), (86, 13, 40), (87, 8, 0), (88, 13, 40)]
def refL : List (Nat × Nat × Nat) := [(0, 0, 1), (0, 1, 4), (0, 3, 5), (0, 4, 8), (0, 5, 11), (0, 6, 14), (0, 7, 15), (0, 9, 16), (0, 10, 17), (0, 12, 19), (0, 14, 20), (0, 15, 21), (0, 16, 23), (0, 17, 24), (0, 18, 28), (0, 19, 32), (1, 0, 2), (1, 2, 3), (5, 0, 6), (5, 1, 7), (8, 0, 9), (8, 1, 10), (11, 0, 12), (11, 1, 13), (17, 3, 18), (20, 0, 1), (21, 1, 22), (24, 0, 25), (24, 1, 26), (24, 2, 27), (28, 0, 29), (28, 1, 30), (28, 2, 31), (33, 0, 34), (33, 1, 35), (36, 0, 37), (36, 1, 38), (39, 0, 40), (39, 1, 41), (42, 0, 43), (42, 1, 44), (45, 0, 46), (45, 1, 47), (45, 2, 48), (45, 4, 49), (45, 6, 50), (51, 0, 52), (51, 1, 53), (51, 2, 54), (51, 4, 55), (51, 6, 56), (57, 0, 58), (57, 1, 59), (57, 2, 60), (57, 4, 61), (57, 6, 62), (63, 0, 64), (63, 1, 65), (63, 2, 66), (63, 4, 67), (63, 6, 68), (69, 0, 70), (69, 1, 71), (69, 2, 72), (69, 4, 73), (69, 6, 74), (75, 0, 76), (75, 1, 77), (75, 2, 78), (75, 4, 79), (75, 6, 80), (81, 0, 82), (83, 0, 84), (85, 0, 86), (87, 0, 88), (14, 0, 33), (14, 1, 36), (14, 2, 39), (14, 3, 42), (15, 0, 5), (15, 1, 11), (15, 2, 8), (15, 3, 33), (15, 4, 36), (15, 5, 39), (15, 6, 42), (19, 0, 45), (19, 1, 51), (19, 2, 57), (19, 3, 63), (19, 4, 69), (19, 5, 75), (23, 0, 81), (23, 1, 83), (23, 2, 85), (23, 3, 87)]
def LayL (h : AH) : Prop := (∀ q ∈ tabL, q.1 < nH h ∧ kH h q.1 = q.2) ∧ (∀ q ∈ refL, rH h q.1 q.2.1 = some q.2.2)
theorem ll_0 {h : AH} (hL : LayL h) : 0 < nH h ∧ kH h 0 = (11, 0) := hL.1 _ (List.mem_of_getElem? (i := 0) (a := (0, 11, 0)) rfl)
theorem ll_1 {h : AH} (hL : LayL h) : 1 < nH h ∧ kH h 1 = (10, 0) := hL.1 _ (List.mem_of_getElem? (i := 1) (a := (1, 10, 0)) rfl)
theorem ll_2 {h : AH} (hL : LayL h) : 2 < nH h ∧ kH h 2 = (13, 64) := hL.1 _ (List.mem_of_getElem? (i := 2) (a := (2, 13, 64)) rfl)
theorem ll_3 {h : AH} (hL : LayL h) : 3 < nH h ∧ kH h 3 = (13, 12) := hL.1 _ (List.mem_of_getElem? (i := 3) (a := (3, 13, 12)) rfl)
theorem ll_4 {h : AH} (hL : LayL h) : 4 < nH h ∧ kH h 4 = (16, 4) := hL.1 _ (List.mem_of_getElem? (i := 4) (a := (4, 16, 4)) rfl)
theorem ll_5 {h : AH} (hL : LayL h) : 5 < nH h ∧ kH h 5 = (9, 0) := hL.1 _ (List.mem_of_getElem? (i := 5) (a := (5, 9, 0)) rfl)
theorem ll_6 {h : AH} (hL : LayL h) : 6 < nH h ∧ kH h 6 = (18, 8) := hL.1 _ (List.mem_of_getElem? (i := 6) (a := (6, 18, 8)) rfl)
theorem ll_7 {h : AH} (hL : LayL h) : 7 < nH h ∧ kH h 7 = (14, 8) := hL.1 _ (List.mem_of_getElem? (i := 7) (a := (7, 14, 8)) rfl)
theorem ll_8 {h : AH} (hL : LayL h) : 8 < nH h ∧ kH h 8 = (9, 0) := hL.1 _ (List.mem_of_getElem? (i := 8) (a := (8, 9, 0)) rfl)
theorem ll_9 {h : AH} (hL : LayL h) : 9 < nH h ∧ kH h 9 = (18, 8) := hL.1 _ (List.mem_of_getElem? (i := 9) (a := (9, 18, 8)) rfl)
theorem ll_10 {h : AH} (hL : LayL h) : 10 < nH h ∧ kH h 10 = (14, 8) := hL.1 _ (List.mem_of_getElem? (i := 10) (a := (10, 14, 8)) rfl)
theorem ll_11 {h : AH} (hL : LayL h) : 11 < nH h ∧ kH h 11 = (9, 0) := hL.1 _ (List.mem_of_getElem? (i := 11) (a := (11, 9, 0)) rfl)
theorem ll_12 {h : AH} (hL : LayL h) : 12 < nH h ∧ kH h 12 = (18, 8) := hL.1 _ (List.mem_of_getElem? (i := 12) (a := (12, 18, 8)) rfl)
theorem ll_13 {h : AH} (hL : LayL h) : 13 < nH h ∧ kH h 13 = (14, 8) := hL.1 _ (List.mem_of_getElem? (i := 13) (a := (13, 14, 8)) rfl)
theorem ll_14 {h : AH} (hL : LayL h) : 14 < nH h ∧ kH h 14 = (20, 4) := hL.1 _ (List.mem_of_getElem? (i := 14) (a := (14, 20, 4)) rfl)
theorem ll_15 {h : AH} (hL : LayL h) : 15 < nH h ∧ kH h 15 = (20, 7) := hL.1 _ (List.mem_of_getElem? (i := 15) (a := (15, 20, 7)) rfl)
theorem ll_16 {h : AH} (hL : LayL h) : 16 < nH h ∧ kH h 16 = (4, 0) := hL.1 _ (List.mem_of_getElem? (i := 16) (a := (16, 4, 0)) rfl)
theorem ll_17 {h : AH} (hL : LayL h) : 17 < nH h ∧ kH h 17 = (3, 0) := hL.1 _ (List.mem_of_getElem? (i := 17) (a := (17, 3, 0)) rfl)
theorem ll_18 {h : AH} (hL : LayL h) : 18 < nH h ∧ kH h 18 = (14, 8) := hL.1 _ (List.mem_of_getElem? (i := 18) (a := (18, 14, 8)) rfl)
theorem ll_19 {h : AH} (hL : LayL h) : 19 < nH h ∧ kH h 19 = (17, 6) := hL.1 _ (List.mem_of_getElem? (i := 19) (a := (19, 17, 6)) rfl)
theorem ll_20 {h : AH} (hL : LayL h) : 20 < nH h ∧ kH h 20 = (6, 0) := hL.1 _ (List.mem_of_getElem? (i := 20) (a := (20, 6, 0)) rfl)
theorem ll_21 {h : AH} (hL : LayL h) : 21 < nH h ∧ kH h 21 = (2, 0) := hL.1 _ (List.mem_of_getElem? (i := 21) (a := (21, 2, 0)) rfl)
theorem ll_22 {h : AH} (hL : LayL h) : 22 < nH h ∧ kH h 22 = (13, 8) := hL.1 _ (List.mem_of_getElem? (i := 22) (a := (22, 13, 8)) rfl)
theorem ll_23 {h : AH} (hL : LayL h) : 23 < nH h ∧ kH h 23 = (19, 4) := hL.1 _ (List.mem_of_getElem? (i := 23) (a := (23, 19, 4)) rfl)
theorem ll_24 {h : AH} (hL : LayL h) : 24 < nH h ∧ kH h 24 = (1, 0) := hL.1 _ (List.mem_of_getElem? (i := 24) (a := (24, 1, 0)) rfl)
theorem ll_25 {h : AH} (hL : LayL h) : 25 < nH h ∧ kH h 25 = (13, 64) := hL.1 _ (List.mem_of_getElem? (i := 25) (a := (25, 13, 64)) rfl)
theorem ll_26 {h : AH} (hL : LayL h) : 26 < nH h ∧ kH h 26 = (13, 64) := hL.1 _ (List.mem_of_getElem? (i := 26) (a := (26, 13, 64)) rfl)
theorem ll_27 {h : AH} (hL : LayL h) : 27 < nH h ∧ kH h 27 = (14, 8) := hL.1 _ (List.mem_of_getElem? (i := 27) (a := (27, 14, 8)) rfl)
theorem ll_28 {h : AH} (hL : LayL h) : 28 < nH h ∧ kH h 28 = (1, 0) := hL.1 _ (List.mem_of_getElem? (i := 28) (a := (28, 1, 0)) rfl)
theorem ll_29 {h : AH} (hL : LayL h) : 29 < nH h ∧ kH h 29 = (13, 64) := hL.1 _ (List.mem_of_getElem? (i := 29) (a := (29, 13, 64)) rfl)
theorem ll_30 {h : AH} (hL : LayL h) : 30 < nH h ∧ kH h 30 = (13, 64) := hL.1 _ (List.mem_of_getElem? (i := 30) (a := (30, 13, 64)) rfl)
theorem ll_31 {h : AH} (hL : LayL h) : 31 < nH h ∧ kH h 31 = (14, 8) := hL.1 _ (List.mem_of_getElem? (i := 31) (a := (31, 14, 8)) rfl)
theorem ll_32 {h : AH} (hL : LayL h) : 32 < nH h ∧ kH h 32 = (13, 64) := hL.1 _ (List.mem_of_getElem? (i := 32) (a := (32, 13, 64)) rfl)
theorem ll_33 {h : AH} (hL : LayL h) : 33 < nH h ∧ kH h 33 = (9, 0) := hL.1 _ (List.mem_of_getElem? (i := 33) (a := (33, 9, 0)) rfl)
theorem ll_34 {h : AH} (hL : LayL h) : 34 < nH h ∧ kH h 34 = (18, 8) := hL.1 _ (List.mem_of_getElem? (i := 34) (a := (34, 18, 8)) rfl)
theorem ll_35 {h : AH} (hL : LayL h) : 35 < nH h ∧ kH h 35 = (14, 8) := hL.1 _ (List.mem_of_getElem? (i := 35) (a := (35, 14, 8)) rfl)
theorem ll_36 {h : AH} (hL : LayL h) : 36 < nH h ∧ kH h 36 = (9, 0) := hL.1 _ (List.mem_of_getElem? (i := 36) (a := (36, 9, 0)) rfl)
theorem ll_37 {h : AH} (hL : LayL h) : 37 < nH h ∧ kH h 37 = (18, 8) := hL.1 _ (List.mem_of_getElem? (i := 37) (a := (37, 18, 8)) rfl)
theorem ll_38 {h : AH} (hL : LayL h) : 38 < nH h ∧ kH h 38 = (14, 8) := hL.1 _ (List.mem_of_getElem? (i := 38) (a := (38, 14, 8)) rfl)
theorem ll_39 {h : AH} (hL : LayL h) : 39 < nH h ∧ kH h 39 = (9, 0) := hL.1 _ (List.mem_of_getElem? (i := 39) (a := (39, 9, 0)) rfl)
theorem ll_40 {h : AH} (hL : LayL h) : 40 < nH h ∧ kH h 40 = (18, 8) := hL.1 _ (List.mem_of_getElem? (i := 40) (a := (40, 18, 8)) rfl)
theorem ll_41 {h : AH} (hL : LayL h) : 41 < nH h ∧ kH h 41 = (14, 8) := hL.1 _ (List.mem_of_getElem? (i := 41) (a := (41, 14, 8)) rfl)
theorem ll_42 {h : AH} (hL : LayL h) : 42 < nH h ∧ kH h 42 = (9, 0) := hL.1 _ (List.mem_of_getElem? (i := 42) (a := (42, 9, 0)) rfl)
theorem ll_43 {h : AH} (hL : LayL h) : 43 < nH h ∧ kH h 43 = (18, 8) := hL.1 _ (List.mem_of_getElem? (i := 43) (a := (43, 18, 8)) rfl)
theorem ll_44 {h : AH} (hL : LayL h) : 44 < nH h ∧ kH h 44 = (14, 8) := hL.1 _ (List.mem_of_getElem? (i := 44) (a := (44, 14, 8)) rfl)
theorem ll_45 {h : AH} (hL : LayL h) : 45 < nH h ∧ kH h 45 = (5, 0) := hL.1 _ (List.mem_of_getElem? (i := 45) (a := (45, 5, 0)) rfl)
theorem ll_46 {h : AH} (hL : LayL h) : 46 < nH h ∧ kH h 46 = (13, 64) := hL.1 _ (List.mem_of_getElem? (i := 46) (a := (46, 13, 64)) rfl)
theorem ll_47 {h : AH} (hL : LayL h) : 47 < nH h ∧ kH h 47 = (13, 64) := hL.1 _ (List.mem_of_getElem? (i := 47) (a := (47, 13, 64)) rfl)
theorem ll_48 {h : AH} (hL : LayL h) : 48 < nH h ∧ kH h 48 = (13, 64) := hL.1 _ (List.mem_of_getElem? (i := 48) (a := (48, 13, 64)) rfl)
theorem ll_49 {h : AH} (hL : LayL h) : 49 < nH h ∧ kH h 49 = (13, 64) := hL.1 _ (List.mem_of_getElem? (i := 49) (a := (49, 13, 64)) rfl)
theorem ll_50 {h : AH} (hL : LayL h) : 50 < nH h ∧ kH h 50 = (13, 16) := hL.1 _ (List.mem_of_getElem? (i := 50) (a := (50, 13, 16)) rfl)
theorem ll_51 {h : AH} (hL : LayL h) : 51 < nH h ∧ kH h 51 = (5, 0) := hL.1 _ (List.mem_of_getElem? (i := 51) (a := (51, 5, 0)) rfl)
theorem ll_52 {h : AH} (hL : LayL h) : 52 < nH h ∧ kH h 52 = (13, 64) := hL.1 _ (List.mem_of_getElem? (i := 52) (a := (52, 13, 64)) rfl)
theorem ll_53 {h : AH} (hL : LayL h) : 53 < nH h ∧ kH h 53 = (13, 64) := hL.1 _ (List.mem_of_getElem? (i := 53) (a := (53, 13, 64)) rfl)
theorem ll_54 {h : AH} (hL : LayL h) : 54 < nH h ∧ kH h 54 = (13, 64) := hL.1 _ (List.mem_of_getElem? (i := 54) (a := (54, 13, 64)) rfl)
theorem ll_55 {h : AH} (hL : LayL h) : 55 < nH h ∧ kH h 55 = (13, 64) := hL.1 _ (List.mem_of_getElem? (i := 55) (a := (55, 13, 64)) rfl)
theorem ll_56 {h : AH} (hL : LayL h) : 56 < nH h ∧ kH h 56 = (13, 16) := hL.1 _ (List.mem_of_getElem? (i := 56) (a := (56, 13, 16)) rfl)
theorem ll_57 {h : AH} (hL : LayL h) : 57 < nH h ∧ kH h 57 = (5, 0) := hL.1 _ (List.mem_of_getElem? (i := 57) (a := (57, 5, 0)) rfl)
theorem ll_58 {h : AH} (hL : LayL h) : 58 < nH h ∧ kH h 58 = (13, 64) := hL.1 _ (List.mem_of_getElem? (i := 58) (a := (58, 13, 64)) rfl)
theorem ll_59 {h : AH} (hL : LayL h) : 59 < nH h ∧ kH h 59 = (13, 64) := hL.1 _ (List.mem_of_getElem? (i := 59) (a := (59, 13, 64)) rfl)
theorem ll_60 {h : AH} (hL : LayL h) : 60 < nH h ∧ kH h 60 = (13, 64) := hL.1 _ (List.mem_of_getElem? (i := 60) (a := (60, 13, 64)) rfl)
theorem ll_61 {h : AH} (hL : LayL h) : 61 < nH h ∧ kH h 61 = (13, 64) := hL.1 _ (List.mem_of_getElem? (i := 61) (a := (61, 13, 64)) rfl)
theorem ll_62 {h : AH} (hL : LayL h) : 62 < nH h ∧ kH h 62 = (13, 16) := hL.1 _ (List.mem_of_getElem? (i := 62) (a := (62, 13, 16)) rfl)
theorem ll_63 {h : AH} (hL : LayL h) : 63 < nH h ∧ kH h 63 = (5, 0) := hL.1 _ (List.mem_of_getElem? (i := 63) (a := (63, 5, 0)) rfl)
theorem ll_64 {h : AH} (hL : LayL h) : 64 < nH h ∧ kH h 64 = (13, 64) := hL.1 _ (List.mem_of_getElem? (i := 64) (a := (64, 13, 64)) rfl)
theorem ll_65 {h : AH} (hL : LayL h) : 65 < nH h ∧ kH h 65 = (13, 64) := hL.1 _ (List.mem_of_getElem? (i := 65) (a := (65, 13, 64)) rfl)
theorem ll_66 {h : AH} (hL : LayL h) : 66 < nH h ∧ kH h 66 = (13, 64) := hL.1 _ (List.mem_of_getElem? (i := 66) (a := (66, 13, 64)) rfl)
theorem ll_67 {h : AH} (hL : LayL h) : 67 < nH h ∧ kH h 67 = (13, 64) := hL.1 _ (List.mem_of_getElem? (i := 67) (a := (67, 13, 64)) rfl)
theorem ll_68 {h : AH} (hL : LayL h) : 68 < nH h ∧ kH h 68 = (13, 16) := hL.1 _ (List.mem_of_getElem? (i := 68) (a := (68, 13, 16)) rfl)
theorem ll_69 {h : AH} (hL : LayL h) : 69 < nH h ∧ kH h 69 = (5, 0) := hL.1 _ (List.mem_of_getElem? (i := 69) (a := (69, 5, 0)) rfl)
theorem ll_70 {h : AH} (hL : LayL h) : 70 < nH h ∧ kH h 70 = (13, 64) := hL.1 _ (List.mem_of_getElem? (i := 70) (a := (70, 13, 64)) rfl)
theorem ll_71 {h : AH} (hL : LayL h) : 71 < nH h ∧ kH h 71 = (13, 64) := hL.1 _ (List.mem_of_getElem? (i := 71) (a := (71, 13, 64)) rfl)
theorem ll_72 {h : AH} (hL : LayL h) : 72 < nH h ∧ kH h 72 = (13, 64) := hL.1 _ (List.mem_of_getElem? (i := 72) (a := (72, 13, 64)) rfl)
theorem ll_73 {h : AH} (hL : LayL h) : 73 < nH h ∧ kH h 73 = (13, 64) := hL.1 _ (List.mem_of_getElem? (i := 73) (a := (73, 13, 64)) rfl)
theorem ll_74 {h : AH} (hL : LayL h) : 74 < nH h ∧ kH h 74 = (13, 16) := hL.1 _ (List.mem_of_getElem? (i := 74) (a := (74, 13, 16)) rfl)
theorem ll_75 {h : AH} (hL : LayL h) : 75 < nH h ∧ kH h 75 = (5, 0) := hL.1 _ (List.mem_of_getElem? (i := 75) (a := (75, 5, 0)) rfl)
theorem ll_76 {h : AH} (hL : LayL h) : 76 < nH h ∧ kH h 76 = (13, 64) := hL.1 _ (List.mem_of_getElem? (i := 76) (a := (76, 13, 64)) rfl)
theorem ll_77 {h : AH} (hL : LayL h) : 77 < nH h ∧ kH h 77 = (13, 64) := hL.1 _ (List.mem_of_getElem? (i := 77) (a := (77, 13, 64)) rfl)
theorem ll_78 {h : AH} (hL : LayL h) : 78 < nH h ∧ kH h 78 = (13, 64) := hL.1 _ (List.mem_of_getElem? (i := 78) (a := (78, 13, 64)) rfl)
theorem ll_79 {h : AH} (hL : LayL h) : 79 < nH h ∧ kH h 79 = (13, 64) := hL.1 _ (List.mem_of_getElem? (i := 79) (a := (79, 13, 64)) rfl)
theorem ll_80 {h : AH} (hL : LayL h) : 80 < nH h ∧ kH h 80 = (13, 16) := hL.1 _ (List.mem_of_getElem? (i := 80) (a := (80, 13, 16)) rfl)
theorem ll_81 {h : AH} (hL : LayL h) : 81 < nH h ∧ kH h 81 = (8, 0) := hL.1 _ (List.mem_of_getElem? (i := 81) (a := (81, 8, 0)) rfl)
theorem ll_82 {h : AH} (hL : LayL h) : 82 < nH h ∧ kH h 82 = (13, 40) := hL.1 _ (List.mem_of_getElem? (i := 82) (a := (82, 13, 40)) rfl)
theorem ll_83 {h : AH} (hL : LayL h) : 83 < nH h ∧ kH h 83 = (8, 0) := hL.1 _ (List.mem_of_getElem? (i := 83) (a := (83, 8, 0)) rfl)
theorem ll_84 {h : AH} (hL : LayL h) : 84 < nH h ∧ kH h 84 = (13, 40) := hL.1 _ (List.mem_of_getElem? (i := 84) (a := (84, 13, 40)) rfl)
theorem ll_85 {h : AH} (hL : LayL h) : 85 < nH h ∧ kH h 85 = (8, 0) := hL.1 _ (List.mem_of_getElem? (i := 85) (a := (85, 8, 0)) rfl)
theorem ll_86 {h : AH} (hL : LayL h) : 86 < nH h ∧ kH h 86 = (13, 40) := hL.1 _ (List.mem_of_getElem? (i := 86) (a := (86, 13, 40)) rfl)
theorem ll_87 {h : AH} (hL : LayL h) : 87 < nH h ∧ kH h 87 = (8, 0) := hL.1 _ (List.mem_of_getElem? (i := 87) (a := (87, 8, 0)) rfl)
theorem ll_88 {h : AH} (hL : LayL h) : 88 < nH h ∧ kH h 88 = (13, 40) := hL.1 _ (List.mem_of_getElem? (i := 88) (a := (88, 13, 40)) rfl)
theorem lg_0_0 {h : AH} (hL : LayL h) : rH h 0 0 = some 1 := hL.2 _ (List.mem_of_getElem? (i := 0) (a := (0, 0, 1)) rfl)
theorem lg_0_1 {h : AH} (hL : LayL h) : rH h 0 1 = some 4 := hL.2 _ (List.mem_of_getElem? (i := 1) (a := (0, 1, 4)) rfl)
theorem lg_0_3 {h : AH} (hL : LayL h) : rH h 0 3 = some 5 := hL.2 _ (List.mem_of_getElem? (i := 2) (a := (0, 3, 5)) rfl)
theorem lg_0_4 {h : AH} (hL : LayL h) : rH h 0 4 = some 8 := hL.2 _ (List.mem_of_getElem? (i := 3) (a := (0, 4, 8)) rfl)
theorem lg_0_5 {h : AH} (hL : LayL h) : rH h 0 5 = some 11 := hL.2 _ (List.mem_of_getElem? (i := 4) (a := (0, 5, 11)) rfl)
theorem lg_0_6 {h : AH} (hL : LayL h) : rH h 0 6 = some 14 := hL.2 _ (List.mem_of_getElem? (i := 5) (a := (0, 6, 14)) rfl)
theorem lg_0_7 {h : AH} (hL : LayL h) : rH h 0 7 = some 15 := hL.2 _ (List.mem_of_getElem? (i := 6) (a := (0, 7, 15)) rfl)
theorem lg_0_9 {h : AH} (hL : LayL h) : rH h 0 9 = some 16 := hL.2 _ (List.mem_of_getElem? (i := 7) (a := (0, 9, 16)) rfl)
theorem lg_0_10 {h : AH} (hL : LayL h) : rH h 0 10 = some 17 := hL.2 _ (List.mem_of_getElem? (i := 8) (a := (0, 10, 17)) rfl)
theorem lg_0_12 {h : AH} (hL : LayL h) : rH h 0 12 = some 19 := hL.2 _ (List.mem_of_getElem? (i := 9) (a := (0, 12, 19)) rfl)
theorem lg_0_14 {h : AH} (hL : LayL h) : rH h 0 14 = some 20 := hL.2 _ (List.mem_of_getElem? (i := 10) (a := (0, 14, 20)) rfl)
theorem lg_0_15 {h : AH} (hL : LayL h) : rH h 0 15 = some 21 := hL.2 _ (List.mem_of_getElem? (i := 11) (a := (0, 15, 21)) rfl)
theorem lg_0_16 {h : AH} (hL : LayL h) : rH h 0 16 = some 23 := hL.2 _ (List.mem_of_getElem? (i := 12) (a := (0, 16, 23)) rfl)
theorem lg_0_17 {h : AH} (hL : LayL h) : rH h 0 17 = some 24 := hL.2 _ (List.mem_of_getElem? (i := 13) (a := (0, 17, 24)) rfl)
theorem lg_0_18 {h : AH} (hL : LayL h) : rH h 0 18 = some 28 := hL.2 _ (List.mem_of_getElem? (i := 14) (a := (0, 18, 28)) rfl)
theorem lg_0_19 {h : AH} (hL : LayL h) : rH h 0 19 = some 32 := hL.2 _ (List.mem_of_getElem? (i := 15) (a := (0, 19, 32)) rfl)
theorem lg_1_0 {h : AH} (hL : LayL h) : rH h 1 0 = some 2 := hL.2 _ (List.mem_of_getElem? (i := 16) (a := (1, 0, 2)) rfl)
theorem lg_1_2 {h : AH} (hL : LayL h) : rH h 1 2 = some 3 := hL.2 _ (List.mem_of_getElem? (i := 17) (a := (1, 2, 3)) rfl)
theorem lg_5_0 {h : AH} (hL : LayL h) : rH h 5 0 = some 6 := hL.2 _ (List.mem_of_getElem? (i := 18) (a := (5, 0, 6)) rfl)
theorem lg_5_1 {h : AH} (hL : LayL h) : rH h 5 1 = some 7 := hL.2 _ (List.mem_of_getElem? (i := 19) (a := (5, 1, 7)) rfl)
theorem lg_8_0 {h : AH} (hL : LayL h) : rH h 8 0 = some 9 := hL.2 _ (List.mem_of_getElem? (i := 20) (a := (8, 0, 9)) rfl)
theorem lg_8_1 {h : AH} (hL : LayL h) : rH h 8 1 = some 10 := hL.2 _ (List.mem_of_getElem? (i := 21) (a := (8, 1, 10)) rfl)
theorem lg_11_0 {h : AH} (hL : LayL h) : rH h 11 0 = some 12 := hL.2 _ (List.mem_of_getElem? (i := 22) (a := (11, 0, 12)) rfl)
theorem lg_11_1 {h : AH} (hL : LayL h) : rH h 11 1 = some 13 := hL.2 _ (List.mem_of_getElem? (i := 23) (a := (11, 1, 13)) rfl)
theorem lg_17_3 {h : AH} (hL : LayL h) : rH h 17 3 = some 18 := hL.2 _ (List.mem_of_getElem? (i := 24) (a := (17, 3, 18)) rfl)
theorem lg_20_0 {h : AH} (hL : LayL h) : rH h 20 0 = some 1 := hL.2 _ (List.mem_of_getElem? (i := 25) (a := (20, 0, 1)) rfl)
theorem lg_21_1 {h : AH} (hL : LayL h) : rH h 21 1 = some 22 := hL.2 _ (List.mem_of_getElem? (i := 26) (a := (21, 1, 22)) rfl)
theorem lg_24_0 {h : AH} (hL : LayL h) : rH h 24 0 = some 25 := hL.2 _ (List.mem_of_getElem? (i := 27) (a := (24, 0, 25)) rfl)
theorem lg_24_1 {h : AH} (hL : LayL h) : rH h 24 1 = some 26 := hL.2 _ (List.mem_of_getElem? (i := 28) (a := (24, 1, 26)) rfl)
theorem lg_24_2 {h : AH} (hL : LayL h) : rH h 24 2 = some 27 := hL.2 _ (List.mem_of_getElem? (i := 29) (a := (24, 2, 27)) rfl)
theorem lg_28_0 {h : AH} (hL : LayL h) : rH h 28 0 = some 29 := hL.2 _ (List.mem_of_getElem? (i := 30) (a := (28, 0, 29)) rfl)
theorem lg_28_1 {h : AH} (hL : LayL h) : rH h 28 1 = some 30 := hL.2 _ (List.mem_of_getElem? (i := 31) (a := (28, 1, 30)) rfl)
theorem lg_28_2 {h : AH} (hL : LayL h) : rH h 28 2 = some 31 := hL.2 _ (List.mem_of_getElem? (i := 32) (a := (28, 2, 31)) rfl)
theorem lg_33_0 {h : AH} (hL : LayL h) : rH h 33 0 = some 34 := hL.2 _ (List.mem_of_getElem? (i := 33) (a := (33, 0, 34)) rfl)
theorem lg_33_1 {h : AH} (hL : LayL h) : rH h 33 1 = some 35 := hL.2 _ (List.mem_of_getElem? (i := 34) (a := (33, 1, 35)) rfl)
theorem lg_36_0 {h : AH} (hL : LayL h) : rH h 36 0 = some 37 := hL.2 _ (List.mem_of_getElem? (i := 35) (a := (36, 0, 37)) rfl)
theorem lg_36_1 {h : AH} (hL : LayL h) : rH h 36 1 = some 38 := hL.2 _ (List.mem_of_getElem? (i := 36) (a := (36, 1, 38)) rfl)
theorem lg_39_0 {h : AH} (hL : LayL h) : rH h 39 0 = some 40 := hL.2 _ (List.mem_of_getElem? (i := 37) (a := (39, 0, 40)) rfl)
theorem lg_39_1 {h : AH} (hL : LayL h) : rH h 39 1 = some 41 := hL.2 _ (List.mem_of_getElem? (i := 38) (a := (39, 1, 41)) rfl)
theorem lg_42_0 {h : AH} (hL : LayL h) : rH h 42 0 = some 43 := hL.2 _ (List.mem_of_getElem? (i := 39) (a := (42, 0, 43)) rfl)
theorem lg_42_1 {h : AH} (hL : LayL h) : rH h 42 1 = some 44 := hL.2 _ (List.mem_of_getElem? (i := 40) (a := (42, 1, 44)) rfl)
theorem lg_45_0 {h : AH} (hL : LayL h) : rH h 45 0 = some 46 := hL.2 _ (List.mem_of_getElem? (i := 41) (a := (45, 0, 46)) rfl)
theorem lg_45_1 {h : AH} (hL : LayL h) : rH h 45 1 = some 47 := hL.2 _ (List.mem_of_getElem? (i := 42) (a := (45, 1, 47)) rfl)
theorem lg_45_2 {h : AH} (hL : LayL h) : rH h 45 2 = some 48 := hL.2 _ (List.mem_of_getElem? (i := 43) (a := (45, 2, 48)) rfl)
theorem lg_45_4 {h : AH} (hL : LayL h) : rH h 45 4 = some 49 := hL.2 _ (List.mem_of_getElem? (i := 44) (a := (45, 4, 49)) rfl)
theorem lg_45_6 {h : AH} (hL : LayL h) : rH h 45 6 = some 50 := hL.2 _ (List.mem_of_getElem? (i := 45) (a := (45, 6, 50)) rfl)
theorem lg_51_0 {h : AH} (hL : LayL h) : rH h 51 0 = some 52 := hL.2 _ (List.mem_of_getElem? (i := 46) (a := (51, 0, 52)) rfl)
theorem lg_51_1 {h : AH} (hL : LayL h) : rH h 51 1 = some 53 := hL.2 _ (List.mem_of_getElem? (i := 47) (a := (51, 1, 53)) rfl)
theorem lg_51_2 {h : AH} (hL : LayL h) : rH h 51 2 = some 54 := hL.2 _ (List.mem_of_getElem? (i := 48) (a := (51, 2, 54)) rfl)
theorem lg_51_4 {h : AH} (hL : LayL h) : rH h 51 4 = some 55 := hL.2 _ (List.mem_of_getElem? (i := 49) (a := (51, 4, 55)) rfl)
theorem lg_51_6 {h : AH} (hL : LayL h) : rH h 51 6 = some 56 := hL.2 _ (List.mem_of_getElem? (i := 50) (a := (51, 6, 56)) rfl)
theorem lg_57_0 {h : AH} (hL : LayL h) : rH h 57 0 = some 58 := hL.2 _ (List.mem_of_getElem? (i := 51) (a := (57, 0, 58)) rfl)
theorem lg_57_1 {h : AH} (hL : LayL h) : rH h 57 1 = some 59 := hL.2 _ (List.mem_of_getElem? (i := 52) (a := (57, 1, 59)) rfl)
theorem lg_57_2 {h : AH} (hL : LayL h) : rH h 57 2 = some 60 := hL.2 _ (List.mem_of_getElem? (i := 53) (a := (57, 2, 60)) rfl)
theorem lg_57_4 {h : AH} (hL : LayL h) : rH h 57 4 = some 61 := hL.2 _ (List.mem_of_getElem? (i := 54) (a := (57, 4, 61)) rfl)
theorem lg_57_6 {h : AH} (hL : LayL h) : rH h 57 6 = some 62 := hL.2 _ (List.mem_of_getElem? (i := 55) (a := (57, 6, 62)) rfl)
theorem lg_63_0 {h : AH} (hL : LayL h) : rH h 63 0 = some 64 := hL.2 _ (List.mem_of_getElem? (i := 56) (a := (63, 0, 64)) rfl)
theorem lg_63_1 {h : AH} (hL : LayL h) : rH h 63 1 = some 65 := hL.2 _ (List.mem_of_getElem? (i := 57) (a := (63, 1, 65)) rfl)
theorem lg_63_2 {h : AH} (hL : LayL h) : rH h 63 2 = some 66 := hL.2 _ (List.mem_of_getElem? (i := 58) (a := (63, 2, 66)) rfl)
theorem lg_63_4 {h : AH} (hL : LayL h) : rH h 63 4 = some 67 := hL.2 _ (List.mem_of_getElem? (i := 59) (a := (63, 4, 67)) rfl)
theorem lg_63_6 {h : AH} (hL : LayL h) : rH h 63 6 = some 68 := hL.2 _ (List.mem_of_getElem? (i := 60) (a := (63, 6, 68)) rfl)
theorem lg_69_0 {h : AH} (hL : LayL h) : rH h 69 0 = some 70 := hL.2 _ (List.mem_of_getElem? (i := 61) (a := (69, 0, 70)) rfl)
theorem lg_69_1 {h : AH} (hL : LayL h) : rH h 69 1 = some 71 := hL.2 _ (List.mem_of_getElem? (i := 62) (a := (69, 1, 71)) rfl)
theorem lg_69_2 {h : AH} (hL : LayL h) : rH h 69 2 = some 72 := hL.2 _ (List.mem_of_getElem? (i := 63) (a := (69, 2, 72)) rfl)
theorem lg_69_4 {h : AH} (hL : LayL h) : rH h 69 4 = some 73 := hL.2 _ (List.mem_of_getElem? (i := 64) (a := (69, 4, 73)) rfl)
theorem lg_69_6 {h : AH} (hL : LayL h) : rH h 69 6 = some 74 := hL.2 _ (List.mem_of_getElem? (i := 65) (a := (69, 6, 74)) rfl)
theorem lg_75_0 {h : AH} (hL : LayL h) : rH h 75 0 = some 76 := hL.2 _ (List.mem_of_getElem? (i := 66) (a := (75, 0, 76)) rfl)
theorem lg_75_1 {h : AH} (hL : LayL h) : rH h 75 1 = some 77 := hL.2 _ (List.mem_of_getElem? (i := 67) (a := (75, 1, 77)) rfl)
theorem lg_75_2 {h : AH} (hL : LayL h) : rH h 75 2 = some 78 := hL.2 _ (List.mem_of_getElem? (i := 68) (a := (75, 2, 78)) rfl)
theorem lg_75_4 {h : AH} (hL : LayL h) : rH h 75 4 = some 79 := hL.2 _ (List.mem_of_getElem? (i := 69) (a := (75, 4, 79)) rfl)
theorem lg_75_6 {h : AH} (hL : LayL h) : rH h 75 6 = some 80 := hL.2 _ (List.mem_of_getElem? (i := 70) (a := (75, 6, 80)) rfl)
theorem lg_81_0 {h : AH} (hL : LayL h) : rH h 81 0 = some 82 := hL.2 _ (List.mem_of_getElem? (i := 71) (a := (81, 0, 82)) rfl)
theorem lg_83_0 {h : AH} (hL : LayL h) : rH h 83 0 = some 84 := hL.2 _ (List.mem_of_getElem? (i := 72) (a := (83, 0, 84)) rfl)
theorem lg_85_0 {h : AH} (hL : LayL h) : rH h 85 0 = some 86 := hL.2 _ (List.mem_of_getElem? (i := 73) (a := (85, 0, 86)) rfl)
theorem lg_87_0 {h : AH} (hL : LayL h) : rH h 87 0 = some 88 := hL.2 _ (List.mem_of_getElem? (i := 74) (a := (87, 0, 88)) rfl)
theorem lg_14_0 {h : AH} (hL : LayL h) : rH h 14 0 = some 33 := hL.2 _ (List.mem_of_getElem? (i := 75) (a := (14, 0, 33)) rfl)
theorem lg_14_1 {h : AH} (hL : LayL h) : rH h 14 1 = some 36 := hL.2 _ (List.mem_of_getElem? (i := 76) (a := (14, 1, 36)) rfl)
theorem lg_14_2 {h : AH} (hL : LayL h) : rH h 14 2 = some 39 := hL.2 _ (List.mem_of_getElem? (i := 77) (a := (14, 2, 39)) rfl)
theorem lg_14_3 {h : AH} (hL : LayL h) : rH h 14 3 = some 42 := hL.2 _ (List.mem_of_getElem? (i := 78) (a := (14, 3, 42)) rfl)
theorem lg_15_0 {h : AH} (hL : LayL h) : rH h 15 0 = some 5 := hL.2 _ (List.mem_of_getElem? (i := 79) (a := (15, 0, 5)) rfl)
theorem lg_15_1 {h : AH} (hL : LayL h) : rH h 15 1 = some 11 := hL.2 _ (List.mem_of_getElem? (i := 80) (a := (15, 1, 11)) rfl)
theorem lg_15_2 {h : AH} (hL : LayL h) : rH h 15 2 = some 8 := hL.2 _ (List.mem_of_getElem? (i := 81) (a := (15, 2, 8)) rfl)
theorem lg_15_3 {h : AH} (hL : LayL h) : rH h 15 3 = some 33 := hL.2 _ (List.mem_of_getElem? (i := 82) (a := (15, 3, 33)) rfl)
theorem lg_15_4 {h : AH} (hL : LayL h) : rH h 15 4 = some 36 := hL.2 _ (List.mem_of_getElem? (i := 83) (a := (15, 4, 36)) rfl)
theorem lg_15_5 {h : AH} (hL : LayL h) : rH h 15 5 = some 39 := hL.2 _ (List.mem_of_getElem? (i := 84) (a := (15, 5, 39)) rfl)
theorem lg_15_6 {h : AH} (hL : LayL h) : rH h 15 6 = some 42 := hL.2 _ (List.mem_of_getElem? (i := 85) (a := (15, 6, 42)) rfl)
theorem lg_19_0 {h : AH} (hL : LayL h) : rH h 19 0 = some 45 := hL.2 _ (List.mem_of_getElem? (i := 86) (a := (19, 0, 45)) rfl)
theorem lg_19_1 {h : AH} (hL : LayL h) : rH h 19 1 = some 51 := hL.2 _ (List.mem_of_getElem? (i := 87) (a := (19, 1, 51)) rfl)
theorem lg_19_2 {h : AH} (hL : LayL h) : rH h 19 2 = some 57 := hL.2 _ (List.mem_of_getElem? (i := 88) (a := (19, 2, 57)) rfl)
theorem lg_19_3 {h : AH} (hL : LayL h) : rH h 19 3 = some 63 := hL.2 _ (List.mem_of_getElem? (i := 89) (a := (19, 3, 63)) rfl)
theorem lg_19_4 {h : AH} (hL : LayL h) : rH h 19 4 = some 69 := hL.2 _ (List.mem_of_getElem? (i := 90) (a := (19, 4, 69)) rfl)
theorem lg_19_5 {h : AH} (hL : LayL h) : rH h 19 5 = some 75 := hL.2 _ (List.mem_of_getElem? (i := 91) (a := (19, 5, 75)) rfl)
theorem lg_23_0 {h : AH} (hL : LayL h) : rH h 23 0 = some 81 := hL.2 _ (List.mem_of_getElem? (i := 92) (a := (23, 0, 81)) rfl)
theorem lg_23_1 {h : AH} (hL : LayL h) : rH h 23 1 = some 83 := hL.2 _ (List.mem_of_getElem? (i := 93) (a := (23, 1, 83)) rfl)
theorem lg_23_2 {h : AH} (hL : LayL h) : rH h 23 2 = some 85 := hL.2 _ (List.mem_of_getElem? (i := 94) (a := (23, 2, 85)) rfl)
theorem lg_23_3 {h : AH} (hL : LayL h) : rH h 23 3 = some 87 := hL.2 _ (List.mem_of_getElem? (i := 95) (a := (23, 3, 87)) rfl)
def hld (i : Nat) : Nat := if i = 0 then 5 else if i = 1 then 11 else if i = 2 then 8 else 24 + 3 * i
def iSt (a : Nat) : Prop := a = 5 ∨ a = 8 ∨ a = 11 ∨ a = 33 ∨ a = 36 ∨ a = 39 ∨ a = 42
theorem st_o {h : AH} (hL : LayL h) {a : Nat} (ha : iSt a) : a < nH h ∧ kH h a = (9, 0) := by
  rcases ha with rfl | rfl | rfl | rfl | rfl | rfl | rfl
  · exact ll_5 hL
  · exact ll_8 hL
  · exact ll_11 hL
  · exact ll_33 hL
  · exact ll_36 hL
  · exact ll_39 hL
  · exact ll_42 hL
theorem st_r0 {h : AH} (hL : LayL h) {a : Nat} (ha : iSt a) : rH h a 0 = some (a + 1) := by
  rcases ha with rfl | rfl | rfl | rfl | rfl | rfl | rfl
  · exact lg_5_0 hL
  · exact lg_8_0 hL
  · exact lg_11_0 hL
  · exact lg_33_0 hL
  · exact lg_36_0 hL
  · exact lg_39_0 hL
  · exact lg_42_0 hL
theorem st_a0 {h : AH} (hL : LayL h) {a : Nat} (ha : iSt a) : (a + 1) < nH h ∧ kH h (a + 1) = (18, 8) := by
  rcases ha with rfl | rfl | rfl | rfl | rfl | rfl | rfl
  · exact ll_6 hL
  · exact ll_9 hL
  · exact ll_12 hL
  · exact ll_34 hL
  · exact ll_37 hL
  · exact ll_40 hL
  · exact ll_43 hL
theorem st_r1 {h : AH} (hL : LayL h) {a : Nat} (ha : iSt a) : rH h a 1 = some (a + 2) := by
  rcases ha with rfl | rfl | rfl | rfl | rfl | rfl | rfl
  · exact lg_5_1 hL
  · exact lg_8_1 hL
  · exact lg_11_1 hL
  · exact lg_33_1 hL
  · exact lg_36_1 hL
  · exact lg_39_1 hL
  · exact lg_42_1 hL
theorem st_a1 {h : AH} (hL : LayL h) {a : Nat} (ha : iSt a) : (a + 2) < nH h ∧ kH h (a + 2) = (14, 8) := by
  rcases ha with rfl | rfl | rfl | rfl | rfl | rfl | rfl
  · exact ll_7 hL
  · exact ll_10 hL
  · exact ll_13 hL
  · exact ll_35 hL
  · exact ll_38 hL
  · exact ll_41 hL
  · exact ll_44 hL
def iQu (a : Nat) : Prop := a = 45 ∨ a = 51 ∨ a = 57 ∨ a = 63 ∨ a = 69 ∨ a = 75
theorem qu_o {h : AH} (hL : LayL h) {a : Nat} (ha : iQu a) : a < nH h ∧ kH h a = (5, 0) := by
  rcases ha with rfl | rfl | rfl | rfl | rfl | rfl
  · exact ll_45 hL
  · exact ll_51 hL
  · exact ll_57 hL
  · exact ll_63 hL
  · exact ll_69 hL
  · exact ll_75 hL
theorem qu_r0 {h : AH} (hL : LayL h) {a : Nat} (ha : iQu a) : rH h a 0 = some (a + 1) := by
  rcases ha with rfl | rfl | rfl | rfl | rfl | rfl
  · exact lg_45_0 hL
  · exact lg_51_0 hL
  · exact lg_57_0 hL
  · exact lg_63_0 hL
  · exact lg_69_0 hL
  · exact lg_75_0 hL
theorem qu_a0 {h : AH} (hL : LayL h) {a : Nat} (ha : iQu a) : (a + 1) < nH h ∧ kH h (a + 1) = (13, 64) := by
  rcases ha with rfl | rfl | rfl | rfl | rfl | rfl
  · exact ll_46 hL
  · exact ll_52 hL
  · exact ll_58 hL
  · exact ll_64 hL
  · exact ll_70 hL
  · exact ll_76 hL
theorem qu_r1 {h : AH} (hL : LayL h) {a : Nat} (ha : iQu a) : rH h a 1 = some (a + 2) := by
  rcases ha with rfl | rfl | rfl | rfl | rfl | rfl
  · exact lg_45_1 hL
  · exact lg_51_1 hL
  · exact lg_57_1 hL
  · exact lg_63_1 hL
  · exact lg_69_1 hL
  · exact lg_75_1 hL
theorem qu_a1 {h : AH} (hL : LayL h) {a : Nat} (ha : iQu a) : (a + 2) < nH h ∧ kH h (a + 2) = (13, 64) := by
  rcases ha with rfl | rfl | rfl | rfl | rfl | rfl
  · exact ll_47 hL
  · exact ll_53 hL
  · exact ll_59 hL
  · exact ll_65 hL
  · exact ll_71 hL
  · exact ll_77 hL
theorem qu_r2 {h : AH} (hL : LayL h) {a : Nat} (ha : iQu a) : rH h a 2 = some (a + 3) := by
  rcases ha with rfl | rfl | rfl | rfl | rfl | rfl
  · exact lg_45_2 hL
  · exact lg_51_2 hL
  · exact lg_57_2 hL
  · exact lg_63_2 hL
  · exact lg_69_2 hL
  · exact lg_75_2 hL
theorem qu_a2 {h : AH} (hL : LayL h) {a : Nat} (ha : iQu a) : (a + 3) < nH h ∧ kH h (a + 3) = (13, 64) := by
  rcases ha with rfl | rfl | rfl | rfl | rfl | rfl
  · exact ll_48 hL
  · exact ll_54 hL
  · exact ll_60 hL
  · exact ll_66 hL
  · exact ll_72 hL
  · exact ll_78 hL
theorem qu_r4 {h : AH} (hL : LayL h) {a : Nat} (ha : iQu a) : rH h a 4 = some (a + 4) := by
  rcases ha with rfl | rfl | rfl | rfl | rfl | rfl
  · exact lg_45_4 hL
  · exact lg_51_4 hL
  · exact lg_57_4 hL
  · exact lg_63_4 hL
  · exact lg_69_4 hL
  · exact lg_75_4 hL
theorem qu_a4 {h : AH} (hL : LayL h) {a : Nat} (ha : iQu a) : (a + 4) < nH h ∧ kH h (a + 4) = (13, 64) := by
  rcases ha with rfl | rfl | rfl | rfl | rfl | rfl
  · exact ll_49 hL
  · exact ll_55 hL
  · exact ll_61 hL
  · exact ll_67 hL
  · exact ll_73 hL
  · exact ll_79 hL
theorem qu_r6 {h : AH} (hL : LayL h) {a : Nat} (ha : iQu a) : rH h a 6 = some (a + 5) := by
  rcases ha with rfl | rfl | rfl | rfl | rfl | rfl
  · exact lg_45_6 hL
  · exact lg_51_6 hL
  · exact lg_57_6 hL
  · exact lg_63_6 hL
  · exact lg_69_6 hL
  · exact lg_75_6 hL
theorem qu_a6 {h : AH} (hL : LayL h) {a : Nat} (ha : iQu a) : (a + 5) < nH h ∧ kH h (a + 5) = (13, 16) := by
  rcases ha with rfl | rfl | rfl | rfl | rfl | rfl
  · exact ll_50 hL
  · exact ll_56 hL
  · exact ll_62 hL
  · exact ll_68 hL
  · exact ll_74 hL
  · exact ll_80 hL
def iHi (a : Nat) : Prop := a = 24 ∨ a = 28
theorem hi_o {h : AH} (hL : LayL h) {a : Nat} (ha : iHi a) : a < nH h ∧ kH h a = (1, 0) := by
  rcases ha with rfl | rfl
  · exact ll_24 hL
  · exact ll_28 hL
theorem hi_r0 {h : AH} (hL : LayL h) {a : Nat} (ha : iHi a) : rH h a 0 = some (a + 1) := by
  rcases ha with rfl | rfl
  · exact lg_24_0 hL
  · exact lg_28_0 hL
theorem hi_a0 {h : AH} (hL : LayL h) {a : Nat} (ha : iHi a) : (a + 1) < nH h ∧ kH h (a + 1) = (13, 64) := by
  rcases ha with rfl | rfl
  · exact ll_25 hL
  · exact ll_29 hL
theorem hi_r1 {h : AH} (hL : LayL h) {a : Nat} (ha : iHi a) : rH h a 1 = some (a + 2) := by
  rcases ha with rfl | rfl
  · exact lg_24_1 hL
  · exact lg_28_1 hL
theorem hi_a1 {h : AH} (hL : LayL h) {a : Nat} (ha : iHi a) : (a + 2) < nH h ∧ kH h (a + 2) = (13, 64) := by
  rcases ha with rfl | rfl
  · exact ll_26 hL
  · exact ll_30 hL
theorem hi_r2 {h : AH} (hL : LayL h) {a : Nat} (ha : iHi a) : rH h a 2 = some (a + 3) := by
  rcases ha with rfl | rfl
  · exact lg_24_2 hL
  · exact lg_28_2 hL
theorem hi_a2 {h : AH} (hL : LayL h) {a : Nat} (ha : iHi a) : (a + 3) < nH h ∧ kH h (a + 3) = (14, 8) := by
  rcases ha with rfl | rfl
  · exact ll_27 hL
  · exact ll_31 hL
def iSh (a : Nat) : Prop := a = 81 ∨ a = 83 ∨ a = 85 ∨ a = 87
theorem sh_o {h : AH} (hL : LayL h) {a : Nat} (ha : iSh a) : a < nH h ∧ kH h a = (8, 0) := by
  rcases ha with rfl | rfl | rfl | rfl
  · exact ll_81 hL
  · exact ll_83 hL
  · exact ll_85 hL
  · exact ll_87 hL
theorem sh_r0 {h : AH} (hL : LayL h) {a : Nat} (ha : iSh a) : rH h a 0 = some (a + 1) := by
  rcases ha with rfl | rfl | rfl | rfl
  · exact lg_81_0 hL
  · exact lg_83_0 hL
  · exact lg_85_0 hL
  · exact lg_87_0 hL
theorem sh_a0 {h : AH} (hL : LayL h) {a : Nat} (ha : iSh a) : (a + 1) < nH h ∧ kH h (a + 1) = (13, 40) := by
  rcases ha with rfl | rfl | rfl | rfl
  · exact ll_82 hL
  · exact ll_84 hL
  · exact ll_86 hL
  · exact ll_88 hL
theorem tb_vw {h : AH} (hL : LayL h) {i : Nat} (hi : i < 4) : rH h 14 i = some (33 + 3 * i) := by
  match i, hi with
  | 0, _ => exact lg_14_0 hL
  | 1, _ => exact lg_14_1 hL
  | 2, _ => exact lg_14_2 hL
  | 3, _ => exact lg_14_3 hL
theorem ti_vw {i : Nat} (hi : i < 4) : iSt (33 + 3 * i) := by
  unfold iSt
  omega
theorem tb_hd {h : AH} (hL : LayL h) {i : Nat} (hi : i < 7) : rH h 15 i = some (hld i) := by
  match i, hi with
  | 0, _ => exact lg_15_0 hL
  | 1, _ => exact lg_15_1 hL
  | 2, _ => exact lg_15_2 hL
  | 3, _ => exact lg_15_3 hL
  | 4, _ => exact lg_15_4 hL
  | 5, _ => exact lg_15_5 hL
  | 6, _ => exact lg_15_6 hL
theorem ti_hd {i : Nat} (hi : i < 7) : iSt (hld i) := by
  unfold iSt hld
  (repeat' split) <;> omega
theorem tb_qy {h : AH} (hL : LayL h) {i : Nat} (hi : i < 6) : rH h 19 i = some (45 + 6 * i) := by
  match i, hi with
  | 0, _ => exact lg_19_0 hL
  | 1, _ => exact lg_19_1 hL
  | 2, _ => exact lg_19_2 hL
  | 3, _ => exact lg_19_3 hL
  | 4, _ => exact lg_19_4 hL
  | 5, _ => exact lg_19_5 hL
theorem ti_qy {i : Nat} (hi : i < 6) : iQu (45 + 6 * i) := by
  unfold iQu
  omega
theorem tb_sh {h : AH} (hL : LayL h) {i : Nat} (hi : i < 4) : rH h 23 i = some (81 + 2 * i) := by
  match i, hi with
  | 0, _ => exact lg_23_0 hL
  | 1, _ => exact lg_23_1 hL
  | 2, _ => exact lg_23_2 hL
  | 3, _ => exact lg_23_3 hL
theorem ti_sh {i : Nat} (hi : i < 4) : iSh (81 + 2 * i) := by
  unfold iSh
  omega
/-- a document by its address: its words stand right behind it; a segment: its documents' row right ahead of it, its dictionary right behind it -/
def iD (h : AH) (a n : Nat) : Prop := (a < nH h ∧ kH h a = (0, 0)) ∧ rH h a 1 = some (a + 1) ∧ (a + 1 < nH h ∧ kH h (a + 1) = (13, n)) ∧ (1191 ≤ a ∧ n ≤ 12)
theorem dc_o {h : AH} {a n : Nat} (hd : iD h a n) : a < nH h ∧ kH h a = (0, 0) := hd.1
theorem dc_r1 {h : AH} {a n : Nat} (hd : iD h a n) : rH h a 1 = some (a + 1) := hd.2.1
theorem dc_a1 {h : AH} {a n : Nat} (hd : iD h a n) : (a + 1) < nH h ∧ kH h (a + 1) = (13, n) := hd.2.2.1
def iSg (h : AH) (a n r : Nat) : Prop := ((a < nH h ∧ kH h a = (7, 0)) ∧ (a - 1 < nH h ∧ kH h (a - 1) = (16, n))) ∧ (rH h a 1 = some (a - 1) ∧ rH h a 2 = some (a + 1) ∧ rH h a 3 = some (a + 2) ∧ rH h a 4 = some (a + 3)) ∧ ((a + 1 < nH h ∧ kH h (a + 1) = (13, r)) ∧ (a + 2 < nH h ∧ kH h (a + 2) = (13, r)) ∧ (a + 3 < nH h ∧ kH h (a + 3) = (13, r))) ∧ (1192 ≤ a ∧ n ≤ 64 ∧ r ≤ 768)
section
variable {h : AH} {a n r : Nat}
theorem sg_o (hs : iSg h a n r) : a < nH h ∧ kH h a = (7, 0) := hs.1.1
theorem sg_r1 (hs : iSg h a n r) : rH h a 1 = some (a - 1) := hs.2.1.1
theorem sg_r2 (hs : iSg h a n r) : rH h a 2 = some (a + 1) := hs.2.1.2.1
theorem sg_r3 (hs : iSg h a n r) : rH h a 3 = some (a + 2) := hs.2.1.2.2.1
theorem sg_r4 (hs : iSg h a n r) : rH h a 4 = some (a + 3) := hs.2.1.2.2.2
theorem sg_a1 (hs : iSg h a n r) : (a - 1) < nH h ∧ kH h (a - 1) = (16, n) := hs.1.2
theorem sg_a2 (hs : iSg h a n r) : (a + 1) < nH h ∧ kH h (a + 1) = (13, r) := hs.2.2.1.1
theorem sg_a3 (hs : iSg h a n r) : (a + 2) < nH h ∧ kH h (a + 2) = (13, r) := hs.2.2.1.2.1
theorem sg_a4 (hs : iSg h a n r) : (a + 3) < nH h ∧ kH h (a + 3) = (13, r) := hs.2.2.1.2.2
end
section
theorem sdA {h : AH} {a t n b c m : Nat} {x : Int} (hk : a < nH h ∧ kH h a = (t, n)) (c0 : 0 ≤ x ∧ x < (n : Int)) (hb : b < nH h ∧ kH h b = (c, m)) (ht : Nat.blt 15 t = true ∧ Nat.blt t 21 = true ∧ elK t = c := by exact ⟨rfl, rfl, rfl⟩) : a < nH h ∧ 15 < (kH h a).1 ∧ (kH h a).1 < 21 ∧ 0 ≤ x ∧ x < ((kH h a).2 : Int) ∧ b < nH h ∧ (kH h b).1 = elK (kH h a).1 := by
  rw [hk.2, hb.2]; exact ⟨hk.1, Nat.le_of_ble_eq_true ht.1, Nat.le_of_ble_eq_true ht.2.1, c0.1, c0.2, hb.1, ht.2.2.symm⟩
theorem eQPJ {K : Option AV → AH → Prop} {x0 : Int64} {h0 : AH} (k : K (some (vl x0)) h0) : ∀ v h, (∀ w, v = some w → okV w) → QJ (fun x h' => x = x0 ∧ h' = h0) v h → K v h := by
  rintro v h ok ⟨x, rfl, rfl, rfl⟩
  exact k
theorem dc_n {h : AH} {a n : Nat} (hd : iD h a n) : n < 2147483648 := by have := hd.2.2.2.2; omega
theorem sg_n {h : AH} {a n r : Nat} (hd : iSg h a n r) : n < 2147483648 := by have := hd.2.2.2.2.1; omega
theorem sg_m {h : AH} {a n r : Nat} (hd : iSg h a n r) : r < 2147483648 := by have := hd.2.2.2.2.2; omega
end
/-! THE TWO FIXED ROWS OF NUMBERS -/
section
def undrI (x : Int) : Int := (undr x.toNat).toInt
def spnI (x : Int) : Int := (spn x.toNat).toInt
def ckGsUNDER (y : MI) (o pc : Nat) (es : List IE) (q i k n : Nat) : Bool := ckB y o pc es q && decide (o = 4) && decide (i = 15) && decide (decode y.2.1 q = .ok (.getstatic 15, 3)) && decide (decode y.2.1 (q + 3) = .ok (.iload_n 2, 1)) && decide (k = 2) && decide (decode y.2.1 (q + 4) = .ok (.iaload, 1)) && decide (n = q + 5)
def ckGsSPANS (y : MI) (o pc : Nat) (es : List IE) (q i k n : Nat) : Bool := ckB y o pc es q && decide (o = 6) && decide (i = 97) && decide (decode y.2.1 q = .ok (.getstatic 97, 3)) && decide (decode y.2.1 (q + 3) = .ok (.iload_n 2, 1)) && decide (k = 2) && decide (decode y.2.1 (q + 4) = .ok (.iaload, 1)) && decide (n = q + 5)
theorem fl_UNDER : Cond.fieldLink RX4 15 "LiveIndex$Policy" "UNDER" "[I" ∈ gt := gt_ok (List.mem_of_getElem? (i := 647) (by decide +kernel)) (by decide +kernel)
variable {y : MI} {d rc rs : Nat} {Q : Option AV → AH → Prop} {o pc q i k n : Nat} {es : List IE} {lo : List (Option AV)} {st : List AV} {h : AH}
theorem xGsUNDER (hb : ckGsUNDER y o pc es q i k n = true) (kk : wpB es lo st h (fun lo st h => ∃ x : Int, lg lo 2 = some (vi x) ∧ (0 ≤ x ∧ x < 6) ∧ wp y d rc rs Q n lo (vi (undrI x) :: st) h)) : wp y d rc rs Q pc lo st h := by
  simp only [ckGsUNDER, Bool.and_eq_true, decide_eq_true_eq] at hb
  obtain ⟨⟨⟨⟨⟨⟨⟨h1, rfl⟩, rfl⟩, h2⟩, h3⟩, rfl⟩, h4⟩, rfl⟩ := hb
  have hcls : y.1.cls = RX4 := by
    simp only [ckB, Bool.and_eq_true, decide_eq_true_eq] at h1
    exact h1.1
  refine xB h1 (wpB_mono ?_ kk)
  rintro lo st h ⟨x, hx, hr, k2⟩
  intro E p l e R s m args below meth c' Z hC hR hd1 hd2 hb H locs ls cells slots hcc hss hW hS hl hst hlo
  have hi : inr x := hlo _ _ hx
  obtain ⟨t, hZ, hT⟩ := hC.2.2.2.2.2.1.2.2.2.2.1
  refine va_gets hC.1 hC.2.1 hZ hS hC.2.2.2.1 (hC.2.2.2.2.1 _ (by rw [hcls]; exact fl_UNDER)) (fun _ q => q) h2 ?_
  refine lv_iload_n (k := 2) hC.1 hC.2.1 h3 rfl (hl.get hx) ?_
  refine va_ti hC.1 hC.2.1 hT hS (in_ix hi hr.1 hr.2) rfl h4 ?_
  rw [oi_nat hi]
  have := k2 E p l e R s m args below meth c' Z hC hR hd1 hd2 hb H locs ls cells slots hcc hss hW hS hl (ok_cons.mpr ⟨oi_in _, hst⟩) hlo
  rw [List.map_cons, show cv E.1 (vi (undrI x)) = .int (undr x.toNat) from congrArg Value.int (oi_back _)] at this
  exact this
theorem xGsSPANS (hb : ckGsSPANS y o pc es q i k n = true) (kk : wpB es lo st h (fun lo st h => ∃ x : Int, lg lo 2 = some (vi x) ∧ (0 ≤ x ∧ x < 7) ∧ wp y d rc rs Q n lo (vi (spnI x) :: st) h)) : wp y d rc rs Q pc lo st h := by
  simp only [ckGsSPANS, Bool.and_eq_true, decide_eq_true_eq] at hb
  obtain ⟨⟨⟨⟨⟨⟨⟨h1, rfl⟩, rfl⟩, h2⟩, h3⟩, rfl⟩, h4⟩, rfl⟩ := hb
  have hcls : y.1.cls = RX6 := by
    simp only [ckB, Bool.and_eq_true, decide_eq_true_eq] at h1
    exact h1.1
  refine xB h1 (wpB_mono ?_ kk)
  rintro lo st h ⟨x, hx, hr, k2⟩
  intro E p l e R s m args below meth c' Z hC hR hd1 hd2 hb H locs ls cells slots hcc hss hW hS hl hst hlo
  have hi : inr x := hlo _ _ hx
  obtain ⟨t, hZ, hT⟩ := hC.2.2.2.2.2.1.2.2.2.2.2.1
  refine va_getsN hC.1 hC.2.1 hZ hS hC.2.2.2.1 (host := RX11) (by rw [hcls]; exact va_Nw.use rfl hC.2.2.2.2.2.1.2.2.1) (fun _ q => q) h2 ?_
  refine lv_iload_n (k := 2) hC.1 hC.2.1 h3 rfl (hl.get hx) ?_
  refine va_ti hC.1 hC.2.1 hT hS (in_ix hi hr.1 hr.2) rfl h4 ?_
  rw [oi_nat hi]
  have := k2 E p l e R s m args below meth c' Z hC hR hd1 hd2 hb H locs ls cells slots hcc hss hW hS hl (ok_cons.mpr ⟨oi_in _, hst⟩) hlo
  rw [List.map_cons, show cv E.1 (vi (spnI x)) = .int (spn x.toNat) from congrArg Value.int (oi_back _)] at this
  exact this
end
/-! BITS OF A LONG -/
section
def bt (x : Int64) (k : Nat) : Prop := x.toBitVec.getLsbD k = true
noncomputable def pcL (x : Int64) : Int := cnt (bt x) 64
theorem sh_u : ∀ k : Nat, k < 64 → ((Int32.ofInt (k : Int)).toInt64.toUInt64 &&& Int64.toUInt64 63) = UInt64.ofNat k := by decide +kernel
theorem sh_l : ∀ k : Nat, k < 64 → ((Int32.ofInt (k : Int)).toInt64 &&& 63).toBitVec.smod 64 = BitVec.ofNat 64 k := by decide +kernel
theorem shr_bv {x : Int64} {k : Nat} (hk : k < 64) : (shr6 x k).toBitVec = x.toBitVec >>> k := by
  unfold shr6
  rw [sh_u k hk]
  show (x.toUInt64 >>> UInt64.ofNat k).toBitVec = _
  rw [UInt64.toBitVec_shiftRight]
  show x.toBitVec >>> ((BitVec.ofNat 64 k) % 64) = _
  rw [BitVec.ushiftRight_eq']
  congr 1
  rw [BitVec.toNat_umod, BitVec.toNat_ofNat]
  show k % 2 ^ 64 % 64 = k
  omega
theorem shl_bv {x : Int64} {k : Nat} (hk : k < 64) : (shl6 x k).toBitVec = x.toBitVec <<< k := by
  unfold shl6
  rw [Int64.toBitVec_shiftLeft, sh_l k hk, BitVec.shiftLeft_eq']
  congr 1
  rw [BitVec.toNat_ofNat]
  omega
theorem bt_ge {x : Int64} {k : Nat} (hk : 64 ≤ k) : ¬ bt x k := by
  unfold bt; rw [BitVec.getLsbD_of_ge _ _ hk]; exact Bool.false_ne_true
theorem bt_0 {k : Nat} : ¬ bt 0 k := by
  unfold bt
  rw [show (0 : Int64).toBitVec = BitVec.ofNat 64 0 from rfl, BitVec.getLsbD_zero]; exact Bool.false_ne_true
theorem bt_or {x z : Int64} {k : Nat} : bt (x ||| z) k ↔ bt x k ∨ bt z k := by
  unfold bt; rw [Int64.toBitVec_or, BitVec.getLsbD_or, Bool.or_eq_true]
theorem bt_and {x z : Int64} {k : Nat} : bt (x &&& z) k ↔ bt x k ∧ bt z k := by
  unfold bt; rw [Int64.toBitVec_and, BitVec.getLsbD_and, Bool.and_eq_true]
theorem bt_1 {k : Nat} : bt 1 k ↔ k = 0 := by
  unfold bt
  rw [show (1 : Int64).toBitVec = BitVec.ofNat 64 1 from rfl, BitVec.getLsbD_one]; simp
theorem bt_shl {j k : Nat} (hk : k < 64) : bt (shl6 1 k) j ↔ j = k := by
  by_cases hj : j < 64
  · unfold bt
    rw [shl_bv hk, BitVec.getLsbD_shiftLeft, show (1 : Int64).toBitVec = BitVec.ofNat 64 1 from rfl, BitVec.getLsbD_one]
    simp
    omega
  · exact ⟨fun q => absurd q (bt_ge (by omega)), fun q => by omega⟩
theorem bt_ext {x z : Int64} (e : ∀ k, k < 64 → (bt x k ↔ bt z k)) : x = z := by
  refine Int64.toBitVec_inj.mp (BitVec.eq_of_getLsbD_eq fun k hk => ?_)
  have := e k hk
  unfold bt at this
  rw [Bool.eq_iff_iff]; exact this
theorem lc_0 {x z : Int64} : lcI x z = 0 ↔ x = z := by
  unfold lcI
  rw [← lg_cmp_eq x z]
  constructor
  · intro e; rw [← Int32.toInt_inj, e]; rfl
  · intro e; rw [e]; rfl
theorem and1_0 {x : Int64} : x &&& 1 = 0 ↔ ¬ bt x 0 := by
  constructor
  · intro e q
    have : bt (x &&& 1) 0 := bt_and.mpr ⟨q, bt_1.mpr rfl⟩
    rw [e] at this; exact bt_0 this
  · intro q
    refine bt_ext fun k _ => ⟨fun w => ?_, fun w => absurd w bt_0⟩
    have w := bt_and.mp w
    rw [bt_1] at w
    rw [w.2] at w; exact absurd w.1 q
theorem bt_shr {x : Int64} {k : Nat} (hk : k < 64) : bt (shr6 x k) 0 ↔ bt x k := by
  unfold bt
  rw [shr_bv hk, BitVec.getLsbD_ushiftRight]; simp
/-- the class's question: is it dropped -/
theorem lc_bt {x : Int64} {k : Int} (hk : 0 ≤ k ∧ k < 64) : lcI (shr6 x k &&& 1) 0 = 0 ↔ ¬ bt x k.toNat := by
  obtain ⟨n, rfl⟩ := Int.eq_ofNat_of_zero_le hk.1
  rw [lc_0, and1_0, bt_shr (by omega)]
  exact Iff.rfl
theorem bt_set {x : Int64} {k : Int} (hk : 0 ≤ k ∧ k < 64) {j : Nat} : bt (x ||| shl6 1 k) j ↔ bt x j ∨ (j : Int) = k := by
  obtain ⟨n, rfl⟩ := Int.eq_ofNat_of_zero_le hk.1
  rw [bt_or, bt_shl (by omega)]
  constructor <;> (rintro (q | q); exact Or.inl q; exact Or.inr (by omega))
theorem lc_n0 {x : Int64} : lcI x 0 = 0 ↔ ∀ k, k < 64 → ¬ bt x k := by
  rw [lc_0]
  exact ⟨fun e k _ => by rw [e]; exact bt_0, fun q => bt_ext fun k hk => ⟨fun w => absurd w (q k hk), fun w => absurd w bt_0⟩⟩
end
