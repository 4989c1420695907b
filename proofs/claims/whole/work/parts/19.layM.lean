/-! THE REFERENCE: where its cells stand, what kinds they are (by gen_m.py) -/
def tabM : List (Nat × Nat × Nat) := [(89, 12, 0), (90, 13, 520), (91, 13, 520), (92, 21, 520), (613, 15, 520), (614, 13, 520), (615, 13, 520), (616, 21, 520), (1137, 15, 7), (1138, 13, 7), (1139, 21, 7), (1147, 22, 7), (1155, 13, 8), (1156, 13, 4), (1157, 13, 64), (1158, 13, 12), (1159, 13, 64), (1160, 21, 8), (1169, 21, 6), (1176, 13, 6), (1177, 13, 128), (1178, 13, 64), (1179, 13, 64), (1180, 13, 64), (1181, 13, 1040), (1182, 13, 64), (1183, 13, 4), (1184, 13, 4), (1185, 21, 4), (1190, 13, 40)]
def refM : List (Nat × Nat) := [(1, 90), (2, 91), (3, 92), (4, 613), (6, 614), (7, 615), (8, 616), (9, 1137), (10, 1138), (11, 1139), (12, 1147), (14, 1155), (16, 1156), (17, 1157), (19, 1158), (28, 1159), (29, 1160), (31, 1169), (32, 1176), (33, 1177), (41, 1178), (44, 1179), (45, 1180), (48, 1181), (49, 1182), (50, 1183), (51, 1184), (52, 1185), (53, 1190)]
def rowM : List (Nat × Nat × Nat × Nat × Nat) := [(92, 93, 520, 13, 12), (616, 617, 520, 13, 64), (1139, 1140, 7, 13, 8), (1147, 1148, 7, 15, 64), (1160, 1161, 8, 13, 8), (1169, 1170, 6, 13, 128), (1185, 1186, 4, 13, 40)]
def LayM (h : AH) : Prop := (∀ q ∈ tabM, q.1 < nH h ∧ kH h q.1 = q.2) ∧ (∀ q ∈ refM, rH h 89 q.1 = some q.2) ∧ (∀ q ∈ rowM, ∀ i, i < q.2.2.1 → (q.2.1 + i < nH h ∧ kH h (q.2.1 + i) = (q.2.2.2.1, q.2.2.2.2)) ∧ rH h q.1 i = some (q.2.1 + i))
theorem lm_89 {h : AH} (hL : LayM h) : 89 < nH h ∧ kH h 89 = (12, 0) := hL.1 _ (List.mem_of_getElem? (i := 0) (a := (89, 12, 0)) rfl)
theorem lm_90 {h : AH} (hL : LayM h) : 90 < nH h ∧ kH h 90 = (13, 520) := hL.1 _ (List.mem_of_getElem? (i := 1) (a := (90, 13, 520)) rfl)
theorem lm_91 {h : AH} (hL : LayM h) : 91 < nH h ∧ kH h 91 = (13, 520) := hL.1 _ (List.mem_of_getElem? (i := 2) (a := (91, 13, 520)) rfl)
theorem lm_92 {h : AH} (hL : LayM h) : 92 < nH h ∧ kH h 92 = (21, 520) := hL.1 _ (List.mem_of_getElem? (i := 3) (a := (92, 21, 520)) rfl)
theorem lm_613 {h : AH} (hL : LayM h) : 613 < nH h ∧ kH h 613 = (15, 520) := hL.1 _ (List.mem_of_getElem? (i := 4) (a := (613, 15, 520)) rfl)
theorem lm_614 {h : AH} (hL : LayM h) : 614 < nH h ∧ kH h 614 = (13, 520) := hL.1 _ (List.mem_of_getElem? (i := 5) (a := (614, 13, 520)) rfl)
theorem lm_615 {h : AH} (hL : LayM h) : 615 < nH h ∧ kH h 615 = (13, 520) := hL.1 _ (List.mem_of_getElem? (i := 6) (a := (615, 13, 520)) rfl)
theorem lm_616 {h : AH} (hL : LayM h) : 616 < nH h ∧ kH h 616 = (21, 520) := hL.1 _ (List.mem_of_getElem? (i := 7) (a := (616, 21, 520)) rfl)
theorem lm_1137 {h : AH} (hL : LayM h) : 1137 < nH h ∧ kH h 1137 = (15, 7) := hL.1 _ (List.mem_of_getElem? (i := 8) (a := (1137, 15, 7)) rfl)
theorem lm_1138 {h : AH} (hL : LayM h) : 1138 < nH h ∧ kH h 1138 = (13, 7) := hL.1 _ (List.mem_of_getElem? (i := 9) (a := (1138, 13, 7)) rfl)
theorem lm_1139 {h : AH} (hL : LayM h) : 1139 < nH h ∧ kH h 1139 = (21, 7) := hL.1 _ (List.mem_of_getElem? (i := 10) (a := (1139, 21, 7)) rfl)
theorem lm_1147 {h : AH} (hL : LayM h) : 1147 < nH h ∧ kH h 1147 = (22, 7) := hL.1 _ (List.mem_of_getElem? (i := 11) (a := (1147, 22, 7)) rfl)
theorem lm_1155 {h : AH} (hL : LayM h) : 1155 < nH h ∧ kH h 1155 = (13, 8) := hL.1 _ (List.mem_of_getElem? (i := 12) (a := (1155, 13, 8)) rfl)
theorem lm_1156 {h : AH} (hL : LayM h) : 1156 < nH h ∧ kH h 1156 = (13, 4) := hL.1 _ (List.mem_of_getElem? (i := 13) (a := (1156, 13, 4)) rfl)
theorem lm_1157 {h : AH} (hL : LayM h) : 1157 < nH h ∧ kH h 1157 = (13, 64) := hL.1 _ (List.mem_of_getElem? (i := 14) (a := (1157, 13, 64)) rfl)
theorem lm_1158 {h : AH} (hL : LayM h) : 1158 < nH h ∧ kH h 1158 = (13, 12) := hL.1 _ (List.mem_of_getElem? (i := 15) (a := (1158, 13, 12)) rfl)
theorem lm_1159 {h : AH} (hL : LayM h) : 1159 < nH h ∧ kH h 1159 = (13, 64) := hL.1 _ (List.mem_of_getElem? (i := 16) (a := (1159, 13, 64)) rfl)
theorem lm_1160 {h : AH} (hL : LayM h) : 1160 < nH h ∧ kH h 1160 = (21, 8) := hL.1 _ (List.mem_of_getElem? (i := 17) (a := (1160, 21, 8)) rfl)
theorem lm_1169 {h : AH} (hL : LayM h) : 1169 < nH h ∧ kH h 1169 = (21, 6) := hL.1 _ (List.mem_of_getElem? (i := 18) (a := (1169, 21, 6)) rfl)
theorem lm_1176 {h : AH} (hL : LayM h) : 1176 < nH h ∧ kH h 1176 = (13, 6) := hL.1 _ (List.mem_of_getElem? (i := 19) (a := (1176, 13, 6)) rfl)
theorem lm_1177 {h : AH} (hL : LayM h) : 1177 < nH h ∧ kH h 1177 = (13, 128) := hL.1 _ (List.mem_of_getElem? (i := 20) (a := (1177, 13, 128)) rfl)
theorem lm_1178 {h : AH} (hL : LayM h) : 1178 < nH h ∧ kH h 1178 = (13, 64) := hL.1 _ (List.mem_of_getElem? (i := 21) (a := (1178, 13, 64)) rfl)
theorem lm_1179 {h : AH} (hL : LayM h) : 1179 < nH h ∧ kH h 1179 = (13, 64) := hL.1 _ (List.mem_of_getElem? (i := 22) (a := (1179, 13, 64)) rfl)
theorem lm_1180 {h : AH} (hL : LayM h) : 1180 < nH h ∧ kH h 1180 = (13, 64) := hL.1 _ (List.mem_of_getElem? (i := 23) (a := (1180, 13, 64)) rfl)
theorem lm_1181 {h : AH} (hL : LayM h) : 1181 < nH h ∧ kH h 1181 = (13, 1040) := hL.1 _ (List.mem_of_getElem? (i := 24) (a := (1181, 13, 1040)) rfl)
theorem lm_1182 {h : AH} (hL : LayM h) : 1182 < nH h ∧ kH h 1182 = (13, 64) := hL.1 _ (List.mem_of_getElem? (i := 25) (a := (1182, 13, 64)) rfl)
theorem lm_1183 {h : AH} (hL : LayM h) : 1183 < nH h ∧ kH h 1183 = (13, 4) := hL.1 _ (List.mem_of_getElem? (i := 26) (a := (1183, 13, 4)) rfl)
theorem lm_1184 {h : AH} (hL : LayM h) : 1184 < nH h ∧ kH h 1184 = (13, 4) := hL.1 _ (List.mem_of_getElem? (i := 27) (a := (1184, 13, 4)) rfl)
theorem lm_1185 {h : AH} (hL : LayM h) : 1185 < nH h ∧ kH h 1185 = (21, 4) := hL.1 _ (List.mem_of_getElem? (i := 28) (a := (1185, 21, 4)) rfl)
theorem lm_1190 {h : AH} (hL : LayM h) : 1190 < nH h ∧ kH h 1190 = (13, 40) := hL.1 _ (List.mem_of_getElem? (i := 29) (a := (1190, 13, 40)) rfl)
theorem lf_89_1 {h : AH} (hL : LayM h) : rH h 89 1 = some 90 := hL.2.1 _ (List.mem_of_getElem? (i := 0) (a := (1, 90)) rfl)
theorem lf_89_2 {h : AH} (hL : LayM h) : rH h 89 2 = some 91 := hL.2.1 _ (List.mem_of_getElem? (i := 1) (a := (2, 91)) rfl)
theorem lf_89_3 {h : AH} (hL : LayM h) : rH h 89 3 = some 92 := hL.2.1 _ (List.mem_of_getElem? (i := 2) (a := (3, 92)) rfl)
theorem lf_89_4 {h : AH} (hL : LayM h) : rH h 89 4 = some 613 := hL.2.1 _ (List.mem_of_getElem? (i := 3) (a := (4, 613)) rfl)
theorem lf_89_6 {h : AH} (hL : LayM h) : rH h 89 6 = some 614 := hL.2.1 _ (List.mem_of_getElem? (i := 4) (a := (6, 614)) rfl)
theorem lf_89_7 {h : AH} (hL : LayM h) : rH h 89 7 = some 615 := hL.2.1 _ (List.mem_of_getElem? (i := 5) (a := (7, 615)) rfl)
theorem lf_89_8 {h : AH} (hL : LayM h) : rH h 89 8 = some 616 := hL.2.1 _ (List.mem_of_getElem? (i := 6) (a := (8, 616)) rfl)
theorem lf_89_9 {h : AH} (hL : LayM h) : rH h 89 9 = some 1137 := hL.2.1 _ (List.mem_of_getElem? (i := 7) (a := (9, 1137)) rfl)
theorem lf_89_10 {h : AH} (hL : LayM h) : rH h 89 10 = some 1138 := hL.2.1 _ (List.mem_of_getElem? (i := 8) (a := (10, 1138)) rfl)
theorem lf_89_11 {h : AH} (hL : LayM h) : rH h 89 11 = some 1139 := hL.2.1 _ (List.mem_of_getElem? (i := 9) (a := (11, 1139)) rfl)
theorem lf_89_12 {h : AH} (hL : LayM h) : rH h 89 12 = some 1147 := hL.2.1 _ (List.mem_of_getElem? (i := 10) (a := (12, 1147)) rfl)
theorem lf_89_14 {h : AH} (hL : LayM h) : rH h 89 14 = some 1155 := hL.2.1 _ (List.mem_of_getElem? (i := 11) (a := (14, 1155)) rfl)
theorem lf_89_16 {h : AH} (hL : LayM h) : rH h 89 16 = some 1156 := hL.2.1 _ (List.mem_of_getElem? (i := 12) (a := (16, 1156)) rfl)
theorem lf_89_17 {h : AH} (hL : LayM h) : rH h 89 17 = some 1157 := hL.2.1 _ (List.mem_of_getElem? (i := 13) (a := (17, 1157)) rfl)
theorem lf_89_19 {h : AH} (hL : LayM h) : rH h 89 19 = some 1158 := hL.2.1 _ (List.mem_of_getElem? (i := 14) (a := (19, 1158)) rfl)
theorem lf_89_28 {h : AH} (hL : LayM h) : rH h 89 28 = some 1159 := hL.2.1 _ (List.mem_of_getElem? (i := 15) (a := (28, 1159)) rfl)
theorem lf_89_29 {h : AH} (hL : LayM h) : rH h 89 29 = some 1160 := hL.2.1 _ (List.mem_of_getElem? (i := 16) (a := (29, 1160)) rfl)
theorem lf_89_31 {h : AH} (hL : LayM h) : rH h 89 31 = some 1169 := hL.2.1 _ (List.mem_of_getElem? (i := 17) (a := (31, 1169)) rfl)
theorem lf_89_32 {h : AH} (hL : LayM h) : rH h 89 32 = some 1176 := hL.2.1 _ (List.mem_of_getElem? (i := 18) (a := (32, 1176)) rfl)
theorem lf_89_33 {h : AH} (hL : LayM h) : rH h 89 33 = some 1177 := hL.2.1 _ (List.mem_of_getElem? (i := 19) (a := (33, 1177)) rfl)
theorem lf_89_41 {h : AH} (hL : LayM h) : rH h 89 41 = some 1178 := hL.2.1 _ (List.mem_of_getElem? (i := 20) (a := (41, 1178)) rfl)
theorem lf_89_44 {h : AH} (hL : LayM h) : rH h 89 44 = some 1179 := hL.2.1 _ (List.mem_of_getElem? (i := 21) (a := (44, 1179)) rfl)
theorem lf_89_45 {h : AH} (hL : LayM h) : rH h 89 45 = some 1180 := hL.2.1 _ (List.mem_of_getElem? (i := 22) (a := (45, 1180)) rfl)
theorem lf_89_48 {h : AH} (hL : LayM h) : rH h 89 48 = some 1181 := hL.2.1 _ (List.mem_of_getElem? (i := 23) (a := (48, 1181)) rfl)
theorem lf_89_49 {h : AH} (hL : LayM h) : rH h 89 49 = some 1182 := hL.2.1 _ (List.mem_of_getElem? (i := 24) (a := (49, 1182)) rfl)
theorem lf_89_50 {h : AH} (hL : LayM h) : rH h 89 50 = some 1183 := hL.2.1 _ (List.mem_of_getElem? (i := 25) (a := (50, 1183)) rfl)
theorem lf_89_51 {h : AH} (hL : LayM h) : rH h 89 51 = some 1184 := hL.2.1 _ (List.mem_of_getElem? (i := 26) (a := (51, 1184)) rfl)
theorem lf_89_52 {h : AH} (hL : LayM h) : rH h 89 52 = some 1185 := hL.2.1 _ (List.mem_of_getElem? (i := 27) (a := (52, 1185)) rfl)
theorem lf_89_53 {h : AH} (hL : LayM h) : rH h 89 53 = some 1190 := hL.2.1 _ (List.mem_of_getElem? (i := 28) (a := (53, 1190)) rfl)
theorem lk_words {h : AH} (hL : LayM h) {i : Nat} (hi : i < 520) : 93 + i < nH h ∧ kH h (93 + i) = (13, 12) := (hL.2.2 _ (List.mem_of_getElem? (i := 0) (a := (92, 93, 520, 13, 12)) rfl) i hi).1
theorem lr_words {h : AH} (hL : LayM h) {i : Nat} (hi : i < 520) : rH h 92 i = some (93 + i) := (hL.2.2 _ (List.mem_of_getElem? (i := 0) (a := (92, 93, 520, 13, 12)) rfl) i hi).2
theorem lk_members {h : AH} (hL : LayM h) {i : Nat} (hi : i < 520) : 617 + i < nH h ∧ kH h (617 + i) = (13, 64) := (hL.2.2 _ (List.mem_of_getElem? (i := 1) (a := (616, 617, 520, 13, 64)) rfl) i hi).1
theorem lr_members {h : AH} (hL : LayM h) {i : Nat} (hi : i < 520) : rH h 616 i = some (617 + i) := (hL.2.2 _ (List.mem_of_getElem? (i := 1) (a := (616, 617, 520, 13, 64)) rfl) i hi).2
theorem lk_rows {h : AH} (hL : LayM h) {i : Nat} (hi : i < 7) : 1140 + i < nH h ∧ kH h (1140 + i) = (13, 8) := (hL.2.2 _ (List.mem_of_getElem? (i := 2) (a := (1139, 1140, 7, 13, 8)) rfl) i hi).1
theorem lr_rows {h : AH} (hL : LayM h) {i : Nat} (hi : i < 7) : rH h 1139 i = some (1140 + i) := (hL.2.2 _ (List.mem_of_getElem? (i := 2) (a := (1139, 1140, 7, 13, 8)) rfl) i hi).2
theorem lk_wasDropped {h : AH} (hL : LayM h) {i : Nat} (hi : i < 7) : 1148 + i < nH h ∧ kH h (1148 + i) = (15, 64) := (hL.2.2 _ (List.mem_of_getElem? (i := 3) (a := (1147, 1148, 7, 15, 64)) rfl) i hi).1
theorem lr_wasDropped {h : AH} (hL : LayM h) {i : Nat} (hi : i < 7) : rH h 1147 i = some (1148 + i) := (hL.2.2 _ (List.mem_of_getElem? (i := 3) (a := (1147, 1148, 7, 15, 64)) rfl) i hi).2
theorem lk_costs {h : AH} (hL : LayM h) {i : Nat} (hi : i < 8) : 1161 + i < nH h ∧ kH h (1161 + i) = (13, 8) := (hL.2.2 _ (List.mem_of_getElem? (i := 4) (a := (1160, 1161, 8, 13, 8)) rfl) i hi).1
theorem lr_costs {h : AH} (hL : LayM h) {i : Nat} (hi : i < 8) : rH h 1160 i = some (1161 + i) := (hL.2.2 _ (List.mem_of_getElem? (i := 4) (a := (1160, 1161, 8, 13, 8)) rfl) i hi).2
theorem lk_marks {h : AH} (hL : LayM h) {i : Nat} (hi : i < 6) : 1170 + i < nH h ∧ kH h (1170 + i) = (13, 128) := (hL.2.2 _ (List.mem_of_getElem? (i := 5) (a := (1169, 1170, 6, 13, 128)) rfl) i hi).1
theorem lr_marks {h : AH} (hL : LayM h) {i : Nat} (hi : i < 6) : rH h 1169 i = some (1170 + i) := (hL.2.2 _ (List.mem_of_getElem? (i := 5) (a := (1169, 1170, 6, 13, 128)) rfl) i hi).2
theorem lk_items {h : AH} (hL : LayM h) {i : Nat} (hi : i < 4) : 1186 + i < nH h ∧ kH h (1186 + i) = (13, 40) := (hL.2.2 _ (List.mem_of_getElem? (i := 6) (a := (1185, 1186, 4, 13, 40)) rfl) i hi).1
theorem lr_items {h : AH} (hL : LayM h) {i : Nat} (hi : i < 4) : rH h 1185 i = some (1186 + i) := (hL.2.2 _ (List.mem_of_getElem? (i := 6) (a := (1185, 1186, 4, 13, 40)) rfl) i hi).2
