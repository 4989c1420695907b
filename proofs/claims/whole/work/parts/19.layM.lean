/-! THE REFERENCE: where its cells stand, what kinds they are (by gen_m.py) -/
def tabM : List (Nat × Nat × Nat) := [(71, 12, 0), (72, 13, 520), (73, 13, 520), (74, 21, 520), (595, 15, 520), (596, 13, 520), (597, 13, 520), (598, 21, 520), (1119, 15, 7), (1120, 13, 7), (1121, 21, 7), (1129, 22, 7), (1137, 13, 8), (1138, 13, 4), (1139, 13, 64), (1140, 13, 12), (1141, 13, 64), (1142, 21, 8), (1151, 21, 6), (1158, 13, 6), (1159, 13, 128), (1160, 13, 64), (1161, 13, 64), (1162, 13, 64), (1163, 13, 1040), (1164, 13, 64), (1165, 13, 4), (1166, 13, 4), (1167, 21, 4), (1172, 13, 40)]
def refM : List (Nat × Nat) := [(1, 72), (2, 73), (3, 74), (4, 595), (6, 596), (7, 597), (8, 598), (9, 1119), (10, 1120), (11, 1121), (12, 1129), (14, 1137), (16, 1138), (17, 1139), (19, 1140), (28, 1141), (29, 1142), (31, 1151), (32, 1158), (33, 1159), (41, 1160), (44, 1161), (45, 1162), (48, 1163), (49, 1164), (50, 1165), (51, 1166), (52, 1167), (53, 1172)]
def rowM : List (Nat × Nat × Nat × Nat × Nat) := [(74, 75, 520, 13, 12), (598, 599, 520, 13, 64), (1121, 1122, 7, 13, 8), (1129, 1130, 7, 15, 64), (1142, 1143, 8, 13, 8), (1151, 1152, 6, 13, 128), (1167, 1168, 4, 13, 40)]
def LayM (h : AH) : Prop := (∀ q ∈ tabM, q.1 < nH h ∧ kH h q.1 = q.2) ∧ (∀ q ∈ refM, rH h 71 q.1 = some q.2) ∧ (∀ q ∈ rowM, ∀ i, i < q.2.2.1 → (q.2.1 + i < nH h ∧ kH h (q.2.1 + i) = (q.2.2.2.1, q.2.2.2.2)) ∧ rH h q.1 i = some (q.2.1 + i))
theorem lm_71 {h : AH} (hL : LayM h) : 71 < nH h ∧ kH h 71 = (12, 0) := hL.1 _ (List.mem_of_getElem? (i := 0) (a := (71, 12, 0)) rfl)
theorem lm_72 {h : AH} (hL : LayM h) : 72 < nH h ∧ kH h 72 = (13, 520) := hL.1 _ (List.mem_of_getElem? (i := 1) (a := (72, 13, 520)) rfl)
theorem lm_73 {h : AH} (hL : LayM h) : 73 < nH h ∧ kH h 73 = (13, 520) := hL.1 _ (List.mem_of_getElem? (i := 2) (a := (73, 13, 520)) rfl)
theorem lm_74 {h : AH} (hL : LayM h) : 74 < nH h ∧ kH h 74 = (21, 520) := hL.1 _ (List.mem_of_getElem? (i := 3) (a := (74, 21, 520)) rfl)
theorem lm_595 {h : AH} (hL : LayM h) : 595 < nH h ∧ kH h 595 = (15, 520) := hL.1 _ (List.mem_of_getElem? (i := 4) (a := (595, 15, 520)) rfl)
theorem lm_596 {h : AH} (hL : LayM h) : 596 < nH h ∧ kH h 596 = (13, 520) := hL.1 _ (List.mem_of_getElem? (i := 5) (a := (596, 13, 520)) rfl)
theorem lm_597 {h : AH} (hL : LayM h) : 597 < nH h ∧ kH h 597 = (13, 520) := hL.1 _ (List.mem_of_getElem? (i := 6) (a := (597, 13, 520)) rfl)
theorem lm_598 {h : AH} (hL : LayM h) : 598 < nH h ∧ kH h 598 = (21, 520) := hL.1 _ (List.mem_of_getElem? (i := 7) (a := (598, 21, 520)) rfl)
theorem lm_1119 {h : AH} (hL : LayM h) : 1119 < nH h ∧ kH h 1119 = (15, 7) := hL.1 _ (List.mem_of_getElem? (i := 8) (a := (1119, 15, 7)) rfl)
theorem lm_1120 {h : AH} (hL : LayM h) : 1120 < nH h ∧ kH h 1120 = (13, 7) := hL.1 _ (List.mem_of_getElem? (i := 9) (a := (1120, 13, 7)) rfl)
theorem lm_1121 {h : AH} (hL : LayM h) : 1121 < nH h ∧ kH h 1121 = (21, 7) := hL.1 _ (List.mem_of_getElem? (i := 10) (a := (1121, 21, 7)) rfl)
theorem lm_1129 {h : AH} (hL : LayM h) : 1129 < nH h ∧ kH h 1129 = (22, 7) := hL.1 _ (List.mem_of_getElem? (i := 11) (a := (1129, 22, 7)) rfl)
theorem lm_1137 {h : AH} (hL : LayM h) : 1137 < nH h ∧ kH h 1137 = (13, 8) := hL.1 _ (List.mem_of_getElem? (i := 12) (a := (1137, 13, 8)) rfl)
theorem lm_1138 {h : AH} (hL : LayM h) : 1138 < nH h ∧ kH h 1138 = (13, 4) := hL.1 _ (List.mem_of_getElem? (i := 13) (a := (1138, 13, 4)) rfl)
theorem lm_1139 {h : AH} (hL : LayM h) : 1139 < nH h ∧ kH h 1139 = (13, 64) := hL.1 _ (List.mem_of_getElem? (i := 14) (a := (1139, 13, 64)) rfl)
theorem lm_1140 {h : AH} (hL : LayM h) : 1140 < nH h ∧ kH h 1140 = (13, 12) := hL.1 _ (List.mem_of_getElem? (i := 15) (a := (1140, 13, 12)) rfl)
theorem lm_1141 {h : AH} (hL : LayM h) : 1141 < nH h ∧ kH h 1141 = (13, 64) := hL.1 _ (List.mem_of_getElem? (i := 16) (a := (1141, 13, 64)) rfl)
theorem lm_1142 {h : AH} (hL : LayM h) : 1142 < nH h ∧ kH h 1142 = (21, 8) := hL.1 _ (List.mem_of_getElem? (i := 17) (a := (1142, 21, 8)) rfl)
theorem lm_1151 {h : AH} (hL : LayM h) : 1151 < nH h ∧ kH h 1151 = (21, 6) := hL.1 _ (List.mem_of_getElem? (i := 18) (a := (1151, 21, 6)) rfl)
theorem lm_1158 {h : AH} (hL : LayM h) : 1158 < nH h ∧ kH h 1158 = (13, 6) := hL.1 _ (List.mem_of_getElem? (i := 19) (a := (1158, 13, 6)) rfl)
theorem lm_1159 {h : AH} (hL : LayM h) : 1159 < nH h ∧ kH h 1159 = (13, 128) := hL.1 _ (List.mem_of_getElem? (i := 20) (a := (1159, 13, 128)) rfl)
theorem lm_1160 {h : AH} (hL : LayM h) : 1160 < nH h ∧ kH h 1160 = (13, 64) := hL.1 _ (List.mem_of_getElem? (i := 21) (a := (1160, 13, 64)) rfl)
theorem lm_1161 {h : AH} (hL : LayM h) : 1161 < nH h ∧ kH h 1161 = (13, 64) := hL.1 _ (List.mem_of_getElem? (i := 22) (a := (1161, 13, 64)) rfl)
theorem lm_1162 {h : AH} (hL : LayM h) : 1162 < nH h ∧ kH h 1162 = (13, 64) := hL.1 _ (List.mem_of_getElem? (i := 23) (a := (1162, 13, 64)) rfl)
theorem lm_1163 {h : AH} (hL : LayM h) : 1163 < nH h ∧ kH h 1163 = (13, 1040) := hL.1 _ (List.mem_of_getElem? (i := 24) (a := (1163, 13, 1040)) rfl)
theorem lm_1164 {h : AH} (hL : LayM h) : 1164 < nH h ∧ kH h 1164 = (13, 64) := hL.1 _ (List.mem_of_getElem? (i := 25) (a := (1164, 13, 64)) rfl)
theorem lm_1165 {h : AH} (hL : LayM h) : 1165 < nH h ∧ kH h 1165 = (13, 4) := hL.1 _ (List.mem_of_getElem? (i := 26) (a := (1165, 13, 4)) rfl)
theorem lm_1166 {h : AH} (hL : LayM h) : 1166 < nH h ∧ kH h 1166 = (13, 4) := hL.1 _ (List.mem_of_getElem? (i := 27) (a := (1166, 13, 4)) rfl)
theorem lm_1167 {h : AH} (hL : LayM h) : 1167 < nH h ∧ kH h 1167 = (21, 4) := hL.1 _ (List.mem_of_getElem? (i := 28) (a := (1167, 21, 4)) rfl)
theorem lm_1172 {h : AH} (hL : LayM h) : 1172 < nH h ∧ kH h 1172 = (13, 40) := hL.1 _ (List.mem_of_getElem? (i := 29) (a := (1172, 13, 40)) rfl)
theorem lf_71_1 {h : AH} (hL : LayM h) : rH h 71 1 = some 72 := hL.2.1 _ (List.mem_of_getElem? (i := 0) (a := (1, 72)) rfl)
theorem lf_71_2 {h : AH} (hL : LayM h) : rH h 71 2 = some 73 := hL.2.1 _ (List.mem_of_getElem? (i := 1) (a := (2, 73)) rfl)
theorem lf_71_3 {h : AH} (hL : LayM h) : rH h 71 3 = some 74 := hL.2.1 _ (List.mem_of_getElem? (i := 2) (a := (3, 74)) rfl)
theorem lf_71_4 {h : AH} (hL : LayM h) : rH h 71 4 = some 595 := hL.2.1 _ (List.mem_of_getElem? (i := 3) (a := (4, 595)) rfl)
theorem lf_71_6 {h : AH} (hL : LayM h) : rH h 71 6 = some 596 := hL.2.1 _ (List.mem_of_getElem? (i := 4) (a := (6, 596)) rfl)
theorem lf_71_7 {h : AH} (hL : LayM h) : rH h 71 7 = some 597 := hL.2.1 _ (List.mem_of_getElem? (i := 5) (a := (7, 597)) rfl)
theorem lf_71_8 {h : AH} (hL : LayM h) : rH h 71 8 = some 598 := hL.2.1 _ (List.mem_of_getElem? (i := 6) (a := (8, 598)) rfl)
theorem lf_71_9 {h : AH} (hL : LayM h) : rH h 71 9 = some 1119 := hL.2.1 _ (List.mem_of_getElem? (i := 7) (a := (9, 1119)) rfl)
theorem lf_71_10 {h : AH} (hL : LayM h) : rH h 71 10 = some 1120 := hL.2.1 _ (List.mem_of_getElem? (i := 8) (a := (10, 1120)) rfl)
theorem lf_71_11 {h : AH} (hL : LayM h) : rH h 71 11 = some 1121 := hL.2.1 _ (List.mem_of_getElem? (i := 9) (a := (11, 1121)) rfl)
theorem lf_71_12 {h : AH} (hL : LayM h) : rH h 71 12 = some 1129 := hL.2.1 _ (List.mem_of_getElem? (i := 10) (a := (12, 1129)) rfl)
theorem lf_71_14 {h : AH} (hL : LayM h) : rH h 71 14 = some 1137 := hL.2.1 _ (List.mem_of_getElem? (i := 11) (a := (14, 1137)) rfl)
theorem lf_71_16 {h : AH} (hL : LayM h) : rH h 71 16 = some 1138 := hL.2.1 _ (List.mem_of_getElem? (i := 12) (a := (16, 1138)) rfl)
theorem lf_71_17 {h : AH} (hL : LayM h) : rH h 71 17 = some 1139 := hL.2.1 _ (List.mem_of_getElem? (i := 13) (a := (17, 1139)) rfl)
theorem lf_71_19 {h : AH} (hL : LayM h) : rH h 71 19 = some 1140 := hL.2.1 _ (List.mem_of_getElem? (i := 14) (a := (19, 1140)) rfl)
theorem lf_71_28 {h : AH} (hL : LayM h) : rH h 71 28 = some 1141 := hL.2.1 _ (List.mem_of_getElem? (i := 15) (a := (28, 1141)) rfl)
theorem lf_71_29 {h : AH} (hL : LayM h) : rH h 71 29 = some 1142 := hL.2.1 _ (List.mem_of_getElem? (i := 16) (a := (29, 1142)) rfl)
theorem lf_71_31 {h : AH} (hL : LayM h) : rH h 71 31 = some 1151 := hL.2.1 _ (List.mem_of_getElem? (i := 17) (a := (31, 1151)) rfl)
theorem lf_71_32 {h : AH} (hL : LayM h) : rH h 71 32 = some 1158 := hL.2.1 _ (List.mem_of_getElem? (i := 18) (a := (32, 1158)) rfl)
theorem lf_71_33 {h : AH} (hL : LayM h) : rH h 71 33 = some 1159 := hL.2.1 _ (List.mem_of_getElem? (i := 19) (a := (33, 1159)) rfl)
theorem lf_71_41 {h : AH} (hL : LayM h) : rH h 71 41 = some 1160 := hL.2.1 _ (List.mem_of_getElem? (i := 20) (a := (41, 1160)) rfl)
theorem lf_71_44 {h : AH} (hL : LayM h) : rH h 71 44 = some 1161 := hL.2.1 _ (List.mem_of_getElem? (i := 21) (a := (44, 1161)) rfl)
theorem lf_71_45 {h : AH} (hL : LayM h) : rH h 71 45 = some 1162 := hL.2.1 _ (List.mem_of_getElem? (i := 22) (a := (45, 1162)) rfl)
theorem lf_71_48 {h : AH} (hL : LayM h) : rH h 71 48 = some 1163 := hL.2.1 _ (List.mem_of_getElem? (i := 23) (a := (48, 1163)) rfl)
theorem lf_71_49 {h : AH} (hL : LayM h) : rH h 71 49 = some 1164 := hL.2.1 _ (List.mem_of_getElem? (i := 24) (a := (49, 1164)) rfl)
theorem lf_71_50 {h : AH} (hL : LayM h) : rH h 71 50 = some 1165 := hL.2.1 _ (List.mem_of_getElem? (i := 25) (a := (50, 1165)) rfl)
theorem lf_71_51 {h : AH} (hL : LayM h) : rH h 71 51 = some 1166 := hL.2.1 _ (List.mem_of_getElem? (i := 26) (a := (51, 1166)) rfl)
theorem lf_71_52 {h : AH} (hL : LayM h) : rH h 71 52 = some 1167 := hL.2.1 _ (List.mem_of_getElem? (i := 27) (a := (52, 1167)) rfl)
theorem lf_71_53 {h : AH} (hL : LayM h) : rH h 71 53 = some 1172 := hL.2.1 _ (List.mem_of_getElem? (i := 28) (a := (53, 1172)) rfl)
theorem lk_words {h : AH} (hL : LayM h) {i : Nat} (hi : i < 520) : 75 + i < nH h ∧ kH h (75 + i) = (13, 12) := (hL.2.2 _ (List.mem_of_getElem? (i := 0) (a := (74, 75, 520, 13, 12)) rfl) i hi).1
theorem lr_words {h : AH} (hL : LayM h) {i : Nat} (hi : i < 520) : rH h 74 i = some (75 + i) := (hL.2.2 _ (List.mem_of_getElem? (i := 0) (a := (74, 75, 520, 13, 12)) rfl) i hi).2
theorem lk_members {h : AH} (hL : LayM h) {i : Nat} (hi : i < 520) : 599 + i < nH h ∧ kH h (599 + i) = (13, 64) := (hL.2.2 _ (List.mem_of_getElem? (i := 1) (a := (598, 599, 520, 13, 64)) rfl) i hi).1
theorem lr_members {h : AH} (hL : LayM h) {i : Nat} (hi : i < 520) : rH h 598 i = some (599 + i) := (hL.2.2 _ (List.mem_of_getElem? (i := 1) (a := (598, 599, 520, 13, 64)) rfl) i hi).2
theorem lk_rows {h : AH} (hL : LayM h) {i : Nat} (hi : i < 7) : 1122 + i < nH h ∧ kH h (1122 + i) = (13, 8) := (hL.2.2 _ (List.mem_of_getElem? (i := 2) (a := (1121, 1122, 7, 13, 8)) rfl) i hi).1
theorem lr_rows {h : AH} (hL : LayM h) {i : Nat} (hi : i < 7) : rH h 1121 i = some (1122 + i) := (hL.2.2 _ (List.mem_of_getElem? (i := 2) (a := (1121, 1122, 7, 13, 8)) rfl) i hi).2
theorem lk_wasDropped {h : AH} (hL : LayM h) {i : Nat} (hi : i < 7) : 1130 + i < nH h ∧ kH h (1130 + i) = (15, 64) := (hL.2.2 _ (List.mem_of_getElem? (i := 3) (a := (1129, 1130, 7, 15, 64)) rfl) i hi).1
theorem lr_wasDropped {h : AH} (hL : LayM h) {i : Nat} (hi : i < 7) : rH h 1129 i = some (1130 + i) := (hL.2.2 _ (List.mem_of_getElem? (i := 3) (a := (1129, 1130, 7, 15, 64)) rfl) i hi).2
theorem lk_costs {h : AH} (hL : LayM h) {i : Nat} (hi : i < 8) : 1143 + i < nH h ∧ kH h (1143 + i) = (13, 8) := (hL.2.2 _ (List.mem_of_getElem? (i := 4) (a := (1142, 1143, 8, 13, 8)) rfl) i hi).1
theorem lr_costs {h : AH} (hL : LayM h) {i : Nat} (hi : i < 8) : rH h 1142 i = some (1143 + i) := (hL.2.2 _ (List.mem_of_getElem? (i := 4) (a := (1142, 1143, 8, 13, 8)) rfl) i hi).2
theorem lk_marks {h : AH} (hL : LayM h) {i : Nat} (hi : i < 6) : 1152 + i < nH h ∧ kH h (1152 + i) = (13, 128) := (hL.2.2 _ (List.mem_of_getElem? (i := 5) (a := (1151, 1152, 6, 13, 128)) rfl) i hi).1
theorem lr_marks {h : AH} (hL : LayM h) {i : Nat} (hi : i < 6) : rH h 1151 i = some (1152 + i) := (hL.2.2 _ (List.mem_of_getElem? (i := 5) (a := (1151, 1152, 6, 13, 128)) rfl) i hi).2
theorem lk_items {h : AH} (hL : LayM h) {i : Nat} (hi : i < 4) : 1168 + i < nH h ∧ kH h (1168 + i) = (13, 40) := (hL.2.2 _ (List.mem_of_getElem? (i := 6) (a := (1167, 1168, 4, 13, 40)) rfl) i hi).1
theorem lr_items {h : AH} (hL : LayM h) {i : Nat} (hi : i < 4) : rH h 1167 i = some (1168 + i) := (hL.2.2 _ (List.mem_of_getElem? (i := 6) (a := (1167, 1168, 4, 13, 40)) rfl) i hi).2
