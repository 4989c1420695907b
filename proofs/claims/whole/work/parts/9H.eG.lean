def b_X12_init_0 : List IE := [(.aload_n 0, 1, 0, 0, 0, 0)]
theorem k_X12_init_0 : ckObj mX12_init 12 0 b_X12_init_0 1 1 = true := by decide +kernel
def b_X12_init_4 : List IE := [(.aload_n 0, 1, 0, 0, 0, 0), (.sipush 520, 3, 520, 0, 0, 0)]
theorem k_X12_init_4 : ckNewa mX12_init 12 4 b_X12_init_4 8 13 = true := by decide +kernel
def b_X12_init_10 : List IE := [(.putfield 9, 3, 0, 12, 1, 1), (.aload_n 0, 1, 0, 0, 0, 0), (.sipush 520, 3, 520, 0, 0, 0)]
theorem k_X12_init_10 : ckNewa mX12_init 12 10 b_X12_init_10 17 13 = true := by decide +kernel
def b_X12_init_19 : List IE := [(.putfield 13, 3, 0, 12, 2, 1), (.aload_n 0, 1, 0, 0, 0, 0), (.sipush 520, 3, 520, 0, 0, 0), (.bipush 12, 2, 12, 0, 0, 0)]
theorem k_X12_init_19 : ckMu mX12_init 12 19 b_X12_init_19 28 16 21 = true := by decide +kernel
def b_X12_init_32 : List IE := [(.putfield 18, 3, 0, 12, 3, 1), (.aload_n 0, 1, 0, 0, 0, 0), (.sipush 520, 3, 520, 0, 0, 0)]
theorem k_X12_init_32 : ckNewa mX12_init 12 32 b_X12_init_32 39 15 = true := by decide +kernel
def b_X12_init_41 : List IE := [(.putfield 21, 3, 0, 12, 4, 1), (.aload_n 0, 1, 0, 0, 0, 0), (.sipush 520, 3, 520, 0, 0, 0)]
theorem k_X12_init_41 : ckNewa mX12_init 12 41 b_X12_init_41 48 13 = true := by decide +kernel
def b_X12_init_50 : List IE := [(.putfield 25, 3, 0, 12, 6, 1), (.aload_n 0, 1, 0, 0, 0, 0), (.sipush 520, 3, 520, 0, 0, 0)]
theorem k_X12_init_50 : ckNewa mX12_init 12 50 b_X12_init_50 57 13 = true := by decide +kernel
def b_X12_init_59 : List IE := [(.putfield 28, 3, 0, 12, 7, 1), (.aload_n 0, 1, 0, 0, 0, 0), (.sipush 520, 3, 520, 0, 0, 0), (.bipush 64, 2, 64, 0, 0, 0)]
theorem k_X12_init_59 : ckMu mX12_init 12 59 b_X12_init_59 68 16 21 = true := by decide +kernel
def b_X12_init_72 : List IE := [(.putfield 31, 3, 0, 12, 8, 1), (.aload_n 0, 1, 0, 0, 0, 0), (.bipush 7, 2, 7, 0, 0, 0)]
theorem k_X12_init_72 : ckNewa mX12_init 12 72 b_X12_init_72 78 15 = true := by decide +kernel
def b_X12_init_80 : List IE := [(.putfield 34, 3, 0, 12, 9, 1), (.aload_n 0, 1, 0, 0, 0, 0), (.bipush 7, 2, 7, 0, 0, 0)]
theorem k_X12_init_80 : ckNewa mX12_init 12 80 b_X12_init_80 86 13 = true := by decide +kernel
def b_X12_init_88 : List IE := [(.putfield 37, 3, 0, 12, 10, 1), (.aload_n 0, 1, 0, 0, 0, 0), (.bipush 7, 2, 7, 0, 0, 0), (.bipush 8, 2, 8, 0, 0, 0)]
theorem k_X12_init_88 : ckMu mX12_init 12 88 b_X12_init_88 96 16 21 = true := by decide +kernel
def b_X12_init_100 : List IE := [(.putfield 40, 3, 0, 12, 11, 1), (.aload_n 0, 1, 0, 0, 0, 0), (.bipush 7, 2, 7, 0, 0, 0), (.bipush 64, 2, 64, 0, 0, 0)]
theorem k_X12_init_100 : ckMu mX12_init 12 100 b_X12_init_100 108 43 22 = true := by decide +kernel
def b_X12_init_112 : List IE := [(.putfield 45, 3, 0, 12, 12, 1), (.aload_n 0, 1, 0, 0, 0, 0), (.bipush 8, 2, 8, 0, 0, 0)]
theorem k_X12_init_112 : ckNewa mX12_init 12 112 b_X12_init_112 118 13 = true := by decide +kernel
def b_X12_init_120 : List IE := [(.putfield 48, 3, 0, 12, 14, 1), (.aload_n 0, 1, 0, 0, 0, 0), (.iconst 4, 1, 4, 0, 0, 0)]
theorem k_X12_init_120 : ckNewa mX12_init 12 120 b_X12_init_120 125 13 = true := by decide +kernel
def b_X12_init_127 : List IE := [(.putfield 51, 3, 0, 12, 16, 1), (.aload_n 0, 1, 0, 0, 0, 0), (.bipush 64, 2, 64, 0, 0, 0)]
theorem k_X12_init_127 : ckNewa mX12_init 12 127 b_X12_init_127 133 13 = true := by decide +kernel
def b_X12_init_135 : List IE := [(.putfield 54, 3, 0, 12, 17, 1), (.aload_n 0, 1, 0, 0, 0, 0), (.bipush 12, 2, 12, 0, 0, 0)]
theorem k_X12_init_135 : ckNewa mX12_init 12 135 b_X12_init_135 141 13 = true := by decide +kernel
def b_X12_init_143 : List IE := [(.putfield 57, 3, 0, 12, 19, 1), (.aload_n 0, 1, 0, 0, 0, 0), (.sipush 9999, 3, 9999, 0, 0, 0), (.putfield 60, 3, 0, 12, 23, 0), (.aload_n 0, 1, 0, 0, 0, 0), (.bipush 64, 2, 64, 0, 0, 0)]
theorem k_X12_init_143 : ckNewa mX12_init 12 143 b_X12_init_143 156 13 = true := by decide +kernel
def b_X12_init_158 : List IE := [(.putfield 64, 3, 0, 12, 28, 1), (.aload_n 0, 1, 0, 0, 0, 0), (.bipush 8, 2, 8, 0, 0, 0), (.bipush 8, 2, 8, 0, 0, 0)]
theorem k_X12_init_158 : ckMu mX12_init 12 158 b_X12_init_158 166 16 21 = true := by decide +kernel
def b_X12_init_170 : List IE := [(.putfield 67, 3, 0, 12, 29, 1), (.aload_n 0, 1, 0, 0, 0, 0), (.bipush 6, 2, 6, 0, 0, 0), (.sipush 128, 3, 128, 0, 0, 0)]
theorem k_X12_init_170 : ckMu mX12_init 12 170 b_X12_init_170 179 16 21 = true := by decide +kernel
def b_X12_init_183 : List IE := [(.putfield 70, 3, 0, 12, 31, 1), (.aload_n 0, 1, 0, 0, 0, 0), (.bipush 6, 2, 6, 0, 0, 0)]
theorem k_X12_init_183 : ckNewa mX12_init 12 183 b_X12_init_183 189 13 = true := by decide +kernel
def b_X12_init_191 : List IE := [(.putfield 73, 3, 0, 12, 32, 1), (.aload_n 0, 1, 0, 0, 0, 0), (.sipush 128, 3, 128, 0, 0, 0)]
theorem k_X12_init_191 : ckNewa mX12_init 12 191 b_X12_init_191 198 13 = true := by decide +kernel
def b_X12_init_200 : List IE := [(.putfield 76, 3, 0, 12, 33, 1), (.aload_n 0, 1, 0, 0, 0, 0), (.bipush 64, 2, 64, 0, 0, 0)]
theorem k_X12_init_200 : ckNewa mX12_init 12 200 b_X12_init_200 206 13 = true := by decide +kernel
def b_X12_init_208 : List IE := [(.putfield 79, 3, 0, 12, 41, 1), (.aload_n 0, 1, 0, 0, 0, 0), (.bipush 64, 2, 64, 0, 0, 0)]
theorem k_X12_init_208 : ckNewa mX12_init 12 208 b_X12_init_208 214 13 = true := by decide +kernel
def b_X12_init_216 : List IE := [(.putfield 82, 3, 0, 12, 44, 1), (.aload_n 0, 1, 0, 0, 0, 0), (.bipush 64, 2, 64, 0, 0, 0)]
theorem k_X12_init_216 : ckNewa mX12_init 12 216 b_X12_init_216 222 13 = true := by decide +kernel
def b_X12_init_224 : List IE := [(.putfield 85, 3, 0, 12, 45, 1), (.aload_n 0, 1, 0, 0, 0, 0), (.sipush 1040, 3, 1040, 0, 0, 0)]
theorem k_X12_init_224 : ckNewa mX12_init 12 224 b_X12_init_224 231 13 = true := by decide +kernel
def b_X12_init_233 : List IE := [(.putfield 88, 3, 0, 12, 48, 1), (.aload_n 0, 1, 0, 0, 0, 0), (.bipush 64, 2, 64, 0, 0, 0)]
theorem k_X12_init_233 : ckNewa mX12_init 12 233 b_X12_init_233 239 13 = true := by decide +kernel
def b_X12_init_241 : List IE := [(.putfield 91, 3, 0, 12, 49, 1), (.aload_n 0, 1, 0, 0, 0, 0), (.iconst 4, 1, 4, 0, 0, 0)]
theorem k_X12_init_241 : ckNewa mX12_init 12 241 b_X12_init_241 246 13 = true := by decide +kernel
def b_X12_init_248 : List IE := [(.dup, 1, 0, 0, 0, 0), (.iconst 0, 1, 0, 0, 0, 0), (.iconst (-1), 1, (-1), 0, 0, 0), (.iastore, 1, 0, 0, 0, 0), (.dup, 1, 0, 0, 0, 0), (.iconst 1, 1, 1, 0, 0, 0), (.iconst (-1), 1, (-1), 0, 0, 0), (.iastore, 1, 0, 0, 0, 0), (.dup, 1, 0, 0, 0, 0), (.iconst 2, 1, 2, 0, 0, 0), (.iconst (-1), 1, (-1), 0, 0, 0), (.iastore, 1, 0, 0, 0, 0), (.dup, 1, 0, 0, 0, 0), (.iconst 3, 1, 3, 0, 0, 0), (.iconst (-1), 1, (-1), 0, 0, 0), (.iastore, 1, 0, 0, 0, 0), (.putfield 94, 3, 0, 12, 50, 1), (.aload_n 0, 1, 0, 0, 0, 0), (.iconst 4, 1, 4, 0, 0, 0)]
theorem k_X12_init_248 : ckNewa mX12_init 12 248 b_X12_init_248 269 13 = true := by decide +kernel
def b_X12_init_271 : List IE := [(.putfield 97, 3, 0, 12, 51, 1), (.aload_n 0, 1, 0, 0, 0, 0), (.iconst 4, 1, 4, 0, 0, 0), (.bipush 40, 2, 40, 0, 0, 0)]
theorem k_X12_init_271 : ckMu mX12_init 12 271 b_X12_init_271 278 16 21 = true := by decide +kernel
def b_X12_init_282 : List IE := [(.putfield 100, 3, 0, 12, 52, 1), (.aload_n 0, 1, 0, 0, 0, 0), (.bipush 40, 2, 40, 0, 0, 0)]
theorem k_X12_init_282 : ckNewa mX12_init 12 282 b_X12_init_282 288 13 = true := by decide +kernel
def b_X12_init_290 : List IE := [(.putfield 103, 3, 0, 12, 53, 1), (.aload_n 0, 1, 0, 0, 0, 0), (.getfield 34, 3, 0, 12, 9, 1), (.iconst 5, 1, 5, 0, 0, 0), (.iconst 1, 1, 1, 0, 0, 0), (.bastore, 1, 0, 0, 0, 0)]
theorem k_X12_init_290 : ckV mX12_init 12 290 b_X12_init_290 300 = true := by decide +kernel
theorem s_X12_init_1 : Cond.methodLink mX12_init.1.cls 1 objectInit ∈ gt ∧ Cond.instanceMethod objectInit ∈ gt ∧ Cond.code objectInit ⟨#[0xb1]⟩ 1 none ∈ gt := ⟨gt_ok (List.mem_of_getElem? (i := 976) (by decide +kernel)) (by decide +kernel), gt_ok (List.mem_of_getElem? (i := 116) (by decide +kernel)) (by decide +kernel), gt_ok (List.mem_of_getElem? (i := 117) (by decide +kernel)) (by decide +kernel)⟩
theorem s_X12_init_28 : Cond.classLink mX12_init.1.cls 16 (muN 21) ∈ gt := gt_ok (List.mem_of_getElem? (i := 977) (by decide +kernel)) (by decide +kernel)
theorem s_X12_init_68 : Cond.classLink mX12_init.1.cls 16 (muN 21) ∈ gt := gt_ok (List.mem_of_getElem? (i := 977) (by decide +kernel)) (by decide +kernel)
theorem s_X12_init_96 : Cond.classLink mX12_init.1.cls 16 (muN 21) ∈ gt := gt_ok (List.mem_of_getElem? (i := 977) (by decide +kernel)) (by decide +kernel)
theorem s_X12_init_108 : Cond.classLink mX12_init.1.cls 43 (muN 22) ∈ gt := gt_ok (List.mem_of_getElem? (i := 979) (by decide +kernel)) (by decide +kernel)
theorem s_X12_init_166 : Cond.classLink mX12_init.1.cls 16 (muN 21) ∈ gt := gt_ok (List.mem_of_getElem? (i := 977) (by decide +kernel)) (by decide +kernel)
theorem s_X12_init_179 : Cond.classLink mX12_init.1.cls 16 (muN 21) ∈ gt := gt_ok (List.mem_of_getElem? (i := 977) (by decide +kernel)) (by decide +kernel)
theorem s_X12_init_278 : Cond.classLink mX12_init.1.cls 16 (muN 21) ∈ gt := gt_ok (List.mem_of_getElem? (i := 977) (by decide +kernel)) (by decide +kernel)
def cM1 : AH := (90, (nw cH192 12 0).2)
def cM2 : AH := (91, (nw cM1 13 520).2)
def cM3 : AH := sR cM2 89 1 (some 90)
def cM4 : AH := (92, (nw cM3 13 520).2)
def cM5 : AH := sR cM4 89 2 (some 91)
def cM6 : AH := (613, (mu cM5 21 520 13 12).2)
def cM7 : AH := sR cM6 89 3 (some 92)
def cM8 : AH := (614, (nw cM7 15 520).2)
def cM9 : AH := sR cM8 89 4 (some 613)
def cM10 : AH := (615, (nw cM9 13 520).2)
def cM11 : AH := sR cM10 89 6 (some 614)
def cM12 : AH := (616, (nw cM11 13 520).2)
def cM13 : AH := sR cM12 89 7 (some 615)
def cM14 : AH := (1137, (mu cM13 21 520 13 64).2)
def cM15 : AH := sR cM14 89 8 (some 616)
def cM16 : AH := (1138, (nw cM15 15 7).2)
def cM17 : AH := sR cM16 89 9 (some 1137)
def cM18 : AH := (1139, (nw cM17 13 7).2)
def cM19 : AH := sR cM18 89 10 (some 1138)
def cM20 : AH := (1147, (mu cM19 21 7 13 8).2)
def cM21 : AH := sR cM20 89 11 (some 1139)
def cM22 : AH := (1155, (mu cM21 22 7 15 64).2)
def cM23 : AH := sR cM22 89 12 (some 1147)
def cM24 : AH := (1156, (nw cM23 13 8).2)
def cM25 : AH := sR cM24 89 14 (some 1155)
def cM26 : AH := (1157, (nw cM25 13 4).2)
def cM27 : AH := sR cM26 89 16 (some 1156)
def cM28 : AH := (1158, (nw cM27 13 64).2)
def cM29 : AH := sR cM28 89 17 (some 1157)
def cM30 : AH := (1159, (nw cM29 13 12).2)
def cM31 : AH := sR cM30 89 19 (some 1158)
def cM32 : AH := sI cM31 89 23 9999
def cM33 : AH := (1160, (nw cM32 13 64).2)
def cM34 : AH := sR cM33 89 28 (some 1159)
def cM35 : AH := (1169, (mu cM34 21 8 13 8).2)
def cM36 : AH := sR cM35 89 29 (some 1160)
def cM37 : AH := (1176, (mu cM36 21 6 13 128).2)
def cM38 : AH := sR cM37 89 31 (some 1169)
def cM39 : AH := (1177, (nw cM38 13 6).2)
def cM40 : AH := sR cM39 89 32 (some 1176)
def cM41 : AH := (1178, (nw cM40 13 128).2)
def cM42 : AH := sR cM41 89 33 (some 1177)
def cM43 : AH := (1179, (nw cM42 13 64).2)
def cM44 : AH := sR cM43 89 41 (some 1178)
def cM45 : AH := (1180, (nw cM44 13 64).2)
def cM46 : AH := sR cM45 89 44 (some 1179)
def cM47 : AH := (1181, (nw cM46 13 64).2)
def cM48 : AH := sR cM47 89 45 (some 1180)
def cM49 : AH := (1182, (nw cM48 13 1040).2)
def cM50 : AH := sR cM49 89 48 (some 1181)
def cM51 : AH := (1183, (nw cM50 13 64).2)
def cM52 : AH := sR cM51 89 49 (some 1182)
def cM53 : AH := (1184, (nw cM52 13 4).2)
def cM54 : AH := sI cM53 1183 0 (-1)
def cM55 : AH := sI cM54 1183 1 (-1)
def cM56 : AH := sI cM55 1183 2 (-1)
def cM57 : AH := sI cM56 1183 3 (-1)
def cM58 : AH := sR cM57 89 50 (some 1183)
def cM59 : AH := (1185, (nw cM58 13 4).2)
def cM60 : AH := sR cM59 89 51 (some 1184)
def cM61 : AH := (1190, (mu cM60 21 4 13 40).2)
def cM62 : AH := sR cM61 89 52 (some 1185)
def cM63 : AH := (1191, (nw cM62 13 40).2)
def cM64 : AH := sR cM63 89 53 (some 1190)
def cM65 : AH := sI cM64 1137 5 1
theorem cMz1 : ZI [(87, 1, (-1)), (85, 1, (-1)), (83, 1, (-1)), (81, 1, (-1)), (11, 3, 1), (5, 3, 1), (0, 11, 9999)] cM1 := ZI_nw cHz192 (by decide +kernel)
theorem cMz2 : ZI [(87, 1, (-1)), (85, 1, (-1)), (83, 1, (-1)), (81, 1, (-1)), (11, 3, 1), (5, 3, 1), (0, 11, 9999)] cM2 := ZI_nw cMz1 (by decide +kernel)
theorem cMz3 : ZI [(87, 1, (-1)), (85, 1, (-1)), (83, 1, (-1)), (81, 1, (-1)), (11, 3, 1), (5, 3, 1), (0, 11, 9999)] cM3 := ZI_sR cMz2
theorem cMz4 : ZI [(87, 1, (-1)), (85, 1, (-1)), (83, 1, (-1)), (81, 1, (-1)), (11, 3, 1), (5, 3, 1), (0, 11, 9999)] cM4 := ZI_nw cMz3 (by decide +kernel)
theorem cMz5 : ZI [(87, 1, (-1)), (85, 1, (-1)), (83, 1, (-1)), (81, 1, (-1)), (11, 3, 1), (5, 3, 1), (0, 11, 9999)] cM5 := ZI_sR cMz4
theorem cMz6 : ZI [(87, 1, (-1)), (85, 1, (-1)), (83, 1, (-1)), (81, 1, (-1)), (11, 3, 1), (5, 3, 1), (0, 11, 9999)] cM6 := ZI_mu cMz5 (by decide +kernel)
theorem cMz7 : ZI [(87, 1, (-1)), (85, 1, (-1)), (83, 1, (-1)), (81, 1, (-1)), (11, 3, 1), (5, 3, 1), (0, 11, 9999)] cM7 := ZI_sR cMz6
theorem cMz8 : ZI [(87, 1, (-1)), (85, 1, (-1)), (83, 1, (-1)), (81, 1, (-1)), (11, 3, 1), (5, 3, 1), (0, 11, 9999)] cM8 := ZI_nw cMz7 (by decide +kernel)
theorem cMz9 : ZI [(87, 1, (-1)), (85, 1, (-1)), (83, 1, (-1)), (81, 1, (-1)), (11, 3, 1), (5, 3, 1), (0, 11, 9999)] cM9 := ZI_sR cMz8
theorem cMz10 : ZI [(87, 1, (-1)), (85, 1, (-1)), (83, 1, (-1)), (81, 1, (-1)), (11, 3, 1), (5, 3, 1), (0, 11, 9999)] cM10 := ZI_nw cMz9 (by decide +kernel)
theorem cMz11 : ZI [(87, 1, (-1)), (85, 1, (-1)), (83, 1, (-1)), (81, 1, (-1)), (11, 3, 1), (5, 3, 1), (0, 11, 9999)] cM11 := ZI_sR cMz10
theorem cMz12 : ZI [(87, 1, (-1)), (85, 1, (-1)), (83, 1, (-1)), (81, 1, (-1)), (11, 3, 1), (5, 3, 1), (0, 11, 9999)] cM12 := ZI_nw cMz11 (by decide +kernel)
theorem cMz13 : ZI [(87, 1, (-1)), (85, 1, (-1)), (83, 1, (-1)), (81, 1, (-1)), (11, 3, 1), (5, 3, 1), (0, 11, 9999)] cM13 := ZI_sR cMz12
theorem cMz14 : ZI [(87, 1, (-1)), (85, 1, (-1)), (83, 1, (-1)), (81, 1, (-1)), (11, 3, 1), (5, 3, 1), (0, 11, 9999)] cM14 := ZI_mu cMz13 (by decide +kernel)
theorem cMz15 : ZI [(87, 1, (-1)), (85, 1, (-1)), (83, 1, (-1)), (81, 1, (-1)), (11, 3, 1), (5, 3, 1), (0, 11, 9999)] cM15 := ZI_sR cMz14
theorem cMz16 : ZI [(87, 1, (-1)), (85, 1, (-1)), (83, 1, (-1)), (81, 1, (-1)), (11, 3, 1), (5, 3, 1), (0, 11, 9999)] cM16 := ZI_nw cMz15 (by decide +kernel)
theorem cMz17 : ZI [(87, 1, (-1)), (85, 1, (-1)), (83, 1, (-1)), (81, 1, (-1)), (11, 3, 1), (5, 3, 1), (0, 11, 9999)] cM17 := ZI_sR cMz16
theorem cMz18 : ZI [(87, 1, (-1)), (85, 1, (-1)), (83, 1, (-1)), (81, 1, (-1)), (11, 3, 1), (5, 3, 1), (0, 11, 9999)] cM18 := ZI_nw cMz17 (by decide +kernel)
theorem cMz19 : ZI [(87, 1, (-1)), (85, 1, (-1)), (83, 1, (-1)), (81, 1, (-1)), (11, 3, 1), (5, 3, 1), (0, 11, 9999)] cM19 := ZI_sR cMz18
theorem cMz20 : ZI [(87, 1, (-1)), (85, 1, (-1)), (83, 1, (-1)), (81, 1, (-1)), (11, 3, 1), (5, 3, 1), (0, 11, 9999)] cM20 := ZI_mu cMz19 (by decide +kernel)
theorem cMz21 : ZI [(87, 1, (-1)), (85, 1, (-1)), (83, 1, (-1)), (81, 1, (-1)), (11, 3, 1), (5, 3, 1), (0, 11, 9999)] cM21 := ZI_sR cMz20
theorem cMz22 : ZI [(87, 1, (-1)), (85, 1, (-1)), (83, 1, (-1)), (81, 1, (-1)), (11, 3, 1), (5, 3, 1), (0, 11, 9999)] cM22 := ZI_mu cMz21 (by decide +kernel)
theorem cMz23 : ZI [(87, 1, (-1)), (85, 1, (-1)), (83, 1, (-1)), (81, 1, (-1)), (11, 3, 1), (5, 3, 1), (0, 11, 9999)] cM23 := ZI_sR cMz22
theorem cMz24 : ZI [(87, 1, (-1)), (85, 1, (-1)), (83, 1, (-1)), (81, 1, (-1)), (11, 3, 1), (5, 3, 1), (0, 11, 9999)] cM24 := ZI_nw cMz23 (by decide +kernel)
theorem cMz25 : ZI [(87, 1, (-1)), (85, 1, (-1)), (83, 1, (-1)), (81, 1, (-1)), (11, 3, 1), (5, 3, 1), (0, 11, 9999)] cM25 := ZI_sR cMz24
theorem cMz26 : ZI [(87, 1, (-1)), (85, 1, (-1)), (83, 1, (-1)), (81, 1, (-1)), (11, 3, 1), (5, 3, 1), (0, 11, 9999)] cM26 := ZI_nw cMz25 (by decide +kernel)
theorem cMz27 : ZI [(87, 1, (-1)), (85, 1, (-1)), (83, 1, (-1)), (81, 1, (-1)), (11, 3, 1), (5, 3, 1), (0, 11, 9999)] cM27 := ZI_sR cMz26
theorem cMz28 : ZI [(87, 1, (-1)), (85, 1, (-1)), (83, 1, (-1)), (81, 1, (-1)), (11, 3, 1), (5, 3, 1), (0, 11, 9999)] cM28 := ZI_nw cMz27 (by decide +kernel)
theorem cMz29 : ZI [(87, 1, (-1)), (85, 1, (-1)), (83, 1, (-1)), (81, 1, (-1)), (11, 3, 1), (5, 3, 1), (0, 11, 9999)] cM29 := ZI_sR cMz28
theorem cMz30 : ZI [(87, 1, (-1)), (85, 1, (-1)), (83, 1, (-1)), (81, 1, (-1)), (11, 3, 1), (5, 3, 1), (0, 11, 9999)] cM30 := ZI_nw cMz29 (by decide +kernel)
theorem cMz31 : ZI [(87, 1, (-1)), (85, 1, (-1)), (83, 1, (-1)), (81, 1, (-1)), (11, 3, 1), (5, 3, 1), (0, 11, 9999)] cM31 := ZI_sR cMz30
theorem cMz32 : ZI [(89, 23, 9999), (87, 1, (-1)), (85, 1, (-1)), (83, 1, (-1)), (81, 1, (-1)), (11, 3, 1), (5, 3, 1), (0, 11, 9999)] cM32 := ZI_sI cMz31
theorem cMz33 : ZI [(89, 23, 9999), (87, 1, (-1)), (85, 1, (-1)), (83, 1, (-1)), (81, 1, (-1)), (11, 3, 1), (5, 3, 1), (0, 11, 9999)] cM33 := ZI_nw cMz32 (by decide +kernel)
theorem cMz34 : ZI [(89, 23, 9999), (87, 1, (-1)), (85, 1, (-1)), (83, 1, (-1)), (81, 1, (-1)), (11, 3, 1), (5, 3, 1), (0, 11, 9999)] cM34 := ZI_sR cMz33
theorem cMz35 : ZI [(89, 23, 9999), (87, 1, (-1)), (85, 1, (-1)), (83, 1, (-1)), (81, 1, (-1)), (11, 3, 1), (5, 3, 1), (0, 11, 9999)] cM35 := ZI_mu cMz34 (by decide +kernel)
theorem cMz36 : ZI [(89, 23, 9999), (87, 1, (-1)), (85, 1, (-1)), (83, 1, (-1)), (81, 1, (-1)), (11, 3, 1), (5, 3, 1), (0, 11, 9999)] cM36 := ZI_sR cMz35
theorem cMz37 : ZI [(89, 23, 9999), (87, 1, (-1)), (85, 1, (-1)), (83, 1, (-1)), (81, 1, (-1)), (11, 3, 1), (5, 3, 1), (0, 11, 9999)] cM37 := ZI_mu cMz36 (by decide +kernel)
theorem cMz38 : ZI [(89, 23, 9999), (87, 1, (-1)), (85, 1, (-1)), (83, 1, (-1)), (81, 1, (-1)), (11, 3, 1), (5, 3, 1), (0, 11, 9999)] cM38 := ZI_sR cMz37
theorem cMz39 : ZI [(89, 23, 9999), (87, 1, (-1)), (85, 1, (-1)), (83, 1, (-1)), (81, 1, (-1)), (11, 3, 1), (5, 3, 1), (0, 11, 9999)] cM39 := ZI_nw cMz38 (by decide +kernel)
theorem cMz40 : ZI [(89, 23, 9999), (87, 1, (-1)), (85, 1, (-1)), (83, 1, (-1)), (81, 1, (-1)), (11, 3, 1), (5, 3, 1), (0, 11, 9999)] cM40 := ZI_sR cMz39
theorem cMz41 : ZI [(89, 23, 9999), (87, 1, (-1)), (85, 1, (-1)), (83, 1, (-1)), (81, 1, (-1)), (11, 3, 1), (5, 3, 1), (0, 11, 9999)] cM41 := ZI_nw cMz40 (by decide +kernel)
theorem cMz42 : ZI [(89, 23, 9999), (87, 1, (-1)), (85, 1, (-1)), (83, 1, (-1)), (81, 1, (-1)), (11, 3, 1), (5, 3, 1), (0, 11, 9999)] cM42 := ZI_sR cMz41
theorem cMz43 : ZI [(89, 23, 9999), (87, 1, (-1)), (85, 1, (-1)), (83, 1, (-1)), (81, 1, (-1)), (11, 3, 1), (5, 3, 1), (0, 11, 9999)] cM43 := ZI_nw cMz42 (by decide +kernel)
theorem cMz44 : ZI [(89, 23, 9999), (87, 1, (-1)), (85, 1, (-1)), (83, 1, (-1)), (81, 1, (-1)), (11, 3, 1), (5, 3, 1), (0, 11, 9999)] cM44 := ZI_sR cMz43
theorem cMz45 : ZI [(89, 23, 9999), (87, 1, (-1)), (85, 1, (-1)), (83, 1, (-1)), (81, 1, (-1)), (11, 3, 1), (5, 3, 1), (0, 11, 9999)] cM45 := ZI_nw cMz44 (by decide +kernel)
theorem cMz46 : ZI [(89, 23, 9999), (87, 1, (-1)), (85, 1, (-1)), (83, 1, (-1)), (81, 1, (-1)), (11, 3, 1), (5, 3, 1), (0, 11, 9999)] cM46 := ZI_sR cMz45
theorem cMz47 : ZI [(89, 23, 9999), (87, 1, (-1)), (85, 1, (-1)), (83, 1, (-1)), (81, 1, (-1)), (11, 3, 1), (5, 3, 1), (0, 11, 9999)] cM47 := ZI_nw cMz46 (by decide +kernel)
theorem cMz48 : ZI [(89, 23, 9999), (87, 1, (-1)), (85, 1, (-1)), (83, 1, (-1)), (81, 1, (-1)), (11, 3, 1), (5, 3, 1), (0, 11, 9999)] cM48 := ZI_sR cMz47
theorem cMz49 : ZI [(89, 23, 9999), (87, 1, (-1)), (85, 1, (-1)), (83, 1, (-1)), (81, 1, (-1)), (11, 3, 1), (5, 3, 1), (0, 11, 9999)] cM49 := ZI_nw cMz48 (by decide +kernel)
theorem cMz50 : ZI [(89, 23, 9999), (87, 1, (-1)), (85, 1, (-1)), (83, 1, (-1)), (81, 1, (-1)), (11, 3, 1), (5, 3, 1), (0, 11, 9999)] cM50 := ZI_sR cMz49
theorem cMz51 : ZI [(89, 23, 9999), (87, 1, (-1)), (85, 1, (-1)), (83, 1, (-1)), (81, 1, (-1)), (11, 3, 1), (5, 3, 1), (0, 11, 9999)] cM51 := ZI_nw cMz50 (by decide +kernel)
theorem cMz52 : ZI [(89, 23, 9999), (87, 1, (-1)), (85, 1, (-1)), (83, 1, (-1)), (81, 1, (-1)), (11, 3, 1), (5, 3, 1), (0, 11, 9999)] cM52 := ZI_sR cMz51
theorem cMz53 : ZI [(89, 23, 9999), (87, 1, (-1)), (85, 1, (-1)), (83, 1, (-1)), (81, 1, (-1)), (11, 3, 1), (5, 3, 1), (0, 11, 9999)] cM53 := ZI_nw cMz52 (by decide +kernel)
theorem cMz54 : ZI [(1183, 0, (-1)), (89, 23, 9999), (87, 1, (-1)), (85, 1, (-1)), (83, 1, (-1)), (81, 1, (-1)), (11, 3, 1), (5, 3, 1), (0, 11, 9999)] cM54 := ZI_sI cMz53
theorem cMz55 : ZI [(1183, 1, (-1)), (1183, 0, (-1)), (89, 23, 9999), (87, 1, (-1)), (85, 1, (-1)), (83, 1, (-1)), (81, 1, (-1)), (11, 3, 1), (5, 3, 1), (0, 11, 9999)] cM55 := ZI_sI cMz54
theorem cMz56 : ZI [(1183, 2, (-1)), (1183, 1, (-1)), (1183, 0, (-1)), (89, 23, 9999), (87, 1, (-1)), (85, 1, (-1)), (83, 1, (-1)), (81, 1, (-1)), (11, 3, 1), (5, 3, 1), (0, 11, 9999)] cM56 := ZI_sI cMz55
theorem cMz57 : ZI [(1183, 3, (-1)), (1183, 2, (-1)), (1183, 1, (-1)), (1183, 0, (-1)), (89, 23, 9999), (87, 1, (-1)), (85, 1, (-1)), (83, 1, (-1)), (81, 1, (-1)), (11, 3, 1), (5, 3, 1), (0, 11, 9999)] cM57 := ZI_sI cMz56
theorem cMz58 : ZI [(1183, 3, (-1)), (1183, 2, (-1)), (1183, 1, (-1)), (1183, 0, (-1)), (89, 23, 9999), (87, 1, (-1)), (85, 1, (-1)), (83, 1, (-1)), (81, 1, (-1)), (11, 3, 1), (5, 3, 1), (0, 11, 9999)] cM58 := ZI_sR cMz57
theorem cMz59 : ZI [(1183, 3, (-1)), (1183, 2, (-1)), (1183, 1, (-1)), (1183, 0, (-1)), (89, 23, 9999), (87, 1, (-1)), (85, 1, (-1)), (83, 1, (-1)), (81, 1, (-1)), (11, 3, 1), (5, 3, 1), (0, 11, 9999)] cM59 := ZI_nw cMz58 (by decide +kernel)
theorem cMz60 : ZI [(1183, 3, (-1)), (1183, 2, (-1)), (1183, 1, (-1)), (1183, 0, (-1)), (89, 23, 9999), (87, 1, (-1)), (85, 1, (-1)), (83, 1, (-1)), (81, 1, (-1)), (11, 3, 1), (5, 3, 1), (0, 11, 9999)] cM60 := ZI_sR cMz59
theorem cMz61 : ZI [(1183, 3, (-1)), (1183, 2, (-1)), (1183, 1, (-1)), (1183, 0, (-1)), (89, 23, 9999), (87, 1, (-1)), (85, 1, (-1)), (83, 1, (-1)), (81, 1, (-1)), (11, 3, 1), (5, 3, 1), (0, 11, 9999)] cM61 := ZI_mu cMz60 (by decide +kernel)
theorem cMz62 : ZI [(1183, 3, (-1)), (1183, 2, (-1)), (1183, 1, (-1)), (1183, 0, (-1)), (89, 23, 9999), (87, 1, (-1)), (85, 1, (-1)), (83, 1, (-1)), (81, 1, (-1)), (11, 3, 1), (5, 3, 1), (0, 11, 9999)] cM62 := ZI_sR cMz61
theorem cMz63 : ZI [(1183, 3, (-1)), (1183, 2, (-1)), (1183, 1, (-1)), (1183, 0, (-1)), (89, 23, 9999), (87, 1, (-1)), (85, 1, (-1)), (83, 1, (-1)), (81, 1, (-1)), (11, 3, 1), (5, 3, 1), (0, 11, 9999)] cM63 := ZI_nw cMz62 (by decide +kernel)
theorem cMz64 : ZI [(1183, 3, (-1)), (1183, 2, (-1)), (1183, 1, (-1)), (1183, 0, (-1)), (89, 23, 9999), (87, 1, (-1)), (85, 1, (-1)), (83, 1, (-1)), (81, 1, (-1)), (11, 3, 1), (5, 3, 1), (0, 11, 9999)] cM64 := ZI_sR cMz63
theorem cMz65 : ZI [(1137, 5, 1), (1183, 3, (-1)), (1183, 2, (-1)), (1183, 1, (-1)), (1183, 0, (-1)), (89, 23, 9999), (87, 1, (-1)), (85, 1, (-1)), (83, 1, (-1)), (81, 1, (-1)), (11, 3, 1), (5, 3, 1), (0, 11, 9999)] cM65 := ZI_sI cMz64
theorem cMt1 : wp mX12_init 1 0 0 (QV fun h => h = cM65) 290 [some (vr 89)] [vr 1190, vr 89] cM63 := xV k_X12_init_290 (And.intro (by decide +kernel) (And.intro (by decide +kernel) (Exists.intro 1137 (And.intro (by decide +kernel) (And.intro (by decide +kernel) (And.intro rfl (And.intro rfl rfl)))))))
theorem cMt2 : wp mX12_init 1 1 40 (QV fun h => h = cM65) 282 [some (vr 89)] [vr 1185, vr 89] cM61 := xNewa k_X12_init_282 (And.intro (by decide +kernel) (And.intro (by decide) cMt1))
theorem cMt3 : wp mX12_init 1 6 204 (QV fun h => h = cM65) 271 [some (vr 89)] [vr 1184, vr 89] cM59 := xMulti k_X12_init_271 s_X12_init_278 (And.intro (by decide +kernel) (And.intro (by decide) cMt2))
theorem cMt4 : wp mX12_init 1 7 208 (QV fun h => h = cM65) 248 [some (vr 89)] [vr 1183, vr 89] cM53 := xNewa k_X12_init_248 (And.intro rfl (And.intro (by decide +kernel) (And.intro rfl (And.intro (by decide +kernel) (And.intro rfl (And.intro (by decide +kernel) (And.intro rfl (And.intro (by decide +kernel) (And.intro (by decide +kernel) (And.intro (by decide) cMt3))))))))))
theorem cMt5 : wp mX12_init 1 8 212 (QV fun h => h = cM65) 241 [some (vr 89)] [vr 1182, vr 89] cM51 := xNewa k_X12_init_241 (And.intro (by decide +kernel) (And.intro (by decide) cMt4))
theorem cMt6 : wp mX12_init 1 9 276 (QV fun h => h = cM65) 233 [some (vr 89)] [vr 1181, vr 89] cM49 := xNewa k_X12_init_233 (And.intro (by decide +kernel) (And.intro (by decide) cMt5))
theorem cMt7 : wp mX12_init 1 10 1316 (QV fun h => h = cM65) 224 [some (vr 89)] [vr 1180, vr 89] cM47 := xNewa k_X12_init_224 (And.intro (by decide +kernel) (And.intro (by decide) cMt6))
theorem cMt8 : wp mX12_init 1 11 1380 (QV fun h => h = cM65) 216 [some (vr 89)] [vr 1179, vr 89] cM45 := xNewa k_X12_init_216 (And.intro (by decide +kernel) (And.intro (by decide) cMt7))
theorem cMt9 : wp mX12_init 1 12 1444 (QV fun h => h = cM65) 208 [some (vr 89)] [vr 1178, vr 89] cM43 := xNewa k_X12_init_208 (And.intro (by decide +kernel) (And.intro (by decide) cMt8))
theorem cMt10 : wp mX12_init 1 13 1508 (QV fun h => h = cM65) 200 [some (vr 89)] [vr 1177, vr 89] cM41 := xNewa k_X12_init_200 (And.intro (by decide +kernel) (And.intro (by decide) cMt9))
theorem cMt11 : wp mX12_init 1 14 1636 (QV fun h => h = cM65) 191 [some (vr 89)] [vr 1176, vr 89] cM39 := xNewa k_X12_init_191 (And.intro (by decide +kernel) (And.intro (by decide) cMt10))
theorem cMt12 : wp mX12_init 1 15 1642 (QV fun h => h = cM65) 183 [some (vr 89)] [vr 1169, vr 89] cM37 := xNewa k_X12_init_183 (And.intro (by decide +kernel) (And.intro (by decide) cMt11))
theorem cMt13 : wp mX12_init 1 22 2416 (QV fun h => h = cM65) 170 [some (vr 89)] [vr 1160, vr 89] cM35 := xMulti k_X12_init_170 s_X12_init_179 (And.intro (by decide +kernel) (And.intro (by decide) cMt12))
theorem cMt14 : wp mX12_init 1 31 2488 (QV fun h => h = cM65) 158 [some (vr 89)] [vr 1159, vr 89] cM33 := xMulti k_X12_init_158 s_X12_init_166 (And.intro (by decide +kernel) (And.intro (by decide) cMt13))
theorem cMt15 : wp mX12_init 1 32 2552 (QV fun h => h = cM65) 143 [some (vr 89)] [vr 1158, vr 89] cM30 := xNewa k_X12_init_143 (And.intro (by decide +kernel) (And.intro (by decide +kernel) (And.intro (by decide) cMt14)))
theorem cMt16 : wp mX12_init 1 33 2564 (QV fun h => h = cM65) 135 [some (vr 89)] [vr 1157, vr 89] cM28 := xNewa k_X12_init_135 (And.intro (by decide +kernel) (And.intro (by decide) cMt15))
theorem cMt17 : wp mX12_init 1 34 2628 (QV fun h => h = cM65) 127 [some (vr 89)] [vr 1156, vr 89] cM26 := xNewa k_X12_init_127 (And.intro (by decide +kernel) (And.intro (by decide) cMt16))
theorem cMt18 : wp mX12_init 1 35 2632 (QV fun h => h = cM65) 120 [some (vr 89)] [vr 1155, vr 89] cM24 := xNewa k_X12_init_120 (And.intro (by decide +kernel) (And.intro (by decide) cMt17))
theorem cMt19 : wp mX12_init 1 36 2640 (QV fun h => h = cM65) 112 [some (vr 89)] [vr 1147, vr 89] cM22 := xNewa k_X12_init_112 (And.intro (by decide +kernel) (And.intro (by decide) cMt18))
theorem cMt20 : wp mX12_init 1 44 3095 (QV fun h => h = cM65) 100 [some (vr 89)] [vr 1139, vr 89] cM20 := xMulti k_X12_init_100 s_X12_init_108 (And.intro (by decide +kernel) (And.intro (by decide) cMt19))
theorem cMt21 : wp mX12_init 1 52 3158 (QV fun h => h = cM65) 88 [some (vr 89)] [vr 1138, vr 89] cM18 := xMulti k_X12_init_88 s_X12_init_96 (And.intro (by decide +kernel) (And.intro (by decide) cMt20))
theorem cMt22 : wp mX12_init 1 53 3165 (QV fun h => h = cM65) 80 [some (vr 89)] [vr 1137, vr 89] cM16 := xNewa k_X12_init_80 (And.intro (by decide +kernel) (And.intro (by decide) cMt21))
theorem cMt23 : wp mX12_init 1 54 3172 (QV fun h => h = cM65) 72 [some (vr 89)] [vr 616, vr 89] cM14 := xNewa k_X12_init_72 (And.intro (by decide +kernel) (And.intro (by decide) cMt22))
theorem cMt24 : wp mX12_init 1 575 36972 (QV fun h => h = cM65) 59 [some (vr 89)] [vr 615, vr 89] cM12 := xMulti k_X12_init_59 s_X12_init_68 (And.intro (by decide +kernel) (And.intro (by decide) cMt23))
theorem cMt25 : wp mX12_init 1 576 37492 (QV fun h => h = cM65) 50 [some (vr 89)] [vr 614, vr 89] cM10 := xNewa k_X12_init_50 (And.intro (by decide +kernel) (And.intro (by decide) cMt24))
theorem cMt26 : wp mX12_init 1 577 38012 (QV fun h => h = cM65) 41 [some (vr 89)] [vr 613, vr 89] cM8 := xNewa k_X12_init_41 (And.intro (by decide +kernel) (And.intro (by decide) cMt25))
theorem cMt27 : wp mX12_init 1 578 38532 (QV fun h => h = cM65) 32 [some (vr 89)] [vr 92, vr 89] cM6 := xNewa k_X12_init_32 (And.intro (by decide +kernel) (And.intro (by decide) cMt26))
theorem cMt28 : wp mX12_init 1 1099 45292 (QV fun h => h = cM65) 19 [some (vr 89)] [vr 91, vr 89] cM4 := xMulti k_X12_init_19 s_X12_init_28 (And.intro (by decide +kernel) (And.intro (by decide) cMt27))
theorem cMt29 : wp mX12_init 1 1100 45812 (QV fun h => h = cM65) 10 [some (vr 89)] [vr 90, vr 89] cM2 := xNewa k_X12_init_10 (And.intro (by decide +kernel) (And.intro (by decide) cMt28))
theorem cMt30 : wp mX12_init 1 1101 46332 (QV fun h => h = cM65) 4 [some (vr 89)] [] cM1 := xNewa k_X12_init_4 (And.intro (by decide) cMt29)
theorem cMt31 : wp mX12_init 1 1101 46332 (QV fun h => h = cM65) 0 [some (vr 89)] [] cM1 := xObj k_X12_init_0 s_X12_init_1 (And.intro (And.intro (by decide) (by decide)) cMt30)
theorem cMok : Ct 1 1101 46332 mX12_init [vr 89] cM1 (QV fun h => h = cM65) := Ct.of (by decide +kernel) (by decide) cMt31
section
/-! AT THE START: all that is to hold, holds -/
theorem layL_0 : LayL cM65 := by unfold LayL; decide +kernel
theorem layM_0 : LayM cM65 := by unfold LayM; decide +kernel
theorem z_0 {x : Nat} (y : Nat) (c1 : ¬ (x = 1183 ∨ x = 89 ∨ x = 1137 ∨ (x ≤ 87 ∧ (x = 87 ∨ x = 85 ∨ x = 83 ∨ x = 81 ∨ x = 11 ∨ x = 5 ∨ x = 0)))) : iH cM65 x y = 0 := by
  rw [cMz65 x y]
  simp only [zLook]
  repeat' rw [if_neg (by omega)]
theorem z_71 {y : Nat} (c1 : y ≠ 23) : iH cM65 89 y = 0 := by
  rw [cMz65 89 y]
  simp only [zLook]
  repeat' rw [if_neg (by omega)]
theorem z_c0 {y : Nat} (c1 : y ≠ 11) : iH cM65 0 y = 0 := by
  rw [cMz65 0 y]
  simp only [zLook]
  repeat' rw [if_neg (by omega)]
theorem z_st {x y : Nat} (c1 : x ≤ 80) (c2 : x ≠ 0) (c3 : y ≠ 3) : iH cM65 x y = 0 := by
  rw [cMz65 x y]
  simp only [zLook]
  repeat' rw [if_neg (by omega)]
theorem z_sh {x y : Nat} (c1 : 81 ≤ x) (c2 : x ≤ 88) (c3 : y ≠ 1) : iH cM65 x y = 0 := by
  rw [cMz65 x y]
  simp only [zLook]
  repeat' rw [if_neg (by omega)]
theorem z_1119 {y : Nat} (c3 : y ≠ 5) : iH cM65 1137 y = 0 := by
  rw [cMz65 1137 y]
  simp only [zLook]
  repeat' rw [if_neg (by omega)]
theorem z_g {x y : Nat} (c1 : 90 ≤ x) (c2 : x ≠ 1183) (c3 : x ≠ 1137) : iH cM65 x y = 0 := z_0 y (by omega)
theorem z_std {sa : Nat → Nat} {a : Nat} {n : Int} {row : Nat → Int} {dr : Nat → Nat → Prop} (e : iH cM65 a 2 = 0) (en : n = 0) : cStd cM65 cM65 sa a n row dr := by
  subst en
  exact ⟨e, ⟨by omega, by omega⟩, fun s hs => absurd hs (by omega)⟩
theorem avT_62 {t : Nat} (ht : t < 6) : 8 ≤ avT t ∧ avT t ≤ 45 := by
  unfold avT
  split
  · omega
  · split <;> omega
theorem kSta_0 : kSta cM65 cM65 (fun d => d) (fun x => x) := by
  have d0 : iH cM65 89 0 = 0 := z_71 (by omega)
  have s0 : iH cM65 89 5 = 0 := z_71 (by omega)
  have n0 : iH cM65 89 13 = 0 := z_71 (by omega)
  have c0 : ∀ t, iH cM65 1138 t = 0 := fun t => z_g (by omega) (by omega) (by omega)
  have cn : ∀ j, cntH cM65 j = 0 := fun j => by
    unfold cntH
    split
    · exact n0
    · exact c0 _
  refine ⟨⟨⟨fun d hd => absurd hd (by omega), fun x hx => absurd hx (by omega), z_std (z_st (by omega) (by omega) (by omega)) n0⟩, fun t ht => z_std (z_st (by have := avT_62 ht; omega) (by have := avT_62 ht; omega) (by omega)) (c0 t), fun t ht => ?_, ?_, ?_, fun _ => c0 5⟩, ⟨fun j hj s s' h1 h2 => absurd h2 (by rw [cn]; omega), ?_, fun t ht => ⟨?_, fun k hk => Or.inl (z_g (by omega) (by omega) (by omega))⟩, fun d hd => Or.inl (z_g (by omega) (by omega) (by omega))⟩, fun j hj s s' h1 h2 => absurd h2 (by rw [cn]; omega), fun x hx h1 => absurd h1 (by omega)⟩
  · have e : iH cM65 1137 t = 0 := z_1119 (by omega)
    rw [e]
    refine ⟨?_, Or.inl rfl⟩
    have : t = 0 ∨ t = 1 ∨ t = 2 ∨ t = 3 ∨ t = 4 := by omega
    rcases this with rfl | rfl | rfl | rfl | rfl <;> exact z_0 _ (by decide)
  · rw [cMz65]; rfl
  · rw [cMz65]; rfl
  · unfold m_held; rw [n0]; show sumN _ 0 ≤ 64; unfold sumN; omega
  · unfold m_offT; rw [c0]; show sumN _ 0 ≤ 64; unfold sumN; omega
theorem kB_0 : kB cM65 cM65 (fun d => d) := by
  have e : iH cM65 89 15 = 0 := z_71 (by omega)
  refine ⟨⟨by rw [e]; exact z_c0 (by omega), by rw [e]; omega, fun k hk => absurd hk (by omega)⟩, fun i hi => absurd hi (by omega)⟩
theorem rZ_0 : rZ cM65 := fun d hd h1 => z_g (by omega) (by omega) (by omega)
theorem kMg_0' : kMg cM65 cM65 := by
  have e : iH cM65 89 24 = 0 := z_71 (by omega)
  exact ⟨by rw [e]; exact z_st (by omega) (by omega) (by omega), fun c => absurd e c⟩
theorem kSm_0 : kSm cM65 cM65 0 := by
  have d0 : iH cM65 89 0 = 0 := z_71 (by omega)
  have s0 : iH cM65 89 5 = 0 := z_71 (by omega)
  have t0 : iH cM65 89 18 = 0 := z_71 (by omega)
  have l0 : iH cM65 89 46 = 0 := z_71 (by omega)
  have l1 : iH cM65 89 47 = 0 := z_71 (by omega)
  have q0 : iH cM65 89 30 = 0 := z_71 (by omega)
  have p1 : iH cM65 89 21 = 0 := z_71 (by omega)
  have p2 : iH cM65 89 22 = 0 := z_71 (by omega)
  have p3 : iH cM65 89 23 = 9999 := by rw [cMz65]; rfl
  have e6 : iH cM65 1138 6 = 0 := z_g (by omega) (by omega) (by omega)
  have dn : d_n cM65 = 0 := by unfold d_n; rw [t0]; rfl
  refine ⟨⟨by rw [s0]; exact z_c0 (by omega), by omega, by omega⟩, ⟨⟨by rw [p1]; exact z_st (by omega) (by omega) (by omega), by omega, by rw [p2]; exact z_st (by omega) (by omega) (by omega), by omega⟩, ?_, by omega, by omega⟩, ⟨⟨by rw [t0]; exact z_st (by omega) (by omega) (by omega), by omega, fun k hk => absurd hk (by omega)⟩, fun k hk => absurd hk (by omega)⟩, fun s hs => ?_, ⟨⟨by rw [l0]; exact z_st (by omega) (by omega) (by omega), by omega⟩, ⟨?_, by omega⟩, fun k h1 h2 => absurd h2 (by omega)⟩, ⟨by rw [q0]; exact z_c0 (by omega), by omega, fun q hq => absurd hq (by omega)⟩, fun d hd => absurd hd (by omega), fun i j hi hj => ?_, ⟨by omega, by omega⟩, by omega, by omega, by omega, by omega, by omega⟩
  · rw [p3, cMz65]; rfl
  · have e1 : iH cM65 1184 s = 0 := z_g (by omega) (by omega) (by omega)
    have e2 : iH cM65 1183 s = -1 := by
      have : s = 0 ∨ s = 1 ∨ s = 2 ∨ s = 3 := by omega
      rcases this with rfl | rfl | rfl | rfl <;> (rw [cMz65]; rfl)
    refine ⟨?_, by rw [e1]; exact z_sh (by omega) (by omega) (by omega), by omega, fun k hk => absurd hk (by omega)⟩
    rw [e2]
    have : s = 0 ∨ s = 1 ∨ s = 2 ∨ s = 3 := by omega
    rcases this with rfl | rfl | rfl | rfl <;> (rw [cMz65]; rfl)
  · rw [l1]; exact z_st (by omega) (by omega) (by omega)
  · have : m_cst cM65 i j = 0 := by unfold m_cst; exact z_g (by omega) (by omega) (by omega)
    omega
theorem Inv_0 : Inv cM65 0 := ⟨layL_0, layM_0, _, _, kSta_0, kB_0, rZ_0, kMg_0', kSm_0, Nat.le_refl _⟩
end
