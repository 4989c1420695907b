/-! the classes by number; which entry of a class file is which field (and where the table says so) -/
def rx : Nat → String := fun c => match c with
  | 0 => RX0
  | 1 => RX1
  | 2 => RX2
  | 3 => RX3
  | 4 => RX4
  | 5 => RX5
  | 6 => RX6
  | 7 => RX7
  | 8 => RX8
  | 9 => RX9
  | 10 => RX10
  | 11 => RX11
  | 12 => RX12
  | _ => RL
def tf : Nat → u_T := fun c => match c with
  | 0 => TX0
  | 1 => TX1
  | 2 => TX2
  | 3 => TX3
  | 4 => TX4
  | 5 => TX5
  | 6 => TX6
  | 7 => TX7
  | 8 => TX8
  | 9 => TX9
  | 10 => TX10
  | 11 => TX11
  | 12 => TX12
  | _ => TX0
def tyf : Nat → Nat → FieldType := fun c => match c with
  | 0 => tyX0
  | 1 => tyX1
  | 2 => tyX2
  | 3 => tyX3
  | 4 => tyX4
  | 5 => tyX5
  | 6 => tyX6
  | 7 => tyX7
  | 8 => tyX8
  | 9 => tyX9
  | 10 => tyX10
  | 11 => tyX11
  | 12 => tyX12
  | _ => tyX0
def nf (c : Nat) : Nat := (fR c).length
theorem lt13 {c : Nat} (h : c < 13) : c = 0 ∨ c = 1 ∨ c = 2 ∨ c = 3 ∨ c = 4 ∨ c = 5 ∨ c = 6 ∨ c = 7 ∨ c = 8 ∨ c = 9 ∨ c = 10 ∨ c = 11 ∨ c = 12 := by omega
theorem vwAt {c : Nat} (h : c < 13) : vwCl[c]? = some (rx c, tf c, nf c) := by
  rcases lt13 h with rfl | rfl | rfl | rfl | rfl | rfl | rfl | rfl | rfl | rfl | rfl | rfl | rfl <;> rfl
theorem tyAt {c : Nat} (h : c < 13) : ∀ k, k < nf c → parseFieldDescriptor (tf c k).2.2.1 = some (tyf c k) := by
  rcases lt13 h with rfl | rfl | rfl | rfl | rfl | rfl | rfl | rfl | rfl | rfl | rfl | rfl | rfl
  · exact tyX0_ok
  · exact tyX1_ok
  · exact tyX2_ok
  · exact tyX3_ok
  · exact tyX4_ok
  · exact tyX5_ok
  · exact tyX6_ok
  · exact tyX7_ok
  · exact tyX8_ok
  · exact tyX9_ok
  · exact tyX10_ok
  · exact tyX11_ok
  · exact tyX12_ok
theorem nmAt {c : Nat} (h : c < 13) : ∀ a, a < nf c → ∀ b, b < nf c → a ≠ b → (tf c a).2.1 ≠ (tf c b).2.1 := by
  rcases lt13 h with rfl | rfl | rfl | rfl | rfl | rfl | rfl | rfl | rfl | rfl | rfl | rfl | rfl
  · exact nmX0
  · exact nmX1
  · exact nmX2
  · exact nmX3
  · exact nmX4
  · exact nmX5
  · exact nmX6
  · exact nmX7
  · exact nmX8
  · exact nmX9
  · exact nmX10
  · exact nmX11
  · exact nmX12
theorem zipG : ∀ {l : List Cond} {n : List Nat}, (l.zip n).all (fun q => decide (lw_tbl[q.2]? = some q.1) && goodWord q.1) = true → l.length = n.length → ∀ w ∈ l, w ∈ gt
  | [], _, _, _, w, h => by cases h
  | x :: l, [], _, e, w, h => by simp at e
  | x :: l, k :: n, ha, e, w, h => by
    simp only [List.zip_cons_cons, List.all_cons, Bool.and_eq_true, decide_eq_true_eq] at ha
    rcases List.mem_cons.mp h with rfl | h
    · exact gt_ok (List.mem_of_getElem? ha.1.1) ha.1.2
    · exact zipG ha.2 (by simpa using e) w h
theorem inG0 : ∀ w ∈ u_ws RX0 TX0 2, w ∈ gt := by
  have h : ((u_ws RX0 TX0 2).zip [468, 470]).all (fun q => decide (lw_tbl[q.2]? = some q.1) && goodWord q.1) = true := by decide +kernel
  have e : (u_ws RX0 TX0 2).length = 2 := by decide +kernel
  exact zipG h (by rw [e]; rfl)
theorem inG1 : ∀ w ∈ u_ws RX1 TX1 5, w ∈ gt := by
  have h : ((u_ws RX1 TX1 5).zip [283, 285, 287, 289, 291]).all (fun q => decide (lw_tbl[q.2]? = some q.1) && goodWord q.1) = true := by decide +kernel
  have e : (u_ws RX1 TX1 5).length = 5 := by decide +kernel
  exact zipG h (by rw [e]; rfl)
theorem inG2 : ∀ w ∈ u_ws RX2 TX2 3, w ∈ gt := by
  have h : ((u_ws RX2 TX2 3).zip [258, 260, 262]).all (fun q => decide (lw_tbl[q.2]? = some q.1) && goodWord q.1) = true := by decide +kernel
  have e : (u_ws RX2 TX2 3).length = 3 := by decide +kernel
  exact zipG h (by rw [e]; rfl)
theorem inG3 : ∀ w ∈ u_ws RX3 TX3 4, w ∈ gt := by
  have h : ((u_ws RX3 TX3 4).zip [206, 208, 210, 212]).all (fun q => decide (lw_tbl[q.2]? = some q.1) && goodWord q.1) = true := by decide +kernel
  have e : (u_ws RX3 TX3 4).length = 4 := by decide +kernel
  exact zipG h (by rw [e]; rfl)
theorem inG4 : ∀ w ∈ u_ws RX4 TX4 2, w ∈ gt := by
  have h : ((u_ws RX4 TX4 2).zip [188, 190]).all (fun q => decide (lw_tbl[q.2]? = some q.1) && goodWord q.1) = true := by decide +kernel
  have e : (u_ws RX4 TX4 2).length = 2 := by decide +kernel
  exact zipG h (by rw [e]; rfl)
theorem inG5 : ∀ w ∈ u_ws RX5 TX5 7, w ∈ gt := by
  have h : ((u_ws RX5 TX5 7).zip [306, 308, 310, 312, 314, 316, 318]).all (fun q => decide (lw_tbl[q.2]? = some q.1) && goodWord q.1) = true := by decide +kernel
  have e : (u_ws RX5 TX5 7).length = 7 := by decide +kernel
  exact zipG h (by rw [e]; rfl)
theorem inG6 : ∀ w ∈ u_ws RX6 TX6 8, w ∈ gt := by
  have h : ((u_ws RX6 TX6 8).zip [231, 233, 235, 237, 239, 241, 243, 245]).all (fun q => decide (lw_tbl[q.2]? = some q.1) && goodWord q.1) = true := by decide +kernel
  have e : (u_ws RX6 TX6 8).length = 8 := by decide +kernel
  exact zipG h (by rw [e]; rfl)
theorem inG7 : ∀ w ∈ u_ws RX7 TX7 7, w ∈ gt := by
  have h : ((u_ws RX7 TX7 7).zip [564, 566, 568, 570, 572, 574, 576]).all (fun q => decide (lw_tbl[q.2]? = some q.1) && goodWord q.1) = true := by decide +kernel
  have e : (u_ws RX7 TX7 7).length = 7 := by decide +kernel
  exact zipG h (by rw [e]; rfl)
theorem inG8 : ∀ w ∈ u_ws RX8 TX8 3, w ∈ gt := by
  have h : ((u_ws RX8 TX8 3).zip [331, 333, 335]).all (fun q => decide (lw_tbl[q.2]? = some q.1) && goodWord q.1) = true := by decide +kernel
  have e : (u_ws RX8 TX8 3).length = 3 := by decide +kernel
  exact zipG h (by rw [e]; rfl)
theorem inG9 : ∀ w ∈ u_ws RX9 TX9 4, w ∈ gt := by
  have h : ((u_ws RX9 TX9 4).zip [167, 169, 171, 173]).all (fun q => decide (lw_tbl[q.2]? = some q.1) && goodWord q.1) = true := by decide +kernel
  have e : (u_ws RX9 TX9 4).length = 4 := by decide +kernel
  exact zipG h (by rw [e]; rfl)
theorem inG10 : ∀ w ∈ u_ws RX10 TX10 4, w ∈ gt := by
  have h : ((u_ws RX10 TX10 4).zip [131, 133, 135, 137]).all (fun q => decide (lw_tbl[q.2]? = some q.1) && goodWord q.1) = true := by decide +kernel
  have e : (u_ws RX10 TX10 4).length = 4 := by decide +kernel
  exact zipG h (by rw [e]; rfl)
theorem inG11 : ∀ w ∈ u_ws RX11 TX11 20, w ∈ gt := by
  have h : ((u_ws RX11 TX11 20).zip [358, 360, 362, 364, 366, 368, 370, 372, 374, 376, 378, 380, 382, 384, 386, 388, 390, 392, 394, 396]).all (fun q => decide (lw_tbl[q.2]? = some q.1) && goodWord q.1) = true := by decide +kernel
  have e : (u_ws RX11 TX11 20).length = 20 := by decide +kernel
  exact zipG h (by rw [e]; rfl)
theorem inG12 : ∀ w ∈ u_ws RX12 TX12 54, w ∈ gt := by
  have h : ((u_ws RX12 TX12 54).zip [1035, 1037, 1039, 1041, 1043, 1045, 1047, 1049, 1051, 1053, 1055, 1057, 1059, 1061, 1063, 1065, 1067, 1069, 1071, 1073, 1075, 1077, 1079, 1081, 1083, 1085, 1087, 1089, 1091, 1093, 1095, 1097, 1099, 1101, 1103, 1105, 1107, 1109, 1111, 1113, 1115, 1117, 1119, 1121, 1123, 1125, 1127, 1129, 1131, 1133, 1135, 1137, 1139, 1141]).all (fun q => decide (lw_tbl[q.2]? = some q.1) && goodWord q.1) = true := by decide +kernel
  have e : (u_ws RX12 TX12 54).length = 54 := by decide +kernel
  exact zipG h (by rw [e]; rfl)
theorem inG {c : Nat} (h : c < 13) : ∀ w ∈ u_ws (rx c) (tf c) (nf c), w ∈ gt := by
  rcases lt13 h with rfl | rfl | rfl | rfl | rfl | rfl | rfl | rfl | rfl | rfl | rfl | rfl | rfl
  · exact inG0
  · exact inG1
  · exact inG2
  · exact inG3
  · exact inG4
  · exact inG5
  · exact inG6
  · exact inG7
  · exact inG8
  · exact inG9
  · exact inG10
  · exact inG11
  · exact inG12
def flT : List (Nat × Nat × Nat × Nat × Nat) := [(10, 9, 10, 0, 124), (6, 71, 10, 0, 125), (10, 18, 10, 1, 126), (11, 112, 10, 1, 127), (6, 55, 10, 1, 128), (10, 15, 10, 2, 129), (10, 22, 10, 3, 130), (9, 11, 9, 0, 151), (1, 32, 9, 0, 152), (3, 31, 9, 0, 153), (4, 34, 9, 0, 154), (5, 51, 9, 0, 155), (11, 182, 9, 0, 156), (9, 17, 9, 1, 157), (3, 26, 9, 1, 158), (11, 154, 9, 1, 159), (4, 71, 9, 1, 160), (9, 21, 9, 2, 161), (1, 29, 9, 2, 162), (11, 153, 9, 2, 163), (4, 52, 9, 2, 164), (5, 48, 9, 2, 165), (11, 102, 9, 3, 166), (4, 9, 4, 0, 184), (11, 231, 4, 0, 185), (4, 25, 4, 1, 186), (11, 234, 4, 1, 187), (3, 15, 3, 0, 199), (11, 251, 3, 0, 200), (3, 19, 3, 1, 201), (11, 263, 3, 1, 202), (3, 23, 3, 2, 203), (11, 258, 3, 2, 204), (3, 9, 3, 3, 205), (6, 9, 6, 0, 223), (6, 15, 6, 1, 224), (6, 40, 6, 2, 225), (6, 46, 6, 3, 226), (6, 31, 6, 4, 227), (6, 65, 6, 5, 228), (6, 24, 6, 6, 229), (6, 28, 6, 7, 230), (2, 15, 2, 0, 254), (11, 354, 2, 0, 255), (2, 9, 2, 1, 256), (2, 19, 2, 2, 257), (1, 9, 1, 0, 273), (11, 345, 1, 0, 274), (1, 15, 1, 1, 275), (11, 319, 1, 1, 276), (1, 18, 1, 2, 277), (11, 158, 1, 2, 278), (1, 22, 1, 3, 279), (11, 161, 1, 3, 280), (1, 26, 1, 4, 281), (11, 316, 1, 4, 282), (5, 9, 5, 0, 299), (5, 15, 5, 1, 300), (5, 18, 5, 2, 301), (5, 27, 5, 3, 302), (5, 21, 5, 4, 303), (5, 31, 5, 5, 304), (5, 24, 5, 6, 305), (8, 9, 8, 0, 326), (11, 381, 8, 0, 327), (8, 15, 8, 1, 328), (11, 378, 8, 1, 329), (8, 19, 8, 2, 330), (11, 10, 11, 0, 338), (11, 18, 11, 1, 339), (11, 122, 11, 2, 340), (11, 25, 11, 3, 341), (11, 29, 11, 4, 342), (11, 32, 11, 5, 343), (11, 35, 11, 6, 344), (11, 39, 11, 7, 345), (11, 165, 11, 8, 346), (11, 45, 11, 9, 347), (11, 52, 11, 10, 348), (11, 56, 11, 11, 349), (11, 62, 11, 12, 350), (11, 285, 11, 13, 351), (11, 71, 11, 14, 352), (11, 78, 11, 15, 353), (11, 84, 11, 16, 354), (11, 91, 11, 17, 355), (11, 95, 11, 18, 356), (11, 98, 11, 19, 357), (0, 7, 0, 0, 461), (1, 57, 0, 0, 462), (11, 179, 0, 0, 463), (0, 13, 0, 1, 464), (7, 17, 0, 1, 465), (1, 46, 0, 1, 466), (11, 143, 0, 1, 467), (7, 7, 7, 0, 545), (9, 39, 7, 0, 546), (11, 212, 7, 0, 547), (7, 13, 7, 1, 548), (1, 36, 7, 1, 549), (3, 35, 7, 1, 550), (4, 38, 7, 1, 551), (9, 25, 7, 1, 552), (11, 186, 7, 1, 553), (7, 23, 7, 2, 554), (11, 221, 7, 2, 555), (7, 24, 7, 3, 556), (11, 225, 7, 3, 557), (7, 27, 7, 4, 558), (11, 228, 7, 4, 559), (7, 42, 7, 5, 560), (11, 199, 7, 5, 561), (7, 51, 7, 6, 562), (11, 202, 7, 6, 563), (12, 159, 12, 0, 981), (12, 9, 12, 1, 982), (12, 13, 12, 2, 983), (12, 18, 12, 3, 984), (12, 21, 12, 4, 985), (12, 168, 12, 5, 986), (12, 25, 12, 6, 987), (12, 28, 12, 7, 988), (12, 31, 12, 8, 989), (12, 34, 12, 9, 990), (12, 37, 12, 10, 991), (12, 40, 12, 11, 992), (12, 45, 12, 12, 993), (12, 106, 12, 13, 994), (12, 48, 12, 14, 995), (12, 140, 12, 15, 996), (12, 51, 12, 16, 997), (12, 54, 12, 17, 998), (12, 120, 12, 18, 999), (12, 57, 12, 19, 1000), (12, 123, 12, 20, 1001), (12, 197, 12, 21, 1002), (12, 203, 12, 22, 1003), (12, 60, 12, 23, 1004), (12, 229, 12, 24, 1005), (12, 233, 12, 25, 1006), (12, 236, 12, 26, 1007), (12, 239, 12, 27, 1008), (12, 64, 12, 28, 1009), (12, 67, 12, 29, 1010), (12, 113, 12, 30, 1011), (12, 70, 12, 31, 1012), (12, 73, 12, 32, 1013), (12, 76, 12, 33, 1014), (12, 306, 12, 34, 1015), (12, 291, 12, 35, 1016), (12, 294, 12, 36, 1017), (12, 297, 12, 37, 1018), (12, 303, 12, 38, 1019), (12, 324, 12, 39, 1020), (12, 288, 12, 40, 1021), (12, 79, 12, 41, 1022), (12, 367, 12, 42, 1023), (12, 370, 12, 43, 1024), (12, 82, 12, 44, 1025), (12, 85, 12, 45, 1026), (12, 397, 12, 46, 1027), (12, 394, 12, 47, 1028), (12, 88, 12, 48, 1029), (12, 91, 12, 49, 1030), (12, 94, 12, 50, 1031), (12, 97, 12, 51, 1032), (12, 100, 12, 52, 1033), (12, 103, 12, 53, 1034)]
theorem flT_ok : flT.all (fun q => decide (q.2.2.1 < 13) && decide (q.2.2.2.1 < nf q.2.2.1) && decide (lw_tbl[q.2.2.2.2]? = some (Cond.fieldLink (rx q.1) q.2.1 (tf q.2.2.1 q.2.2.2.1).1 (tf q.2.2.1 q.2.2.2.1).2.1 (tf q.2.2.1 q.2.2.2.1).2.2.1))) = true := by decide +kernel
def flq (o i c k : Nat) : Bool := flT.any (fun q => q.1 == o && q.2.1 == i && q.2.2.1 == c && q.2.2.2.1 == k)
theorem flq_ok {o i c k : Nat} (h : flq o i c k = true) : c < 13 ∧ k < nf c ∧ Cond.fieldLink (rx o) i (tf c k).1 (tf c k).2.1 (tf c k).2.2.1 ∈ gt := by
  obtain ⟨q, hq, h1⟩ := List.any_eq_true.mp h
  have h2 := List.all_eq_true.mp flT_ok q hq
  simp only [Bool.and_eq_true, beq_iff_eq, decide_eq_true_eq] at h1 h2
  obtain ⟨⟨⟨rfl, rfl⟩, rfl⟩, rfl⟩ := h1
  exact ⟨h2.1.1, h2.1.2, gt_ok (List.mem_of_getElem? h2.2) rfl⟩
