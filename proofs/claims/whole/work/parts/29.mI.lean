/-! THE REFERENCE: SHEETS, LOOKS, WORTH, WHAT IS FOUND -/
def b_X12_sheet_0 : List IE := [(.iload_n 1, 1, 0, 0, 1, 0)]
theorem k_X12_sheet_0 : ckB mX12_sheet 12 0 b_X12_sheet_0 1 = true := by decide +kernel
def b_X12_sheet_4 : List IE := []
theorem k_X12_sheet_4 : ckIf mX12_sheet 12 4 b_X12_sheet_4 4 0 22 26 7 = true := by decide +kernel
def b_X12_sheet_7 : List IE := [(.iload_n 2, 1, 0, 0, 2, 0), (.iconst (-1), 1, (-1), 0, 0, 0), (.iconst 1, 1, 1, 0, 0, 0)]
theorem k_X12_sheet_7 : ckB mX12_sheet 12 7 b_X12_sheet_7 10 = true := by decide +kernel
def b_X12_sheet_13 : List IE := []
theorem k_X12_sheet_13 : ckIf mX12_sheet 12 13 b_X12_sheet_13 13 0 13 26 16 = true := by decide +kernel
def b_X12_sheet_16 : List IE := [(.iload_n 2, 1, 0, 0, 2, 0)]
theorem k_X12_sheet_16 : ckIf mX12_sheet 12 16 b_X12_sheet_16 17 2 12 29 20 = true := by decide +kernel
def b_X12_sheet_20 : List IE := [(.iload_n 3, 1, 0, 0, 3, 0), (.bipush 40, 2, 40, 0, 0, 0)]
theorem k_X12_sheet_20 : ckIc mX12_sheet 12 20 b_X12_sheet_20 23 5 6 29 26 = true := by decide +kernel
def b_X12_sheet_26 : List IE := [(.bipush (-2), 2, (-2), 0, 0, 0)]
theorem k_X12_sheet_26 : ckI mX12_sheet 12 26 b_X12_sheet_26 28 = true := by decide +kernel
def b_X12_sheet_29 : List IE := [(.iload_n 2, 1, 0, 0, 2, 0)]
theorem k_X12_sheet_29 : ckIf mX12_sheet 12 29 b_X12_sheet_29 30 2 10 40 33 = true := by decide +kernel
def b_X12_sheet_33 : List IE := [(.iload_n 3, 1, 0, 0, 3, 0)]
theorem k_X12_sheet_33 : ckIf mX12_sheet 12 33 b_X12_sheet_33 34 3 6 40 37 = true := by decide +kernel
def b_X12_sheet_37 : List IE := [(.bipush (-14), 2, (-14), 0, 0, 0)]
theorem k_X12_sheet_37 : ckI mX12_sheet 12 37 b_X12_sheet_37 39 = true := by decide +kernel
def b_X12_sheet_40 : List IE := [(.aload_n 0, 1, 0, 0, 0, 0), (.getfield 94, 3, 0, 12, 50, 1), (.iload_n 1, 1, 0, 0, 1, 0), (.iload_n 2, 1, 0, 0, 2, 0), (.iastore, 1, 0, 0, 0, 0), (.aload_n 0, 1, 0, 0, 0, 0), (.getfield 97, 3, 0, 12, 51, 1), (.iload_n 1, 1, 0, 0, 1, 0), (.iload_n 2, 1, 0, 0, 2, 0)]
theorem k_X12_sheet_40 : ckIf mX12_sheet 12 40 b_X12_sheet_40 53 3 7 60 56 = true := by decide +kernel
def b_X12_sheet_56 : List IE := [(.iconst 0, 1, 0, 0, 0, 0)]
theorem k_X12_sheet_56 : ckGo mX12_sheet 12 56 b_X12_sheet_56 57 4 61 = true := by decide +kernel
def b_X12_sheet_60 : List IE := [(.iload_n 3, 1, 0, 0, 3, 0), (.iastore, 1, 0, 0, 0, 0), (.iconst 0, 1, 0, 0, 0, 0), (.istore 4, 2, 0, 0, 4, 0)]
theorem k_X12_sheet_60 : ckB mX12_sheet 12 60 b_X12_sheet_60 65 = true := by decide +kernel
def b_X12_sheet_61 : List IE := [(.iastore, 1, 0, 0, 0, 0), (.iconst 0, 1, 0, 0, 0, 0), (.istore 4, 2, 0, 0, 4, 0)]
theorem k_X12_sheet_61 : ckB mX12_sheet 12 61 b_X12_sheet_61 65 = true := by decide +kernel
def b_X12_sheet_65 : List IE := [(.iload 4, 2, 0, 0, 4, 0), (.bipush 40, 2, 40, 0, 0, 0)]
theorem k_X12_sheet_65 : ckIc mX12_sheet 12 65 b_X12_sheet_65 69 3 19 88 72 = true := by decide +kernel
def b_X12_sheet_72 : List IE := [(.aload_n 0, 1, 0, 0, 0, 0), (.getfield 100, 3, 0, 12, 52, 1), (.iload_n 1, 1, 0, 0, 1, 0), (.aaload, 1, 0, 0, 0, 0), (.iload 4, 2, 0, 0, 4, 0), (.iconst 0, 1, 0, 0, 0, 0), (.iastore, 1, 0, 0, 0, 0), (.iinc 4 1, 3, 1, 0, 4, 0)]
theorem k_X12_sheet_72 : ckGo mX12_sheet 12 72 b_X12_sheet_72 85 (-20) 65 = true := by decide +kernel
def b_X12_sheet_88 : List IE := [(.iconst 1, 1, 1, 0, 0, 0)]
theorem k_X12_sheet_88 : ckI mX12_sheet 12 88 b_X12_sheet_88 89 = true := by decide +kernel
theorem s_X12_sheet_1 : cS mX12_sheet 1 mX12_isSheet 407 1 := ⟨by decide +kernel, ⟨ml_X12_isSheet, li_RX12_407, st_X12_isSheet⟩, by decide +kernel⟩
theorem s_X12_sheet_10 : cS mX12_sheet 10 mX12_in 109 3 := ⟨by decide +kernel, ⟨ml_X12_in, li_RX12_109, st_X12_in⟩, by decide +kernel⟩
theorem t_X12_sheet_0 {rc rs : Nat} {Q : Option AV → AH → Prop} {h : AH} {x1 x2 x3 : Int} (hL : LayM h) (hv : ((¬ (0 ≤ x1 ∧ x1 ≤ 3) → Q (some (vi (-2))) h) ∧ ((0 ≤ x1 ∧ x1 ≤ 3) → ((¬ (((-1) : Int) ≤ x2 ∧ x2 ≤ (1 : Int)) → Q (some (vi (-2))) h) ∧ ((((-1) : Int) ≤ x2 ∧ x2 ≤ (1 : Int)) → ((x2 < 0 → (0 ≤ x1 ∧ x1 < 4) ∧ wp mX12_sheet 2 rc rs Q 65 [some (vr 89), some (vi x1), none, none, some (vi 0)] [] (sI (sI h 1183 x1.toNat x2) 1184 x1.toNat 0)) ∧ (0 ≤ x2 → ((x3 ≤ 40 → ((0 ≤ x3 → (0 ≤ x1 ∧ x1 < 4) ∧ wp mX12_sheet 2 rc rs Q 65 [some (vr 89), some (vi x1), none, none, some (vi 0)] [] (sI (sI h 1183 x1.toNat x2) 1184 x1.toNat x3)) ∧ (x3 < 0 → Q (some (vi (-14))) h))) ∧ (40 < x3 → Q (some (vi (-2))) h))))))))) : wp mX12_sheet 2 rc rs Q 0 [some (vr 89), some (vi x1), some (vi x2), some (vi x3), none] [] h :=
  (show wp mX12_sheet 2 rc rs Q 0 [some (vr 89), some (vi x1), some (vi x2), some (vi x3), none] [] h from xcS k_X12_sheet_0 s_X12_sheet_1 ((Exists.intro [vi x1] (Exists.intro [] (And.intro (And.intro rfl (And.intro rfl (Nat.le_of_ble_eq_true rfl))) (Exists.intro 1 (Exists.intro 0 (Exists.intro 0 (Exists.intro _ (And.intro c_isSheet (And.intro (And.intro (by decide) (And.intro (Nat.zero_le _) (Nat.zero_le _))) (eQP (show wp mX12_sheet 2 rc rs Q 4 [some (vr 89), some (vi x1), some (vi x2), some (vi x3), none] [vi (b01 (0 ≤ x1 ∧ x1 ≤ 3))] h from xIf k_X12_sheet_4 (And.intro (fun c1 => have v3 := hv.1 (b01_n.mp c1); (show wp mX12_sheet 2 rc rs Q 26 [some (vr 89), some (vi x1), some (vi x2), some (vi x3), none] [] h from xI k_X12_sheet_26 (And.intro rfl v3))) (fun c2 => have v4 := hv.2 (b01_p.mp c2); (show wp mX12_sheet 2 rc rs Q 7 [some (vr 89), some (vi x1), some (vi x2), some (vi x3), none] [] h from xcS k_X12_sheet_7 s_X12_sheet_10 ((Exists.intro [vi x2, vi (-1), vi 1] (Exists.intro [] (And.intro (And.intro rfl (And.intro rfl (Nat.le_of_ble_eq_true rfl))) (Exists.intro 0 (Exists.intro 0 (Exists.intro 0 (Exists.intro _ (And.intro c_in (And.intro (And.intro (by decide) (And.intro (Nat.zero_le _) (Nat.zero_le _))) (eQP (show wp mX12_sheet 2 rc rs Q 13 [some (vr 89), some (vi x1), some (vi x2), some (vi x3), none] [vi (b01 (((-1) : Int) ≤ x2 ∧ x2 ≤ (1 : Int)))] h from xIf k_X12_sheet_13 (And.intro (fun c5 => have v7 := v4.1 (b01_n.mp c5); (show wp mX12_sheet 2 rc rs Q 26 [some (vr 89), some (vi x1), some (vi x2), some (vi x3), none] [] h from xI k_X12_sheet_26 (And.intro rfl v7))) (fun c6 => have v8 := v4.2 (b01_p.mp c6); (show wp mX12_sheet 2 rc rs Q 16 [some (vr 89), some (vi x1), some (vi x2), some (vi x3), none] [] h from xIf k_X12_sheet_16 (And.intro (fun c9 => have v11 := v8.1 c9; (show wp mX12_sheet 2 rc rs Q 29 [some (vr 89), some (vi x1), some (vi x2), some (vi x3), none] [] h from xIf k_X12_sheet_29 (And.intro (fun _ => (show wp mX12_sheet 2 rc rs Q 40 [some (vr 89), some (vi x1), some (vi x2), some (vi x3), none] [] h from xIf k_X12_sheet_40 (And.intro (lm_89 hL) (Exists.intro 1183 (And.intro (lf_89_50 hL) (have c13 := v11.1; have v15 := v11.2; (And.intro (sdI (lm_1183 hL) c13) (And.intro (lm_89 hL) (Exists.intro 1184 (And.intro (lf_89_51 hL) (And.intro (fun c => (by have cq9 : 0 ≤ x2 := c; have cq8 := (show x2 < 0 from c9); omega)) (fun _ => (show wp mX12_sheet 2 rc rs Q 56 [some (vr 89), some (vi x1), some (vi x2), some (vi x3), none] [vi x1, vr 1184] (sI h 1183 x1.toNat x2) from xGo k_X12_sheet_56 (show wp mX12_sheet 2 rc rs Q 61 [some (vr 89), some (vi x1), some (vi x2), some (vi x3), none] [vi 0, vi x1, vr 1184] (sI h 1183 x1.toNat x2) from xB k_X12_sheet_61 (And.intro (sdI (lm_1184 hL) c13) (And.intro rfl (w_fg [true, true, false, false, true] v15))))))))))))))))) (fun c => absurd (show x2 < 0 from c9) c)))) (fun c10 => have v12 := v8.2 (Int.not_lt.mp c10); (show wp mX12_sheet 2 rc rs Q 20 [some (vr 89), some (vi x1), some (vi x2), some (vi x3), none] [] h from xIc k_X12_sheet_20 (And.intro (fun c16 => have v18 := v12.1 c16; (show wp mX12_sheet 2 rc rs Q 29 [some (vr 89), some (vi x1), some (vi x2), some (vi x3), none] [] h from xIf k_X12_sheet_29 (And.intro (fun c => (by have cq9 : x2 < 0 := c; have cq8 := (show 0 ≤ x2 from (Int.not_lt.mp c10)); omega)) (fun _ => (show wp mX12_sheet 2 rc rs Q 33 [some (vr 89), some (vi x1), some (vi x2), some (vi x3), none] [] h from xIf k_X12_sheet_33 (And.intro (fun c20 => have v22 := v18.1 c20; (show wp mX12_sheet 2 rc rs Q 40 [some (vr 89), some (vi x1), some (vi x2), some (vi x3), none] [] h from xIf k_X12_sheet_40 (And.intro (lm_89 hL) (Exists.intro 1183 (And.intro (lf_89_50 hL) (have c24 := v22.1; have v26 := v22.2; (And.intro (sdI (lm_1183 hL) c24) (And.intro (lm_89 hL) (Exists.intro 1184 (And.intro (lf_89_51 hL) (And.intro (fun _ => (show wp mX12_sheet 2 rc rs Q 60 [some (vr 89), some (vi x1), some (vi x2), some (vi x3), none] [vi x1, vr 1184] (sI h 1183 x1.toNat x2) from xB k_X12_sheet_60 (And.intro (sdI (lm_1184 hL) c24) (And.intro rfl (w_fg [true, true, false, false, true] v26))))) (fun c => absurd (show 0 ≤ x2 from (Int.not_lt.mp c10)) c)))))))))))) (fun c21 => have v23 := v18.2 (Int.not_le.mp c21); (show wp mX12_sheet 2 rc rs Q 37 [some (vr 89), some (vi x1), some (vi x2), some (vi x3), none] [] h from xI k_X12_sheet_37 (And.intro rfl v23))))))))) (fun c17 => have v19 := v12.2 (Int.not_le.mp c17); (show wp mX12_sheet 2 rc rs Q 26 [some (vr 89), some (vi x1), some (vi x2), some (vi x3), none] [] h from xI k_X12_sheet_26 (And.intro rfl v19))))))))))))))))))))))))))))))))))))))
theorem e_X12_sheet {mc ms : Nat} {Q : Option AV → AH → Prop} {h : AH} {x1 x2 x3 : Int} (hL : LayM h) (hv : ((¬ (0 ≤ x1 ∧ x1 ≤ 3) → Q (some (vi (-2))) h) ∧ ((0 ≤ x1 ∧ x1 ≤ 3) → ((¬ (((-1) : Int) ≤ x2 ∧ x2 ≤ (1 : Int)) → Q (some (vi (-2))) h) ∧ ((((-1) : Int) ≤ x2 ∧ x2 ≤ (1 : Int)) → ((x2 < 0 → (0 ≤ x1 ∧ x1 < 4) ∧ wp mX12_sheet 2 mc ms Q 65 [some (vr 89), some (vi x1), none, none, some (vi 0)] [] (sI (sI h 1183 x1.toNat x2) 1184 x1.toNat 0)) ∧ (0 ≤ x2 → ((x3 ≤ 40 → ((0 ≤ x3 → (0 ≤ x1 ∧ x1 < 4) ∧ wp mX12_sheet 2 mc ms Q 65 [some (vr 89), some (vi x1), none, none, some (vi 0)] [] (sI (sI h 1183 x1.toNat x2) 1184 x1.toNat x3)) ∧ (x3 < 0 → Q (some (vi (-14))) h))) ∧ (40 < x3 → Q (some (vi (-2))) h))))))))) : Ct 2 mc ms mX12_sheet [vr 89, vi x1, vi x2, vi x3] h Q := Ct.of (by decide +kernel) (Nat.le_of_ble_eq_true rfl) (t_X12_sheet_0 hL hv)
theorem t_X12_sheet_65 {rc rs : Nat} {Q : Option AV → AH → Prop} {h : AH} {x1 x4 : Int} (hL : LayM h) (hv : ((40 ≤ x4 → Q (some (vi 1)) h) ∧ (x4 < 40 → (0 ≤ x1 ∧ x1 < 4) ∧ (0 ≤ x4 ∧ x4 < 40) ∧ (-2147483648 ≤ (x4 + 1) ∧ (x4 + 1) < 2147483648) ∧ wp mX12_sheet 2 rc rs Q 65 [some (vr 89), some (vi x1), none, none, some (vi (x4 + 1))] [] (sI h (1186 + x1.toNat) x4.toNat 0)))) : wp mX12_sheet 2 rc rs Q 65 [some (vr 89), some (vi x1), none, none, some (vi x4)] [] h :=
  (show wp mX12_sheet 2 rc rs Q 65 [some (vr 89), some (vi x1), none, none, some (vi x4)] [] h from xIc k_X12_sheet_65 (And.intro (fun c1 => have v3 := hv.1 c1; (show wp mX12_sheet 2 rc rs Q 88 [some (vr 89), some (vi x1), none, none, some (vi x4)] [] h from xI k_X12_sheet_88 (And.intro rfl v3))) (fun c2 => have v4 := hv.2 (Int.not_le.mp c2); (show wp mX12_sheet 2 rc rs Q 72 [some (vr 89), some (vi x1), none, none, some (vi x4)] [] h from xGo k_X12_sheet_72 (And.intro (lm_89 hL) (Exists.intro 1185 (And.intro (lf_89_52 hL) (have c5 := v4.1; have v10 := v4.2; (And.intro (sdQ (lm_1185 hL) c5) (Exists.intro (1186 + x1.toNat) (And.intro (lr_items hL (tnl c5)) (have c6 := v10.1; have v9 := v10.2; (And.intro (sdI (lk_items hL (tnl c5)) c6) (have c7 := v9.1; have v8 := v9.2; (And.intro c7 (And.intro rfl v8))))))))))))))))
def b_X12_cell_0 : List IE := [(.iload_n 1, 1, 0, 0, 1, 0)]
theorem k_X12_cell_0 : ckB mX12_cell 12 0 b_X12_cell_0 1 = true := by decide +kernel
def b_X12_cell_4 : List IE := []
theorem k_X12_cell_4 : ckIf mX12_cell 12 4 b_X12_cell_4 4 1 6 10 7 = true := by decide +kernel
def b_X12_cell_7 : List IE := [(.bipush (-2), 2, (-2), 0, 0, 0)]
theorem k_X12_cell_7 : ckI mX12_cell 12 7 b_X12_cell_7 9 = true := by decide +kernel
def b_X12_cell_10 : List IE := [(.aload_n 0, 1, 0, 0, 0, 0), (.getfield 94, 3, 0, 12, 50, 1), (.iload_n 1, 1, 0, 0, 1, 0), (.iaload, 1, 0, 0, 0, 0)]
theorem k_X12_cell_10 : ckIf mX12_cell 12 10 b_X12_cell_10 16 3 6 22 19 = true := by decide +kernel
def b_X12_cell_19 : List IE := [(.bipush (-11), 2, (-11), 0, 0, 0)]
theorem k_X12_cell_19 : ckI mX12_cell 12 19 b_X12_cell_19 21 = true := by decide +kernel
def b_X12_cell_22 : List IE := [(.iload_n 2, 1, 0, 0, 2, 0), (.iconst 0, 1, 0, 0, 0, 0), (.aload_n 0, 1, 0, 0, 0, 0), (.getfield 97, 3, 0, 12, 51, 1), (.iload_n 1, 1, 0, 0, 1, 0), (.iaload, 1, 0, 0, 0, 0), (.iconst 1, 1, 1, 0, 0, 0), (.isub, 1, 0, 0, 0, 0)]
theorem k_X12_cell_22 : ckB mX12_cell 12 22 b_X12_cell_22 32 = true := by decide +kernel
def b_X12_cell_35 : List IE := []
theorem k_X12_cell_35 : ckIf mX12_cell 12 35 b_X12_cell_35 35 1 6 41 38 = true := by decide +kernel
def b_X12_cell_38 : List IE := [(.bipush (-12), 2, (-12), 0, 0, 0)]
theorem k_X12_cell_38 : ckI mX12_cell 12 38 b_X12_cell_38 40 = true := by decide +kernel
def b_X12_cell_41 : List IE := [(.aload_n 0, 1, 0, 0, 0, 0), (.getfield 100, 3, 0, 12, 52, 1), (.iload_n 1, 1, 0, 0, 1, 0), (.aaload, 1, 0, 0, 0, 0), (.iload_n 2, 1, 0, 0, 2, 0), (.aload_n 0, 1, 0, 0, 0, 0), (.getfield 94, 3, 0, 12, 50, 1), (.iload_n 1, 1, 0, 0, 1, 0), (.iaload, 1, 0, 0, 0, 0)]
theorem k_X12_cell_41 : ckIf mX12_cell 12 41 b_X12_cell_41 54 1 8 62 57 = true := by decide +kernel
def b_X12_cell_57 : List IE := [(.iload_n 3, 1, 0, 0, 3, 0), (.i2b, 1, 0, 0, 0, 0)]
theorem k_X12_cell_57 : ckGo mX12_cell 12 57 b_X12_cell_57 59 4 63 = true := by decide +kernel
def b_X12_cell_62 : List IE := [(.iload_n 3, 1, 0, 0, 3, 0), (.iastore, 1, 0, 0, 0, 0), (.iconst 1, 1, 1, 0, 0, 0)]
theorem k_X12_cell_62 : ckI mX12_cell 12 62 b_X12_cell_62 65 = true := by decide +kernel
def b_X12_cell_63 : List IE := [(.iastore, 1, 0, 0, 0, 0), (.iconst 1, 1, 1, 0, 0, 0)]
theorem k_X12_cell_63 : ckI mX12_cell 12 63 b_X12_cell_63 65 = true := by decide +kernel
theorem s_X12_cell_1 : cS mX12_cell 1 mX12_isSheet 407 1 := ⟨by decide +kernel, ⟨ml_X12_isSheet, li_RX12_407, st_X12_isSheet⟩, by decide +kernel⟩
theorem s_X12_cell_32 : cS mX12_cell 32 mX12_in 109 3 := ⟨by decide +kernel, ⟨ml_X12_in, li_RX12_109, st_X12_in⟩, by decide +kernel⟩
theorem t_X12_cell_0 {rc rs : Nat} {Q : Option AV → AH → Prop} {h : AH} {x1 x2 x3 : Int} (hL : LayM h) (hv : (((0 ≤ x1 ∧ x1 ≤ 3) → (0 ≤ x1 ∧ x1 < 4) ∧ ((0 ≤ (iH h 1183 x1.toNat) → (-2147483648 ≤ (iH h 1184 x1.toNat - 1) ∧ (iH h 1184 x1.toNat - 1) < 2147483648) ∧ ((((0 : Int) ≤ x2 ∧ x2 ≤ (iH h 1184 x1.toNat - 1)) → (((iH h 1183 x1.toNat) ≠ 0 → (0 ≤ x2 ∧ x2 < 40) ∧ Q (some (vi 1)) (sI h (1186 + x1.toNat) x2.toNat x3)) ∧ ((iH h 1183 x1.toNat) = 0 → (0 ≤ x2 ∧ x2 < 40) ∧ Q (some (vi 1)) (sI h (1186 + x1.toNat) x2.toNat (i2bI x3))))) ∧ (¬ ((0 : Int) ≤ x2 ∧ x2 ≤ (iH h 1184 x1.toNat - 1)) → Q (some (vi (-12))) h))) ∧ ((iH h 1183 x1.toNat) < 0 → Q (some (vi (-11))) h))) ∧ (¬ (0 ≤ x1 ∧ x1 ≤ 3) → Q (some (vi (-2))) h))) : wp mX12_cell 2 rc rs Q 0 [some (vr 89), some (vi x1), some (vi x2), some (vi x3)] [] h :=
  (show wp mX12_cell 2 rc rs Q 0 [some (vr 89), some (vi x1), some (vi x2), some (vi x3)] [] h from xcS k_X12_cell_0 s_X12_cell_1 ((Exists.intro [vi x1] (Exists.intro [] (And.intro (And.intro rfl (And.intro rfl (Nat.le_of_ble_eq_true rfl))) (Exists.intro 1 (Exists.intro 0 (Exists.intro 0 (Exists.intro _ (And.intro c_isSheet (And.intro (And.intro (by decide) (And.intro (Nat.zero_le _) (Nat.zero_le _))) (eQP (show wp mX12_cell 2 rc rs Q 4 [some (vr 89), some (vi x1), some (vi x2), some (vi x3)] [vi (b01 (0 ≤ x1 ∧ x1 ≤ 3))] h from xIf k_X12_cell_4 (And.intro (fun c1 => have v3 := hv.1 (b01_p.mp c1); (show wp mX12_cell 2 rc rs Q 10 [some (vr 89), some (vi x1), some (vi x2), some (vi x3)] [] h from xIf k_X12_cell_10 (And.intro (lm_89 hL) (Exists.intro 1183 (And.intro (lf_89_50 hL) (have c5 := v3.1; have v30 := v3.2; (And.intro (sdI (lm_1183 hL) c5) (And.intro (fun c6 => have v8 := v30.1 c6; (show wp mX12_cell 2 rc rs Q 22 [some (vr 89), some (vi x1), some (vi x2), some (vi x3)] [] h from xcS k_X12_cell_22 s_X12_cell_32 (And.intro (lm_89 hL) (Exists.intro 1184 (And.intro (lf_89_51 hL) (And.intro (sdI (lm_1184 hL) c5) (have c11 := v8.1; have v29 := v8.2; (And.intro c11 ((Exists.intro [vi x2, vi 0, vi (iH h 1184 x1.toNat - 1)] (Exists.intro [] (And.intro (And.intro rfl (And.intro rfl (Nat.le_of_ble_eq_true rfl))) (Exists.intro 0 (Exists.intro 0 (Exists.intro 0 (Exists.intro _ (And.intro c_in (And.intro (And.intro (by decide) (And.intro (Nat.zero_le _) (Nat.zero_le _))) (eQP (show wp mX12_cell 2 rc rs Q 35 [some (vr 89), some (vi x1), some (vi x2), some (vi x3)] [vi (b01 ((0 : Int) ≤ x2 ∧ x2 ≤ (iH h 1184 x1.toNat - 1)))] h from xIf k_X12_cell_35 (And.intro (fun c12 => have v14 := v29.1 (b01_p.mp c12); (show wp mX12_cell 2 rc rs Q 41 [some (vr 89), some (vi x1), some (vi x2), some (vi x3)] [] h from xIf k_X12_cell_41 (And.intro (lm_89 hL) (Exists.intro 1185 (And.intro (lf_89_52 hL) (And.intro (sdQ (lm_1185 hL) c5) (Exists.intro (1186 + x1.toNat) (And.intro (lr_items hL (tnl c5)) (And.intro (lm_89 hL) (Exists.intro 1183 (And.intro (lf_89_50 hL) (And.intro (sdI (lm_1183 hL) c5) (And.intro (fun c18 => have v20 := v14.1 c18; (show wp mX12_cell 2 rc rs Q 62 [some (vr 89), some (vi x1), some (vi x2), some (vi x3)] [vi x2, vr (1186 + x1.toNat)] h from xI k_X12_cell_62 (have c22 := v20.1; have v23 := v20.2; (And.intro (sdI (lk_items hL (tnl c5)) c22) (And.intro rfl v23))))) (fun c19 => have v21 := v14.2 (Decidable.not_not.mp c19); (show wp mX12_cell 2 rc rs Q 57 [some (vr 89), some (vi x1), some (vi x2), some (vi x3)] [vi x2, vr (1186 + x1.toNat)] h from xGo k_X12_cell_57 (show wp mX12_cell 2 rc rs Q 63 [some (vr 89), some (vi x1), some (vi x2), some (vi x3)] [vi (i2bI x3), vi x2, vr (1186 + x1.toNat)] h from xI k_X12_cell_63 (have c24 := v21.1; have v25 := v21.2; (And.intro (sdI (lk_items hL (tnl c5)) c24) (And.intro rfl v25))))))))))))))))))) (fun c13 => have v15 := v29.2 (b01_nn.mp c13); (show wp mX12_cell 2 rc rs Q 38 [some (vr 89), some (vi x1), some (vi x2), some (vi x3)] [] h from xI k_X12_cell_38 (And.intro rfl v15)))))))))))))))))))))))) (fun c7 => have v9 := v30.2 (Int.not_le.mp c7); (show wp mX12_cell 2 rc rs Q 19 [some (vr 89), some (vi x1), some (vi x2), some (vi x3)] [] h from xI k_X12_cell_19 (And.intro rfl v9))))))))))) (fun c2 => have v4 := hv.2 (b01_nn.mp c2); (show wp mX12_cell 2 rc rs Q 7 [some (vr 89), some (vi x1), some (vi x2), some (vi x3)] [] h from xI k_X12_cell_7 (And.intro rfl v4)))))))))))))))))
theorem e_X12_cell {mc ms : Nat} {Q : Option AV → AH → Prop} {h : AH} {x1 x2 x3 : Int} (hL : LayM h) (hv : (((0 ≤ x1 ∧ x1 ≤ 3) → (0 ≤ x1 ∧ x1 < 4) ∧ ((0 ≤ (iH h 1183 x1.toNat) → (-2147483648 ≤ (iH h 1184 x1.toNat - 1) ∧ (iH h 1184 x1.toNat - 1) < 2147483648) ∧ ((((0 : Int) ≤ x2 ∧ x2 ≤ (iH h 1184 x1.toNat - 1)) → (((iH h 1183 x1.toNat) ≠ 0 → (0 ≤ x2 ∧ x2 < 40) ∧ Q (some (vi 1)) (sI h (1186 + x1.toNat) x2.toNat x3)) ∧ ((iH h 1183 x1.toNat) = 0 → (0 ≤ x2 ∧ x2 < 40) ∧ Q (some (vi 1)) (sI h (1186 + x1.toNat) x2.toNat (i2bI x3))))) ∧ (¬ ((0 : Int) ≤ x2 ∧ x2 ≤ (iH h 1184 x1.toNat - 1)) → Q (some (vi (-12))) h))) ∧ ((iH h 1183 x1.toNat) < 0 → Q (some (vi (-11))) h))) ∧ (¬ (0 ≤ x1 ∧ x1 ≤ 3) → Q (some (vi (-2))) h))) : Ct 2 mc ms mX12_cell [vr 89, vi x1, vi x2, vi x3] h Q := Ct.of (by decide +kernel) (Nat.le_of_ble_eq_true rfl) (t_X12_cell_0 hL hv)
def b_X12_copy_0 : List IE := [(.iload_n 1, 1, 0, 0, 1, 0)]
theorem k_X12_copy_0 : ckB mX12_copy 12 0 b_X12_copy_0 1 = true := by decide +kernel
def b_X12_copy_4 : List IE := []
theorem k_X12_copy_4 : ckIf mX12_copy 12 4 b_X12_copy_4 4 0 10 14 7 = true := by decide +kernel
def b_X12_copy_7 : List IE := [(.iload_n 3, 1, 0, 0, 3, 0)]
theorem k_X12_copy_7 : ckB mX12_copy 12 7 b_X12_copy_7 8 = true := by decide +kernel
def b_X12_copy_11 : List IE := []
theorem k_X12_copy_11 : ckIf mX12_copy 12 11 b_X12_copy_11 11 1 6 17 14 = true := by decide +kernel
def b_X12_copy_14 : List IE := [(.bipush (-2), 2, (-2), 0, 0, 0)]
theorem k_X12_copy_14 : ckI mX12_copy 12 14 b_X12_copy_14 16 = true := by decide +kernel
def b_X12_copy_17 : List IE := [(.aload_n 0, 1, 0, 0, 0, 0), (.getfield 94, 3, 0, 12, 50, 1), (.iload_n 1, 1, 0, 0, 1, 0), (.iaload, 1, 0, 0, 0, 0)]
theorem k_X12_copy_17 : ckIf mX12_copy 12 17 b_X12_copy_17 23 2 12 35 26 = true := by decide +kernel
def b_X12_copy_26 : List IE := [(.aload_n 0, 1, 0, 0, 0, 0), (.getfield 94, 3, 0, 12, 50, 1), (.iload_n 3, 1, 0, 0, 3, 0), (.iaload, 1, 0, 0, 0, 0)]
theorem k_X12_copy_26 : ckIf mX12_copy 12 26 b_X12_copy_26 32 3 6 38 35 = true := by decide +kernel
def b_X12_copy_35 : List IE := [(.bipush (-11), 2, (-11), 0, 0, 0)]
theorem k_X12_copy_35 : ckI mX12_copy 12 35 b_X12_copy_35 37 = true := by decide +kernel
def b_X12_copy_38 : List IE := [(.aload_n 0, 1, 0, 0, 0, 0), (.getfield 94, 3, 0, 12, 50, 1), (.iload_n 1, 1, 0, 0, 1, 0), (.iaload, 1, 0, 0, 0, 0), (.aload_n 0, 1, 0, 0, 0, 0), (.getfield 94, 3, 0, 12, 50, 1), (.iload_n 3, 1, 0, 0, 3, 0), (.iaload, 1, 0, 0, 0, 0)]
theorem k_X12_copy_38 : ckIc mX12_copy 12 38 b_X12_copy_38 50 0 6 56 53 = true := by decide +kernel
def b_X12_copy_53 : List IE := [(.bipush (-13), 2, (-13), 0, 0, 0)]
theorem k_X12_copy_53 : ckI mX12_copy 12 53 b_X12_copy_53 55 = true := by decide +kernel
def b_X12_copy_56 : List IE := [(.iload 5, 2, 0, 0, 5, 0)]
theorem k_X12_copy_56 : ckIf mX12_copy 12 56 b_X12_copy_56 58 2 39 97 61 = true := by decide +kernel
def b_X12_copy_61 : List IE := [(.iload_n 2, 1, 0, 0, 2, 0)]
theorem k_X12_copy_61 : ckIf mX12_copy 12 61 b_X12_copy_61 62 2 35 97 65 = true := by decide +kernel
def b_X12_copy_65 : List IE := [(.iload 4, 2, 0, 0, 4, 0)]
theorem k_X12_copy_65 : ckIf mX12_copy 12 65 b_X12_copy_65 67 2 30 97 70 = true := by decide +kernel
def b_X12_copy_70 : List IE := [(.iload_n 2, 1, 0, 0, 2, 0), (.aload_n 0, 1, 0, 0, 0, 0), (.getfield 97, 3, 0, 12, 51, 1), (.iload_n 1, 1, 0, 0, 1, 0), (.iaload, 1, 0, 0, 0, 0), (.iload 5, 2, 0, 0, 5, 0), (.isub, 1, 0, 0, 0, 0)]
theorem k_X12_copy_70 : ckIc mX12_copy 12 70 b_X12_copy_70 80 4 17 97 83 = true := by decide +kernel
def b_X12_copy_83 : List IE := [(.iload 4, 2, 0, 0, 4, 0), (.aload_n 0, 1, 0, 0, 0, 0), (.getfield 97, 3, 0, 12, 51, 1), (.iload_n 3, 1, 0, 0, 3, 0), (.iaload, 1, 0, 0, 0, 0), (.iload 5, 2, 0, 0, 5, 0), (.isub, 1, 0, 0, 0, 0)]
theorem k_X12_copy_83 : ckIc mX12_copy 12 83 b_X12_copy_83 94 5 6 100 97 = true := by decide +kernel
def b_X12_copy_97 : List IE := [(.bipush (-12), 2, (-12), 0, 0, 0)]
theorem k_X12_copy_97 : ckI mX12_copy 12 97 b_X12_copy_97 99 = true := by decide +kernel
def b_X12_copy_100 : List IE := [(.aload_n 0, 1, 0, 0, 0, 0), (.getfield 100, 3, 0, 12, 52, 1), (.iload_n 1, 1, 0, 0, 1, 0), (.aaload, 1, 0, 0, 0, 0), (.iload_n 2, 1, 0, 0, 2, 0), (.aload_n 0, 1, 0, 0, 0, 0), (.getfield 103, 3, 0, 12, 53, 1), (.iconst 0, 1, 0, 0, 0, 0), (.iload 5, 2, 0, 0, 5, 0)]
theorem k_X12_copy_100 : ckB mX12_copy 12 100 b_X12_copy_100 114 = true := by decide +kernel
def b_X12_copy_117 : List IE := [(.aload_n 0, 1, 0, 0, 0, 0), (.getfield 103, 3, 0, 12, 53, 1), (.iconst 0, 1, 0, 0, 0, 0), (.aload_n 0, 1, 0, 0, 0, 0), (.getfield 100, 3, 0, 12, 52, 1), (.iload_n 3, 1, 0, 0, 3, 0), (.aaload, 1, 0, 0, 0, 0), (.iload 4, 2, 0, 0, 4, 0), (.iload 5, 2, 0, 0, 5, 0)]
theorem k_X12_copy_117 : ckB mX12_copy 12 117 b_X12_copy_117 132 = true := by decide +kernel
def b_X12_copy_135 : List IE := [(.iload 5, 2, 0, 0, 5, 0)]
theorem k_X12_copy_135 : ckI mX12_copy 12 135 b_X12_copy_135 137 = true := by decide +kernel
theorem s_X12_copy_1 : cS mX12_copy 1 mX12_isSheet 407 1 := ⟨by decide +kernel, ⟨ml_X12_isSheet, li_RX12_407, st_X12_isSheet⟩, by decide +kernel⟩
theorem s_X12_copy_8 : cS mX12_copy 8 mX12_isSheet 407 1 := ⟨by decide +kernel, ⟨ml_X12_isSheet, li_RX12_407, st_X12_isSheet⟩, by decide +kernel⟩
theorem s_X12_copy_114 : cCp mX12_copy 114 162 := ⟨by decide +kernel, gt_ok (List.mem_of_getElem? (i := 1193) (by decide +kernel)) (by decide +kernel), gt_ok (List.mem_of_getElem? (i := 456) (by decide +kernel)) (by decide +kernel), gt_ok (List.mem_of_getElem? (i := 455) (by decide +kernel)) (by decide +kernel), gt_ok (List.mem_of_getElem? (i := 102) (by decide +kernel)) (by decide +kernel)⟩
theorem s_X12_copy_132 : cCp mX12_copy 132 162 := ⟨by decide +kernel, gt_ok (List.mem_of_getElem? (i := 1193) (by decide +kernel)) (by decide +kernel), gt_ok (List.mem_of_getElem? (i := 456) (by decide +kernel)) (by decide +kernel), gt_ok (List.mem_of_getElem? (i := 455) (by decide +kernel)) (by decide +kernel), gt_ok (List.mem_of_getElem? (i := 102) (by decide +kernel)) (by decide +kernel)⟩
theorem t_X12_copy_0 {rc rs : Nat} {Q : Option AV → AH → Prop} {h : AH} {x1 x2 x3 x4 x5 : Int} (hL : LayM h) (hv : ((¬ (0 ≤ x1 ∧ x1 ≤ 3) → Q (some (vi (-2))) h) ∧ ((0 ≤ x1 ∧ x1 ≤ 3) → (((0 ≤ x3 ∧ x3 ≤ 3) → (0 ≤ x1 ∧ x1 < 4) ∧ (((iH h 1183 x1.toNat) < 0 → Q (some (vi (-11))) h) ∧ (0 ≤ (iH h 1183 x1.toNat) → (0 ≤ x3 ∧ x3 < 4) ∧ ((0 ≤ (iH h 1183 x3.toNat) → (((iH h 1183 x1.toNat) = (iH h 1183 x3.toNat) → ((x5 < 0 → Q (some (vi (-12))) h) ∧ (0 ≤ x5 → ((x2 < 0 → Q (some (vi (-12))) h) ∧ (0 ≤ x2 → ((x4 < 0 → Q (some (vi (-12))) h) ∧ (0 ≤ x4 → (-2147483648 ≤ (iH h 1184 x1.toNat - x5) ∧ (iH h 1184 x1.toNat - x5) < 2147483648) ∧ (((iH h 1184 x1.toNat - x5) < x2 → Q (some (vi (-12))) h) ∧ (x2 ≤ (iH h 1184 x1.toNat - x5) → (-2147483648 ≤ (iH h 1184 x3.toNat - x5) ∧ (iH h 1184 x3.toNat - x5) < 2147483648) ∧ ((x4 ≤ (iH h 1184 x3.toNat - x5) → (0 ≤ x2 ∧ 0 ≤ (0 : Int) ∧ 0 ≤ x5 ∧ x2 + x5 ≤ 40 ∧ (0 : Int) + x5 ≤ 40) ∧ (0 ≤ (0 : Int) ∧ 0 ≤ x4 ∧ 0 ≤ x5 ∧ (0 : Int) + x5 ≤ 40 ∧ x4 + x5 ≤ 40) ∧ Q (some (vi x5)) (cpI (cpI h (1186 + x1.toNat) x2.toNat 1190 0 x5.toNat) 1190 0 (1186 + x3.toNat) x4.toNat x5.toNat)) ∧ ((iH h 1184 x3.toNat - x5) < x4 → Q (some (vi (-12))) h))))))))))) ∧ ((iH h 1183 x1.toNat) ≠ (iH h 1183 x3.toNat) → Q (some (vi (-13))) h))) ∧ ((iH h 1183 x3.toNat) < 0 → Q (some (vi (-11))) h))))) ∧ (¬ (0 ≤ x3 ∧ x3 ≤ 3) → Q (some (vi (-2))) h))))) : wp mX12_copy 2 rc rs Q 0 [some (vr 89), some (vi x1), some (vi x2), some (vi x3), some (vi x4), some (vi x5)] [] h :=
  (show wp mX12_copy 2 rc rs Q 0 [some (vr 89), some (vi x1), some (vi x2), some (vi x3), some (vi x4), some (vi x5)] [] h from xcS k_X12_copy_0 s_X12_copy_1 ((Exists.intro [vi x1] (Exists.intro [] (And.intro (And.intro rfl (And.intro rfl (Nat.le_of_ble_eq_true rfl))) (Exists.intro 1 (Exists.intro 0 (Exists.intro 0 (Exists.intro _ (And.intro c_isSheet (And.intro (And.intro (by decide) (And.intro (Nat.zero_le _) (Nat.zero_le _))) (eQP (show wp mX12_copy 2 rc rs Q 4 [some (vr 89), some (vi x1), some (vi x2), some (vi x3), some (vi x4), some (vi x5)] [vi (b01 (0 ≤ x1 ∧ x1 ≤ 3))] h from xIf k_X12_copy_4 (And.intro (fun c1 => have v3 := hv.1 (b01_n.mp c1); (show wp mX12_copy 2 rc rs Q 14 [some (vr 89), some (vi x1), some (vi x2), some (vi x3), some (vi x4), some (vi x5)] [] h from xI k_X12_copy_14 (And.intro rfl v3))) (fun c2 => have v4 := hv.2 (b01_p.mp c2); (show wp mX12_copy 2 rc rs Q 7 [some (vr 89), some (vi x1), some (vi x2), some (vi x3), some (vi x4), some (vi x5)] [] h from xcS k_X12_copy_7 s_X12_copy_8 ((Exists.intro [vi x3] (Exists.intro [] (And.intro (And.intro rfl (And.intro rfl (Nat.le_of_ble_eq_true rfl))) (Exists.intro 1 (Exists.intro 0 (Exists.intro 0 (Exists.intro _ (And.intro c_isSheet (And.intro (And.intro (by decide) (And.intro (Nat.zero_le _) (Nat.zero_le _))) (eQP (show wp mX12_copy 2 rc rs Q 11 [some (vr 89), some (vi x1), some (vi x2), some (vi x3), some (vi x4), some (vi x5)] [vi (b01 (0 ≤ x3 ∧ x3 ≤ 3))] h from xIf k_X12_copy_11 (And.intro (fun c5 => have v7 := v4.1 (b01_p.mp c5); (show wp mX12_copy 2 rc rs Q 17 [some (vr 89), some (vi x1), some (vi x2), some (vi x3), some (vi x4), some (vi x5)] [] h from xIf k_X12_copy_17 (And.intro (lm_89 hL) (Exists.intro 1183 (And.intro (lf_89_50 hL) (have c9 := v7.1; have v58 := v7.2; (And.intro (sdI (lm_1183 hL) c9) (And.intro (fun c10 => have v12 := v58.1 c10; (show wp mX12_copy 2 rc rs Q 35 [some (vr 89), some (vi x1), some (vi x2), some (vi x3), some (vi x4), some (vi x5)] [] h from xI k_X12_copy_35 (And.intro rfl v12))) (fun c11 => have v13 := v58.2 (Int.not_lt.mp c11); (show wp mX12_copy 2 rc rs Q 26 [some (vr 89), some (vi x1), some (vi x2), some (vi x3), some (vi x4), some (vi x5)] [] h from xIf k_X12_copy_26 (And.intro (lm_89 hL) (Exists.intro 1183 (And.intro (lf_89_50 hL) (have c14 := v13.1; have v57 := v13.2; (And.intro (sdI (lm_1183 hL) c14) (And.intro (fun c15 => have v17 := v57.1 c15; (show wp mX12_copy 2 rc rs Q 38 [some (vr 89), some (vi x1), some (vi x2), some (vi x3), some (vi x4), some (vi x5)] [] h from xIc k_X12_copy_38 (And.intro (lm_89 hL) (Exists.intro 1183 (And.intro (lf_89_50 hL) (And.intro (sdI (lm_1183 hL) c9) (And.intro (lm_89 hL) (Exists.intro 1183 (And.intro (lf_89_50 hL) (And.intro (sdI (lm_1183 hL) c14) (And.intro (fun c21 => have v23 := v17.1 c21; (show wp mX12_copy 2 rc rs Q 56 [some (vr 89), some (vi x1), some (vi x2), some (vi x3), some (vi x4), some (vi x5)] [] h from xIf k_X12_copy_56 (And.intro (fun c25 => have v27 := v23.1 c25; (show wp mX12_copy 2 rc rs Q 97 [some (vr 89), some (vi x1), some (vi x2), some (vi x3), some (vi x4), some (vi x5)] [] h from xI k_X12_copy_97 (And.intro rfl v27))) (fun c26 => have v28 := v23.2 (Int.not_lt.mp c26); (show wp mX12_copy 2 rc rs Q 61 [some (vr 89), some (vi x1), some (vi x2), some (vi x3), some (vi x4), some (vi x5)] [] h from xIf k_X12_copy_61 (And.intro (fun c29 => have v31 := v28.1 c29; (show wp mX12_copy 2 rc rs Q 97 [some (vr 89), some (vi x1), some (vi x2), some (vi x3), some (vi x4), some (vi x5)] [] h from xI k_X12_copy_97 (And.intro rfl v31))) (fun c30 => have v32 := v28.2 (Int.not_lt.mp c30); (show wp mX12_copy 2 rc rs Q 65 [some (vr 89), some (vi x1), some (vi x2), some (vi x3), some (vi x4), some (vi x5)] [] h from xIf k_X12_copy_65 (And.intro (fun c33 => have v35 := v32.1 c33; (show wp mX12_copy 2 rc rs Q 97 [some (vr 89), some (vi x1), some (vi x2), some (vi x3), some (vi x4), some (vi x5)] [] h from xI k_X12_copy_97 (And.intro rfl v35))) (fun c34 => have v36 := v32.2 (Int.not_lt.mp c34); (show wp mX12_copy 2 rc rs Q 70 [some (vr 89), some (vi x1), some (vi x2), some (vi x3), some (vi x4), some (vi x5)] [] h from xIc k_X12_copy_70 (And.intro (lm_89 hL) (Exists.intro 1184 (And.intro (lf_89_51 hL) (And.intro (sdI (lm_1184 hL) c9) (have c38 := v36.1; have v56 := v36.2; (And.intro c38 (And.intro (fun c39 => have v41 := v56.1 c39; (show wp mX12_copy 2 rc rs Q 97 [some (vr 89), some (vi x1), some (vi x2), some (vi x3), some (vi x4), some (vi x5)] [] h from xI k_X12_copy_97 (And.intro rfl v41))) (fun c40 => have v42 := v56.2 (Int.not_lt.mp c40); (show wp mX12_copy 2 rc rs Q 83 [some (vr 89), some (vi x1), some (vi x2), some (vi x3), some (vi x4), some (vi x5)] [] h from xIc k_X12_copy_83 (And.intro (lm_89 hL) (Exists.intro 1184 (And.intro (lf_89_51 hL) (And.intro (sdI (lm_1184 hL) c14) (have c44 := v42.1; have v55 := v42.2; (And.intro c44 (And.intro (fun c45 => have v47 := v55.1 c45; (show wp mX12_copy 2 rc rs Q 100 [some (vr 89), some (vi x1), some (vi x2), some (vi x3), some (vi x4), some (vi x5)] [] h from xcp k_X12_copy_100 s_X12_copy_114 (And.intro (lm_89 hL) (Exists.intro 1185 (And.intro (lf_89_52 hL) (And.intro (sdQ (lm_1185 hL) c9) (Exists.intro (1186 + x1.toNat) (And.intro (lr_items hL (tnl c9)) (And.intro (lm_89 hL) (Exists.intro 1190 (And.intro (lf_89_53 hL) (have c53 := v47.1; have v54 := v47.2; Exists.intro _ (Exists.intro _ (Exists.intro 13 (And.intro (lk_items hL (tnl c9)) (And.intro (lm_1190 hL) (And.intro (Or.inl rfl) (And.intro c53 (And.intro (And.intro (Nat.le_of_ble_eq_true rfl) (Nat.le_of_ble_eq_true rfl)) (show wp mX12_copy 2 rc rs Q 117 [some (vr 89), some (vi x1), some (vi x2), some (vi x3), some (vi x4), some (vi x5)] [] (cpI h (1186 + x1.toNat) x2.toNat 1190 0 x5.toNat) from xcp k_X12_copy_117 s_X12_copy_132 (And.intro (lm_89 hL) (Exists.intro 1190 (And.intro (lf_89_53 hL) (And.intro (lm_89 hL) (Exists.intro 1185 (And.intro (lf_89_52 hL) (And.intro (sdQ (lm_1185 hL) c14) (Exists.intro (1186 + x3.toNat) (And.intro (lr_items hL (tnl c14)) (have c51 := v54.1; have v52 := v54.2; Exists.intro _ (Exists.intro _ (Exists.intro 13 (And.intro (lm_1190 hL) (And.intro (lk_items hL (tnl c14)) (And.intro (Or.inl rfl) (And.intro c51 (And.intro (And.intro (Nat.le_of_ble_eq_true rfl) (Nat.le_of_ble_eq_true rfl)) (show wp mX12_copy 2 rc rs Q 135 [some (vr 89), some (vi x1), some (vi x2), some (vi x3), some (vi x4), some (vi x5)] [] (cpI (cpI h (1186 + x1.toNat) x2.toNat 1190 0 x5.toNat) 1190 0 (1186 + x3.toNat) x4.toNat x5.toNat) from xI k_X12_copy_135 (And.intro rfl v52))))))))))))))))))))))))))))))))))))))) (fun c46 => have v48 := v55.2 (Int.not_le.mp c46); (show wp mX12_copy 2 rc rs Q 97 [some (vr 89), some (vi x1), some (vi x2), some (vi x3), some (vi x4), some (vi x5)] [] h from xI k_X12_copy_97 (And.intro rfl v48)))))))))))))))))))))))))))))) (fun c22 => have v24 := v17.2 c22; (show wp mX12_copy 2 rc rs Q 53 [some (vr 89), some (vi x1), some (vi x2), some (vi x3), some (vi x4), some (vi x5)] [] h from xI k_X12_copy_53 (And.intro rfl v24)))))))))))))) (fun c16 => have v18 := v57.2 (Int.not_le.mp c16); (show wp mX12_copy 2 rc rs Q 35 [some (vr 89), some (vi x1), some (vi x2), some (vi x3), some (vi x4), some (vi x5)] [] h from xI k_X12_copy_35 (And.intro rfl v18))))))))))))))))))) (fun c6 => have v8 := v4.2 (b01_nn.mp c6); (show wp mX12_copy 2 rc rs Q 14 [some (vr 89), some (vi x1), some (vi x2), some (vi x3), some (vi x4), some (vi x5)] [] h from xI k_X12_copy_14 (And.intro rfl v8))))))))))))))))))))))))))))))))
theorem e_X12_copy {mc ms : Nat} {Q : Option AV → AH → Prop} {h : AH} {x1 x2 x3 x4 x5 : Int} (hL : LayM h) (hv : ((¬ (0 ≤ x1 ∧ x1 ≤ 3) → Q (some (vi (-2))) h) ∧ ((0 ≤ x1 ∧ x1 ≤ 3) → (((0 ≤ x3 ∧ x3 ≤ 3) → (0 ≤ x1 ∧ x1 < 4) ∧ (((iH h 1183 x1.toNat) < 0 → Q (some (vi (-11))) h) ∧ (0 ≤ (iH h 1183 x1.toNat) → (0 ≤ x3 ∧ x3 < 4) ∧ ((0 ≤ (iH h 1183 x3.toNat) → (((iH h 1183 x1.toNat) = (iH h 1183 x3.toNat) → ((x5 < 0 → Q (some (vi (-12))) h) ∧ (0 ≤ x5 → ((x2 < 0 → Q (some (vi (-12))) h) ∧ (0 ≤ x2 → ((x4 < 0 → Q (some (vi (-12))) h) ∧ (0 ≤ x4 → (-2147483648 ≤ (iH h 1184 x1.toNat - x5) ∧ (iH h 1184 x1.toNat - x5) < 2147483648) ∧ (((iH h 1184 x1.toNat - x5) < x2 → Q (some (vi (-12))) h) ∧ (x2 ≤ (iH h 1184 x1.toNat - x5) → (-2147483648 ≤ (iH h 1184 x3.toNat - x5) ∧ (iH h 1184 x3.toNat - x5) < 2147483648) ∧ ((x4 ≤ (iH h 1184 x3.toNat - x5) → (0 ≤ x2 ∧ 0 ≤ (0 : Int) ∧ 0 ≤ x5 ∧ x2 + x5 ≤ 40 ∧ (0 : Int) + x5 ≤ 40) ∧ (0 ≤ (0 : Int) ∧ 0 ≤ x4 ∧ 0 ≤ x5 ∧ (0 : Int) + x5 ≤ 40 ∧ x4 + x5 ≤ 40) ∧ Q (some (vi x5)) (cpI (cpI h (1186 + x1.toNat) x2.toNat 1190 0 x5.toNat) 1190 0 (1186 + x3.toNat) x4.toNat x5.toNat)) ∧ ((iH h 1184 x3.toNat - x5) < x4 → Q (some (vi (-12))) h))))))))))) ∧ ((iH h 1183 x1.toNat) ≠ (iH h 1183 x3.toNat) → Q (some (vi (-13))) h))) ∧ ((iH h 1183 x3.toNat) < 0 → Q (some (vi (-11))) h))))) ∧ (¬ (0 ≤ x3 ∧ x3 ≤ 3) → Q (some (vi (-2))) h))))) : Ct 2 mc ms mX12_copy [vr 89, vi x1, vi x2, vi x3, vi x4, vi x5] h Q := Ct.of (by decide +kernel) (Nat.le_of_ble_eq_true rfl) (t_X12_copy_0 hL hv)
def b_X12_shutLook_0 : List IE := [(.aload_n 0, 1, 0, 0, 0, 0), (.getfield 88, 3, 0, 12, 48, 1), (.aload_n 0, 1, 0, 0, 0, 0), (.getfield 394, 3, 0, 12, 47, 0), (.iload_n 1, 1, 0, 0, 1, 0), (.iastore, 1, 0, 0, 0, 0), (.aload_n 0, 1, 0, 0, 0, 0), (.dup, 1, 0, 0, 0, 0), (.getfield 394, 3, 0, 12, 47, 0), (.iconst 1, 1, 1, 0, 0, 0), (.iadd, 1, 0, 0, 0, 0), (.putfield 394, 3, 0, 12, 47, 0)]
theorem k_X12_shutLook_0 : ckV mX12_shutLook 12 0 b_X12_shutLook_0 20 = true := by decide +kernel
theorem t_X12_shutLook_0 {rc rs : Nat} {Q : Option AV → AH → Prop} {h : AH} {x1 : Int} (hL : LayM h) (hv : (0 ≤ iH h 89 47 ∧ iH h 89 47 < 1040) ∧ (-2147483648 ≤ (iH h 89 47 + 1) ∧ (iH h 89 47 + 1) < 2147483648) ∧ Q none (sI (sI h 1181 ((iH h 89 47).toNat) x1) 89 47 (iH h 89 47 + 1))) : wp mX12_shutLook 0 rc rs Q 0 [some (vr 89), some (vi x1)] [] h :=
  (show wp mX12_shutLook 0 rc rs Q 0 [some (vr 89), some (vi x1)] [] h from xV k_X12_shutLook_0 (And.intro (lm_89 hL) (Exists.intro 1181 (And.intro (lf_89_48 hL) (And.intro (lm_89 hL) (have c1 := hv.1; have v4 := hv.2; (And.intro (sdI (lm_1181 hL) c1) (And.intro rfl (And.intro (lm_89 hL) (have c2 := v4.1; have v3 := v4.2; (And.intro c2 (And.intro (lm_89 hL) (And.intro rfl v3)))))))))))))
theorem e_X12_shutLook {mc ms : Nat} {Q : Option AV → AH → Prop} {h : AH} {x1 : Int} (hL : LayM h) (hv : (0 ≤ iH h 89 47 ∧ iH h 89 47 < 1040) ∧ (-2147483648 ≤ (iH h 89 47 + 1) ∧ (iH h 89 47 + 1) < 2147483648) ∧ Q none (sI (sI h 1181 ((iH h 89 47).toNat) x1) 89 47 (iH h 89 47 + 1))) : Ct 0 mc ms mX12_shutLook [vr 89, vi x1] h Q := Ct.of (by decide +kernel) (Nat.le_of_ble_eq_true rfl) (t_X12_shutLook_0 hL hv)
def m_z40 (h : AH) (s j k : Nat) : Int := if k < j then 0 else iH h (1186 + s) k
def m_sheet (h : AH) (s : Nat) (t n : Int) : AH := sW (sI (sI h 1183 s t) 1184 s n) (1186 + s) (m_z40 h s 40)
def p_sheet (h : AH) (s t n : Int) (x : Int) (h' : AH) : Prop := ((¬ (0 ≤ s ∧ s ≤ 3) ∨ ¬ (-1 ≤ t ∧ t ≤ 1) ∨ (0 ≤ t ∧ 40 < n)) ∧ x = -2 ∧ h' = h) ∨ ((0 ≤ s ∧ s ≤ 3) ∧ (0 ≤ t ∧ t ≤ 1) ∧ n < 0 ∧ x = -14 ∧ h' = h) ∨ ((0 ≤ s ∧ s ≤ 3) ∧ (t = -1 ∨ (0 ≤ t ∧ t ≤ 1 ∧ 0 ≤ n ∧ n ≤ 40)) ∧ x = 1 ∧ h' = m_sheet h s.toNat t (if t < 0 then 0 else n))
theorem c_sheet {h : AH} (hL : LayM h) {s t n : Int} : Ct 2 0 0 mX12_sheet [vr 89, vi s, vi t, vi n] h (QI (p_sheet h s t n)) := by
  have main : (0 ≤ s ∧ s ≤ 3) → ∀ m : Int, (QI (p_sheet h s t n)) (some (vi 1)) (m_sheet h s.toNat t m) → wp mX12_sheet 2 0 0 (QI (p_sheet h s t n)) 65 [some (vr 89), some (vi s), none, none, some (vi 0)] [] (sI (sI h 1183 s.toNat t) 1184 s.toNat m) := by
    intro hs m hq
    have e0 : sI (sI h 1183 s.toNat t) 1184 s.toNat m = sW (sI (sI h 1183 s.toNat t) 1184 s.toNat m) (1186 + s.toNat) (m_z40 h s.toNat 0) := (sW_id fun k => by unfold m_z40; rw [if_neg (by omega), rI_ne (by omega), rI_ne (by omega)]).symm
    rw [e0]
    refine up (P := fun j => wp mX12_sheet 2 _ _ _ 65 [some (vr 89), some (vi s), none, none, some (vi j)] [] (sW (sI (sI h 1183 s.toNat t) 1184 s.toNat m) (1186 + s.toNat) (m_z40 h s.toNat j))) 40 ?_ ?_
    · exact t_X12_sheet_65 (by exact hL) ⟨fun _ => hq, fun q => absurd q (by omega)⟩
    · intro j hj ih
      refine t_X12_sheet_65 (by exact hL) ⟨fun q => absurd q (by omega), fun _ => ⟨by omega, by omega, by omega, ?_⟩⟩
      rw [sI_sW (g' := m_z40 h s.toNat (j + 1)) (fun k => by
        unfold m_z40
        by_cases q : k = j
        · subst q; rw [if_pos (by omega), if_pos (show k = ((k : Int)).toNat from rfl)]
        · rw [show ((j : Int)).toNat = j from rfl, if_neg q]
          by_cases q2 : k < j
          · rw [if_pos (by omega), if_pos q2]
          · rw [if_neg (by omega), if_neg q2])]
      exact ih
  refine e_X12_sheet hL ⟨fun c => ⟨_, rfl, Or.inl ⟨Or.inl c, rfl, rfl⟩⟩, fun c => ⟨fun c2 => ⟨_, rfl, Or.inl ⟨Or.inr (Or.inl c2), rfl, rfl⟩⟩, fun c2 => ⟨fun c3 => ⟨by omega, main c 0 ⟨_, rfl, Or.inr (Or.inr ⟨c, by omega, rfl, by rw [if_pos c3]⟩)⟩⟩, fun c3 => ⟨fun c4 => ⟨fun c5 => ⟨by omega, main c n ⟨_, rfl, Or.inr (Or.inr ⟨c, by omega, rfl, by rw [if_neg (by omega)]⟩)⟩⟩, fun c5 => ⟨_, rfl, Or.inr (Or.inl ⟨c, by omega, c5, rfl, rfl⟩)⟩⟩, fun c4 => ⟨_, rfl, Or.inl ⟨Or.inr (Or.inr ⟨c3, c4⟩), rfl, rfl⟩⟩⟩⟩⟩⟩
def m_shOK (h : AH) : Prop := ∀ s : Nat, s < 4 → (-1 ≤ iH h 1183 s ∧ iH h 1183 s ≤ 1) ∧ (0 ≤ iH h 1184 s ∧ iH h 1184 s ≤ 40)
def p_cell (h : AH) (s i v : Int) (x : Int) (h' : AH) : Prop := (¬ (0 ≤ s ∧ s ≤ 3) ∧ x = -2 ∧ h' = h) ∨ ((0 ≤ s ∧ s ≤ 3) ∧ iH h 1183 s.toNat < 0 ∧ x = -11 ∧ h' = h) ∨ ((0 ≤ s ∧ s ≤ 3) ∧ 0 ≤ iH h 1183 s.toNat ∧ ¬ (0 ≤ i ∧ i < iH h 1184 s.toNat) ∧ x = -12 ∧ h' = h) ∨ ((0 ≤ s ∧ s ≤ 3) ∧ 0 ≤ iH h 1183 s.toNat ∧ (0 ≤ i ∧ i < iH h 1184 s.toNat) ∧ x = 1 ∧ h' = sI h (1186 + s.toNat) i.toNat (if iH h 1183 s.toNat = 0 then i2bI v else v))
theorem c_cell {h : AH} (hL : LayM h) {s i v : Int} (hs : m_shOK h) : Ct 2 0 0 mX12_cell [vr 89, vi s, vi i, vi v] h (QI (p_cell h s i v)) := by
  refine e_X12_cell hL ⟨fun c => ?_, fun c => ⟨_, rfl, Or.inl ⟨c, rfl, rfl⟩⟩⟩
  have h1 := hs s.toNat (by omega)
  refine ⟨by omega, fun c2 => ⟨by omega, fun c3 => ⟨fun c4 => ⟨by omega, _, rfl, Or.inr (Or.inr (Or.inr ⟨c, c2, by omega, rfl, by rw [if_neg c4]⟩))⟩, fun c4 => ⟨by omega, _, rfl, Or.inr (Or.inr (Or.inr ⟨c, c2, by omega, rfl, by rw [if_pos c4]⟩))⟩⟩, fun c3 => ⟨_, rfl, Or.inr (Or.inr (Or.inl ⟨c, c2, by omega, rfl, rfl⟩))⟩⟩, fun c2 => ⟨_, rfl, Or.inr (Or.inl ⟨c, c2, rfl, rfl⟩)⟩⟩
def p_copy (h : AH) (s i o j n : Int) (x : Int) (h' : AH) : Prop := ((¬ (0 ≤ s ∧ s ≤ 3) ∨ ¬ (0 ≤ o ∧ o ≤ 3)) ∧ x = -2 ∧ h' = h) ∨ (((0 ≤ s ∧ s ≤ 3) ∧ (0 ≤ o ∧ o ≤ 3)) ∧ ((iH h 1183 s.toNat < 0 ∨ iH h 1183 o.toNat < 0) ∧ x = -11 ∧ h' = h ∨ (0 ≤ iH h 1183 s.toNat ∧ 0 ≤ iH h 1183 o.toNat) ∧ (iH h 1183 s.toNat ≠ iH h 1183 o.toNat ∧ x = -13 ∧ h' = h ∨ iH h 1183 s.toNat = iH h 1183 o.toNat ∧ ((n < 0 ∨ i < 0 ∨ j < 0 ∨ iH h 1184 s.toNat < i + n ∨ iH h 1184 o.toNat < j + n) ∧ x = -12 ∧ h' = h ∨ (0 ≤ n ∧ 0 ≤ i ∧ 0 ≤ j ∧ i + n ≤ iH h 1184 s.toNat ∧ j + n ≤ iH h 1184 o.toNat) ∧ x = n ∧ h' = cpI (cpI h (1186 + s.toNat) i.toNat 1190 0 n.toNat) 1190 0 (1186 + o.toNat) j.toNat n.toNat))))
theorem c_copy {h : AH} (hL : LayM h) {s i o j n : Int} (hs : m_shOK h) (hn : n < 2147483648) : Ct 2 0 0 mX12_copy [vr 89, vi s, vi i, vi o, vi j, vi n] h (QI (p_copy h s i o j n)) := by
  refine e_X12_copy hL ⟨fun c => ⟨_, rfl, Or.inl ⟨Or.inl c, rfl, rfl⟩⟩, fun c => ⟨fun c2 => ?_, fun c2 => ⟨_, rfl, Or.inl ⟨Or.inr c2, rfl, rfl⟩⟩⟩⟩
  have h1 := hs s.toNat (by omega)
  have h2 := hs o.toNat (by omega)
  refine ⟨by omega, fun d1 => ⟨_, rfl, Or.inr ⟨⟨c, c2⟩, Or.inl ⟨Or.inl d1, rfl, rfl⟩⟩⟩, fun d1 => ⟨by omega, fun d2 => ⟨fun d3 => ?_, fun d3 => ⟨_, rfl, Or.inr ⟨⟨c, c2⟩, Or.inr ⟨⟨d1, d2⟩, Or.inl ⟨d3, rfl, rfl⟩⟩⟩⟩⟩, fun d2 => ⟨_, rfl, Or.inr ⟨⟨c, c2⟩, Or.inl ⟨Or.inr d2, rfl, rfl⟩⟩⟩⟩⟩
  have out : (n < 0 ∨ i < 0 ∨ j < 0 ∨ iH h 1184 s.toNat < i + n ∨ iH h 1184 o.toNat < j + n) → QI (p_copy h s i o j n) (some (vi (-12))) h := fun q => ⟨_, rfl, Or.inr ⟨⟨c, c2⟩, Or.inr ⟨⟨d1, d2⟩, Or.inr ⟨d3, Or.inl ⟨q, rfl, rfl⟩⟩⟩⟩⟩
  exact ⟨fun d4 => out (by omega), fun d4 => ⟨fun d5 => out (by omega), fun d5 => ⟨fun d6 => out (by omega), fun d6 => ⟨by omega, fun d7 => out (by omega), fun d7 => ⟨by omega, fun d8 => ⟨by omega, by omega, _, rfl, Or.inr ⟨⟨c, c2⟩, Or.inr ⟨⟨d1, d2⟩, Or.inr ⟨d3, Or.inr ⟨by omega, rfl, rfl⟩⟩⟩⟩⟩, fun d8 => out (by omega)⟩⟩⟩⟩⟩
def m_shutL (h : AH) (k : Int) : AH := sI (sI h 1181 (iH h 89 47).toNat k) 89 47 (iH h 89 47 + 1)
theorem c_shutLook {h : AH} (hL : LayM h) {k : Int} (hp : 0 ≤ iH h 89 47 ∧ iH h 89 47 < 1040) : Ct 0 0 0 mX12_shutLook [vr 89, vi k] h (QV fun h' => h' = m_shutL h k) := e_X12_shutLook hL ⟨hp, by omega, rfl, rfl⟩
/-- a query's row of marks: its steps -/
def q_ol (r : Nat → Int) (k : Nat) : Nat := if r k = 0 then 2 else if r k = 1 ∨ r k = 2 then 3 else if r k = 3 then 2 + (r (k + 1)).toNat else 1
def q_pos (r : Nat → Int) : Nat → Nat
  | 0 => 0
  | j + 1 => q_pos r j + q_ol r (q_pos r j)
def q_dt (r : Nat → Int) (k : Nat) : Int := if r k ≤ 3 then 1 else if r k = 4 then 0 else -1
def q_ht (r : Nat → Int) : Nat → Int
  | 0 => 0
  | j + 1 => q_ht r j + q_dt r (q_pos r j)
def q_op (r : Nat → Int) (k : Nat) : Prop := (0 ≤ r k ∧ r k ≤ 6) ∧ (r k ≤ 2 → 0 < r (k + 1) ∧ r (k + 1) < 387420489) ∧ (r k = 1 → 1 ≤ r (k + 2) ∧ r (k + 2) ≤ 6) ∧ (r k = 2 → 0 < r (k + 2) ∧ r (k + 2) < 387420489) ∧ (r k = 3 → 1 ≤ r (k + 1) ∧ r (k + 1) ≤ 6 ∧ ∀ i : Nat, (i : Int) < r (k + 1) → 0 < r (k + 2 + i) ∧ r (k + 2 + i) < 387420489)
def q_ok (r : Nat → Int) (n : Int) (m : Nat) : Prop := ((q_pos r m : Nat) : Int) = n ∧ n ≤ 128 ∧ q_ht r m = 1 ∧ ∀ j, j < m → q_op r (q_pos r j) ∧ (0 ≤ q_ht r j ∧ q_ht r j ≤ 12) ∧ (r (q_pos r j) = 4 → 1 ≤ q_ht r j) ∧ (5 ≤ r (q_pos r j) → 2 ≤ q_ht r j)
theorem q_ol_pos {r : Nat → Int} {k : Nat} : 1 ≤ q_ol r k := by
  unfold q_ol
  (repeat' split) <;> omega
theorem q_pos_lt {r : Nat → Int} : ∀ {m j : Nat}, j < m → q_pos r j < q_pos r m
  | 0, _, h => by omega
  | m + 1, j, h => by
    have h1 : q_pos r (m + 1) = q_pos r m + q_ol r (q_pos r m) := rfl
    have h2 := q_ol_pos (r := r) (k := q_pos r m)
    by_cases e : j = m
    · subst e; omega
    · have := q_pos_lt (r := r) (show j < m by omega); omega
theorem q_pos_le {r : Nat → Int} {m j : Nat} (h : j ≤ m) : q_pos r j ≤ q_pos r m := by
  by_cases e : j = m
  · subst e; exact Nat.le_refl _
  · exact Nat.le_of_lt (q_pos_lt (by omega))
theorem q_ok_un {r : Nat → Int} {n : Int} {m m' : Nat} (h : q_ok r n m) (h' : q_ok r n m') : m = m' := by
  have h1 := h.1
  have h2 := h'.1
  by_cases c : m < m'
  · have := q_pos_lt (r := r) c; omega
  · by_cases c' : m' < m
    · have := q_pos_lt (r := r) c'; omega
    · omega
def m_row (h : AH) (q : Int) (k : Nat) : Int := iH h (1170 + q.toNat) k
def m_qok (h : AH) (q : Int) : Prop := (0 ≤ q ∧ q < 6) ∧ ∃ m, q_ok (m_row h q) (iH h 1176 q.toNat) m
noncomputable def m_nop (h : AH) (q : Int) : Nat := Classical.epsilon (fun m => q_ok (m_row h q) (iH h 1176 q.toNat) m)
theorem m_nop_ok {h : AH} {q : Int} (hq : m_qok h q) : q_ok (m_row h q) (iH h 1176 q.toNat) (m_nop h q) := Classical.epsilon_spec hq.2
theorem m_nop_un {h : AH} {q : Int} (hb : 0 ≤ q ∧ q < 6) {m : Nat} (hq : q_ok (m_row h q) (iH h 1176 q.toNat) m) : m_nop h q = m := q_ok_un (m_nop_ok ⟨hb, m, hq⟩) hq
/-- what a leaf of a query is worth in a document -/
noncomputable def m_leaf (h : AH) (q d : Int) (k : Nat) : Int :=
  if m_row h q k = 0 then m_tb h d (m_row h q (k + 1)) 6 else if m_row h q k = 1 then m_tb h d (m_row h q (k + 1)) (m_row h q (k + 2)) else if m_row h q k = 2 then m_near h d (m_row h q (k + 1)) (m_row h q (k + 2)) else m_row h q (k + 1) * m_ph h d (1170 + q.toNat) ((k : Int) + 2) (m_row h q (k + 1))
def updF (v : Nat → Int) (i : Nat) (x : Int) (k : Nat) : Int := if k = i then x else v k
/-- one step over a stack of t values -/
noncomputable def m_st (h : AH) (q d : Int) (k t : Nat) (v : Nat → Int) : Nat → Int :=
  if m_row h q k ≤ 3 then updF v t (m_leaf h q d k) else if m_row h q k = 4 then updF v (t - 1) (if v (t - 1) = 0 then 1 else 0) else if m_row h q k = 5 then updF v (t - 2) (if v (t - 2) = 0 then 0 else if v (t - 1) = 0 then 0 else v (t - 2) + v (t - 1)) else updF v (t - 2) (v (t - 2) + v (t - 1))
noncomputable def m_sv (h : AH) (q d : Int) : Nat → Nat → Int
  | 0 => fun _ => 0
  | j + 1 => m_st h q d (q_pos (m_row h q) j) (q_ht (m_row h q) j).toNat (m_sv h q d j)
noncomputable def m_worth (h : AH) (q d : Int) : Int := min 999 (m_sv h q d (m_nop h q) 0)
theorem m_tb_cg {h h' : AH} {d b l : Int} (e1 : ∀ k, iH h' (93 + d.toNat) k = iH h (93 + d.toNat) k) (e2 : iH h' 91 d.toNat = iH h 91 d.toNat) : m_tb h' d b l = m_tb h d b l := by
  unfold m_tb
  rw [e2]
  exact cnt_cg fun k _ => by unfold m_tbP; rw [e1]
theorem m_near_cg {h h' : AH} {d a b : Int} (e1 : ∀ k, iH h' (93 + d.toNat) k = iH h (93 + d.toNat) k) (e2 : iH h' 91 d.toNat = iH h 91 d.toNat) : m_near h' d a b = m_near h d a b := by
  unfold m_near
  rw [e2]
  exact sumN_cg fun i _ => cnt_cg fun k _ => by unfold m_nearP; rw [e1, e1]
theorem m_ph_cg {h h' : AH} {d : Int} {a : Nat} {f n : Int} (e1 : ∀ k, iH h' (93 + d.toNat) k = iH h (93 + d.toNat) k) (e2 : iH h' 91 d.toNat = iH h 91 d.toNat) (e3 : ∀ k, iH h' a k = iH h a k) : m_ph h' d a f n = m_ph h d a f n := by
  unfold m_ph
  rw [e2]
  refine cnt_cg fun k _ => ?_
  unfold m_phP m_phE
  constructor
  · intro q i hi; have := q i hi; rw [e1, e3] at this; exact this
  · intro q i hi; rw [e1, e3]; exact q i hi
theorem m_row_cg {h h' : AH} {q : Int} (e3 : ∀ k, iH h' (1170 + q.toNat) k = iH h (1170 + q.toNat) k) : m_row h' q = m_row h q := funext fun k => e3 k
theorem m_leaf_cg {h h' : AH} {q d : Int} {k : Nat} (e1 : ∀ k, iH h' (93 + d.toNat) k = iH h (93 + d.toNat) k) (e2 : iH h' 91 d.toNat = iH h 91 d.toNat) (e3 : ∀ k, iH h' (1170 + q.toNat) k = iH h (1170 + q.toNat) k) : m_leaf h' q d k = m_leaf h q d k := by
  unfold m_leaf
  rw [m_row_cg e3, m_tb_cg e1 e2, m_tb_cg e1 e2, m_near_cg e1 e2, m_ph_cg e1 e2 e3]
theorem m_sv_cg {h h' : AH} {q d : Int} (e1 : ∀ k, iH h' (93 + d.toNat) k = iH h (93 + d.toNat) k) (e2 : iH h' 91 d.toNat = iH h 91 d.toNat) (e3 : ∀ k, iH h' (1170 + q.toNat) k = iH h (1170 + q.toNat) k) : ∀ j, m_sv h' q d j = m_sv h q d j
  | 0 => rfl
  | j + 1 => by
    unfold m_sv m_st
    rw [m_row_cg e3, m_sv_cg e1 e2 e3 j, m_leaf_cg e1 e2 e3]
theorem m_worth_cg {h h' : AH} {q d : Int} (e1 : ∀ k, iH h' (93 + d.toNat) k = iH h (93 + d.toNat) k) (e2 : iH h' 91 d.toNat = iH h 91 d.toNat) (e3 : ∀ k, iH h' (1170 + q.toNat) k = iH h (1170 + q.toNat) k) (e4 : iH h' 1176 q.toNat = iH h 1176 q.toNat) : m_worth h' q d = m_worth h q d := by
  unfold m_worth
  rw [m_sv_cg e1 e2 e3, show m_nop h' q = m_nop h q from by unfold m_nop; rw [m_row_cg e3, e4]]
theorem sumN_upd {v : Nat → Int} {x : Int} {t : Nat} : sumN (updF v t x) (t + 1) = sumN v t + x := by
  show sumN (updF v t x) t + updF v t x t = _
  rw [sumN_cg (f := updF v t x) (g := v) (fun k hk => if_neg (by omega)), show updF v t x t = x from if_pos rfl]
/-- what stands on the stack: all at least 0, together at most 144 a step -/
theorem m_sv_bd {h : AH} {q d : Int} (hq : m_qok h q) (hd : m_doc h d) : ∀ j, j ≤ m_nop h q → (∀ i : Nat, (i : Int) < q_ht (m_row h q) j → 0 ≤ m_sv h q d j i) ∧ sumN (m_sv h q d j) (q_ht (m_row h q) j).toNat ≤ 144 * (j : Int)
  | 0, _ => ⟨fun i hi => Int.le_refl 0, by show sumN _ (0 : Int).toNat ≤ _; exact Int.le_refl 0⟩
  | j + 1, hj => by
    obtain ⟨ih1, ih2⟩ := m_sv_bd hq hd j (by omega)
    have hok := m_nop_ok hq
    obtain ⟨ho, hh, h4, h5⟩ := hok.2.2.2 j (by omega)
    have eh : q_ht (m_row h q) (j + 1) = q_ht (m_row h q) j + q_dt (m_row h q) (q_pos (m_row h q) j) := rfl
    have es : m_sv h q d (j + 1) = m_st h q d (q_pos (m_row h q) j) (q_ht (m_row h q) j).toNat (m_sv h q d j) := rfl
    generalize hk : q_pos (m_row h q) j = k at *
    generalize hv : m_sv h q d j = v at *
    generalize ht : q_ht (m_row h q) j = t at *
    unfold m_st at es
    unfold q_dt at eh
    by_cases c3 : m_row h q k ≤ 3
    · rw [if_pos c3] at es eh
      have hl : 0 ≤ m_leaf h q d k ∧ m_leaf h q d k ≤ 144 := by
        unfold m_leaf
        split
        · have := m_tb_bd (b := m_row h q (k + 1)) (l := 6) hd; omega
        · split
          · have := m_tb_bd (b := m_row h q (k + 1)) (l := m_row h q (k + 2)) hd; omega
          · split
            · exact m_near_bd hd
            · have h00 := ho.1
              have h3 := ho.2.2.2.2 (by omega)
              have hp := m_ph_bd (a := 1170 + q.toNat) (f := (k : Int) + 2) hd h3.1
              generalize m_ph h d (1170 + q.toNat) ((k : Int) + 2) (m_row h q (k + 1)) = p at *
              generalize m_row h q (k + 1) = n at *
              have m1 : 0 ≤ n * p := Int.mul_nonneg (by omega) hp.1
              have m2 : n * p ≤ 6 * 12 := Int.mul_le_mul (by omega) hp.2 hp.1 (by omega)
              omega
      rw [eh, es]
      refine ⟨fun i hi => ?_, ?_⟩
      · unfold updF
        split
        · exact hl.1
        · exact ih1 i (by omega)
      · rw [show (t + 1).toNat = t.toNat + 1 by omega, sumN_upd]
        omega
    · rw [if_neg c3] at es eh
      by_cases c4 : m_row h q k = 4
      · rw [if_pos c4] at es eh
        have h1 := h4 c4
        rw [eh, es]
        have e1 : t.toNat = (t.toNat - 1) + 1 := by omega
        rw [e1] at ih2
        have ih2' : sumN v (t.toNat - 1) + v (t.toNat - 1) ≤ 144 * (j : Int) := ih2
        have hp := ih1 (t.toNat - 1) (by omega)
        refine ⟨fun i hi => ?_, ?_⟩
        · unfold updF
          split
          · split <;> omega
          · exact ih1 i (by omega)
        · rw [show (t + 0).toNat = (t.toNat - 1) + 1 by omega, sumN_upd]
          split <;> omega
      · rw [if_neg c4] at es eh
        have h1 := h5 (by omega)
        have e1 : t.toNat = (t.toNat - 2) + 1 + 1 := by omega
        rw [e1] at ih2
        have ih2' : sumN v (t.toNat - 2) + v (t.toNat - 2) + v (t.toNat - 2 + 1) ≤ 144 * (j : Int) := ih2
        rw [show t.toNat - 2 + 1 = t.toNat - 1 by omega] at ih2'
        have hp := ih1 (t.toNat - 1) (by omega)
        have hp2 := ih1 (t.toNat - 2) (by omega)
        have fin : ∀ x : Int, 0 ≤ x → x ≤ v (t.toNat - 2) + v (t.toNat - 1) → m_sv h q d (j + 1) = updF v (t.toNat - 2) x → (∀ i : Nat, (i : Int) < q_ht (m_row h q) (j + 1) → 0 ≤ m_sv h q d (j + 1) i) ∧ sumN (m_sv h q d (j + 1)) (q_ht (m_row h q) (j + 1)).toNat ≤ 144 * ((j + 1 : Nat) : Int) := by
          intro x hx1 hx2 e
          rw [eh, e]
          refine ⟨fun i hi => ?_, ?_⟩
          · unfold updF
            split
            · exact hx1
            · exact ih1 i (by omega)
          · rw [show (t + -1).toNat = (t.toNat - 2) + 1 by omega, sumN_upd]
            omega
        by_cases c5 : m_row h q k = 5
        · rw [if_pos c5] at es
          refine fin _ ?_ ?_ es
          · (repeat' split) <;> omega
          · (repeat' split) <;> omega
        · rw [if_neg c5] at es
          exact fin _ (by omega) (by omega) es
theorem sumN_ge {f : Nat → Int} : ∀ {n i : Nat}, (∀ k, k < n → 0 ≤ f k) → i < n → f i ≤ sumN f n
  | 0, i, _, h => by omega
  | n + 1, i, h0, h => by
    have e : sumN f (n + 1) = sumN f n + f n := rfl
    have h1 := h0 n (by omega)
    by_cases c : i = n
    · subst c
      have h2 : 0 ≤ sumN f i := by
        by_cases z : i = 0
        · subst z; exact Int.le_refl 0
        · have := sumN_ge (f := f) (n := i) (i := 0) (fun k hk => h0 k (by omega)) (by omega)
          have := h0 0 (by omega)
          omega
      omega
    · have := sumN_ge (f := f) (n := n) (i := i) (fun k hk => h0 k (by omega)) (by omega)
      omega
theorem m_worth_bd {h : AH} {q d : Int} (hq : m_qok h q) (hd : m_doc h d) : 0 ≤ m_worth h q d ∧ m_worth h q d ≤ 999 := by
  have hok := m_nop_ok hq
  have h1 := (m_sv_bd hq hd (m_nop h q) (Nat.le_refl _)).1 0 (by rw [hok.2.2.1]; decide)
  unfold m_worth; omega
