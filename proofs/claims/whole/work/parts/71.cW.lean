/-! THE INDEX: SHEETS -/
theorem i2b_bd (x : Int) : (-128 ≤ i2bI x ∧ i2bI x ≤ 127) ∧ andI x 255 = i2bI x % 256 := by
  unfold i2bI andI
  have e1 : (((Int32.ofInt x).toInt8.toInt32).toInt : Int) = ((BitVec.ofInt 32 x).setWidth 8).toInt := by
    rw [Int8.toInt_toInt32]
    show ((Int32.ofInt x).toInt8.toBitVec).toInt = _
    rw [Int32.toBitVec_toInt8, BitVec.signExtend_eq_setWidth_of_le _ (by decide)]; rfl
  have e2 : ((Int32.ofInt x &&& Int32.ofInt 255).toInt : Int) = (BitVec.ofInt 32 x &&& BitVec.ofInt 32 255).toInt := rfl
  rw [e1, e2]
  generalize BitVec.ofInt 32 x = b
  have h1 : (b &&& BitVec.ofInt 32 255).toNat = b.toNat % 256 := by
    rw [BitVec.toNat_and]
    exact Nat.and_two_pow_sub_one_eq_mod b.toNat 8
  have h2 : (b.setWidth 8).toNat = b.toNat % 256 := by rw [BitVec.toNat_setWidth]
  have h3 := BitVec.toInt_eq_toNat_cond (b &&& BitVec.ofInt 32 255)
  have h4 := BitVec.toInt_eq_toNat_cond (b.setWidth 8)
  rw [h1] at h3
  rw [h2] at h4
  rw [h3, h4]
  have := Nat.mod_lt b.toNat (show 0 < 256 by omega)
  generalize b.toNat % 256 = m at *
  rw [if_pos (show 2 * m < 2 ^ 32 by omega)]
  by_cases c : 2 * m < 2 ^ 8
  · rw [if_pos c]; omega
  · rw [if_neg c]; omega
def shV (t v w : Int) : Prop := if t = 0 then (-128 ≤ v ∧ v ≤ 127) ∧ w = v % 256 else w = v
def kSh1 (h g : AH) (s : Nat) : Prop := iH h (81 + 2 * s) 1 = iH g 1183 s ∧ iH h (81 + 2 * s) 2 = iH g 1184 s ∧ ((-1 ≤ iH g 1183 s ∧ iH g 1183 s ≤ 1) ∧ (0 ≤ iH g 1184 s ∧ iH g 1184 s ≤ 40)) ∧ ∀ k : Nat, (k : Int) < iH g 1184 s → shV (iH g 1183 s) (iH g (1186 + s) k) (iH h (82 + 2 * s) k)
def kSh (h g : AH) : Prop := ∀ s : Nat, s < 4 → kSh1 h g s
theorem shV_0 {t : Int} : shV t 0 0 := by
  unfold shV
  by_cases c : t = 0
  · rw [if_pos c]; omega
  · rw [if_neg c]
def b_X11_sheet_0 : List IE := [(.iload_n 1, 1, 0, 0, 1, 0)]
theorem k_X11_sheet_0 : ckB mX11_sheet 11 0 b_X11_sheet_0 1 = true := by decide +kernel
def b_X11_sheet_4 : List IE := []
theorem k_X11_sheet_4 : ckIf mX11_sheet 11 4 b_X11_sheet_4 4 0 13 17 7 = true := by decide +kernel
def b_X11_sheet_7 : List IE := [(.iload_n 2, 1, 0, 0, 2, 0), (.iconst (-1), 1, (-1), 0, 0, 0)]
theorem k_X11_sheet_7 : ckIc mX11_sheet 11 7 b_X11_sheet_7 9 2 8 17 12 = true := by decide +kernel
def b_X11_sheet_12 : List IE := [(.iload_n 2, 1, 0, 0, 2, 0), (.iconst 1, 1, 1, 0, 0, 0)]
theorem k_X11_sheet_12 : ckIc mX11_sheet 11 12 b_X11_sheet_12 14 5 6 20 17 = true := by decide +kernel
def b_X11_sheet_17 : List IE := [(.bipush (-2), 2, (-2), 0, 0, 0)]
theorem k_X11_sheet_17 : ckI mX11_sheet 11 17 b_X11_sheet_17 19 = true := by decide +kernel
def b_X11_sheet_20 : List IE := [(.iload_n 2, 1, 0, 0, 2, 0), (.iconst (-1), 1, (-1), 0, 0, 0)]
theorem k_X11_sheet_20 : ckIc mX11_sheet 11 20 b_X11_sheet_20 22 1 16 38 25 = true := by decide +kernel
def b_X11_sheet_25 : List IE := [(.aload_n 0, 1, 0, 0, 0, 0), (.getfield 84, 3, 0, 11, 16, 1), (.iload_n 1, 1, 0, 0, 1, 0), (.aaload, 1, 0, 0, 0, 0), (.iconst (-1), 1, (-1), 0, 0, 0), (.iconst 0, 1, 0, 0, 0, 0)]
theorem k_X11_sheet_25 : ckB mX11_sheet 11 25 b_X11_sheet_25 33 = true := by decide +kernel
def b_X11_sheet_36 : List IE := [(.iconst 1, 1, 1, 0, 0, 0)]
theorem k_X11_sheet_36 : ckI mX11_sheet 11 36 b_X11_sheet_36 37 = true := by decide +kernel
def b_X11_sheet_38 : List IE := [(.iload_n 3, 1, 0, 0, 3, 0), (.bipush 40, 2, 40, 0, 0, 0)]
theorem k_X11_sheet_38 : ckIc mX11_sheet 11 38 b_X11_sheet_38 41 5 6 47 44 = true := by decide +kernel
def b_X11_sheet_44 : List IE := [(.bipush (-2), 2, (-2), 0, 0, 0)]
theorem k_X11_sheet_44 : ckI mX11_sheet 11 44 b_X11_sheet_44 46 = true := by decide +kernel
def b_X11_sheet_47 : List IE := [(.iload_n 3, 1, 0, 0, 3, 0)]
theorem k_X11_sheet_47 : ckIf mX11_sheet 11 47 b_X11_sheet_47 48 3 6 54 51 = true := by decide +kernel
def b_X11_sheet_51 : List IE := [(.bipush (-14), 2, (-14), 0, 0, 0)]
theorem k_X11_sheet_51 : ckI mX11_sheet 11 51 b_X11_sheet_51 53 = true := by decide +kernel
def b_X11_sheet_54 : List IE := [(.aload_n 0, 1, 0, 0, 0, 0), (.getfield 84, 3, 0, 11, 16, 1), (.iload_n 1, 1, 0, 0, 1, 0), (.aaload, 1, 0, 0, 0, 0), (.iload_n 2, 1, 0, 0, 2, 0), (.iload_n 3, 1, 0, 0, 3, 0)]
theorem k_X11_sheet_54 : ckB mX11_sheet 11 54 b_X11_sheet_54 62 = true := by decide +kernel
def b_X11_sheet_65 : List IE := [(.iconst 1, 1, 1, 0, 0, 0)]
theorem k_X11_sheet_65 : ckI mX11_sheet 11 65 b_X11_sheet_65 66 = true := by decide +kernel
theorem s_X11_sheet_1 : cS mX11_sheet 1 mX11_isSheet 322 1 := ⟨by decide +kernel, ⟨ml_X11_isSheet, li_RX11_322, st_X11_isSheet⟩, by decide +kernel⟩
theorem s_X11_sheet_33 : cV mX11_sheet 33 mX8_become 343 2 8 := ⟨by decide +kernel, ⟨ml_X8_become, li_RX11_343, im_X8_become, se_X8_become⟩, ⟨by decide +kernel, by decide +kernel⟩, by decide +kernel⟩
theorem s_X11_sheet_62 : cV mX11_sheet 62 mX8_become 343 2 8 := ⟨by decide +kernel, ⟨ml_X8_become, li_RX11_343, im_X8_become, se_X8_become⟩, ⟨by decide +kernel, by decide +kernel⟩, by decide +kernel⟩
theorem t_X11_sheet_0 {rc rs : Nat} {Q : Option AV → AH → Prop} {h : AH} {x1 x2 x3 : Int} (hL : LayL h) (hv : ((¬ (0 ≤ x1 ∧ x1 ≤ 3) → Q (some (vi (-2))) h) ∧ ((0 ≤ x1 ∧ x1 ≤ 3) → ((x2 < (-1) → Q (some (vi (-2))) h) ∧ ((-1) ≤ x2 → ((x2 ≤ 1 → ((x2 ≠ (-1) → ((x3 ≤ 40 → ((0 ≤ x3 → (0 ≤ x1 ∧ x1 < 4) ∧ (∃ P28 : AH → Prop, Ct 0 0 0 mX8_become [vr (81 + 2 * x1.toNat), vi x2, vi x3] h (QV P28) ∧ ∀ h26 : AH, P28 h26 → LayL h26 ∧ Q (some (vi 1)) h26)) ∧ (x3 < 0 → Q (some (vi (-14))) h))) ∧ (40 < x3 → Q (some (vi (-2))) h))) ∧ (x2 = (-1) → (0 ≤ x1 ∧ x1 < 4) ∧ (∃ P37 : AH → Prop, Ct 0 0 0 mX8_become [vr (81 + 2 * x1.toNat), vi (-1), vi 0] h (QV P37) ∧ ∀ h35 : AH, P37 h35 → LayL h35 ∧ Q (some (vi 1)) h35)))) ∧ (1 < x2 → Q (some (vi (-2))) h))))))) : wp mX11_sheet 1 rc rs Q 0 [some (vr 0), some (vi x1), some (vi x2), some (vi x3)] [] h :=
  (show wp mX11_sheet 1 rc rs Q 0 [some (vr 0), some (vi x1), some (vi x2), some (vi x3)] [] h from xcS k_X11_sheet_0 s_X11_sheet_1 ((Exists.intro [vi x1] (Exists.intro [] (And.intro (And.intro rfl (And.intro rfl (Nat.le_of_ble_eq_true rfl))) (Exists.intro 0 (Exists.intro 0 (Exists.intro 0 (Exists.intro _ (And.intro l_isSheet (And.intro (And.intro (by decide) (And.intro (Nat.zero_le _) (Nat.zero_le _))) (eQP (show wp mX11_sheet 1 rc rs Q 4 [some (vr 0), some (vi x1), some (vi x2), some (vi x3)] [vi (b01 (0 ≤ x1 ∧ x1 ≤ 3))] h from xIf k_X11_sheet_4 (And.intro (fun c1 => have v3 := hv.1 (b01_n.mp c1); (show wp mX11_sheet 1 rc rs Q 17 [some (vr 0), some (vi x1), some (vi x2), some (vi x3)] [] h from xI k_X11_sheet_17 (And.intro rfl v3))) (fun c2 => have v4 := hv.2 (b01_p.mp c2); (show wp mX11_sheet 1 rc rs Q 7 [some (vr 0), some (vi x1), some (vi x2), some (vi x3)] [] h from xIc k_X11_sheet_7 (And.intro (fun c5 => have v7 := v4.1 c5; (show wp mX11_sheet 1 rc rs Q 17 [some (vr 0), some (vi x1), some (vi x2), some (vi x3)] [] h from xI k_X11_sheet_17 (And.intro rfl v7))) (fun c6 => have v8 := v4.2 (Int.not_lt.mp c6); (show wp mX11_sheet 1 rc rs Q 12 [some (vr 0), some (vi x1), some (vi x2), some (vi x3)] [] h from xIc k_X11_sheet_12 (And.intro (fun c9 => have v11 := v8.1 c9; (show wp mX11_sheet 1 rc rs Q 20 [some (vr 0), some (vi x1), some (vi x2), some (vi x3)] [] h from xIc k_X11_sheet_20 (And.intro (fun c13 => have v15 := v11.1 c13; (show wp mX11_sheet 1 rc rs Q 38 [some (vr 0), some (vi x1), some (vi x2), some (vi x3)] [] h from xIc k_X11_sheet_38 (And.intro (fun c17 => have v19 := v15.1 c17; (show wp mX11_sheet 1 rc rs Q 47 [some (vr 0), some (vi x1), some (vi x2), some (vi x3)] [] h from xIf k_X11_sheet_47 (And.intro (fun c21 => have v23 := v19.1 c21; (show wp mX11_sheet 1 rc rs Q 54 [some (vr 0), some (vi x1), some (vi x2), some (vi x3)] [] h from xcV k_X11_sheet_54 s_X11_sheet_62 (And.intro (ll_0 hL) (Exists.intro 23 (And.intro (lg_0_16 hL) (have c25 := v23.1; have v33 := v23.2; (And.intro (sdQ (ll_23 hL) c25) (Exists.intro (81 + 2 * x1.toNat) (And.intro (tb_sh hL (tnl c25)) (Exists.elim v33 (fun P28 v29 => (Exists.intro [vi x2, vi x3] (Exists.intro (81 + 2 * x1.toNat) (Exists.intro [] (And.intro (And.intro rfl (And.intro rfl (Nat.le_of_ble_eq_true rfl))) (And.intro (sh_o hL (ti_sh (tnl c25))) (Exists.intro 0 (Exists.intro 0 (Exists.intro 0 (Exists.intro (QV P28) (And.intro v29.1 (And.intro (And.intro (by decide) (And.intro (Nat.zero_le _) (Nat.zero_le _))) (eQV (fun h26 e31 => have v30 := v29.2 h26 e31; have hL := v30.1; have v30 := v30.2; (show wp mX11_sheet 1 rc rs Q 65 [some (vr 0), some (vi x1), some (vi x2), some (vi x3)] [] h26 from xI k_X11_sheet_65 (And.intro rfl v30)))))))))))))))))))))))))) (fun c22 => have v24 := v19.2 (Int.not_le.mp c22); (show wp mX11_sheet 1 rc rs Q 51 [some (vr 0), some (vi x1), some (vi x2), some (vi x3)] [] h from xI k_X11_sheet_51 (And.intro rfl v24)))))) (fun c18 => have v20 := v15.2 (Int.not_le.mp c18); (show wp mX11_sheet 1 rc rs Q 44 [some (vr 0), some (vi x1), some (vi x2), some (vi x3)] [] h from xI k_X11_sheet_44 (And.intro rfl v20)))))) (fun c14 => have v16 := v11.2 (Decidable.not_not.mp c14); (show wp mX11_sheet 1 rc rs Q 25 [some (vr 0), some (vi x1), some (vi x2), some (vi x3)] [] h from xcV k_X11_sheet_25 s_X11_sheet_33 (And.intro (ll_0 hL) (Exists.intro 23 (And.intro (lg_0_16 hL) (have c34 := v16.1; have v42 := v16.2; (And.intro (sdQ (ll_23 hL) c34) (Exists.intro (81 + 2 * x1.toNat) (And.intro (tb_sh hL (tnl c34)) (Exists.elim v42 (fun P37 v38 => (Exists.intro [vi (-1), vi 0] (Exists.intro (81 + 2 * x1.toNat) (Exists.intro [] (And.intro (And.intro rfl (And.intro rfl (Nat.le_of_ble_eq_true rfl))) (And.intro (sh_o hL (ti_sh (tnl c34))) (Exists.intro 0 (Exists.intro 0 (Exists.intro 0 (Exists.intro (QV P37) (And.intro v38.1 (And.intro (And.intro (by decide) (And.intro (Nat.zero_le _) (Nat.zero_le _))) (eQV (fun h35 e40 => have v39 := v38.2 h35 e40; have hL := v39.1; have v39 := v39.2; (show wp mX11_sheet 1 rc rs Q 36 [some (vr 0), some (vi x1), some (vi x2), some (vi x3)] [] h35 from xI k_X11_sheet_36 (And.intro rfl v39))))))))))))))))))))))))))))) (fun c10 => have v12 := v8.2 (Int.not_le.mp c10); (show wp mX11_sheet 1 rc rs Q 17 [some (vr 0), some (vi x1), some (vi x2), some (vi x3)] [] h from xI k_X11_sheet_17 (And.intro rfl v12)))))))))))))))))))))))
theorem e_X11_sheet {mc ms : Nat} {Q : Option AV → AH → Prop} {h : AH} {x1 x2 x3 : Int} (hL : LayL h) (hv : ((¬ (0 ≤ x1 ∧ x1 ≤ 3) → Q (some (vi (-2))) h) ∧ ((0 ≤ x1 ∧ x1 ≤ 3) → ((x2 < (-1) → Q (some (vi (-2))) h) ∧ ((-1) ≤ x2 → ((x2 ≤ 1 → ((x2 ≠ (-1) → ((x3 ≤ 40 → ((0 ≤ x3 → (0 ≤ x1 ∧ x1 < 4) ∧ (∃ P28 : AH → Prop, Ct 0 0 0 mX8_become [vr (81 + 2 * x1.toNat), vi x2, vi x3] h (QV P28) ∧ ∀ h26 : AH, P28 h26 → LayL h26 ∧ Q (some (vi 1)) h26)) ∧ (x3 < 0 → Q (some (vi (-14))) h))) ∧ (40 < x3 → Q (some (vi (-2))) h))) ∧ (x2 = (-1) → (0 ≤ x1 ∧ x1 < 4) ∧ (∃ P37 : AH → Prop, Ct 0 0 0 mX8_become [vr (81 + 2 * x1.toNat), vi (-1), vi 0] h (QV P37) ∧ ∀ h35 : AH, P37 h35 → LayL h35 ∧ Q (some (vi 1)) h35)))) ∧ (1 < x2 → Q (some (vi (-2))) h))))))) : Ct 1 mc ms mX11_sheet [vr 0, vi x1, vi x2, vi x3] h Q := Ct.of (by decide +kernel) (Nat.le_of_ble_eq_true rfl) (t_X11_sheet_0 hL hv)
def b_X11_cell_0 : List IE := [(.iload_n 1, 1, 0, 0, 1, 0)]
theorem k_X11_cell_0 : ckB mX11_cell 11 0 b_X11_cell_0 1 = true := by decide +kernel
def b_X11_cell_4 : List IE := []
theorem k_X11_cell_4 : ckIf mX11_cell 11 4 b_X11_cell_4 4 1 6 10 7 = true := by decide +kernel
def b_X11_cell_7 : List IE := [(.bipush (-2), 2, (-2), 0, 0, 0)]
theorem k_X11_cell_7 : ckI mX11_cell 11 7 b_X11_cell_7 9 = true := by decide +kernel
def b_X11_cell_10 : List IE := [(.aload_n 0, 1, 0, 0, 0, 0), (.getfield 84, 3, 0, 11, 16, 1), (.iload_n 1, 1, 0, 0, 1, 0), (.aaload, 1, 0, 0, 0, 0)]
theorem k_X11_cell_10 : ckB mX11_cell 11 10 b_X11_cell_10 16 = true := by decide +kernel
def b_X11_cell_19 : List IE := []
theorem k_X11_cell_19 : ckIf mX11_cell 11 19 b_X11_cell_19 19 0 6 25 22 = true := by decide +kernel
def b_X11_cell_22 : List IE := [(.bipush (-11), 2, (-11), 0, 0, 0)]
theorem k_X11_cell_22 : ckI mX11_cell 11 22 b_X11_cell_22 24 = true := by decide +kernel
def b_X11_cell_25 : List IE := [(.aload_n 0, 1, 0, 0, 0, 0), (.getfield 84, 3, 0, 11, 16, 1), (.iload_n 1, 1, 0, 0, 1, 0), (.aaload, 1, 0, 0, 0, 0), (.iload_n 2, 1, 0, 0, 2, 0), (.iconst 1, 1, 1, 0, 0, 0)]
theorem k_X11_cell_25 : ckB mX11_cell 11 25 b_X11_cell_25 33 = true := by decide +kernel
def b_X11_cell_36 : List IE := []
theorem k_X11_cell_36 : ckIf mX11_cell 11 36 b_X11_cell_36 36 1 6 42 39 = true := by decide +kernel
def b_X11_cell_39 : List IE := [(.bipush (-12), 2, (-12), 0, 0, 0)]
theorem k_X11_cell_39 : ckI mX11_cell 11 39 b_X11_cell_39 41 = true := by decide +kernel
def b_X11_cell_42 : List IE := [(.aload_n 0, 1, 0, 0, 0, 0), (.getfield 84, 3, 0, 11, 16, 1), (.iload_n 1, 1, 0, 0, 1, 0), (.aaload, 1, 0, 0, 0, 0), (.iload_n 2, 1, 0, 0, 2, 0), (.iload_n 3, 1, 0, 0, 3, 0)]
theorem k_X11_cell_42 : ckB mX11_cell 11 42 b_X11_cell_42 50 = true := by decide +kernel
def b_X11_cell_53 : List IE := [(.iconst 1, 1, 1, 0, 0, 0)]
theorem k_X11_cell_53 : ckI mX11_cell 11 53 b_X11_cell_53 54 = true := by decide +kernel
theorem s_X11_cell_1 : cS mX11_cell 1 mX11_isSheet 322 1 := ⟨by decide +kernel, ⟨ml_X11_isSheet, li_RX11_322, st_X11_isSheet⟩, by decide +kernel⟩
theorem s_X11_cell_16 : cV mX11_cell 16 mX8_isMissing 325 0 8 := ⟨by decide +kernel, ⟨ml_X8_isMissing, li_RX11_325, im_X8_isMissing, se_X8_isMissing⟩, ⟨by decide +kernel, by decide +kernel⟩, by decide +kernel⟩
theorem s_X11_cell_33 : cV mX11_cell 33 mX8_hasItems 375 2 8 := ⟨by decide +kernel, ⟨ml_X8_hasItems, li_RX11_375, im_X8_hasItems, se_X8_hasItems⟩, ⟨by decide +kernel, by decide +kernel⟩, by decide +kernel⟩
theorem s_X11_cell_50 : cV mX11_cell 50 mX8_put 348 2 8 := ⟨by decide +kernel, ⟨ml_X8_put, li_RX11_348, im_X8_put, se_X8_put⟩, ⟨by decide +kernel, by decide +kernel⟩, by decide +kernel⟩
theorem t_X11_cell_0 {rc rs : Nat} {Q : Option AV → AH → Prop} {h : AH} {x1 x2 x3 : Int} (hL : LayL h) (hv : (((0 ≤ x1 ∧ x1 ≤ 3) → (0 ≤ x1 ∧ x1 < 4) ∧ (iSh (81 + 2 * x1.toNat)) ∧ ((¬ (iH h (81 + 2 * x1.toNat) 1 = -1) → (iSh (81 + 2 * x1.toNat) ∧ 0 ≤ iH h (81 + 2 * x1.toNat) 2 ∧ iH h (81 + 2 * x1.toNat) 2 ≤ 40) ∧ (((0 ≤ x2 ∧ 0 ≤ (1 : Int) ∧ x2 ≤ iH h (81 + 2 * x1.toNat) 2 ∧ (1 : Int) ≤ iH h (81 + 2 * x1.toNat) 2 - x2) → (∃ P18 : AH → Prop, Ct 1 0 0 mX8_put [vr (81 + 2 * x1.toNat), vi x2, vi x3] h (QV P18) ∧ ∀ h16 : AH, P18 h16 → LayL h16 ∧ Q (some (vi 1)) h16)) ∧ (¬ (0 ≤ x2 ∧ 0 ≤ (1 : Int) ∧ x2 ≤ iH h (81 + 2 * x1.toNat) 2 ∧ (1 : Int) ≤ iH h (81 + 2 * x1.toNat) 2 - x2) → Q (some (vi (-12))) h))) ∧ ((iH h (81 + 2 * x1.toNat) 1 = -1) → Q (some (vi (-11))) h))) ∧ (¬ (0 ≤ x1 ∧ x1 ≤ 3) → Q (some (vi (-2))) h))) : wp mX11_cell 2 rc rs Q 0 [some (vr 0), some (vi x1), some (vi x2), some (vi x3)] [] h :=
  (show wp mX11_cell 2 rc rs Q 0 [some (vr 0), some (vi x1), some (vi x2), some (vi x3)] [] h from xcS k_X11_cell_0 s_X11_cell_1 ((Exists.intro [vi x1] (Exists.intro [] (And.intro (And.intro rfl (And.intro rfl (Nat.le_of_ble_eq_true rfl))) (Exists.intro 0 (Exists.intro 0 (Exists.intro 0 (Exists.intro _ (And.intro l_isSheet (And.intro (And.intro (by decide) (And.intro (Nat.zero_le _) (Nat.zero_le _))) (eQP (show wp mX11_cell 2 rc rs Q 4 [some (vr 0), some (vi x1), some (vi x2), some (vi x3)] [vi (b01 (0 ≤ x1 ∧ x1 ≤ 3))] h from xIf k_X11_cell_4 (And.intro (fun c1 => have v3 := hv.1 (b01_p.mp c1); (show wp mX11_cell 2 rc rs Q 10 [some (vr 0), some (vi x1), some (vi x2), some (vi x3)] [] h from xcV k_X11_cell_10 s_X11_cell_16 (And.intro (ll_0 hL) (Exists.intro 23 (And.intro (lg_0_16 hL) (have c5 := v3.1; have v29 := v3.2; (And.intro (sdQ (ll_23 hL) c5) (Exists.intro (81 + 2 * x1.toNat) (And.intro (tb_sh hL (tnl c5)) (have c26 := v29.1; have v27 := v29.2; (Exists.intro [] (Exists.intro (81 + 2 * x1.toNat) (Exists.intro [] (And.intro (And.intro rfl (And.intro rfl (Nat.le_of_ble_eq_true rfl))) (And.intro (sh_o hL (ti_sh (tnl c5))) (Exists.intro 0 (Exists.intro 0 (Exists.intro 0 (Exists.intro _ (And.intro (l_isMissing (h := h) hL c26) (And.intro (And.intro (by decide) (And.intro (Nat.zero_le _) (Nat.zero_le _))) (eQP (show wp mX11_cell 2 rc rs Q 19 [some (vr 0), some (vi x1), some (vi x2), some (vi x3)] [vi (b01 (iH h (81 + 2 * x1.toNat) 1 = -1))] h from xIf k_X11_cell_19 (And.intro (fun c6 => have v8 := v27.1 (b01_n.mp c6); (show wp mX11_cell 2 rc rs Q 25 [some (vr 0), some (vi x1), some (vi x2), some (vi x3)] [] h from xcV k_X11_cell_25 s_X11_cell_33 (And.intro (ll_0 hL) (Exists.intro 23 (And.intro (lg_0_16 hL) (And.intro (sdQ (ll_23 hL) c5) (Exists.intro (81 + 2 * x1.toNat) (And.intro (tb_sh hL (tnl c5)) (have c23 := v8.1; have v24 := v8.2; (Exists.intro [vi x2, vi 1] (Exists.intro (81 + 2 * x1.toNat) (Exists.intro [] (And.intro (And.intro rfl (And.intro rfl (Nat.le_of_ble_eq_true rfl))) (And.intro (sh_o hL (ti_sh (tnl c5))) (Exists.intro 0 (Exists.intro 0 (Exists.intro 0 (Exists.intro _ (And.intro (l_hasItems (h := h) hL c23) (And.intro (And.intro (by decide) (And.intro (Nat.zero_le _) (Nat.zero_le _))) (eQP (show wp mX11_cell 2 rc rs Q 36 [some (vr 0), some (vi x1), some (vi x2), some (vi x3)] [vi (b01 (0 ≤ x2 ∧ 0 ≤ (1 : Int) ∧ x2 ≤ iH h (81 + 2 * x1.toNat) 2 ∧ (1 : Int) ≤ iH h (81 + 2 * x1.toNat) 2 - x2))] h from xIf k_X11_cell_36 (And.intro (fun c11 => have v13 := v24.1 (b01_p.mp c11); (show wp mX11_cell 2 rc rs Q 42 [some (vr 0), some (vi x1), some (vi x2), some (vi x3)] [] h from xcV k_X11_cell_42 s_X11_cell_50 (And.intro (ll_0 hL) (Exists.intro 23 (And.intro (lg_0_16 hL) (And.intro (sdQ (ll_23 hL) c5) (Exists.intro (81 + 2 * x1.toNat) (And.intro (tb_sh hL (tnl c5)) (Exists.elim v13 (fun P18 v19 => (Exists.intro [vi x2, vi x3] (Exists.intro (81 + 2 * x1.toNat) (Exists.intro [] (And.intro (And.intro rfl (And.intro rfl (Nat.le_of_ble_eq_true rfl))) (And.intro (sh_o hL (ti_sh (tnl c5))) (Exists.intro 1 (Exists.intro 0 (Exists.intro 0 (Exists.intro (QV P18) (And.intro v19.1 (And.intro (And.intro (by decide) (And.intro (Nat.zero_le _) (Nat.zero_le _))) (eQV (fun h16 e21 => have v20 := v19.2 h16 e21; have hL := v20.1; have v20 := v20.2; (show wp mX11_cell 2 rc rs Q 53 [some (vr 0), some (vi x1), some (vi x2), some (vi x3)] [] h16 from xI k_X11_cell_53 (And.intro rfl v20))))))))))))))))))))))))) (fun c12 => have v14 := v24.2 (b01_nn.mp c12); (show wp mX11_cell 2 rc rs Q 39 [some (vr 0), some (vi x1), some (vi x2), some (vi x3)] [] h from xI k_X11_cell_39 (And.intro rfl v14)))))))))))))))))))))))))) (fun c7 => have v9 := v27.2 (b01_p.mp c7); (show wp mX11_cell 2 rc rs Q 22 [some (vr 0), some (vi x1), some (vi x2), some (vi x3)] [] h from xI k_X11_cell_22 (And.intro rfl v9))))))))))))))))))))))))))) (fun c2 => have v4 := hv.2 (b01_nn.mp c2); (show wp mX11_cell 2 rc rs Q 7 [some (vr 0), some (vi x1), some (vi x2), some (vi x3)] [] h from xI k_X11_cell_7 (And.intro rfl v4)))))))))))))))))
theorem e_X11_cell {mc ms : Nat} {Q : Option AV → AH → Prop} {h : AH} {x1 x2 x3 : Int} (hL : LayL h) (hv : (((0 ≤ x1 ∧ x1 ≤ 3) → (0 ≤ x1 ∧ x1 < 4) ∧ (iSh (81 + 2 * x1.toNat)) ∧ ((¬ (iH h (81 + 2 * x1.toNat) 1 = -1) → (iSh (81 + 2 * x1.toNat) ∧ 0 ≤ iH h (81 + 2 * x1.toNat) 2 ∧ iH h (81 + 2 * x1.toNat) 2 ≤ 40) ∧ (((0 ≤ x2 ∧ 0 ≤ (1 : Int) ∧ x2 ≤ iH h (81 + 2 * x1.toNat) 2 ∧ (1 : Int) ≤ iH h (81 + 2 * x1.toNat) 2 - x2) → (∃ P18 : AH → Prop, Ct 1 0 0 mX8_put [vr (81 + 2 * x1.toNat), vi x2, vi x3] h (QV P18) ∧ ∀ h16 : AH, P18 h16 → LayL h16 ∧ Q (some (vi 1)) h16)) ∧ (¬ (0 ≤ x2 ∧ 0 ≤ (1 : Int) ∧ x2 ≤ iH h (81 + 2 * x1.toNat) 2 ∧ (1 : Int) ≤ iH h (81 + 2 * x1.toNat) 2 - x2) → Q (some (vi (-12))) h))) ∧ ((iH h (81 + 2 * x1.toNat) 1 = -1) → Q (some (vi (-11))) h))) ∧ (¬ (0 ≤ x1 ∧ x1 ≤ 3) → Q (some (vi (-2))) h))) : Ct 2 mc ms mX11_cell [vr 0, vi x1, vi x2, vi x3] h Q := Ct.of (by decide +kernel) (Nat.le_of_ble_eq_true rfl) (t_X11_cell_0 hL hv)
def b_X11_copy_0 : List IE := [(.iload_n 1, 1, 0, 0, 1, 0)]
theorem k_X11_copy_0 : ckB mX11_copy 11 0 b_X11_copy_0 1 = true := by decide +kernel
def b_X11_copy_4 : List IE := []
theorem k_X11_copy_4 : ckIf mX11_copy 11 4 b_X11_copy_4 4 0 10 14 7 = true := by decide +kernel
def b_X11_copy_7 : List IE := [(.iload_n 3, 1, 0, 0, 3, 0)]
theorem k_X11_copy_7 : ckB mX11_copy 11 7 b_X11_copy_7 8 = true := by decide +kernel
def b_X11_copy_11 : List IE := []
theorem k_X11_copy_11 : ckIf mX11_copy 11 11 b_X11_copy_11 11 1 6 17 14 = true := by decide +kernel
def b_X11_copy_14 : List IE := [(.bipush (-2), 2, (-2), 0, 0, 0)]
theorem k_X11_copy_14 : ckI mX11_copy 11 14 b_X11_copy_14 16 = true := by decide +kernel
def b_X11_copy_17 : List IE := [(.aload_n 0, 1, 0, 0, 0, 0), (.getfield 84, 3, 0, 11, 16, 1), (.iload_n 1, 1, 0, 0, 1, 0), (.aaload, 1, 0, 0, 0, 0), (.astore 6, 2, 0, 0, 6, 0), (.aload_n 0, 1, 0, 0, 0, 0), (.getfield 84, 3, 0, 11, 16, 1), (.iload_n 3, 1, 0, 0, 3, 0), (.aaload, 1, 0, 0, 0, 0), (.astore 7, 2, 0, 0, 7, 0), (.aload 6, 2, 0, 0, 6, 0)]
theorem k_X11_copy_17 : ckB mX11_copy 11 17 b_X11_copy_17 35 = true := by decide +kernel
def b_X11_copy_38 : List IE := []
theorem k_X11_copy_38 : ckIf mX11_copy 11 38 b_X11_copy_38 38 1 11 49 41 = true := by decide +kernel
def b_X11_copy_41 : List IE := [(.aload 7, 2, 0, 0, 7, 0)]
theorem k_X11_copy_41 : ckB mX11_copy 11 41 b_X11_copy_41 43 = true := by decide +kernel
def b_X11_copy_46 : List IE := []
theorem k_X11_copy_46 : ckIf mX11_copy 11 46 b_X11_copy_46 46 0 6 52 49 = true := by decide +kernel
def b_X11_copy_49 : List IE := [(.bipush (-11), 2, (-11), 0, 0, 0)]
theorem k_X11_copy_49 : ckI mX11_copy 11 49 b_X11_copy_49 51 = true := by decide +kernel
def b_X11_copy_52 : List IE := [(.aload 6, 2, 0, 0, 6, 0), (.getfield 378, 3, 0, 8, 1, 0), (.aload 7, 2, 0, 0, 7, 0), (.getfield 378, 3, 0, 8, 1, 0)]
theorem k_X11_copy_52 : ckIc mX11_copy 11 52 b_X11_copy_52 62 0 6 68 65 = true := by decide +kernel
def b_X11_copy_65 : List IE := [(.bipush (-13), 2, (-13), 0, 0, 0)]
theorem k_X11_copy_65 : ckI mX11_copy 11 65 b_X11_copy_65 67 = true := by decide +kernel
def b_X11_copy_68 : List IE := [(.aload 6, 2, 0, 0, 6, 0), (.iload_n 2, 1, 0, 0, 2, 0), (.iload 5, 2, 0, 0, 5, 0)]
theorem k_X11_copy_68 : ckB mX11_copy 11 68 b_X11_copy_68 73 = true := by decide +kernel
def b_X11_copy_76 : List IE := []
theorem k_X11_copy_76 : ckIf mX11_copy 11 76 b_X11_copy_76 76 0 15 91 79 = true := by decide +kernel
def b_X11_copy_79 : List IE := [(.aload 7, 2, 0, 0, 7, 0), (.iload 4, 2, 0, 0, 4, 0), (.iload 5, 2, 0, 0, 5, 0)]
theorem k_X11_copy_79 : ckB mX11_copy 11 79 b_X11_copy_79 85 = true := by decide +kernel
def b_X11_copy_88 : List IE := []
theorem k_X11_copy_88 : ckIf mX11_copy 11 88 b_X11_copy_88 88 1 6 94 91 = true := by decide +kernel
def b_X11_copy_91 : List IE := [(.bipush (-12), 2, (-12), 0, 0, 0)]
theorem k_X11_copy_91 : ckI mX11_copy 11 91 b_X11_copy_91 93 = true := by decide +kernel
def b_X11_copy_94 : List IE := [(.aload 6, 2, 0, 0, 6, 0), (.getfield 381, 3, 0, 8, 0, 1), (.iload_n 2, 1, 0, 0, 2, 0), (.aload 7, 2, 0, 0, 7, 0), (.getfield 381, 3, 0, 8, 0, 1), (.iload 4, 2, 0, 0, 4, 0), (.iload 5, 2, 0, 0, 5, 0)]
theorem k_X11_copy_94 : ckB mX11_copy 11 94 b_X11_copy_94 109 = true := by decide +kernel
def b_X11_copy_112 : List IE := [(.iload 5, 2, 0, 0, 5, 0)]
theorem k_X11_copy_112 : ckI mX11_copy 11 112 b_X11_copy_112 114 = true := by decide +kernel
theorem s_X11_copy_1 : cS mX11_copy 1 mX11_isSheet 322 1 := ⟨by decide +kernel, ⟨ml_X11_isSheet, li_RX11_322, st_X11_isSheet⟩, by decide +kernel⟩
theorem s_X11_copy_8 : cS mX11_copy 8 mX11_isSheet 322 1 := ⟨by decide +kernel, ⟨ml_X11_isSheet, li_RX11_322, st_X11_isSheet⟩, by decide +kernel⟩
theorem s_X11_copy_35 : cV mX11_copy 35 mX8_isMissing 325 0 8 := ⟨by decide +kernel, ⟨ml_X8_isMissing, li_RX11_325, im_X8_isMissing, se_X8_isMissing⟩, ⟨by decide +kernel, by decide +kernel⟩, by decide +kernel⟩
theorem s_X11_copy_43 : cV mX11_copy 43 mX8_isMissing 325 0 8 := ⟨by decide +kernel, ⟨ml_X8_isMissing, li_RX11_325, im_X8_isMissing, se_X8_isMissing⟩, ⟨by decide +kernel, by decide +kernel⟩, by decide +kernel⟩
theorem s_X11_copy_73 : cV mX11_copy 73 mX8_hasItems 375 2 8 := ⟨by decide +kernel, ⟨ml_X8_hasItems, li_RX11_375, im_X8_hasItems, se_X8_hasItems⟩, ⟨by decide +kernel, by decide +kernel⟩, by decide +kernel⟩
theorem s_X11_copy_85 : cV mX11_copy 85 mX8_hasItems 375 2 8 := ⟨by decide +kernel, ⟨ml_X8_hasItems, li_RX11_375, im_X8_hasItems, se_X8_hasItems⟩, ⟨by decide +kernel, by decide +kernel⟩, by decide +kernel⟩
theorem s_X11_copy_109 : cCp mX11_copy 109 384 := ⟨by decide +kernel, gt_ok (List.mem_of_getElem? (i := 970) (by decide +kernel)) (by decide +kernel), gt_ok (List.mem_of_getElem? (i := 456) (by decide +kernel)) (by decide +kernel), gt_ok (List.mem_of_getElem? (i := 455) (by decide +kernel)) (by decide +kernel), gt_ok (List.mem_of_getElem? (i := 102) (by decide +kernel)) (by decide +kernel)⟩
theorem t_X11_copy_0 {rc rs : Nat} {Q : Option AV → AH → Prop} {h : AH} {x1 x2 x3 x4 x5 : Int} (hL : LayL h) (hv : ((¬ (0 ≤ x1 ∧ x1 ≤ 3) → Q (some (vi (-2))) h) ∧ ((0 ≤ x1 ∧ x1 ≤ 3) → (((0 ≤ x3 ∧ x3 ≤ 3) → (0 ≤ x1 ∧ x1 < 4) ∧ (0 ≤ x3 ∧ x3 < 4) ∧ (iSh (81 + 2 * x1.toNat)) ∧ (((iH h (81 + 2 * x1.toNat) 1 = -1) → Q (some (vi (-11))) h) ∧ (¬ (iH h (81 + 2 * x1.toNat) 1 = -1) → (iSh (81 + 2 * x3.toNat)) ∧ ((¬ (iH h (81 + 2 * x3.toNat) 1 = -1) → (((iH h (81 + 2 * x1.toNat) 1) = (iH h (81 + 2 * x3.toNat) 1) → (iSh (81 + 2 * x1.toNat) ∧ 0 ≤ iH h (81 + 2 * x1.toNat) 2 ∧ iH h (81 + 2 * x1.toNat) 2 ≤ 40) ∧ ((¬ (0 ≤ x2 ∧ 0 ≤ x5 ∧ x2 ≤ iH h (81 + 2 * x1.toNat) 2 ∧ x5 ≤ iH h (81 + 2 * x1.toNat) 2 - x2) → Q (some (vi (-12))) h) ∧ ((0 ≤ x2 ∧ 0 ≤ x5 ∧ x2 ≤ iH h (81 + 2 * x1.toNat) 2 ∧ x5 ≤ iH h (81 + 2 * x1.toNat) 2 - x2) → (iSh (81 + 2 * x3.toNat) ∧ 0 ≤ iH h (81 + 2 * x3.toNat) 2 ∧ iH h (81 + 2 * x3.toNat) 2 ≤ 40) ∧ (((0 ≤ x4 ∧ 0 ≤ x5 ∧ x4 ≤ iH h (81 + 2 * x3.toNat) 2 ∧ x5 ≤ iH h (81 + 2 * x3.toNat) 2 - x4) → (0 ≤ x2 ∧ 0 ≤ x4 ∧ 0 ≤ x5 ∧ x2 + x5 ≤ 40 ∧ x4 + x5 ≤ 40) ∧ Q (some (vi x5)) (cpI h ((81 + 2 * x1.toNat) + 1) x2.toNat ((81 + 2 * x3.toNat) + 1) x4.toNat x5.toNat)) ∧ (¬ (0 ≤ x4 ∧ 0 ≤ x5 ∧ x4 ≤ iH h (81 + 2 * x3.toNat) 2 ∧ x5 ≤ iH h (81 + 2 * x3.toNat) 2 - x4) → Q (some (vi (-12))) h))))) ∧ ((iH h (81 + 2 * x1.toNat) 1) ≠ (iH h (81 + 2 * x3.toNat) 1) → Q (some (vi (-13))) h))) ∧ ((iH h (81 + 2 * x3.toNat) 1 = -1) → Q (some (vi (-11))) h))))) ∧ (¬ (0 ≤ x3 ∧ x3 ≤ 3) → Q (some (vi (-2))) h))))) : wp mX11_copy 1 rc rs Q 0 [some (vr 0), some (vi x1), some (vi x2), some (vi x3), some (vi x4), some (vi x5), none, none] [] h :=
  (show wp mX11_copy 1 rc rs Q 0 [some (vr 0), some (vi x1), some (vi x2), some (vi x3), some (vi x4), some (vi x5), none, none] [] h from xcS k_X11_copy_0 s_X11_copy_1 ((Exists.intro [vi x1] (Exists.intro [] (And.intro (And.intro rfl (And.intro rfl (Nat.le_of_ble_eq_true rfl))) (Exists.intro 0 (Exists.intro 0 (Exists.intro 0 (Exists.intro _ (And.intro l_isSheet (And.intro (And.intro (by decide) (And.intro (Nat.zero_le _) (Nat.zero_le _))) (eQP (show wp mX11_copy 1 rc rs Q 4 [some (vr 0), some (vi x1), some (vi x2), some (vi x3), some (vi x4), some (vi x5), none, none] [vi (b01 (0 ≤ x1 ∧ x1 ≤ 3))] h from xIf k_X11_copy_4 (And.intro (fun c1 => have v3 := hv.1 (b01_n.mp c1); (show wp mX11_copy 1 rc rs Q 14 [some (vr 0), some (vi x1), some (vi x2), some (vi x3), some (vi x4), some (vi x5), none, none] [] h from xI k_X11_copy_14 (And.intro rfl v3))) (fun c2 => have v4 := hv.2 (b01_p.mp c2); (show wp mX11_copy 1 rc rs Q 7 [some (vr 0), some (vi x1), some (vi x2), some (vi x3), some (vi x4), some (vi x5), none, none] [] h from xcS k_X11_copy_7 s_X11_copy_8 ((Exists.intro [vi x3] (Exists.intro [] (And.intro (And.intro rfl (And.intro rfl (Nat.le_of_ble_eq_true rfl))) (Exists.intro 0 (Exists.intro 0 (Exists.intro 0 (Exists.intro _ (And.intro l_isSheet (And.intro (And.intro (by decide) (And.intro (Nat.zero_le _) (Nat.zero_le _))) (eQP (show wp mX11_copy 1 rc rs Q 11 [some (vr 0), some (vi x1), some (vi x2), some (vi x3), some (vi x4), some (vi x5), none, none] [vi (b01 (0 ≤ x3 ∧ x3 ≤ 3))] h from xIf k_X11_copy_11 (And.intro (fun c5 => have v7 := v4.1 (b01_p.mp c5); (show wp mX11_copy 1 rc rs Q 17 [some (vr 0), some (vi x1), some (vi x2), some (vi x3), some (vi x4), some (vi x5), none, none] [] h from xcV k_X11_copy_17 s_X11_copy_35 (And.intro (ll_0 hL) (Exists.intro 23 (And.intro (lg_0_16 hL) (have c9 := v7.1; have v46 := v7.2; (And.intro (sdQ (ll_23 hL) c9) (Exists.intro (81 + 2 * x1.toNat) (And.intro (tb_sh hL (tnl c9)) (And.intro rfl (And.intro (ll_0 hL) (Exists.intro 23 (And.intro (lg_0_16 hL) (have c10 := v46.1; have v45 := v46.2; (And.intro (sdQ (ll_23 hL) c10) (Exists.intro (81 + 2 * x3.toNat) (And.intro (tb_sh hL (tnl c10)) (And.intro rfl (have c42 := v45.1; have v43 := v45.2; (Exists.intro [] (Exists.intro (81 + 2 * x1.toNat) (Exists.intro [] (And.intro (And.intro rfl (And.intro rfl (Nat.le_of_ble_eq_true rfl))) (And.intro (sh_o hL (ti_sh (tnl c9))) (Exists.intro 0 (Exists.intro 0 (Exists.intro 0 (Exists.intro _ (And.intro (l_isMissing (h := h) hL c42) (And.intro (And.intro (by decide) (And.intro (Nat.zero_le _) (Nat.zero_le _))) (eQP (show wp mX11_copy 1 rc rs Q 38 [some (vr 0), some (vi x1), some (vi x2), some (vi x3), some (vi x4), some (vi x5), some (vr (81 + 2 * x1.toNat)), some (vr (81 + 2 * x3.toNat))] [vi (b01 (iH h (81 + 2 * x1.toNat) 1 = -1))] h from xIf k_X11_copy_38 (And.intro (fun c11 => have v13 := v43.1 (b01_p.mp c11); (show wp mX11_copy 1 rc rs Q 49 [some (vr 0), some (vi x1), some (vi x2), some (vi x3), some (vi x4), some (vi x5), some (vr (81 + 2 * x1.toNat)), some (vr (81 + 2 * x3.toNat))] [] h from xI k_X11_copy_49 (And.intro rfl v13))) (fun c12 => have v14 := v43.2 (b01_nn.mp c12); (show wp mX11_copy 1 rc rs Q 41 [some (vr 0), some (vi x1), some (vi x2), some (vi x3), some (vi x4), some (vi x5), some (vr (81 + 2 * x1.toNat)), some (vr (81 + 2 * x3.toNat))] [] h from xcV k_X11_copy_41 s_X11_copy_43 (have c39 := v14.1; have v40 := v14.2; (Exists.intro [] (Exists.intro (81 + 2 * x3.toNat) (Exists.intro [] (And.intro (And.intro rfl (And.intro rfl (Nat.le_of_ble_eq_true rfl))) (And.intro (sh_o hL (ti_sh (tnl c10))) (Exists.intro 0 (Exists.intro 0 (Exists.intro 0 (Exists.intro _ (And.intro (l_isMissing (h := h) hL c39) (And.intro (And.intro (by decide) (And.intro (Nat.zero_le _) (Nat.zero_le _))) (eQP (show wp mX11_copy 1 rc rs Q 46 [some (vr 0), some (vi x1), some (vi x2), some (vi x3), some (vi x4), some (vi x5), some (vr (81 + 2 * x1.toNat)), some (vr (81 + 2 * x3.toNat))] [vi (b01 (iH h (81 + 2 * x3.toNat) 1 = -1))] h from xIf k_X11_copy_46 (And.intro (fun c15 => have v17 := v40.1 (b01_n.mp c15); (show wp mX11_copy 1 rc rs Q 52 [some (vr 0), some (vi x1), some (vi x2), some (vi x3), some (vi x4), some (vi x5), some (vr (81 + 2 * x1.toNat)), some (vr (81 + 2 * x3.toNat))] [] h from xIc k_X11_copy_52 (And.intro (sh_o hL (ti_sh (tnl c9))) (And.intro (sh_o hL (ti_sh (tnl c10))) (And.intro (fun c19 => have v21 := v17.1 c19; (show wp mX11_copy 1 rc rs Q 68 [some (vr 0), some (vi x1), some (vi x2), some (vi x3), some (vi x4), some (vi x5), some (vr (81 + 2 * x1.toNat)), some (vr (81 + 2 * x3.toNat))] [] h from xcV k_X11_copy_68 s_X11_copy_73 (have c36 := v21.1; have v37 := v21.2; (Exists.intro [vi x2, vi x5] (Exists.intro (81 + 2 * x1.toNat) (Exists.intro [] (And.intro (And.intro rfl (And.intro rfl (Nat.le_of_ble_eq_true rfl))) (And.intro (sh_o hL (ti_sh (tnl c9))) (Exists.intro 0 (Exists.intro 0 (Exists.intro 0 (Exists.intro _ (And.intro (l_hasItems (h := h) hL c36) (And.intro (And.intro (by decide) (And.intro (Nat.zero_le _) (Nat.zero_le _))) (eQP (show wp mX11_copy 1 rc rs Q 76 [some (vr 0), some (vi x1), some (vi x2), some (vi x3), some (vi x4), some (vi x5), some (vr (81 + 2 * x1.toNat)), some (vr (81 + 2 * x3.toNat))] [vi (b01 (0 ≤ x2 ∧ 0 ≤ x5 ∧ x2 ≤ iH h (81 + 2 * x1.toNat) 2 ∧ x5 ≤ iH h (81 + 2 * x1.toNat) 2 - x2))] h from xIf k_X11_copy_76 (And.intro (fun c23 => have v25 := v37.1 (b01_n.mp c23); (show wp mX11_copy 1 rc rs Q 91 [some (vr 0), some (vi x1), some (vi x2), some (vi x3), some (vi x4), some (vi x5), some (vr (81 + 2 * x1.toNat)), some (vr (81 + 2 * x3.toNat))] [] h from xI k_X11_copy_91 (And.intro rfl v25))) (fun c24 => have v26 := v37.2 (b01_p.mp c24); (show wp mX11_copy 1 rc rs Q 79 [some (vr 0), some (vi x1), some (vi x2), some (vi x3), some (vi x4), some (vi x5), some (vr (81 + 2 * x1.toNat)), some (vr (81 + 2 * x3.toNat))] [] h from xcV k_X11_copy_79 s_X11_copy_85 (have c33 := v26.1; have v34 := v26.2; (Exists.intro [vi x4, vi x5] (Exists.intro (81 + 2 * x3.toNat) (Exists.intro [] (And.intro (And.intro rfl (And.intro rfl (Nat.le_of_ble_eq_true rfl))) (And.intro (sh_o hL (ti_sh (tnl c10))) (Exists.intro 0 (Exists.intro 0 (Exists.intro 0 (Exists.intro _ (And.intro (l_hasItems (h := h) hL c33) (And.intro (And.intro (by decide) (And.intro (Nat.zero_le _) (Nat.zero_le _))) (eQP (show wp mX11_copy 1 rc rs Q 88 [some (vr 0), some (vi x1), some (vi x2), some (vi x3), some (vi x4), some (vi x5), some (vr (81 + 2 * x1.toNat)), some (vr (81 + 2 * x3.toNat))] [vi (b01 (0 ≤ x4 ∧ 0 ≤ x5 ∧ x4 ≤ iH h (81 + 2 * x3.toNat) 2 ∧ x5 ≤ iH h (81 + 2 * x3.toNat) 2 - x4))] h from xIf k_X11_copy_88 (And.intro (fun c27 => have v29 := v34.1 (b01_p.mp c27); (show wp mX11_copy 1 rc rs Q 94 [some (vr 0), some (vi x1), some (vi x2), some (vi x3), some (vi x4), some (vi x5), some (vr (81 + 2 * x1.toNat)), some (vr (81 + 2 * x3.toNat))] [] h from xcp k_X11_copy_94 s_X11_copy_109 (And.intro (sh_o hL (ti_sh (tnl c9))) (Exists.intro ((81 + 2 * x1.toNat) + 1) (And.intro (sh_r0 hL (ti_sh (tnl c9))) (And.intro (sh_o hL (ti_sh (tnl c10))) (Exists.intro ((81 + 2 * x3.toNat) + 1) (And.intro (sh_r0 hL (ti_sh (tnl c10))) (have c31 := v29.1; have v32 := v29.2; Exists.intro _ (Exists.intro _ (Exists.intro 13 (And.intro (sh_a0 hL (ti_sh (tnl c9))) (And.intro (sh_a0 hL (ti_sh (tnl c10))) (And.intro (Or.inl rfl) (And.intro c31 (And.intro (And.intro (Nat.le_of_ble_eq_true rfl) (Nat.le_of_ble_eq_true rfl)) (show wp mX11_copy 1 rc rs Q 112 [some (vr 0), some (vi x1), some (vi x2), some (vi x3), some (vi x4), some (vi x5), some (vr (81 + 2 * x1.toNat)), some (vr (81 + 2 * x3.toNat))] [] (cpI h ((81 + 2 * x1.toNat) + 1) x2.toNat ((81 + 2 * x3.toNat) + 1) x4.toNat x5.toNat) from xI k_X11_copy_112 (And.intro rfl v32)))))))))))))))))) (fun c28 => have v30 := v34.2 (b01_nn.mp c28); (show wp mX11_copy 1 rc rs Q 91 [some (vr 0), some (vi x1), some (vi x2), some (vi x3), some (vi x4), some (vi x5), some (vr (81 + 2 * x1.toNat)), some (vr (81 + 2 * x3.toNat))] [] h from xI k_X11_copy_91 (And.intro rfl v30))))))))))))))))))))))))))))))))))))) (fun c20 => have v22 := v17.2 c20; (show wp mX11_copy 1 rc rs Q 65 [some (vr 0), some (vi x1), some (vi x2), some (vi x3), some (vi x4), some (vi x5), some (vr (81 + 2 * x1.toNat)), some (vr (81 + 2 * x3.toNat))] [] h from xI k_X11_copy_65 (And.intro rfl v22)))))))) (fun c16 => have v18 := v40.2 (b01_p.mp c16); (show wp mX11_copy 1 rc rs Q 49 [some (vr 0), some (vi x1), some (vi x2), some (vi x3), some (vi x4), some (vi x5), some (vr (81 + 2 * x1.toNat)), some (vr (81 + 2 * x3.toNat))] [] h from xI k_X11_copy_49 (And.intro rfl v18))))))))))))))))))))))))))))))))))))))))))))))))))))) (fun c6 => have v8 := v4.2 (b01_nn.mp c6); (show wp mX11_copy 1 rc rs Q 14 [some (vr 0), some (vi x1), some (vi x2), some (vi x3), some (vi x4), some (vi x5), none, none] [] h from xI k_X11_copy_14 (And.intro rfl v8))))))))))))))))))))))))))))))))
theorem e_X11_copy {mc ms : Nat} {Q : Option AV → AH → Prop} {h : AH} {x1 x2 x3 x4 x5 : Int} (hL : LayL h) (hv : ((¬ (0 ≤ x1 ∧ x1 ≤ 3) → Q (some (vi (-2))) h) ∧ ((0 ≤ x1 ∧ x1 ≤ 3) → (((0 ≤ x3 ∧ x3 ≤ 3) → (0 ≤ x1 ∧ x1 < 4) ∧ (0 ≤ x3 ∧ x3 < 4) ∧ (iSh (81 + 2 * x1.toNat)) ∧ (((iH h (81 + 2 * x1.toNat) 1 = -1) → Q (some (vi (-11))) h) ∧ (¬ (iH h (81 + 2 * x1.toNat) 1 = -1) → (iSh (81 + 2 * x3.toNat)) ∧ ((¬ (iH h (81 + 2 * x3.toNat) 1 = -1) → (((iH h (81 + 2 * x1.toNat) 1) = (iH h (81 + 2 * x3.toNat) 1) → (iSh (81 + 2 * x1.toNat) ∧ 0 ≤ iH h (81 + 2 * x1.toNat) 2 ∧ iH h (81 + 2 * x1.toNat) 2 ≤ 40) ∧ ((¬ (0 ≤ x2 ∧ 0 ≤ x5 ∧ x2 ≤ iH h (81 + 2 * x1.toNat) 2 ∧ x5 ≤ iH h (81 + 2 * x1.toNat) 2 - x2) → Q (some (vi (-12))) h) ∧ ((0 ≤ x2 ∧ 0 ≤ x5 ∧ x2 ≤ iH h (81 + 2 * x1.toNat) 2 ∧ x5 ≤ iH h (81 + 2 * x1.toNat) 2 - x2) → (iSh (81 + 2 * x3.toNat) ∧ 0 ≤ iH h (81 + 2 * x3.toNat) 2 ∧ iH h (81 + 2 * x3.toNat) 2 ≤ 40) ∧ (((0 ≤ x4 ∧ 0 ≤ x5 ∧ x4 ≤ iH h (81 + 2 * x3.toNat) 2 ∧ x5 ≤ iH h (81 + 2 * x3.toNat) 2 - x4) → (0 ≤ x2 ∧ 0 ≤ x4 ∧ 0 ≤ x5 ∧ x2 + x5 ≤ 40 ∧ x4 + x5 ≤ 40) ∧ Q (some (vi x5)) (cpI h ((81 + 2 * x1.toNat) + 1) x2.toNat ((81 + 2 * x3.toNat) + 1) x4.toNat x5.toNat)) ∧ (¬ (0 ≤ x4 ∧ 0 ≤ x5 ∧ x4 ≤ iH h (81 + 2 * x3.toNat) 2 ∧ x5 ≤ iH h (81 + 2 * x3.toNat) 2 - x4) → Q (some (vi (-12))) h))))) ∧ ((iH h (81 + 2 * x1.toNat) 1) ≠ (iH h (81 + 2 * x3.toNat) 1) → Q (some (vi (-13))) h))) ∧ ((iH h (81 + 2 * x3.toNat) 1 = -1) → Q (some (vi (-11))) h))))) ∧ (¬ (0 ≤ x3 ∧ x3 ≤ 3) → Q (some (vi (-2))) h))))) : Ct 1 mc ms mX11_copy [vr 0, vi x1, vi x2, vi x3, vi x4, vi x5] h Q := Ct.of (by decide +kernel) (Nat.le_of_ble_eq_true rfl) (t_X11_copy_0 hL hv)
def r_sheet (h g : AH) (s t n x : Int) (h' g' : AH) : Prop := p_sheet g s t n x g' ∧ kSh h' g' ∧ ((h' = h ∧ g' = g) ∨ ∃ z : Nat, z < 4 ∧ ∃ m f, h' = sW (sI (sI h (81 + 2 * z) 1 t) (81 + 2 * z) 2 m) (81 + 2 * z + 1) f ∧ g' = m_sheet g z t m)
theorem l_sheet {h g : AH} (hL : LayL h) {s t n : Int} (hp : kSh h g) : Ct 1 0 0 mX11_sheet [vr 0, vi s, vi t, vi n] h (QI fun x h' => ∃ g', r_sheet h g s t n x h' g') := by
  have bad : (¬ (0 ≤ s ∧ s ≤ 3) ∨ ¬ (-1 ≤ t ∧ t ≤ 1) ∨ (0 ≤ t ∧ 40 < n)) → QI (fun x h' => ∃ g', r_sheet h g s t n x h' g') (some (vi (-2))) h := fun q => ⟨_, rfl, g, Or.inl ⟨q, rfl, rfl⟩, hp, Or.inl ⟨rfl, rfl⟩⟩
  have ok : (0 ≤ s ∧ s ≤ 3) → ∀ m, (t = -1 ∨ (0 ≤ t ∧ t ≤ 1 ∧ 0 ≤ n ∧ n ≤ 40)) → m = (if t < 0 then 0 else n) → QI (fun x h' => ∃ g', r_sheet h g s t n x h' g') (some (vi 1)) (sW (sI (sI h (81 + 2 * s.toNat) 1 t) (81 + 2 * s.toNat) 2 m) (81 + 2 * s.toNat + 1) (fun k => if k < 40 then 0 else iH h (81 + 2 * s.toNat + 1) k)) := by
    intro hs m hq hm
    have hm2 : 0 ≤ m ∧ m ≤ 40 := by
      rw [hm]
      by_cases c : t < 0
      · rw [if_pos c]; omega
      · rw [if_neg c]; omega
    refine ⟨_, rfl, m_sheet g s.toNat t m, Or.inr (Or.inr ⟨hs, hq, rfl, by rw [hm]⟩), fun z hz => ?_, Or.inr ⟨s.toNat, by omega, m, _, rfl, rfl⟩⟩
    obtain ⟨k1, k2, k3, k4⟩ := hp z hz
    unfold m_sheet
    by_cases e : z = s.toNat
    · subst e
      refine ⟨?_, ?_, ?_, fun k hk => ?_⟩
      · rw [rW_ne (by omega), rI_nk (by decide), rI_same, rW_ne (by omega), rI_ne (by decide), rI_same]
      · rw [rW_ne (by omega), rI_same, rW_ne (by omega), rI_same]
      · rw [rW_ne (by omega), rI_ne (by decide), rI_same, rW_ne (by omega), rI_same]
        exact ⟨by omega, hm2⟩
      · rw [rW_same, show 82 + 2 * s.toNat = 81 + 2 * s.toNat + 1 by omega, rW_same]
        rw [rW_ne (by omega), rI_same] at hk
        have hk : k < 40 := by omega
        unfold m_z40
        rw [if_pos hk, if_pos hk]
        exact shV_0
    · refine ⟨?_, ?_, ?_, fun k hk => ?_⟩
      · rw [rW_ne (by omega), rI_ne (by omega), rI_ne (by omega), rW_ne (by omega), rI_ne (by decide), rI_nk e]; exact k1
      · rw [rW_ne (by omega), rI_ne (by omega), rI_ne (by omega), rW_ne (by omega), rI_nk e, rI_ne (by decide)]; exact k2
      · rw [rW_ne (by omega), rI_ne (by decide), rI_nk e, rW_ne (by omega), rI_nk e, rI_ne (by decide)]; exact k3
      · rw [rW_ne (by omega), rI_nk e, rI_ne (by decide)] at hk
        rw [rW_ne (by omega), rI_ne (by decide), rI_nk e, rW_ne (by omega), rI_ne (by omega), rI_ne (by omega), rW_ne (by omega), rI_ne (by omega), rI_ne (by omega)]; exact k4 k hk
  refine e_X11_sheet hL ⟨fun c => bad (Or.inl c), fun c => ⟨fun c2 => bad (by omega), fun c2 => ⟨fun c3 => ⟨fun c4 => ⟨fun c5 => ⟨fun c6 => ⟨by omega, _, l_becomeS hL (ti_sh (by omega)), fun h1 hh => ?_⟩, fun c6 => ⟨_, rfl, g, Or.inr (Or.inl ⟨c, by omega, c6, rfl, rfl⟩), hp, Or.inl ⟨rfl, rfl⟩⟩⟩, fun c5 => bad (by omega)⟩, fun c4 => ⟨by omega, _, l_becomeS hL (ti_sh (by omega)), fun h1 hh => ?_⟩⟩, fun c3 => bad (by omega)⟩⟩⟩
  · rw [hh]
    exact ⟨hL, ok c n (by omega) (by rw [if_neg (by omega)])⟩
  · rw [hh, ← c4]
    exact ⟨hL, ok c 0 (by omega) (by rw [if_pos (by omega)])⟩
def r_cell (h g : AH) (s i v x : Int) (h' g' : AH) : Prop := p_cell g s i v x g' ∧ kSh h' g' ∧ ((h' = h ∧ g' = g) ∨ ∃ z : Nat, z < 4 ∧ ∃ k u w, h' = sI h (81 + 2 * z + 1) k u ∧ g' = sI g (1186 + z) k w)
theorem l_cell {h g : AH} (hL : LayL h) {s i v : Int} (hp : kSh h g) : Ct 2 0 0 mX11_cell [vr 0, vi s, vi i, vi v] h (QI fun x h' => ∃ g', r_cell h g s i v x h' g') := by
  refine e_X11_cell hL ⟨fun c => ?_, fun c => ⟨_, rfl, g, Or.inl ⟨c, rfl, rfl⟩, hp, Or.inl ⟨rfl, rfl⟩⟩⟩
  have hz : s.toNat < 4 := by omega
  obtain ⟨k1, k2, k3, k4⟩ := hp s.toNat hz
  rw [k1, k2]
  refine ⟨by omega, ti_sh hz, fun c2 => ⟨⟨ti_sh hz, k3.2⟩, fun c3 => ⟨_, l_putS hL ⟨ti_sh hz, by rw [k2]; exact k3.2⟩, fun h1 hh => ?_⟩, fun c3 => ⟨_, rfl, g, Or.inr (Or.inr (Or.inl ⟨c, by omega, by omega, rfl, rfl⟩)), hp, Or.inl ⟨rfl, rfl⟩⟩⟩, fun c2 => ⟨_, rfl, g, Or.inr (Or.inl ⟨c, by omega, rfl, rfl⟩), hp, Or.inl ⟨rfl, rfl⟩⟩⟩
  rw [k1, k2, if_pos (show 0 ≤ i ∧ i < iH g 1184 s.toNat by omega)] at hh
  rw [hh]
  refine ⟨hL, _, rfl, _, Or.inr (Or.inr (Or.inr ⟨c, by omega, by omega, rfl, rfl⟩)), fun z hz2 => ?_, Or.inr ⟨s.toNat, hz, _, _, _, rfl, rfl⟩⟩
  obtain ⟨q1, q2, q3, q4⟩ := hp z hz2
  refine ⟨?_, ?_, ?_, fun k hk => ?_⟩
  · rw [rI_ne (by omega), rI_ne (by omega)]; exact q1
  · rw [rI_ne (by omega), rI_ne (by omega)]; exact q2
  · rw [rI_ne (by omega), rI_ne (by omega)]; exact q3
  · rw [rI_ne (by omega)] at hk
    rw [rI_ne (a := 1186 + s.toNat) (b := 1183) (by omega)]
    by_cases e : z = s.toNat
    · subst e
      rw [show 82 + 2 * s.toNat = 81 + 2 * s.toNat + 1 by omega, rI_if, rI_if]
      by_cases e2 : k = i.toNat
      · rw [if_pos e2, if_pos e2]
        unfold shV
        by_cases e3 : iH g 1183 s.toNat = 0
        · rw [if_pos e3, if_pos e3, if_pos e3]
          exact i2b_bd v
        · rw [if_neg e3, if_neg e3, if_neg e3]
      · rw [if_neg e2, if_neg e2]
        have := q4 k hk
        rw [show 82 + 2 * s.toNat = 81 + 2 * s.toNat + 1 by omega] at this
        exact this
    · rw [rI_ne (by omega), rI_ne (by omega)]; exact q4 k hk
def r_copy (h g : AH) (s i o j n x : Int) (h' g' : AH) : Prop := p_copy g s i o j n x g' ∧ kSh h' g' ∧ ((h' = h ∧ g' = g) ∨ ∃ z y a b m : Nat, (z < 4 ∧ y < 4) ∧ h' = cpI h (81 + 2 * z + 1) a (81 + 2 * y + 1) b m ∧ g' = cpI (cpI g (1186 + z) a 1190 0 m) 1190 0 (1186 + y) b m)
theorem l_copy {h g : AH} (hL : LayL h) {s i o j n : Int} (hp : kSh h g) : Ct 1 0 0 mX11_copy [vr 0, vi s, vi i, vi o, vi j, vi n] h (QI fun x h' => ∃ g', r_copy h g s i o j n x h' g') := by
  have bad : (¬ (0 ≤ s ∧ s ≤ 3) ∨ ¬ (0 ≤ o ∧ o ≤ 3)) → QI (fun x h' => ∃ g', r_copy h g s i o j n x h' g') (some (vi (-2))) h := fun q => ⟨_, rfl, g, Or.inl ⟨q, rfl, rfl⟩, hp, Or.inl ⟨rfl, rfl⟩⟩
  refine e_X11_copy hL ⟨fun c => bad (Or.inl c), fun c => ⟨fun c2 => ?_, fun c2 => bad (Or.inr c2)⟩⟩
  have hz : s.toNat < 4 := by omega
  have ho : o.toNat < 4 := by omega
  obtain ⟨k1, k2, k3, k4⟩ := hp s.toNat hz
  obtain ⟨o1, o2, o3, o4⟩ := hp o.toNat ho
  rw [k1, k2, o1, o2]
  have no : (iH g 1183 s.toNat < 0 ∨ iH g 1183 o.toNat < 0) → QI (fun x h' => ∃ g', r_copy h g s i o j n x h' g') (some (vi (-11))) h := fun q => ⟨_, rfl, g, Or.inr ⟨⟨c, c2⟩, Or.inl ⟨q, rfl, rfl⟩⟩, hp, Or.inl ⟨rfl, rfl⟩⟩
  refine ⟨by omega, by omega, ti_sh hz, fun d1 => no (by omega), fun d1 => ⟨ti_sh ho, fun d2 => ⟨fun d3 => ?_, fun d3 => ⟨_, rfl, g, Or.inr ⟨⟨c, c2⟩, Or.inr ⟨by omega, Or.inl ⟨d3, rfl, rfl⟩⟩⟩, hp, Or.inl ⟨rfl, rfl⟩⟩⟩, fun d2 => no (by omega)⟩⟩
  have out : (n < 0 ∨ i < 0 ∨ j < 0 ∨ iH g 1184 s.toNat < i + n ∨ iH g 1184 o.toNat < j + n) → QI (fun x h' => ∃ g', r_copy h g s i o j n x h' g') (some (vi (-12))) h := fun q => ⟨_, rfl, g, Or.inr ⟨⟨c, c2⟩, Or.inr ⟨by omega, Or.inr ⟨d3, Or.inl ⟨q, rfl, rfl⟩⟩⟩⟩, hp, Or.inl ⟨rfl, rfl⟩⟩
  refine ⟨⟨ti_sh hz, k3.2⟩, fun d4 => out (by omega), fun d4 => ⟨⟨ti_sh ho, o3.2⟩, fun d5 => ⟨by omega, ?_⟩, fun d5 => out (by omega)⟩⟩
  refine ⟨_, rfl, _, Or.inr ⟨⟨c, c2⟩, Or.inr ⟨by omega, Or.inr ⟨d3, Or.inr ⟨by omega, rfl, rfl⟩⟩⟩⟩, fun y hy => ?_, Or.inr ⟨s.toNat, o.toNat, _, _, _, ⟨hz, ho⟩, rfl, rfl⟩⟩
  obtain ⟨q1, q2, q3, q4⟩ := hp y hy
  have gS : ∀ a b k : Nat, (b = 1183 ∨ b = 1184) → iH (cpI (cpI g (1186 + s.toNat) i.toNat 1190 0 n.toNat) 1190 0 (1186 + o.toNat) j.toNat n.toNat) b k = iH g b k := fun _ b k hb => by rw [cp_ne (by omega), cp_ne (by omega)]
  refine ⟨?_, ?_, ?_, fun k hk => ?_⟩
  · rw [cp_ne (by omega), gS 0 _ _ (Or.inl rfl)]; exact q1
  · rw [cp_ne (by omega), gS 0 _ _ (Or.inr rfl)]; exact q2
  · rw [gS 0 _ _ (Or.inl rfl), gS 0 _ _ (Or.inr rfl)]; exact q3
  · rw [gS 0 _ _ (Or.inr rfl)] at hk
    rw [gS 0 _ _ (Or.inl rfl)]
    by_cases e : y = o.toNat
    · subst e
      unfold cpI
      rw [rW_same (a := 1186 + o.toNat), show 82 + 2 * o.toNat = 81 + 2 * o.toNat + 1 by omega, rW_same (a := 81 + 2 * o.toNat + 1)]
      have h64 : 82 + 2 * o.toNat = 81 + 2 * o.toNat + 1 := by omega
      by_cases e2 : j.toNat ≤ k ∧ k < j.toNat + n.toNat
      · rw [if_pos e2, if_pos e2, rW_same (a := 1190), if_pos (by omega), ← d3]
        have := k4 (i.toNat + (0 + (k - j.toNat) - 0)) (by omega)
        rw [show 82 + 2 * s.toNat = 81 + 2 * s.toNat + 1 by omega] at this
        rw [show i.toNat + (k - j.toNat) = i.toNat + (0 + (k - j.toNat) - 0) by omega]
        exact this
      · rw [if_neg e2, if_neg e2, rW_ne (by omega), ← h64]
        exact q4 k hk
    · rw [cp_ne (by omega), cp_ne (by omega), cp_ne (by omega)]
      exact q4 k hk
