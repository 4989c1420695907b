/-! THE INDEX: BOTH; what is found, counted by the documents -/
def b_X11_foundByOther_0 : List IE := [(.aload_n 0, 1, 0, 0, 0, 0), (.getfield 78, 3, 0, 11, 15, 1)]
theorem k_X11_foundByOther_0 : ckB mX11_foundByOther 11 0 b_X11_foundByOther_0 4 = true := by decide +kernel
def b_X11_foundByOther_7 : List IE := [(.istore_n 3, 1, 0, 0, 3, 0), (.bipush (-6), 2, (-6), 0, 0, 0), (.istore 4, 2, 0, 0, 4, 0), (.aload_n 0, 1, 0, 0, 0, 0), (.iload_n 1, 1, 0, 0, 1, 0)]
theorem k_X11_foundByOther_7 : ckB mX11_foundByOther 11 7 b_X11_foundByOther_7 14 = true := by decide +kernel
def b_X11_foundByOther_17 : List IE := []
theorem k_X11_foundByOther_17 : ckIf mX11_foundByOther 11 17 b_X11_foundByOther_17 17 1 59 76 20 = true := by decide +kernel
def b_X11_foundByOther_20 : List IE := [(.aload_n 0, 1, 0, 0, 0, 0), (.getfield 95, 3, 0, 11, 18, 1), (.aload_n 0, 1, 0, 0, 0, 0), (.getfield 62, 3, 0, 11, 12, 1), (.iload_n 1, 1, 0, 0, 1, 0), (.aaload, 1, 0, 0, 0, 0), (.aload_n 0, 1, 0, 0, 0, 0), (.getfield 25, 3, 0, 11, 3, 1)]
theorem k_X11_foundByOther_20 : ckB mX11_foundByOther 11 20 b_X11_foundByOther_20 34 = true := by decide +kernel
def b_X11_foundByOther_37 : List IE := [(.iload_n 2, 1, 0, 0, 2, 0)]
theorem k_X11_foundByOther_37 : ckIf mX11_foundByOther 11 37 b_X11_foundByOther_37 38 1 17 55 41 = true := by decide +kernel
def b_X11_foundByOther_41 : List IE := [(.aload_n 0, 1, 0, 0, 0, 0), (.getfield 91, 3, 0, 11, 17, 1), (.aload_n 0, 1, 0, 0, 0, 0), (.getfield 95, 3, 0, 11, 18, 1)]
theorem k_X11_foundByOther_41 : ckB mX11_foundByOther 11 41 b_X11_foundByOther_41 49 = true := by decide +kernel
def b_X11_foundByOther_52 : List IE := []
theorem k_X11_foundByOther_52 : ckGo mX11_foundByOther 11 52 b_X11_foundByOther_52 52 22 74 = true := by decide +kernel
def b_X11_foundByOther_55 : List IE := [(.aload_n 0, 1, 0, 0, 0, 0), (.getfield 91, 3, 0, 11, 17, 1), (.getfield 161, 3, 0, 1, 3, 0), (.aload_n 0, 1, 0, 0, 0, 0), (.getfield 91, 3, 0, 11, 17, 1), (.aload_n 0, 1, 0, 0, 0, 0), (.getfield 95, 3, 0, 11, 18, 1)]
theorem k_X11_foundByOther_55 : ckB mX11_foundByOther 11 55 b_X11_foundByOther_55 70 = true := by decide +kernel
def b_X11_foundByOther_73 : List IE := [(.isub, 1, 0, 0, 0, 0), (.istore 4, 2, 0, 0, 4, 0), (.aload_n 0, 1, 0, 0, 0, 0), (.getfield 78, 3, 0, 11, 15, 1), (.iload_n 3, 1, 0, 0, 3, 0)]
theorem k_X11_foundByOther_73 : ckB mX11_foundByOther 11 73 b_X11_foundByOther_73 81 = true := by decide +kernel
def b_X11_foundByOther_74 : List IE := [(.istore 4, 2, 0, 0, 4, 0), (.aload_n 0, 1, 0, 0, 0, 0), (.getfield 78, 3, 0, 11, 15, 1), (.iload_n 3, 1, 0, 0, 3, 0)]
theorem k_X11_foundByOther_74 : ckB mX11_foundByOther 11 74 b_X11_foundByOther_74 81 = true := by decide +kernel
def b_X11_foundByOther_76 : List IE := [(.aload_n 0, 1, 0, 0, 0, 0), (.getfield 78, 3, 0, 11, 15, 1), (.iload_n 3, 1, 0, 0, 3, 0)]
theorem k_X11_foundByOther_76 : ckB mX11_foundByOther 11 76 b_X11_foundByOther_76 81 = true := by decide +kernel
def b_X11_foundByOther_84 : List IE := [(.iload 4, 2, 0, 0, 4, 0)]
theorem k_X11_foundByOther_84 : ckI mX11_foundByOther 11 84 b_X11_foundByOther_84 86 = true := by decide +kernel
theorem s_X11_foundByOther_4 : cV mX11_foundByOther 4 mX2_start 305 0 2 := ⟨by decide +kernel, ⟨ml_X2_start, li_RX11_305, im_X2_start, se_X2_start⟩, ⟨by decide +kernel, by decide +kernel⟩, by decide +kernel⟩
theorem s_X11_foundByOther_14 : cV mX11_foundByOther 14 mX11_isDear 307 1 11 := ⟨by decide +kernel, ⟨ml_X11_isDear, li_RX11_307, im_X11_isDear, se_X11_isDear⟩, ⟨by decide +kernel, by decide +kernel⟩, by decide +kernel⟩
theorem s_X11_foundByOther_34 : cV mX11_foundByOther 34 mX1_search 149 2 1 := ⟨by decide +kernel, ⟨ml_X1_search, li_RX11_149, im_X1_search, se_X1_search⟩, ⟨by decide +kernel, by decide +kernel⟩, by decide +kernel⟩
theorem s_X11_foundByOther_49 : cV mX11_foundByOther 49 mX1_alsoIn 365 1 1 := ⟨by decide +kernel, ⟨ml_X1_alsoIn, li_RX11_365, im_X1_alsoIn, se_X1_alsoIn⟩, ⟨by decide +kernel, by decide +kernel⟩, by decide +kernel⟩
theorem s_X11_foundByOther_70 : cV mX11_foundByOther 70 mX1_alsoIn 365 1 1 := ⟨by decide +kernel, ⟨ml_X1_alsoIn, li_RX11_365, im_X1_alsoIn, se_X1_alsoIn⟩, ⟨by decide +kernel, by decide +kernel⟩, by decide +kernel⟩
theorem s_X11_foundByOther_81 : cV mX11_foundByOther 81 mX2_end 310 1 2 := ⟨by decide +kernel, ⟨ml_X2_end, li_RX11_310, im_X2_end, se_X2_end⟩, ⟨by decide +kernel, by decide +kernel⟩, by decide +kernel⟩
theorem t_X11_foundByOther_0 {rc rs : Nat} {Q : Option AV → AH → Prop} {h : AH} {sa : Nat → Nat} {da : Nat → Nat} {g : AH} {x1 x2 : Int} (hL : LayL h) (hv : (0 ≤ iH h 21 0 ∧ iH h 21 0 ≤ 100000) ∧ LayL (sI h 21 0 (iH h 21 0 + 1)) ∧ (cRd (sI h 21 0 (iH h 21 0 + 1)) g da sa ∧ kPo (sI h 21 0 (iH h 21 0 + 1)) g ∧ (0 ≤ x1 ∧ x1 < 6) ∧ cQry (sI h 21 0 (iH h 21 0 + 1)) g (45 + 6 * (x1).toNat) x1) ∧ (((iH g 89 23 < v_cost g x1 (iH g 89 13).toNat (nRow g)) → (0 ≤ iH (sI h 21 0 (iH h 21 0 + 1)) 21 2 ∧ iH (sI h 21 0 (iH h 21 0 + 1)) 21 2 ≤ 8) ∧ LayL (l_ended (sI h 21 0 (iH h 21 0 + 1)) (iH h 21 0 + 1)) ∧ Q (some (vi (-6))) (l_ended (sI h 21 0 (iH h 21 0 + 1)) (iH h 21 0 + 1))) ∧ (¬ (iH g 89 23 < v_cost g x1 (iH g 89 13).toNat (nRow g)) → (0 ≤ x1 ∧ x1 < 6) ∧ (∃ P11 : AH → Prop, Ct 4 0 0 mX1_search [vr 28, vr (45 + 6 * x1.toNat), vr 5] (sI h 21 0 (iH h 21 0 + 1)) (QV P11) ∧ ∀ h9 : AH, P11 h9 → LayL h9 ∧ ((x2 ≠ 0 → (∃ P18 : Int → AH → Prop, Ct 1 0 0 mX1_alsoIn [vr 24, vr 28] h9 (QI P18) ∧ ∀ (r17 : Int) (h16 : AH), (-2147483648 ≤ r17 ∧ r17 < 2147483648) → P18 r17 h16 → LayL h16 ∧ (-2147483648 ≤ (iH h9 24 3 - r17) ∧ (iH h9 24 3 - r17) < 2147483648) ∧ (0 ≤ iH h16 21 2 ∧ iH h16 21 2 ≤ 8) ∧ LayL (l_ended h16 (iH h 21 0 + 1)) ∧ Q (some (vi (iH h9 24 3 - r17))) (l_ended h16 (iH h 21 0 + 1)))) ∧ (x2 = 0 → (∃ P30 : Int → AH → Prop, Ct 1 0 0 mX1_alsoIn [vr 24, vr 28] h9 (QI P30) ∧ ∀ (r29 : Int) (h28 : AH), (-2147483648 ≤ r29 ∧ r29 < 2147483648) → P30 r29 h28 → LayL h28 ∧ (0 ≤ iH h28 21 2 ∧ iH h28 21 2 ≤ 8) ∧ LayL (l_ended h28 (iH h 21 0 + 1)) ∧ Q (some (vi r29)) (l_ended h28 (iH h 21 0 + 1))))))))) : wp mX11_foundByOther 7 rc rs Q 0 [some (vr 0), some (vi x1), some (vi x2), none, none] [] h :=
  (show wp mX11_foundByOther 7 rc rs Q 0 [some (vr 0), some (vi x1), some (vi x2), none, none] [] h from xcV k_X11_foundByOther_0 s_X11_foundByOther_4 (And.intro (ll_0 hL) (Exists.intro 21 (And.intro (lg_0_15 hL) (have c46 := hv.1; have v47 := hv.2; (Exists.intro [] (Exists.intro 21 (Exists.intro [] (And.intro (And.intro rfl (And.intro rfl (Nat.le_of_ble_eq_true rfl))) (And.intro (ll_21 hL) (Exists.intro 0 (Exists.intro 0 (Exists.intro 0 (Exists.intro _ (And.intro (l_start (h := h) hL c46) (And.intro (And.intro (by decide) (And.intro (Nat.zero_le _) (Nat.zero_le _))) (eQP (have hL := v47.1; have v48 := v47.2; (show wp mX11_foundByOther 7 rc rs Q 7 [some (vr 0), some (vi x1), some (vi x2), none, none] [vi (iH h 21 0 + 1)] (sI h 21 0 (iH h 21 0 + 1)) from xcV k_X11_foundByOther_7 s_X11_foundByOther_14 (And.intro rfl (And.intro rfl (have c43 := v48.1; have v44 := v48.2; (Exists.intro [vi x1] (Exists.intro 0 (Exists.intro [] (And.intro (And.intro rfl (And.intro rfl (Nat.le_of_ble_eq_true rfl))) (And.intro (ll_0 hL) (Exists.intro 6 (Exists.intro 0 (Exists.intro 0 (Exists.intro _ (And.intro (l_isDear (h := (sI h 21 0 (iH h 21 0 + 1))) hL c43) (And.intro (And.intro (by decide) (And.intro (Nat.zero_le _) (Nat.zero_le _))) (eQP (show wp mX11_foundByOther 7 rc rs Q 17 [some (vr 0), some (vi x1), some (vi x2), some (vi (iH h 21 0 + 1)), some (vi (-6))] [vi (b01 (iH g 89 23 < v_cost g x1 (iH g 89 13).toNat (nRow g)))] (sI h 21 0 (iH h 21 0 + 1)) from xIf k_X11_foundByOther_17 (And.intro (fun c1 => have v3 := v44.1 (b01_p.mp c1); (show wp mX11_foundByOther 7 rc rs Q 76 [some (vr 0), some (vi x1), some (vi x2), some (vi (iH h 21 0 + 1)), some (vi (-6))] [] (sI h 21 0 (iH h 21 0 + 1)) from xcV k_X11_foundByOther_76 s_X11_foundByOther_81 (And.intro (ll_0 hL) (Exists.intro 21 (And.intro (lg_0_15 hL) (have c5 := v3.1; have v6 := v3.2; (Exists.intro [vi (iH h 21 0 + 1)] (Exists.intro 21 (Exists.intro [] (And.intro (And.intro rfl (And.intro rfl (Nat.le_of_ble_eq_true rfl))) (And.intro (ll_21 hL) (Exists.intro 1 (Exists.intro 0 (Exists.intro 0 (Exists.intro _ (And.intro (l_end (h := (sI h 21 0 (iH h 21 0 + 1))) hL c5) (And.intro (And.intro (by decide) (And.intro (Nat.zero_le _) (Nat.zero_le _))) (eQPV (have hL := v6.1; have v7 := v6.2; (show wp mX11_foundByOther 7 rc rs Q 84 [some (vr 0), some (vi x1), some (vi x2), some (vi (iH h 21 0 + 1)), some (vi (-6))] [] (l_ended (sI h 21 0 (iH h 21 0 + 1)) (iH h 21 0 + 1)) from xI k_X11_foundByOther_84 (And.intro rfl v7))))))))))))))))))))) (fun c2 => have v4 := v44.2 (b01_nn.mp c2); (show wp mX11_foundByOther 7 rc rs Q 20 [some (vr 0), some (vi x1), some (vi x2), some (vi (iH h 21 0 + 1)), some (vi (-6))] [] (sI h 21 0 (iH h 21 0 + 1)) from xcV k_X11_foundByOther_20 s_X11_foundByOther_34 (And.intro (ll_0 hL) (Exists.intro 28 (And.intro (lg_0_18 hL) (And.intro (ll_0 hL) (Exists.intro 19 (And.intro (lg_0_12 hL) (have c8 := v4.1; have v42 := v4.2; (And.intro (sdQ (ll_19 hL) c8) (Exists.intro (45 + 6 * x1.toNat) (And.intro (tb_qy hL (tnl c8)) (And.intro (ll_0 hL) (Exists.intro 5 (And.intro (lg_0_3 hL) (Exists.elim v42 (fun P11 v38 => (Exists.intro [vr (45 + 6 * x1.toNat), vr 5] (Exists.intro 28 (Exists.intro [] (And.intro (And.intro rfl (And.intro rfl (Nat.le_of_ble_eq_true rfl))) (And.intro (ll_28 hL) (Exists.intro 4 (Exists.intro 0 (Exists.intro 0 (Exists.intro (QV P11) (And.intro v38.1 (And.intro (And.intro (by decide) (And.intro (Nat.zero_le _) (Nat.zero_le _))) (eQV (fun h9 e40 => have v39 := v38.2 h9 e40; have hL := v39.1; have v39 := v39.2; (show wp mX11_foundByOther 7 rc rs Q 37 [some (vr 0), some (vi x1), some (vi x2), some (vi (iH h 21 0 + 1)), some (vi (-6))] [] h9 from xIf k_X11_foundByOther_37 (And.intro (fun c12 => have v14 := v39.1 c12; (show wp mX11_foundByOther 7 rc rs Q 55 [some (vr 0), some (vi x1), some (vi x2), some (vi (iH h 21 0 + 1)), some (vi (-6))] [] h9 from xcV k_X11_foundByOther_55 s_X11_foundByOther_70 (And.intro (ll_0 hL) (Exists.intro 24 (And.intro (lg_0_17 hL) (And.intro (ll_24 hL) (And.intro (ll_0 hL) (Exists.intro 24 (And.intro (lg_0_17 hL) (And.intro (ll_0 hL) (Exists.intro 28 (And.intro (lg_0_18 hL) (Exists.elim v14 (fun P18 v24 => (Exists.intro [vr 28] (Exists.intro 24 (Exists.intro [vi (iH h9 24 3)] (And.intro (And.intro rfl (And.intro rfl (Nat.le_of_ble_eq_true rfl))) (And.intro (ll_24 hL) (Exists.intro 1 (Exists.intro 0 (Exists.intro 0 (Exists.intro (QI P18) (And.intro v24.1 (And.intro (And.intro (by decide) (And.intro (Nat.zero_le _) (Nat.zero_le _))) (eQI (fun r17 h16 q27 e26 => have v25 := v24.2 r17 h16 q27 e26; have hL := v25.1; have v25 := v25.2; (show wp mX11_foundByOther 7 rc rs Q 73 [some (vr 0), some (vi x1), some (vi x2), some (vi (iH h 21 0 + 1)), some (vi (-6))] [vi r17, vi (iH h9 24 3)] h16 from xcV k_X11_foundByOther_73 s_X11_foundByOther_81 (have c19 := v25.1; have v23 := v25.2; (And.intro c19 (And.intro rfl (And.intro (ll_0 hL) (Exists.intro 21 (And.intro (lg_0_15 hL) (have c20 := v23.1; have v21 := v23.2; (Exists.intro [vi (iH h 21 0 + 1)] (Exists.intro 21 (Exists.intro [] (And.intro (And.intro rfl (And.intro rfl (Nat.le_of_ble_eq_true rfl))) (And.intro (ll_21 hL) (Exists.intro 1 (Exists.intro 0 (Exists.intro 0 (Exists.intro _ (And.intro (l_end (h := h16) hL c20) (And.intro (And.intro (by decide) (And.intro (Nat.zero_le _) (Nat.zero_le _))) (eQPV (have hL := v21.1; have v22 := v21.2; (show wp mX11_foundByOther 7 rc rs Q 84 [some (vr 0), some (vi x1), some (vi x2), some (vi (iH h 21 0 + 1)), some (vi (iH h9 24 3 - r17))] [] (l_ended h16 (iH h 21 0 + 1)) from xI k_X11_foundByOther_84 (And.intro rfl v22)))))))))))))))))))))))))))))))))))))))))))))))))) (fun c13 => have v15 := v39.2 (Decidable.not_not.mp c13); (show wp mX11_foundByOther 7 rc rs Q 41 [some (vr 0), some (vi x1), some (vi x2), some (vi (iH h 21 0 + 1)), some (vi (-6))] [] h9 from xcV k_X11_foundByOther_41 s_X11_foundByOther_49 (And.intro (ll_0 hL) (Exists.intro 24 (And.intro (lg_0_17 hL) (And.intro (ll_0 hL) (Exists.intro 28 (And.intro (lg_0_18 hL) (Exists.elim v15 (fun P30 v34 => (Exists.intro [vr 28] (Exists.intro 24 (Exists.intro [] (And.intro (And.intro rfl (And.intro rfl (Nat.le_of_ble_eq_true rfl))) (And.intro (ll_24 hL) (Exists.intro 1 (Exists.intro 0 (Exists.intro 0 (Exists.intro (QI P30) (And.intro v34.1 (And.intro (And.intro (by decide) (And.intro (Nat.zero_le _) (Nat.zero_le _))) (eQI (fun r29 h28 q37 e36 => have v35 := v34.2 r29 h28 q37 e36; have hL := v35.1; have v35 := v35.2; (show wp mX11_foundByOther 7 rc rs Q 52 [some (vr 0), some (vi x1), some (vi x2), some (vi (iH h 21 0 + 1)), some (vi (-6))] [vi r29] h28 from xGo k_X11_foundByOther_52 (show wp mX11_foundByOther 7 rc rs Q 74 [some (vr 0), some (vi x1), some (vi x2), some (vi (iH h 21 0 + 1)), some (vi (-6))] [vi r29] h28 from xcV k_X11_foundByOther_74 s_X11_foundByOther_81 (And.intro rfl (And.intro (ll_0 hL) (Exists.intro 21 (And.intro (lg_0_15 hL) (have c31 := v35.1; have v32 := v35.2; (Exists.intro [vi (iH h 21 0 + 1)] (Exists.intro 21 (Exists.intro [] (And.intro (And.intro rfl (And.intro rfl (Nat.le_of_ble_eq_true rfl))) (And.intro (ll_21 hL) (Exists.intro 1 (Exists.intro 0 (Exists.intro 0 (Exists.intro _ (And.intro (l_end (h := h28) hL c31) (And.intro (And.intro (by decide) (And.intro (Nat.zero_le _) (Nat.zero_le _))) (eQPV (have hL := v32.1; have v33 := v32.2; (show wp mX11_foundByOther 7 rc rs Q 84 [some (vr 0), some (vi x1), some (vi x2), some (vi (iH h 21 0 + 1)), some (vi r29)] [] (l_ended h28 (iH h 21 0 + 1)) from xI k_X11_foundByOther_84 (And.intro rfl v33)))))))))))))))))))))))))))))))))))))))))))))))))))))))))))))))))))))))))))))))))))))))))))))))))))))))))))))))))
theorem e_X11_foundByOther {mc ms : Nat} {Q : Option AV → AH → Prop} {h : AH} {sa : Nat → Nat} {da : Nat → Nat} {g : AH} {x1 x2 : Int} (hL : LayL h) (hv : (0 ≤ iH h 21 0 ∧ iH h 21 0 ≤ 100000) ∧ LayL (sI h 21 0 (iH h 21 0 + 1)) ∧ (cRd (sI h 21 0 (iH h 21 0 + 1)) g da sa ∧ kPo (sI h 21 0 (iH h 21 0 + 1)) g ∧ (0 ≤ x1 ∧ x1 < 6) ∧ cQry (sI h 21 0 (iH h 21 0 + 1)) g (45 + 6 * (x1).toNat) x1) ∧ (((iH g 89 23 < v_cost g x1 (iH g 89 13).toNat (nRow g)) → (0 ≤ iH (sI h 21 0 (iH h 21 0 + 1)) 21 2 ∧ iH (sI h 21 0 (iH h 21 0 + 1)) 21 2 ≤ 8) ∧ LayL (l_ended (sI h 21 0 (iH h 21 0 + 1)) (iH h 21 0 + 1)) ∧ Q (some (vi (-6))) (l_ended (sI h 21 0 (iH h 21 0 + 1)) (iH h 21 0 + 1))) ∧ (¬ (iH g 89 23 < v_cost g x1 (iH g 89 13).toNat (nRow g)) → (0 ≤ x1 ∧ x1 < 6) ∧ (∃ P11 : AH → Prop, Ct 4 0 0 mX1_search [vr 28, vr (45 + 6 * x1.toNat), vr 5] (sI h 21 0 (iH h 21 0 + 1)) (QV P11) ∧ ∀ h9 : AH, P11 h9 → LayL h9 ∧ ((x2 ≠ 0 → (∃ P18 : Int → AH → Prop, Ct 1 0 0 mX1_alsoIn [vr 24, vr 28] h9 (QI P18) ∧ ∀ (r17 : Int) (h16 : AH), (-2147483648 ≤ r17 ∧ r17 < 2147483648) → P18 r17 h16 → LayL h16 ∧ (-2147483648 ≤ (iH h9 24 3 - r17) ∧ (iH h9 24 3 - r17) < 2147483648) ∧ (0 ≤ iH h16 21 2 ∧ iH h16 21 2 ≤ 8) ∧ LayL (l_ended h16 (iH h 21 0 + 1)) ∧ Q (some (vi (iH h9 24 3 - r17))) (l_ended h16 (iH h 21 0 + 1)))) ∧ (x2 = 0 → (∃ P30 : Int → AH → Prop, Ct 1 0 0 mX1_alsoIn [vr 24, vr 28] h9 (QI P30) ∧ ∀ (r29 : Int) (h28 : AH), (-2147483648 ≤ r29 ∧ r29 < 2147483648) → P30 r29 h28 → LayL h28 ∧ (0 ≤ iH h28 21 2 ∧ iH h28 21 2 ≤ 8) ∧ LayL (l_ended h28 (iH h 21 0 + 1)) ∧ Q (some (vi r29)) (l_ended h28 (iH h 21 0 + 1))))))))) : Ct 7 mc ms mX11_foundByOther [vr 0, vi x1, vi x2] h Q := Ct.of (by decide +kernel) (Nat.le_of_ble_eq_true rfl) (t_X11_foundByOther_0 hL hv)
def b_X11_both_0 : List IE := [(.aload_n 0, 1, 0, 0, 0, 0), (.iload_n 1, 1, 0, 0, 1, 0)]
theorem k_X11_both_0 : ckB mX11_both 11 0 b_X11_both_0 2 = true := by decide +kernel
def b_X11_both_5 : List IE := []
theorem k_X11_both_5 : ckIf mX11_both 11 5 b_X11_both_5 5 0 20 25 8 = true := by decide +kernel
def b_X11_both_8 : List IE := [(.aload_n 0, 1, 0, 0, 0, 0), (.iload_n 2, 1, 0, 0, 2, 0)]
theorem k_X11_both_8 : ckB mX11_both 11 8 b_X11_both_8 10 = true := by decide +kernel
def b_X11_both_13 : List IE := []
theorem k_X11_both_13 : ckIf mX11_both 11 13 b_X11_both_13 13 0 12 25 16 = true := by decide +kernel
def b_X11_both_16 : List IE := [(.iload_n 3, 1, 0, 0, 3, 0)]
theorem k_X11_both_16 : ckIf mX11_both 11 16 b_X11_both_16 17 2 8 25 20 = true := by decide +kernel
def b_X11_both_20 : List IE := [(.iload_n 3, 1, 0, 0, 3, 0), (.iconst 1, 1, 1, 0, 0, 0)]
theorem k_X11_both_20 : ckIc mX11_both 11 20 b_X11_both_20 22 5 6 28 25 = true := by decide +kernel
def b_X11_both_25 : List IE := [(.bipush (-2), 2, (-2), 0, 0, 0)]
theorem k_X11_both_25 : ckI mX11_both 11 25 b_X11_both_25 27 = true := by decide +kernel
def b_X11_both_28 : List IE := [(.aload_n 0, 1, 0, 0, 0, 0), (.getfield 78, 3, 0, 11, 15, 1)]
theorem k_X11_both_28 : ckB mX11_both 11 28 b_X11_both_28 32 = true := by decide +kernel
def b_X11_both_35 : List IE := [(.istore 4, 2, 0, 0, 4, 0), (.bipush (-6), 2, (-6), 0, 0, 0), (.istore 5, 2, 0, 0, 5, 0), (.aload_n 0, 1, 0, 0, 0, 0), (.iload_n 1, 1, 0, 0, 1, 0)]
theorem k_X11_both_35 : ckB mX11_both 11 35 b_X11_both_35 43 = true := by decide +kernel
def b_X11_both_46 : List IE := []
theorem k_X11_both_46 : ckIf mX11_both 11 46 b_X11_both_46 46 1 28 74 49 = true := by decide +kernel
def b_X11_both_49 : List IE := [(.aload_n 0, 1, 0, 0, 0, 0), (.getfield 91, 3, 0, 11, 17, 1), (.aload_n 0, 1, 0, 0, 0, 0), (.getfield 62, 3, 0, 11, 12, 1), (.iload_n 1, 1, 0, 0, 1, 0), (.aaload, 1, 0, 0, 0, 0), (.aload_n 0, 1, 0, 0, 0, 0), (.getfield 25, 3, 0, 11, 3, 1)]
theorem k_X11_both_49 : ckB mX11_both 11 49 b_X11_both_49 63 = true := by decide +kernel
def b_X11_both_66 : List IE := [(.aload_n 0, 1, 0, 0, 0, 0), (.iload_n 2, 1, 0, 0, 2, 0), (.iload_n 3, 1, 0, 0, 3, 0)]
theorem k_X11_both_66 : ckB mX11_both 11 66 b_X11_both_66 69 = true := by decide +kernel
def b_X11_both_72 : List IE := [(.istore 5, 2, 0, 0, 5, 0), (.aload_n 0, 1, 0, 0, 0, 0), (.getfield 78, 3, 0, 11, 15, 1), (.iload 4, 2, 0, 0, 4, 0)]
theorem k_X11_both_72 : ckB mX11_both 11 72 b_X11_both_72 80 = true := by decide +kernel
def b_X11_both_74 : List IE := [(.aload_n 0, 1, 0, 0, 0, 0), (.getfield 78, 3, 0, 11, 15, 1), (.iload 4, 2, 0, 0, 4, 0)]
theorem k_X11_both_74 : ckB mX11_both 11 74 b_X11_both_74 80 = true := by decide +kernel
def b_X11_both_83 : List IE := [(.iload 5, 2, 0, 0, 5, 0)]
theorem k_X11_both_83 : ckI mX11_both 11 83 b_X11_both_83 85 = true := by decide +kernel
theorem s_X11_both_2 : cV mX11_both 2 mX11_isQuery 146 1 11 := ⟨by decide +kernel, ⟨ml_X11_isQuery, li_RX11_146, im_X11_isQuery, se_X11_isQuery⟩, ⟨by decide +kernel, by decide +kernel⟩, by decide +kernel⟩
theorem s_X11_both_10 : cV mX11_both 10 mX11_isQuery 146 1 11 := ⟨by decide +kernel, ⟨ml_X11_isQuery, li_RX11_146, im_X11_isQuery, se_X11_isQuery⟩, ⟨by decide +kernel, by decide +kernel⟩, by decide +kernel⟩
theorem s_X11_both_32 : cV mX11_both 32 mX2_start 305 0 2 := ⟨by decide +kernel, ⟨ml_X2_start, li_RX11_305, im_X2_start, se_X2_start⟩, ⟨by decide +kernel, by decide +kernel⟩, by decide +kernel⟩
theorem s_X11_both_43 : cV mX11_both 43 mX11_isDear 307 1 11 := ⟨by decide +kernel, ⟨ml_X11_isDear, li_RX11_307, im_X11_isDear, se_X11_isDear⟩, ⟨by decide +kernel, by decide +kernel⟩, by decide +kernel⟩
theorem s_X11_both_63 : cV mX11_both 63 mX1_search 149 2 1 := ⟨by decide +kernel, ⟨ml_X1_search, li_RX11_149, im_X1_search, se_X1_search⟩, ⟨by decide +kernel, by decide +kernel⟩, by decide +kernel⟩
theorem s_X11_both_69 : cV mX11_both 69 mX11_foundByOther 313 2 11 := ⟨by decide +kernel, ⟨ml_X11_foundByOther, li_RX11_313, im_X11_foundByOther, se_X11_foundByOther⟩, ⟨by decide +kernel, by decide +kernel⟩, by decide +kernel⟩
theorem s_X11_both_80 : cV mX11_both 80 mX2_end 310 1 2 := ⟨by decide +kernel, ⟨ml_X2_end, li_RX11_310, im_X2_end, se_X2_end⟩, ⟨by decide +kernel, by decide +kernel⟩, by decide +kernel⟩
theorem t_X11_both_0 {rc rs : Nat} {Q : Option AV → AH → Prop} {h : AH} {sa : Nat → Nat} {da : Nat → Nat} {g : AH} {x1 x2 x3 : Int} (hL : LayL h) (hv : ((¬ (0 ≤ x1 ∧ x1 < iH h 0 13) → Q (some (vi (-2))) h) ∧ ((0 ≤ x1 ∧ x1 < iH h 0 13) → ((¬ (0 ≤ x2 ∧ x2 < iH h 0 13) → Q (some (vi (-2))) h) ∧ ((0 ≤ x2 ∧ x2 < iH h 0 13) → ((x3 < 0 → Q (some (vi (-2))) h) ∧ (0 ≤ x3 → ((x3 ≤ 1 → (0 ≤ iH h 21 0 ∧ iH h 21 0 ≤ 100000) ∧ LayL (sI h 21 0 (iH h 21 0 + 1)) ∧ (cRd (sI h 21 0 (iH h 21 0 + 1)) g da sa ∧ kPo (sI h 21 0 (iH h 21 0 + 1)) g ∧ (0 ≤ x1 ∧ x1 < 6) ∧ cQry (sI h 21 0 (iH h 21 0 + 1)) g (45 + 6 * (x1).toNat) x1) ∧ (((iH g 89 23 < v_cost g x1 (iH g 89 13).toNat (nRow g)) → (0 ≤ iH (sI h 21 0 (iH h 21 0 + 1)) 21 2 ∧ iH (sI h 21 0 (iH h 21 0 + 1)) 21 2 ≤ 8) ∧ LayL (l_ended (sI h 21 0 (iH h 21 0 + 1)) (iH h 21 0 + 1)) ∧ Q (some (vi (-6))) (l_ended (sI h 21 0 (iH h 21 0 + 1)) (iH h 21 0 + 1))) ∧ (¬ (iH g 89 23 < v_cost g x1 (iH g 89 13).toNat (nRow g)) → (0 ≤ x1 ∧ x1 < 6) ∧ (∃ P27 : AH → Prop, Ct 4 0 0 mX1_search [vr 24, vr (45 + 6 * x1.toNat), vr 5] (sI h 21 0 (iH h 21 0 + 1)) (QV P27) ∧ ∀ h25 : AH, P27 h25 → LayL h25 ∧ (∃ P30 : Int → AH → Prop, Ct 7 0 0 mX11_foundByOther [vr 0, vi x2, vi x3] h25 (QI P30) ∧ ∀ (r29 : Int) (h28 : AH), (-2147483648 ≤ r29 ∧ r29 < 2147483648) → P30 r29 h28 → LayL h28 ∧ (0 ≤ iH h28 21 2 ∧ iH h28 21 2 ≤ 8) ∧ LayL (l_ended h28 (iH h 21 0 + 1)) ∧ Q (some (vi r29)) (l_ended h28 (iH h 21 0 + 1))))))) ∧ (1 < x3 → Q (some (vi (-2))) h))))))))) : wp mX11_both 8 rc rs Q 0 [some (vr 0), some (vi x1), some (vi x2), some (vi x3), none, none] [] h :=
  (show wp mX11_both 8 rc rs Q 0 [some (vr 0), some (vi x1), some (vi x2), some (vi x3), none, none] [] h from xcV k_X11_both_0 s_X11_both_2 ((Exists.intro [vi x1] (Exists.intro 0 (Exists.intro [] (And.intro (And.intro rfl (And.intro rfl (Nat.le_of_ble_eq_true rfl))) (And.intro (ll_0 hL) (Exists.intro 0 (Exists.intro 0 (Exists.intro 0 (Exists.intro _ (And.intro (l_isQuery (h := h) hL) (And.intro (And.intro (by decide) (And.intro (Nat.zero_le _) (Nat.zero_le _))) (eQP (show wp mX11_both 8 rc rs Q 5 [some (vr 0), some (vi x1), some (vi x2), some (vi x3), none, none] [vi (b01 (0 ≤ x1 ∧ x1 < iH h 0 13))] h from xIf k_X11_both_5 (And.intro (fun c1 => have v3 := hv.1 (b01_n.mp c1); (show wp mX11_both 8 rc rs Q 25 [some (vr 0), some (vi x1), some (vi x2), some (vi x3), none, none] [] h from xI k_X11_both_25 (And.intro rfl v3))) (fun c2 => have v4 := hv.2 (b01_p.mp c2); (show wp mX11_both 8 rc rs Q 8 [some (vr 0), some (vi x1), some (vi x2), some (vi x3), none, none] [] h from xcV k_X11_both_8 s_X11_both_10 ((Exists.intro [vi x2] (Exists.intro 0 (Exists.intro [] (And.intro (And.intro rfl (And.intro rfl (Nat.le_of_ble_eq_true rfl))) (And.intro (ll_0 hL) (Exists.intro 0 (Exists.intro 0 (Exists.intro 0 (Exists.intro _ (And.intro (l_isQuery (h := h) hL) (And.intro (And.intro (by decide) (And.intro (Nat.zero_le _) (Nat.zero_le _))) (eQP (show wp mX11_both 8 rc rs Q 13 [some (vr 0), some (vi x1), some (vi x2), some (vi x3), none, none] [vi (b01 (0 ≤ x2 ∧ x2 < iH h 0 13))] h from xIf k_X11_both_13 (And.intro (fun c5 => have v7 := v4.1 (b01_n.mp c5); (show wp mX11_both 8 rc rs Q 25 [some (vr 0), some (vi x1), some (vi x2), some (vi x3), none, none] [] h from xI k_X11_both_25 (And.intro rfl v7))) (fun c6 => have v8 := v4.2 (b01_p.mp c6); (show wp mX11_both 8 rc rs Q 16 [some (vr 0), some (vi x1), some (vi x2), some (vi x3), none, none] [] h from xIf k_X11_both_16 (And.intro (fun c9 => have v11 := v8.1 c9; (show wp mX11_both 8 rc rs Q 25 [some (vr 0), some (vi x1), some (vi x2), some (vi x3), none, none] [] h from xI k_X11_both_25 (And.intro rfl v11))) (fun c10 => have v12 := v8.2 (Int.not_lt.mp c10); (show wp mX11_both 8 rc rs Q 20 [some (vr 0), some (vi x1), some (vi x2), some (vi x3), none, none] [] h from xIc k_X11_both_20 (And.intro (fun c13 => have v15 := v12.1 c13; (show wp mX11_both 8 rc rs Q 28 [some (vr 0), some (vi x1), some (vi x2), some (vi x3), none, none] [] h from xcV k_X11_both_28 s_X11_both_32 (And.intro (ll_0 hL) (Exists.intro 21 (And.intro (lg_0_15 hL) (have c46 := v15.1; have v47 := v15.2; (Exists.intro [] (Exists.intro 21 (Exists.intro [] (And.intro (And.intro rfl (And.intro rfl (Nat.le_of_ble_eq_true rfl))) (And.intro (ll_21 hL) (Exists.intro 0 (Exists.intro 0 (Exists.intro 0 (Exists.intro _ (And.intro (l_start (h := h) hL c46) (And.intro (And.intro (by decide) (And.intro (Nat.zero_le _) (Nat.zero_le _))) (eQP (have hL := v47.1; have v48 := v47.2; (show wp mX11_both 8 rc rs Q 35 [some (vr 0), some (vi x1), some (vi x2), some (vi x3), none, none] [vi (iH h 21 0 + 1)] (sI h 21 0 (iH h 21 0 + 1)) from xcV k_X11_both_35 s_X11_both_43 (And.intro rfl (And.intro rfl (have c43 := v48.1; have v44 := v48.2; (Exists.intro [vi x1] (Exists.intro 0 (Exists.intro [] (And.intro (And.intro rfl (And.intro rfl (Nat.le_of_ble_eq_true rfl))) (And.intro (ll_0 hL) (Exists.intro 6 (Exists.intro 0 (Exists.intro 0 (Exists.intro _ (And.intro (l_isDear (h := (sI h 21 0 (iH h 21 0 + 1))) hL c43) (And.intro (And.intro (by decide) (And.intro (Nat.zero_le _) (Nat.zero_le _))) (eQP (show wp mX11_both 8 rc rs Q 46 [some (vr 0), some (vi x1), some (vi x2), some (vi x3), some (vi (iH h 21 0 + 1)), some (vi (-6))] [vi (b01 (iH g 89 23 < v_cost g x1 (iH g 89 13).toNat (nRow g)))] (sI h 21 0 (iH h 21 0 + 1)) from xIf k_X11_both_46 (And.intro (fun c17 => have v19 := v44.1 (b01_p.mp c17); (show wp mX11_both 8 rc rs Q 74 [some (vr 0), some (vi x1), some (vi x2), some (vi x3), some (vi (iH h 21 0 + 1)), some (vi (-6))] [] (sI h 21 0 (iH h 21 0 + 1)) from xcV k_X11_both_74 s_X11_both_80 (And.intro (ll_0 hL) (Exists.intro 21 (And.intro (lg_0_15 hL) (have c21 := v19.1; have v22 := v19.2; (Exists.intro [vi (iH h 21 0 + 1)] (Exists.intro 21 (Exists.intro [] (And.intro (And.intro rfl (And.intro rfl (Nat.le_of_ble_eq_true rfl))) (And.intro (ll_21 hL) (Exists.intro 1 (Exists.intro 0 (Exists.intro 0 (Exists.intro _ (And.intro (l_end (h := (sI h 21 0 (iH h 21 0 + 1))) hL c21) (And.intro (And.intro (by decide) (And.intro (Nat.zero_le _) (Nat.zero_le _))) (eQPV (have hL := v22.1; have v23 := v22.2; (show wp mX11_both 8 rc rs Q 83 [some (vr 0), some (vi x1), some (vi x2), some (vi x3), some (vi (iH h 21 0 + 1)), some (vi (-6))] [] (l_ended (sI h 21 0 (iH h 21 0 + 1)) (iH h 21 0 + 1)) from xI k_X11_both_83 (And.intro rfl v23))))))))))))))))))))) (fun c18 => have v20 := v44.2 (b01_nn.mp c18); (show wp mX11_both 8 rc rs Q 49 [some (vr 0), some (vi x1), some (vi x2), some (vi x3), some (vi (iH h 21 0 + 1)), some (vi (-6))] [] (sI h 21 0 (iH h 21 0 + 1)) from xcV k_X11_both_49 s_X11_both_63 (And.intro (ll_0 hL) (Exists.intro 24 (And.intro (lg_0_17 hL) (And.intro (ll_0 hL) (Exists.intro 19 (And.intro (lg_0_12 hL) (have c24 := v20.1; have v42 := v20.2; (And.intro (sdQ (ll_19 hL) c24) (Exists.intro (45 + 6 * x1.toNat) (And.intro (tb_qy hL (tnl c24)) (And.intro (ll_0 hL) (Exists.intro 5 (And.intro (lg_0_3 hL) (Exists.elim v42 (fun P27 v38 => (Exists.intro [vr (45 + 6 * x1.toNat), vr 5] (Exists.intro 24 (Exists.intro [] (And.intro (And.intro rfl (And.intro rfl (Nat.le_of_ble_eq_true rfl))) (And.intro (ll_24 hL) (Exists.intro 4 (Exists.intro 0 (Exists.intro 0 (Exists.intro (QV P27) (And.intro v38.1 (And.intro (And.intro (by decide) (And.intro (Nat.zero_le _) (Nat.zero_le _))) (eQV (fun h25 e40 => have v39 := v38.2 h25 e40; have hL := v39.1; have v39 := v39.2; (show wp mX11_both 8 rc rs Q 66 [some (vr 0), some (vi x1), some (vi x2), some (vi x3), some (vi (iH h 21 0 + 1)), some (vi (-6))] [] h25 from xcV k_X11_both_66 s_X11_both_69 (Exists.elim v39 (fun P30 v34 => (Exists.intro [vi x2, vi x3] (Exists.intro 0 (Exists.intro [] (And.intro (And.intro rfl (And.intro rfl (Nat.le_of_ble_eq_true rfl))) (And.intro (ll_0 hL) (Exists.intro 7 (Exists.intro 0 (Exists.intro 0 (Exists.intro (QI P30) (And.intro v34.1 (And.intro (And.intro (by decide) (And.intro (Nat.zero_le _) (Nat.zero_le _))) (eQI (fun r29 h28 q37 e36 => have v35 := v34.2 r29 h28 q37 e36; have hL := v35.1; have v35 := v35.2; (show wp mX11_both 8 rc rs Q 72 [some (vr 0), some (vi x1), some (vi x2), some (vi x3), some (vi (iH h 21 0 + 1)), some (vi (-6))] [vi r29] h28 from xcV k_X11_both_72 s_X11_both_80 (And.intro rfl (And.intro (ll_0 hL) (Exists.intro 21 (And.intro (lg_0_15 hL) (have c31 := v35.1; have v32 := v35.2; (Exists.intro [vi (iH h 21 0 + 1)] (Exists.intro 21 (Exists.intro [] (And.intro (And.intro rfl (And.intro rfl (Nat.le_of_ble_eq_true rfl))) (And.intro (ll_21 hL) (Exists.intro 1 (Exists.intro 0 (Exists.intro 0 (Exists.intro _ (And.intro (l_end (h := h28) hL c31) (And.intro (And.intro (by decide) (And.intro (Nat.zero_le _) (Nat.zero_le _))) (eQPV (have hL := v32.1; have v33 := v32.2; (show wp mX11_both 8 rc rs Q 83 [some (vr 0), some (vi x1), some (vi x2), some (vi x3), some (vi (iH h 21 0 + 1)), some (vi r29)] [] (l_ended h28 (iH h 21 0 + 1)) from xI k_X11_both_83 (And.intro rfl v33)))))))))))))))))))))))))))))))))))))))))))))))))))))))))))))))))))))))))))))))))))))))))))))))))))))))) (fun c14 => have v16 := v12.2 (Int.not_le.mp c14); (show wp mX11_both 8 rc rs Q 25 [some (vr 0), some (vi x1), some (vi x2), some (vi x3), none, none] [] h from xI k_X11_both_25 (And.intro rfl v16))))))))))))))))))))))))))))))))))))))))))
theorem e_X11_both {mc ms : Nat} {Q : Option AV → AH → Prop} {h : AH} {sa : Nat → Nat} {da : Nat → Nat} {g : AH} {x1 x2 x3 : Int} (hL : LayL h) (hv : ((¬ (0 ≤ x1 ∧ x1 < iH h 0 13) → Q (some (vi (-2))) h) ∧ ((0 ≤ x1 ∧ x1 < iH h 0 13) → ((¬ (0 ≤ x2 ∧ x2 < iH h 0 13) → Q (some (vi (-2))) h) ∧ ((0 ≤ x2 ∧ x2 < iH h 0 13) → ((x3 < 0 → Q (some (vi (-2))) h) ∧ (0 ≤ x3 → ((x3 ≤ 1 → (0 ≤ iH h 21 0 ∧ iH h 21 0 ≤ 100000) ∧ LayL (sI h 21 0 (iH h 21 0 + 1)) ∧ (cRd (sI h 21 0 (iH h 21 0 + 1)) g da sa ∧ kPo (sI h 21 0 (iH h 21 0 + 1)) g ∧ (0 ≤ x1 ∧ x1 < 6) ∧ cQry (sI h 21 0 (iH h 21 0 + 1)) g (45 + 6 * (x1).toNat) x1) ∧ (((iH g 89 23 < v_cost g x1 (iH g 89 13).toNat (nRow g)) → (0 ≤ iH (sI h 21 0 (iH h 21 0 + 1)) 21 2 ∧ iH (sI h 21 0 (iH h 21 0 + 1)) 21 2 ≤ 8) ∧ LayL (l_ended (sI h 21 0 (iH h 21 0 + 1)) (iH h 21 0 + 1)) ∧ Q (some (vi (-6))) (l_ended (sI h 21 0 (iH h 21 0 + 1)) (iH h 21 0 + 1))) ∧ (¬ (iH g 89 23 < v_cost g x1 (iH g 89 13).toNat (nRow g)) → (0 ≤ x1 ∧ x1 < 6) ∧ (∃ P27 : AH → Prop, Ct 4 0 0 mX1_search [vr 24, vr (45 + 6 * x1.toNat), vr 5] (sI h 21 0 (iH h 21 0 + 1)) (QV P27) ∧ ∀ h25 : AH, P27 h25 → LayL h25 ∧ (∃ P30 : Int → AH → Prop, Ct 7 0 0 mX11_foundByOther [vr 0, vi x2, vi x3] h25 (QI P30) ∧ ∀ (r29 : Int) (h28 : AH), (-2147483648 ≤ r29 ∧ r29 < 2147483648) → P30 r29 h28 → LayL h28 ∧ (0 ≤ iH h28 21 2 ∧ iH h28 21 2 ≤ 8) ∧ LayL (l_ended h28 (iH h 21 0 + 1)) ∧ Q (some (vi r29)) (l_ended h28 (iH h 21 0 + 1))))))) ∧ (1 < x3 → Q (some (vi (-2))) h))))))))) : Ct 8 mc ms mX11_both [vr 0, vi x1, vi x2, vi x3] h Q := Ct.of (by decide +kernel) (Nat.le_of_ble_eq_true rfl) (t_X11_both_0 hL hv)
section
theorem cnt_ex {p : Nat → Prop} : ∀ {n : Nat}, (∃ k, k < n ∧ p k) ↔ cnt p n ≠ 0
  | 0 => ⟨fun ⟨_, h, _⟩ => absurd h (Nat.not_lt_zero _), fun h => absurd rfl h⟩
  | n + 1 => by
    have ih := cnt_ex (p := p) (n := n)
    have hb := cnt_bd p n
    by_cases c : p n
    · rw [cnt_s c]
      exact ⟨fun _ => by omega, fun _ => ⟨n, by omega, c⟩⟩
    · rw [cnt_n c, ← ih]
      exact ⟨fun ⟨k, h1, h2⟩ => ⟨k, by
        by_cases e : k = n
        · subst e; exact absurd h2 c
        · omega, h2⟩, fun ⟨k, h1, h2⟩ => ⟨k, by omega, h2⟩⟩
theorem cnt_sum (p : Nat → Prop) : ∀ n : Nat, cnt p n = sumN (fun k => b01 (p k)) n
  | 0 => rfl
  | n + 1 => by
    show cnt p n + b01 (p n) = sumN (fun k => b01 (p k)) n + b01 (p n)
    rw [cnt_sum p n]
theorem sumN_cut {f : Nat → Int} {n : Nat} : ∀ {m : Nat}, n ≤ m → (∀ k, n ≤ k → k < m → f k = 0) → sumN f m = sumN f n
  | 0, h, _ => by rw [show n = 0 by omega]
  | m + 1, h, q => by
    by_cases e : n = m + 1
    · rw [e]
    · show sumN f m + f m = _
      rw [q m (by omega) (by omega), sumN_cut (n := n) (m := m) (by omega) (fun k h1 h2 => q k h1 (by omega))]; omega
theorem f_in_sum {v : Int} (w : Nat → Int) (p n : Nat) (h : p ≤ n) : sumN (f_in w p n v) (n + 1) = sumN w n + v := by
  have low : ∀ m, m ≤ p → sumN (f_in w p n v) m = sumN w m := fun m hm => sumN_cg fun k hk => by unfold f_in f_sh; rw [if_neg (by omega), if_neg (by omega)]
  have hi : ∀ m, p ≤ m → m ≤ n → sumN (f_in w p n v) (m + 1) = sumN w m + v := by
    intro m
    induction m with
    | zero =>
      intro h1 h2
      have : p = 0 := by omega
      subst this
      show 0 + f_in w 0 n v 0 = 0 + v
      unfold f_in; rw [if_pos rfl]
    | succ m ih =>
      intro h1 h2
      show sumN (f_in w p n v) (m + 1) + f_in w p n v (m + 1) = sumN w m + w m + v
      by_cases c : p = m + 1
      · rw [low (m + 1) (by omega)]
        unfold f_in; rw [if_pos c.symm]; rfl
      · rw [ih (by omega) (by omega)]
        unfold f_in f_sh; rw [if_neg (by omega), if_pos (by omega), show m + 1 - 1 = m from rfl]; omega
  exact hi n h (Nat.le_refl n)
theorem f_add_cnt {S : FS} {d v : Int} (P : Int → Prop) : cnt (fun i => P ((f_add S d v).2.2.1 i)) (f_add S d v).1 = cnt (fun i => P (S.2.2.1 i)) S.1 + b01 (P d) := by
  rw [cnt_sum, cnt_sum, ← f_in_sum (v := b01 (P d)) (fun i => b01 (P (S.2.2.1 i))) (f_ip S.2.2.2 v S.1) S.1 (f_ip_le _ _ _)]
  show sumN _ (S.1 + 1) = _
  refine sumN_cg fun k _ => ?_
  show b01 (P (f_in S.2.2.1 (f_ip S.2.2.2 v S.1) S.1 d k)) = _
  unfold f_in f_sh
  by_cases e : k = f_ip S.2.2.2 v S.1
  · rw [if_pos e, if_pos e]
  · rw [if_neg e, if_neg e]
    by_cases e2 : f_ip S.2.2.2 v S.1 < k ∧ k ≤ S.1
    · rw [if_pos e2, if_pos e2]
    · rw [if_neg e2, if_neg e2]
variable {g : AH} {q : Int} {row : Nat → Int} {dr : Nat → Nat → Prop}
theorem fI_cnt (P : Int → Prop) (s : Nat) (S : FS) : ∀ k : Nat, k ≤ (iH g 615 (row s).toNat).toNat → cnt (fun i => P ((v_fI g q row dr s S k).2.2.1 i)) (v_fI g q row dr s S k).1 = cnt (fun i => P (S.2.2.1 i)) S.1 + cnt (fun k => v_mk g q row dr s k ∧ P (iH g (617 + (row s).toNat) k)) k
  | 0, _ => by show _ = _ + (0 : Int); rw [Int.add_zero]; rfl
  | k + 1, hk => by
    have ih := fI_cnt P s S k (by omega)
    unfold v_fI
    by_cases c : 0 < v_fv g q row dr s k
    · rw [if_pos c, f_add_cnt P, ih]
      have mk : v_mk g q row dr s k := ⟨by omega, c⟩
      by_cases c2 : P (iH g (617 + (row s).toNat) k)
      · rw [b01_t c2, cnt_s (p := fun k => v_mk g q row dr s k ∧ P (iH g (617 + (row s).toNat) k)) ⟨mk, c2⟩]; omega
      · rw [b01_f c2, cnt_n (p := fun k => v_mk g q row dr s k ∧ P (iH g (617 + (row s).toNat) k)) (fun u => c2 u.2)]; omega
    · rw [if_neg c, ih, cnt_n (p := fun k => v_mk g q row dr s k ∧ P (iH g (617 + (row s).toNat) k)) (fun u => c u.1.2)]
/-- how many of what is found are such -/
theorem fd_cnt (P : Int → Prop) : ∀ n : Nat, cnt (fun i => P ((v_fd g q row dr n).2.2.1 i)) (v_fd g q row dr n).1 = sumN (fun s => cnt (fun k => v_mk g q row dr s k ∧ P (iH g (617 + (row s).toNat) k)) (iH g 615 (row s).toNat).toNat) n
  | 0 => rfl
  | n + 1 => by
    show cnt (fun i => P ((v_fI g q row dr n (v_fd g q row dr n) (iH g 615 (row n).toNat).toNat).2.2.1 i)) (v_fI g q row dr n (v_fd g q row dr n) (iH g 615 (row n).toNat).toNat).1 = sumN _ n + _
    rw [fI_cnt P n _ _ (Nat.le_refl _), fd_cnt P n]
theorem sumN_bd0 {f : Nat → Int} : ∀ n : Nat, (∀ k, k < n → 0 ≤ f k) → 0 ≤ sumN f n
  | 0, _ => Int.le_refl _
  | n + 1, h => by
    have := sumN_bd0 (f := f) n fun k hk => h k (by omega)
    have := h n (by omega)
    show 0 ≤ sumN f n + f n
    omega
theorem sumN_n0 {f : Nat → Int} : ∀ {n : Nat}, (∀ k, k < n → 0 ≤ f k) → (sumN f n ≠ 0 ↔ ∃ k, k < n ∧ f k ≠ 0)
  | 0, _ => ⟨fun h => absurd rfl h, fun ⟨_, h, _⟩ => absurd h (Nat.not_lt_zero _)⟩
  | n + 1, h => by
    have ih := sumN_n0 (f := f) (n := n) fun k hk => h k (by omega)
    have h0 : 0 ≤ sumN f n := (sumN_bd0 n fun k hk => h k (by omega))
    have h1 := h n (by omega)
    show sumN f n + f n ≠ 0 ↔ _
    constructor
    · intro u
      by_cases c : f n = 0
      · obtain ⟨k, k1, k2⟩ := ih.mp (by omega)
        exact ⟨k, by omega, k2⟩
      · exact ⟨n, by omega, c⟩
    · rintro ⟨k, k1, k2⟩
      by_cases c : k = n
      · subst c; omega
      · have := ih.mpr ⟨k, by omega, k2⟩; omega
/-- which documents are found -/
theorem fd_mem (n : Nat) (d : Int) : (∃ i, i < (v_fd g q row dr n).1 ∧ (v_fd g q row dr n).2.2.1 i = d) ↔ ∃ s k, s < n ∧ v_mk g q row dr s k ∧ iH g (617 + (row s).toNat) k = d := by
  rw [cnt_ex, fd_cnt (fun x => x = d) n, sumN_n0 fun s _ => (cnt_bd _ _).1]
  constructor
  · rintro ⟨s, h1, h2⟩
    obtain ⟨k, k1, k2⟩ := cnt_ex.mpr h2
    exact ⟨s, k, h1, k2⟩
  · rintro ⟨s, k, h1, h2⟩
    exact ⟨s, h1, cnt_ex.mp ⟨k, by have := h2.1.1; omega, h2⟩⟩
end
section
variable {h g : AH} {da sa : Nat → Nat}
/-- a document stands once in a stand -/
theorem uniq {j : Nat} (hp : kSta h g da sa) (hj : j < 7) {s s' k k' : Nat} (hs : (s : Int) < cntH g j) (hs' : (s' : Int) < cntH g j) (hk : (k : Int) < iH g 615 (rowH g j s).toNat) (hk' : (k' : Int) < iH g 615 (rowH g j s').toNat) (e : iH g (617 + (rowH g j s).toNat) k = iH g (617 + (rowH g j s').toNat) k') : s = s' ∧ k = k' := by
  obtain ⟨u1, u2⟩ := hp.2.2
  have b := row_bd hp.1 hj hs
  by_cases c : s = s'
  · subst c
    refine ⟨rfl, ?_⟩
    by_cases c2 : k < k'
    · exact absurd e (u2 (rowH g j s).toNat (by omega) (by omega) k k' c2 hk')
    · by_cases c3 : k' < k
      · exact absurd e.symm (u2 (rowH g j s).toNat (by omega) (by omega) k' k c3 hk)
      · omega
  · by_cases c2 : s < s'
    · exact absurd e (u1 j hj s s' c2 hs' k k' hk hk')
    · exact absurd e.symm (u1 j hj s' s (by omega) hs k' k hk' hk)
theorem uniq6 (hp : kSta h g da sa) {s s' k k' : Nat} (hs : (s : Int) < iH g 89 13) (hs' : (s' : Int) < iH g 89 13) (hk : (k : Int) < iH (m_lay g 6) 615 (tRow (m_lay g 6) 6 s).toNat) (hk' : (k' : Int) < iH (m_lay g 6) 615 (tRow (m_lay g 6) 6 s').toNat) (e : iH (m_lay g 6) (617 + (tRow (m_lay g 6) 6 s).toNat) k = iH (m_lay g 6) (617 + (tRow (m_lay g 6) 6 s').toNat) k') : s = s' ∧ k = k' := by
  have er : ∀ s : Nat, (s : Int) < iH g 89 13 → tRow (m_lay g 6) 6 s = rowH (m_lay g 6) 0 s := fun s h1 => by
    have : rowH (m_lay g 6) 0 s = iH (m_lay g 6) 1155 s := rfl
    rw [this, rL (by decide) (by decide) (by decide) (by decide)]
    exact lay_R (t := 6) (by omega) h1
  have ec : cntH (m_lay g 6) 0 = iH g 89 13 := by
    show iH (m_lay g 6) 89 13 = _
    exact lay_71
  rw [er s hs, er s' hs'] at e
  rw [er s hs] at hk
  rw [er s' hs'] at hk'
  exact uniq (kSta_6 hp) (by omega) (by rw [ec]; exact hs) (by rw [ec]; exact hs') hk hk' e
/-- those that two queries find, by the marks -/
theorem both_cnt (hp : kSta h g da sa) {q1 q2 : Int} {M1 M2 : Nat → Int64} (h1 : ∀ s : Nat, s < 8 → ∀ k : Nat, bt (M1 s) k ↔ (s : Int) < iH (m_lay g 6) 1138 6 ∧ v_mk (m_lay g 6) q1 (tRow (m_lay g 6) 6) (tDr (m_lay g 6) 6) s k) (h2 : ∀ s : Nat, s < 8 → ∀ k : Nat, bt (M2 s) k ↔ (s : Int) < iH (m_lay g 6) 1138 6 ∧ v_mk (m_lay g 6) q2 (tRow (m_lay g 6) 6) (tDr (m_lay g 6) 6) s k) : cnt (fun i => ∃ j, j < (m_F (m_lay g 6) 6 q2).1 ∧ (m_F (m_lay g 6) 6 q2).2.2.1 j = (m_F (m_lay g 6) 6 q1).2.2.1 i) (m_F (m_lay g 6) 6 q1).1 = sumN (fun s => pcL (M1 s &&& M2 s)) 8 := by
  have hn := (now_6 hp).2.2
  have h8 := hp.1.1.2.2.2.1
  have eF : ∀ q, m_F (m_lay g 6) 6 q = v_fd (m_lay g 6) q (tRow (m_lay g 6) 6) (tDr (m_lay g 6) 6) (iH (m_lay g 6) 1138 6).toNat := fun q => (v_fd_t (g := m_lay g 6) (q := q) (t := 6) _).symm
  rw [eF, eF]
  refine (fd_cnt (g := m_lay g 6) (fun d => ∃ j, j < (v_fd (m_lay g 6) q2 (tRow (m_lay g 6) 6) (tDr (m_lay g 6) 6) (iH (m_lay g 6) 1138 6).toNat).1 ∧ (v_fd (m_lay g 6) q2 (tRow (m_lay g 6) 6) (tDr (m_lay g 6) 6) (iH (m_lay g 6) 1138 6).toNat).2.2.1 j = d) _).trans ?_
  rw [sumN_cut (n := (iH (m_lay g 6) 1138 6).toNat) (m := 8) (by omega) (fun s s1 s2 => ?_)]
  · refine sumN_cg fun s hs => ?_
    have hl : iH (m_lay g 6) 615 (tRow (m_lay g 6) 6 s).toNat ≤ 64 := by
      have q1 := (now_6 hp).1.2.2 s (by omega)
      have q2 := (kSta_6 hp).1.1.2.1 _ (show (((tRow (m_lay g 6) 6 s).toNat : Nat) : Int) < iH (m_lay g 6) 89 5 by omega)
      have := q2.1.1.1.2.1
      rw [Int.toNat_natCast] at this
      omega
    unfold pcL
    rw [cnt_cut (n := (iH (m_lay g 6) 615 (tRow (m_lay g 6) 6 s).toNat).toNat) (m := 64) (by omega) (fun k k1 k2 u => by
      have := ((h1 s (by omega) k).mp (bt_and.mp u).1).2.1
      omega)]
    refine cnt_cg fun k hk => ?_
    rw [bt_and, h1 s (by omega), h2 s (by omega)]
    constructor
    · rintro ⟨m1, m2⟩
      obtain ⟨s', k', s1, m3, e⟩ := (fd_mem _ _).mp m2
      obtain ⟨rfl, rfl⟩ := uniq6 hp (by omega) (by omega) m3.1 m1.1 e
      exact ⟨⟨by omega, m1⟩, by omega, m3⟩
    · rintro ⟨m1, m2⟩
      exact ⟨m1.2, (fd_mem _ _).mpr ⟨s, k, hs, m2.2, rfl⟩⟩
  · unfold pcL
    refine (cnt_cg (q := fun _ => False) fun k _ => ⟨fun u => ?_, False.elim⟩).trans (cnt_cut (n := 0) (p := fun _ => False) (by omega) (fun _ _ _ => id))
    have := ((h1 s s2 k).mp (bt_and.mp u).1).1
    omega
end
section
theorem bothP_cnt {S1 S2 : FS} {w N : Int} (e : cnt (fun i => ∃ j, j < S2.1 ∧ S2.2.2.1 j = S1.2.2.1 i) S1.1 = N) : cnt (m_bothP S1 S2 w) S1.1 = if w = 0 then N else (S1.1 : Int) - N := by
  unfold m_bothP
  by_cases c : w = 0
  · rw [if_pos c, ← e]
    exact cnt_cg fun k _ => ⟨fun u => u.mpr c, fun u => ⟨fun _ => c, fun _ => u⟩⟩
  · have := cnt_neg (fun i => ∃ j, j < S2.1 ∧ S2.2.2.1 j = S1.2.2.1 i) S1.1
    rw [if_neg c, ← e, ← this]
    rw [cnt_cg (q := fun i => ¬ ∃ j, j < S2.1 ∧ S2.2.2.1 j = S1.2.2.1 i) fun k _ => ⟨fun u v => c (u.mp v), fun u => ⟨fun v => absurd v u, fun v => absurd v c⟩⟩]
    omega
theorem sr_6 {h0 h h' g : AH} {da sa : Nat → Nat} {a aq : Nat} {q : Int} (hp : kSta h0 g da sa) (hs : p_search h (m_lay g 6) a aq q (iH (m_lay g 6) 1138 6) (tRow (m_lay g 6) 6) (tDr (m_lay g 6) 6) h') : iH h' a 3 = ((m_F (m_lay g 6) 6 q).1 : Int) ∧ ∀ s : Nat, s < 8 → ∀ k : Nat, bt (jH h' (a + 3) s) k ↔ (s : Int) < iH (m_lay g 6) 1138 6 ∧ v_mk (m_lay g 6) q (tRow (m_lay g 6) 6) (tDr (m_lay g 6) 6) s k := by
  have eF : m_F (m_lay g 6) 6 q = v_fd (m_lay g 6) q (tRow (m_lay g 6) 6) (tDr (m_lay g 6) 6) (iH (m_lay g 6) 1138 6).toNat := (v_fd_t (g := m_lay g 6) (q := q) (t := 6) _).symm
  rw [eF]
  obtain ⟨K, W, P, M, rfl, h1, h2⟩ := hs
  exact ⟨hh_3, fun s hs k => by rw [hh_M]; exact h2 s hs k⟩
theorem F_bd6 {h g : AH} {da sa : Nat → Nat} {q : Int} (hp : kSta h g da sa) (hq : m_qok (m_lay g 6) q) : ((m_F (m_lay g 6) 6 q).1 : Int) ≤ 64 := by
  have eF : m_F (m_lay g 6) 6 q = v_fd (m_lay g 6) q (tRow (m_lay g 6) 6) (tDr (m_lay g 6) 6) (iH (m_lay g 6) 1138 6).toNat := (v_fd_t (g := m_lay g 6) (q := q) (t := 6) _).symm
  obtain ⟨n1, n2, n3⟩ := now_6 hp
  have := (v_fd_bd (dr := tDr (m_lay g 6) 6) hq (kSta_6 hp).1.1.2.1 n1 (iH (m_lay g 6) 1138 6).toNat (by have := n1.2.1; omega)).1
  rw [eF]
  omega
end
theorem l_foundByOther {h g : AH} {da sa : Nat → Nat} (hL : LayL h) {q w q1 : Int} (hp : kSta h g da sa) (hq : kQ h g) (hpo : kPo h g) (hl1 : 0 ≤ iH h 21 0 ∧ iH h 21 0 ≤ 100000) (hl2 : 0 ≤ iH h 21 2 ∧ iH h 21 2 ≤ 8) (hqb : 0 ≤ q ∧ q < iH g 89 30) (h3 : iH h 24 3 = ((m_F (m_lay g 6) 6 q1).1 : Int)) (hbd : ((m_F (m_lay g 6) 6 q1).1 : Int) ≤ 64) (hm : ∀ s : Nat, s < 8 → ∀ k : Nat, bt (jH h 27 s) k ↔ (s : Int) < iH (m_lay g 6) 1138 6 ∧ v_mk (m_lay g 6) q1 (tRow (m_lay g 6) 6) (tDr (m_lay g 6) 6) s k) : Ct 7 0 0 mX11_foundByOther [vr 0, vi q, vi w] h (QI fun x h' => LayL h' ∧ x = (if iH g 89 23 < m_cost (m_lay g 6) 6 q then -6 else cnt (m_bothP (m_F (m_lay g 6) 6 q1) (m_F (m_lay g 6) 6 q) w) (m_F (m_lay g 6) 6 q1).1) ∧ ∃ h0, agX scL (sI h 21 0 (iH h 21 0 + 1)) h0 ∧ h' = l_ended h0 (iH h 21 0 + 1)) := by
  have hp1 : kSta (sI h 21 0 (iH h 21 0 + 1)) (m_lay g 6) da sa := kSta_X agX_st (kSta_6 hp)
  have hq1 := kQ_X (agX_st (v := iH h 21 0 + 1)) (kQ_6 hq)
  have hpo1 := kPo_X (agX_st (v := iH h 21 0 + 1)) (kPo_6 hpo)
  obtain ⟨n1, n2, n3⟩ := now_6 (kSta_X (agX_st (v := iH h 21 0 + 1)) hp)
  have eL : iH (m_lay g 6) 89 23 = iH g 89 23 := lay_71
  have eQ : iH (m_lay g 6) 89 30 = iH g 89 30 := lay_71
  have c6 := hq.2.1
  have hqq := hq1.2.2 q.toNat (by omega)
  rw [Int.toNat_of_nonneg hqb.1] at hqq
  have bd : ∀ h1, agX scL (sI h 21 0 (iH h 21 0 + 1)) h1 → 0 ≤ iH h1 21 2 ∧ iH h1 21 2 ≤ 8 := fun h1 e => by
    rw [(e.2.2.2 21 (by unfold scL; omega)).1, rI_nk (by decide)]
    exact hl2
  refine e_X11_foundByOther (g := m_lay g 6) (da := da) (sa := sa) hL ⟨hl1, by exact hL, ⟨hp1.1.1, hpo1, by omega, hqq⟩, ?_⟩
  rw [cost_6 hp, eL]
  refine ⟨fun c3 => ⟨bd _ agX_rf, agX_L agX_en (by exact hL), _, rfl, agX_L agX_en (by exact hL), by rw [if_pos c3], _, agX_rf, rfl⟩, fun c3 => ⟨by omega, _, l_search (by exact hL) (Or.inr rfl) (ti_qy (by omega)) (Or.inl rfl) hqq hp1.1.1.1 hp1.1.1.2.1 n1 n2, fun h9 hs => ?_⟩⟩
  have ag := sr_X (Or.inr rfl) (ti_qy (by omega)) hs
  have L9 : LayL h9 := agX_L ag (by exact hL)
  obtain ⟨s3, sm⟩ := sr_6 hp hs
  have e27 : ∀ s, jH h9 27 s = jH h 27 s := by
    obtain ⟨K, W, P, M, e, -⟩ := hs
    intro s
    rw [e, hh_jo (by decide)]
    rfl
  have e24 : iH h9 24 3 = iH h 24 3 := by
    obtain ⟨K, W, P, M, e, -⟩ := hs
    rw [e, hh_o (by decide) (by decide) (by decide) (by omega), rI_ne (by decide)]
  have cb := both_cnt hp (q1 := q1) (q2 := q) (M1 := jH h9 27) (M2 := jH h9 31) (fun s hs k => by rw [e27]; exact hm s hs k) sm
  have bp := bothP_cnt (w := w) cb
  have cb2 := cnt_bd (fun i => ∃ j, j < (m_F (m_lay g 6) 6 q).1 ∧ (m_F (m_lay g 6) 6 q).2.2.1 j = (m_F (m_lay g 6) 6 q1).2.2.1 i) (m_F (m_lay g 6) 6 q1).1
  refine ⟨L9, fun c4 => ⟨_, l_alsoIn L9 (Or.inl rfl) (Or.inr rfl), fun x h1 _ hx => ?_⟩, fun c4 => ⟨_, l_alsoIn L9 (Or.inl rfl) (Or.inr rfl), fun x h1 _ hx => ?_⟩⟩
  · obtain ⟨rfl, rfl⟩ := hx
    rw [cb] at cb2
    have cb3 : sumN (fun s => pcL (jH h1 (24 + 3) s &&& jH h1 (28 + 3) s)) 8 = sumN (fun s => pcL (jH h1 27 s &&& jH h1 31 s)) 8 := rfl
    refine ⟨L9, by omega, bd _ ag, agX_L agX_en L9, _, rfl, agX_L agX_en L9, ?_, _, ag, rfl⟩
    rw [if_neg c3, bp, if_neg c4, e24, h3]
  · obtain ⟨rfl, rfl⟩ := hx
    refine ⟨L9, bd _ ag, agX_L agX_en L9, _, rfl, agX_L agX_en L9, ?_, _, ag, rfl⟩
    rw [if_neg c3, bp, if_pos c4]
theorem l_both {h g : AH} {da sa : Nat → Nat} (hL : LayL h) {q1 q2 w : Int} (hp : kSta h g da sa) (hq : kQ h g) (hpo : kPo h g) (hl : kL h g) (hb : iH g 89 46 ≤ 90000) : Ct 8 0 0 mX11_both [vr 0, vi q1, vi q2, vi w] h (QI fun x h' => LayL h' ∧ agX scK h h' ∧ ∃ g', p_both g q1 q2 w x g' ∧ kL h' g' ∧ (g' = g ∨ g' = m_shutL (m_bt1 g) (iH (m_lay g 6) 89 46 + 1) ∨ g' = m_bt2 (m_bt1 g))) := by
  have hpN := kSta_X (agX_st (h := h) (v := iH h 21 0 + 1)) hp
  have hp1 : kSta (sI h 21 0 (iH h 21 0 + 1)) (m_lay g 6) da sa := kSta_6 hpN
  have hqN := kQ_X (agX_st (v := iH h 21 0 + 1)) hq
  have hq1 := kQ_6 hqN
  have hpoN := kPo_X (agX_st (v := iH h 21 0 + 1)) hpo
  have hpo1 := kPo_6 hpoN
  obtain ⟨n1, n2, n3⟩ := now_6 hpN
  have eL : iH (m_lay g 6) 89 23 = iH g 89 23 := lay_71
  have eQ : iH (m_lay g 6) 89 30 = iH g 89 30 := lay_71
  have eK : iH (m_lay g 6) 89 46 = iH g 89 46 := lay_71
  have e21 : iH h 21 0 = iH g 89 46 := hl.1.1
  have c6 := hq.2.1
  have bad : (¬ (0 ≤ q1 ∧ q1 ≤ iH g 89 30 - 1) ∨ ¬ (0 ≤ q2 ∧ q2 ≤ iH g 89 30 - 1) ∨ ¬ (0 ≤ w ∧ w ≤ 1)) → QI (fun x h' => LayL h' ∧ agX scK h h' ∧ ∃ g', p_both g q1 q2 w x g' ∧ kL h' g' ∧ (g' = g ∨ g' = m_shutL (m_bt1 g) (iH (m_lay g 6) 89 46 + 1) ∨ g' = m_bt2 (m_bt1 g))) (some (vi (-2))) h := fun u => ⟨_, rfl, hL, agX_rf, g, Or.inl ⟨u, rfl, rfl⟩, hl, Or.inl rfl⟩
  -- the first look stands open
  have kl1 : kL (sI h 21 0 (iH h 21 0 + 1)) (m_bt1 g) := by
    have k0 : kL h (m_lay g 6) := kL_g lay_71 lay_71 (fun k => lay_log (by omega)) hl
    exact kL_start k0
  have bd : ∀ h1, agX scL (sI h 21 0 (iH h 21 0 + 1)) h1 → 0 ≤ iH h1 21 2 ∧ iH h1 21 2 ≤ 8 := fun h1 e => by
    rw [(e.2.2.2 21 (by unfold scL; omega)).1, rI_nk (by decide), hl.2.1.1]
    have := hl.2.1.2
    omega
  refine e_X11_both (g := m_lay g 6) (da := da) (sa := sa) hL ?_
  rw [hq.1]
  refine ⟨fun c => bad (Or.inl (by omega)), fun c => ⟨fun c2 => bad (Or.inr (Or.inl (by omega))), fun c2 => ⟨fun c3 => bad (Or.inr (Or.inr (by omega))), fun c3 => ⟨fun c3' => ?_, fun c3' => bad (Or.inr (Or.inr (by omega)))⟩⟩⟩⟩
  have ok : (0 ≤ q1 ∧ q1 ≤ iH g 89 30 - 1) ∧ (0 ≤ q2 ∧ q2 ≤ iH g 89 30 - 1) ∧ (0 ≤ w ∧ w ≤ 1) := ⟨by omega, by omega, by omega⟩
  have hqq := hq1.2.2 q1.toNat (by omega)
  rw [Int.toNat_of_nonneg c.1] at hqq
  refine ⟨by have := hl.1.2; omega, by exact hL, ⟨hp1.1.1, hpo1, by omega, hqq⟩, ?_⟩
  rw [cost_6 hp, eL]
  refine ⟨fun c4 => ⟨bd _ agX_rf, agX_L agX_en (by exact hL), _, rfl, agX_L agX_en (by exact hL), agX_tr agX_st agX_en, _, Or.inr ⟨ok, (if_pos (Or.inl c4)).symm, Or.inl ⟨c4, rfl⟩⟩, ?_, Or.inr (Or.inl rfl)⟩, fun c4 => ⟨by omega, _, l_search (by exact hL) (Or.inl rfl) (ti_qy (by omega)) (Or.inl rfl) hqq hp1.1.1.1 hp1.1.1.2.1 n1 n2, fun h1 hs => ?_⟩⟩
  · rw [eK, ← e21]
    exact kL_end kl1
  · have ag := sr_X (Or.inl rfl) (ti_qy (by omega)) hs
    have L1 : LayL h1 := agX_L ag (by exact hL)
    obtain ⟨s3, sm⟩ := sr_6 hp hs
    have ek : iH h1 21 0 = iH g 89 46 + 1 := by rw [(ag.2.2.2 21 (by unfold scL; omega)).1, rI_same, e21]
    have kl2 : kL h1 (m_bt1 g) := kL_X ag kl1
    have el1 : iH (m_bt1 g) 89 46 = iH g 89 46 + 1 := by unfold m_bt1; rw [rI_same, eK]
    have kh1 := kSta_X (scL_K ag) hpN
    have qh1 := kQ_X (scL_K ag) hqN
    have ph1 := kPo_X (scL_K ag) hpoN
    have b1 := bd h1 ag
    refine ⟨L1, _, l_foundByOther L1 (q1 := q1) kh1 qh1 ph1 (by have := hl.1.2; omega) b1 (by omega) s3 (F_bd6 hp hqq.1) sm, fun x h2 _ hx => ?_⟩
    obtain ⟨L2, rfl, h0, ag0, rfl⟩ := hx
    have kl3 : kL (l_ended h0 (iH h1 21 0 + 1)) (m_shutL (sI (m_bt1 g) 89 46 (iH (m_bt1 g) 89 46 + 1)) (iH (m_bt1 g) 89 46 + 1)) := by
      rw [show iH (m_bt1 g) 89 46 = iH h1 21 0 from kl2.1.1.symm]
      refine kL_end (kL_X ag0 ?_)
      have := kL_start kl2
      rw [show iH (m_bt1 g) 89 46 = iH h1 21 0 from kl2.1.1.symm] at this
      exact this
    have e3 : 0 ≤ iH (l_ended h0 (iH h1 21 0 + 1)) 21 2 ∧ iH (l_ended h0 (iH h1 21 0 + 1)) 21 2 ≤ 8 := by
      have := kl3.2.1
      omega
    refine ⟨L2, e3, agX_L agX_en L2, _, rfl, agX_L agX_en L2, agX_tr agX_st (agX_tr (scL_K ag) (agX_tr agX_st (agX_tr (scL_K ag0) (agX_tr agX_en agX_en)))), m_bt2 (m_bt1 g), Or.inr ⟨ok, ?_, Or.inr ⟨by omega, Or.inl rfl⟩⟩, ?_, Or.inr (Or.inr rfl)⟩
    · unfold a_both
      by_cases d : iH g 89 23 < m_cost (m_lay g 6) 6 q2
      · rw [if_pos d, if_pos (Or.inr d)]
      · rw [if_neg d, if_neg (fun u => u.elim c4 d)]
    · have e4 : iH (m_shutL (sI (m_bt1 g) 89 46 (iH (m_bt1 g) 89 46 + 1)) (iH (m_bt1 g) 89 46 + 1)) 89 46 - 1 = iH h 21 0 + 1 := by
        rw [← kl3.1.1]
        have : iH (l_ended h0 (iH h1 21 0 + 1)) 21 0 = iH h1 21 0 + 1 := by
          unfold l_ended
          rw [rW_ne (by decide), rI_nk (by decide), (ag0.2.2.2 21 (by unfold scL; omega)).1, rI_same]
        omega
      unfold m_bt2
      rw [e4]
      exact kL_end kl3
