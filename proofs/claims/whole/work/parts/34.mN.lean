/-! THE REFERENCE: CALLS THAT ASK -/
def b_X12_found_0 : List IE := [(.iload_n 1, 1, 0, 0, 1, 0)]
theorem k_X12_found_0 : ckB mX12_found 12 0 b_X12_found_0 1 = true := by decide +kernel
def b_X12_found_4 : List IE := []
theorem k_X12_found_4 : ckIf mX12_found 12 4 b_X12_found_4 4 0 18 22 7 = true := by decide +kernel
def b_X12_found_7 : List IE := [(.aload_n 0, 1, 0, 0, 0, 0), (.iload_n 2, 1, 0, 0, 2, 0)]
theorem k_X12_found_7 : ckB mX12_found 12 7 b_X12_found_7 9 = true := by decide +kernel
def b_X12_found_12 : List IE := []
theorem k_X12_found_12 : ckIf mX12_found 12 12 b_X12_found_12 12 0 10 22 15 = true := by decide +kernel
def b_X12_found_15 : List IE := [(.iload_n 3, 1, 0, 0, 3, 0)]
theorem k_X12_found_15 : ckB mX12_found 12 15 b_X12_found_15 16 = true := by decide +kernel
def b_X12_found_19 : List IE := []
theorem k_X12_found_19 : ckIf mX12_found 12 19 b_X12_found_19 19 1 6 25 22 = true := by decide +kernel
def b_X12_found_22 : List IE := [(.bipush (-2), 2, (-2), 0, 0, 0)]
theorem k_X12_found_22 : ckI mX12_found 12 22 b_X12_found_22 24 = true := by decide +kernel
def b_X12_found_25 : List IE := [(.aload_n 0, 1, 0, 0, 0, 0), (.getfield 34, 3, 0, 12, 9, 1), (.iload_n 1, 1, 0, 0, 1, 0), (.baload, 1, 0, 0, 0, 0)]
theorem k_X12_found_25 : ckIf mX12_found 12 25 b_X12_found_25 31 0 13 44 34 = true := by decide +kernel
def b_X12_found_34 : List IE := [(.aload_n 0, 1, 0, 0, 0, 0), (.iload_n 1, 1, 0, 0, 1, 0), (.iload_n 2, 1, 0, 0, 2, 0), (.iload_n 3, 1, 0, 0, 3, 0)]
theorem k_X12_found_34 : ckB mX12_found 12 34 b_X12_found_34 38 = true := by decide +kernel
def b_X12_found_41 : List IE := []
theorem k_X12_found_41 : ckGo mX12_found 12 41 b_X12_found_41 41 5 46 = true := by decide +kernel
def b_X12_found_44 : List IE := [(.bipush (-3), 2, (-3), 0, 0, 0)]
theorem k_X12_found_44 : ckI mX12_found 12 44 b_X12_found_44 46 = true := by decide +kernel
def b_X12_found_46 : List IE := []
theorem k_X12_found_46 : ckI mX12_found 12 46 b_X12_found_46 46 = true := by decide +kernel
theorem s_X12_found_1 : cS mX12_found 1 mX12_isView 263 1 := ⟨by decide +kernel, ⟨ml_X12_isView, li_RX12_263, st_X12_isView⟩, by decide +kernel⟩
theorem s_X12_found_9 : cV mX12_found 9 mX12_isQuery 385 1 12 := ⟨by decide +kernel, ⟨ml_X12_isQuery, li_RX12_385, im_X12_isQuery, se_X12_isQuery⟩, ⟨by decide +kernel, by decide +kernel⟩, by decide +kernel⟩
theorem s_X12_found_16 : cS mX12_found 16 mX12_isAsked 388 1 := ⟨by decide +kernel, ⟨ml_X12_isAsked, li_RX12_388, st_X12_isAsked⟩, by decide +kernel⟩
theorem s_X12_found_38 : cV mX12_found 38 mX12_answer 391 3 12 := ⟨by decide +kernel, ⟨ml_X12_answer, li_RX12_391, im_X12_answer, se_X12_answer⟩, ⟨by decide +kernel, by decide +kernel⟩, by decide +kernel⟩
theorem t_X12_found_0 {rc rs : Nat} {Q : Option AV → AH → Prop} {h : AH} {x1 x2 x3 : Int} (hL : LayM h) (hv : ((¬ (0 ≤ x1 ∧ x1 ≤ 3) → Q (some (vi (-2))) h) ∧ ((0 ≤ x1 ∧ x1 ≤ 3) → (0 ≤ iH h 89 30 ∧ iH h 89 30 ≤ 6) ∧ ((¬ (0 ≤ x2 ∧ x2 ≤ (iH h 89 30 - 1)) → Q (some (vi (-2))) h) ∧ ((0 ≤ x2 ∧ x2 ≤ (iH h 89 30 - 1)) → ((((0 ≤ x3 ∧ x3 ≤ 2) ∨ (10 ≤ x3 ∧ x3 ≤ 73) ∨ (100 ≤ x3 ∧ x3 ≤ 163)) → (0 ≤ x1 ∧ x1 < 7) ∧ (((iH h 1137 x1.toNat) = 0 → Q (some (vi (-3))) h) ∧ ((iH h 1137 x1.toNat) ≠ 0 → (∃ P20 : Int → AH → Prop, Ct 5 0 0 mX12_answer [vr 89, vi x1, vi x2, vi x3] h (QI P20) ∧ ∀ (r19 : Int) (h18 : AH), (-2147483648 ≤ r19 ∧ r19 < 2147483648) → P20 r19 h18 → LayM h18 ∧ Q (some (vi r19)) h18)))) ∧ (¬ ((0 ≤ x3 ∧ x3 ≤ 2) ∨ (10 ≤ x3 ∧ x3 ≤ 73) ∨ (100 ≤ x3 ∧ x3 ≤ 163)) → Q (some (vi (-2))) h))))))) : wp mX12_found 6 rc rs Q 0 [some (vr 89), some (vi x1), some (vi x2), some (vi x3)] [] h :=
  (show wp mX12_found 6 rc rs Q 0 [some (vr 89), some (vi x1), some (vi x2), some (vi x3)] [] h from xcS k_X12_found_0 s_X12_found_1 ((Exists.intro [vi x1] (Exists.intro [] (And.intro (And.intro rfl (And.intro rfl (Nat.le_of_ble_eq_true rfl))) (Exists.intro 1 (Exists.intro 0 (Exists.intro 0 (Exists.intro _ (And.intro c_isView (And.intro (And.intro (by decide) (And.intro (Nat.zero_le _) (Nat.zero_le _))) (eQP (show wp mX12_found 6 rc rs Q 4 [some (vr 89), some (vi x1), some (vi x2), some (vi x3)] [vi (b01 (0 ≤ x1 ∧ x1 ≤ 3))] h from xIf k_X12_found_4 (And.intro (fun c1 => have v3 := hv.1 (b01_n.mp c1); (show wp mX12_found 6 rc rs Q 22 [some (vr 89), some (vi x1), some (vi x2), some (vi x3)] [] h from xI k_X12_found_22 (And.intro rfl v3))) (fun c2 => have v4 := hv.2 (b01_p.mp c2); (show wp mX12_found 6 rc rs Q 7 [some (vr 89), some (vi x1), some (vi x2), some (vi x3)] [] h from xcV k_X12_found_7 s_X12_found_9 (have c29 := v4.1; have v30 := v4.2; (Exists.intro [vi x2] (Exists.intro 89 (Exists.intro [] (And.intro (And.intro rfl (And.intro rfl (Nat.le_of_ble_eq_true rfl))) (And.intro (lm_89 hL) (Exists.intro 1 (Exists.intro 0 (Exists.intro 0 (Exists.intro _ (And.intro (c_isQuery (h := h) hL c29) (And.intro (And.intro (by decide) (And.intro (Nat.zero_le _) (Nat.zero_le _))) (eQP (show wp mX12_found 6 rc rs Q 12 [some (vr 89), some (vi x1), some (vi x2), some (vi x3)] [vi (b01 (0 ≤ x2 ∧ x2 ≤ (iH h 89 30 - 1)))] h from xIf k_X12_found_12 (And.intro (fun c5 => have v7 := v30.1 (b01_n.mp c5); (show wp mX12_found 6 rc rs Q 22 [some (vr 89), some (vi x1), some (vi x2), some (vi x3)] [] h from xI k_X12_found_22 (And.intro rfl v7))) (fun c6 => have v8 := v30.2 (b01_p.mp c6); (show wp mX12_found 6 rc rs Q 15 [some (vr 89), some (vi x1), some (vi x2), some (vi x3)] [] h from xcS k_X12_found_15 s_X12_found_16 ((Exists.intro [vi x3] (Exists.intro [] (And.intro (And.intro rfl (And.intro rfl (Nat.le_of_ble_eq_true rfl))) (Exists.intro 1 (Exists.intro 0 (Exists.intro 0 (Exists.intro _ (And.intro c_isAsked (And.intro (And.intro (by decide) (And.intro (Nat.zero_le _) (Nat.zero_le _))) (eQP (show wp mX12_found 6 rc rs Q 19 [some (vr 89), some (vi x1), some (vi x2), some (vi x3)] [vi (b01 ((0 ≤ x3 ∧ x3 ≤ 2) ∨ (10 ≤ x3 ∧ x3 ≤ 73) ∨ (100 ≤ x3 ∧ x3 ≤ 163)))] h from xIf k_X12_found_19 (And.intro (fun c9 => have v11 := v8.1 (b01_p.mp c9); (show wp mX12_found 6 rc rs Q 25 [some (vr 89), some (vi x1), some (vi x2), some (vi x3)] [] h from xIf k_X12_found_25 (And.intro (lm_89 hL) (Exists.intro 1137 (And.intro (lf_89_9 hL) (have c13 := v11.1; have v25 := v11.2; (And.intro (sdZ (lm_1137 hL) c13) (And.intro (fun c14 => have v16 := v25.1 c14; (show wp mX12_found 6 rc rs Q 44 [some (vr 89), some (vi x1), some (vi x2), some (vi x3)] [] h from xI k_X12_found_44 (And.intro rfl v16))) (fun c15 => have v17 := v25.2 c15; (show wp mX12_found 6 rc rs Q 34 [some (vr 89), some (vi x1), some (vi x2), some (vi x3)] [] h from xcV k_X12_found_34 s_X12_found_38 (Exists.elim v17 (fun P20 v21 => (Exists.intro [vi x1, vi x2, vi x3] (Exists.intro 89 (Exists.intro [] (And.intro (And.intro rfl (And.intro rfl (Nat.le_of_ble_eq_true rfl))) (And.intro (lm_89 hL) (Exists.intro 5 (Exists.intro 0 (Exists.intro 0 (Exists.intro (QI P20) (And.intro v21.1 (And.intro (And.intro (by decide) (And.intro (Nat.zero_le _) (Nat.zero_le _))) (eQI (fun r19 h18 q24 e23 => have v22 := v21.2 r19 h18 q24 e23; have hL := v22.1; have v22 := v22.2; (show wp mX12_found 6 rc rs Q 41 [some (vr 89), some (vi x1), some (vi x2), some (vi x3)] [vi r19] h18 from xGo k_X12_found_41 (show wp mX12_found 6 rc rs Q 46 [some (vr 89), some (vi x1), some (vi x2), some (vi x3)] [vi r19] h18 from xI k_X12_found_46 (And.intro rfl v22)))))))))))))))))))))))))))) (fun c10 => have v12 := v8.2 (b01_nn.mp c10); (show wp mX12_found 6 rc rs Q 22 [some (vr 89), some (vi x1), some (vi x2), some (vi x3)] [] h from xI k_X12_found_22 (And.intro rfl v12)))))))))))))))))))))))))))))))))))))))))))))))))
theorem e_X12_found {mc ms : Nat} {Q : Option AV → AH → Prop} {h : AH} {x1 x2 x3 : Int} (hL : LayM h) (hv : ((¬ (0 ≤ x1 ∧ x1 ≤ 3) → Q (some (vi (-2))) h) ∧ ((0 ≤ x1 ∧ x1 ≤ 3) → (0 ≤ iH h 89 30 ∧ iH h 89 30 ≤ 6) ∧ ((¬ (0 ≤ x2 ∧ x2 ≤ (iH h 89 30 - 1)) → Q (some (vi (-2))) h) ∧ ((0 ≤ x2 ∧ x2 ≤ (iH h 89 30 - 1)) → ((((0 ≤ x3 ∧ x3 ≤ 2) ∨ (10 ≤ x3 ∧ x3 ≤ 73) ∨ (100 ≤ x3 ∧ x3 ≤ 163)) → (0 ≤ x1 ∧ x1 < 7) ∧ (((iH h 1137 x1.toNat) = 0 → Q (some (vi (-3))) h) ∧ ((iH h 1137 x1.toNat) ≠ 0 → (∃ P20 : Int → AH → Prop, Ct 5 0 0 mX12_answer [vr 89, vi x1, vi x2, vi x3] h (QI P20) ∧ ∀ (r19 : Int) (h18 : AH), (-2147483648 ≤ r19 ∧ r19 < 2147483648) → P20 r19 h18 → LayM h18 ∧ Q (some (vi r19)) h18)))) ∧ (¬ ((0 ≤ x3 ∧ x3 ≤ 2) ∨ (10 ≤ x3 ∧ x3 ≤ 73) ∨ (100 ≤ x3 ∧ x3 ≤ 163)) → Q (some (vi (-2))) h))))))) : Ct 6 mc ms mX12_found [vr 89, vi x1, vi x2, vi x3] h Q := Ct.of (by decide +kernel) (Nat.le_of_ble_eq_true rfl) (t_X12_found_0 hL hv)
def b_X12_silence_0 : List IE := [(.aload_n 0, 1, 0, 0, 0, 0), (.iload_n 1, 1, 0, 0, 1, 0)]
theorem k_X12_silence_0 : ckB mX12_silence 12 0 b_X12_silence_0 2 = true := by decide +kernel
def b_X12_silence_5 : List IE := []
theorem k_X12_silence_5 : ckIf mX12_silence 12 5 b_X12_silence_5 5 0 14 19 8 = true := by decide +kernel
def b_X12_silence_8 : List IE := [(.iload_n 2, 1, 0, 0, 2, 0), (.iconst 0, 1, 0, 0, 0, 0), (.sipush 999, 3, 999, 0, 0, 0)]
theorem k_X12_silence_8 : ckB mX12_silence 12 8 b_X12_silence_8 13 = true := by decide +kernel
def b_X12_silence_16 : List IE := []
theorem k_X12_silence_16 : ckIf mX12_silence 12 16 b_X12_silence_16 16 1 6 22 19 = true := by decide +kernel
def b_X12_silence_19 : List IE := [(.bipush (-2), 2, (-2), 0, 0, 0)]
theorem k_X12_silence_19 : ckI mX12_silence 12 19 b_X12_silence_19 21 = true := by decide +kernel
def b_X12_silence_22 : List IE := [(.aload_n 0, 1, 0, 0, 0, 0), (.bipush 6, 2, 6, 0, 0, 0)]
theorem k_X12_silence_22 : ckB mX12_silence 12 22 b_X12_silence_22 25 = true := by decide +kernel
def b_X12_silence_28 : List IE := [(.aload_n 0, 1, 0, 0, 0, 0), (.bipush 6, 2, 6, 0, 0, 0), (.iload_n 1, 1, 0, 0, 1, 0)]
theorem k_X12_silence_28 : ckB mX12_silence 12 28 b_X12_silence_28 32 = true := by decide +kernel
def b_X12_silence_35 : List IE := [(.aload_n 0, 1, 0, 0, 0, 0), (.getfield 370, 3, 0, 12, 43, 0), (.istore_n 3, 1, 0, 0, 3, 0), (.iconst 0, 1, 0, 0, 0, 0), (.istore 4, 2, 0, 0, 4, 0)]
theorem k_X12_silence_35 : ckB mX12_silence 12 35 b_X12_silence_35 43 = true := by decide +kernel
def b_X12_silence_43 : List IE := [(.iload_n 3, 1, 0, 0, 3, 0), (.iload_n 2, 1, 0, 0, 2, 0)]
theorem k_X12_silence_43 : ckIc mX12_silence 12 43 b_X12_silence_43 45 5 19 64 48 = true := by decide +kernel
def b_X12_silence_48 : List IE := [(.iload_n 3, 1, 0, 0, 3, 0), (.aload_n 0, 1, 0, 0, 0, 0), (.getfield 85, 3, 0, 12, 45, 1), (.iload 4, 2, 0, 0, 4, 0), (.iaload, 1, 0, 0, 0, 0), (.isub, 1, 0, 0, 0, 0), (.istore_n 3, 1, 0, 0, 3, 0), (.iinc 4 1, 3, 1, 0, 4, 0)]
theorem k_X12_silence_48 : ckGo mX12_silence 12 48 b_X12_silence_48 61 (-18) 43 = true := by decide +kernel
def b_X12_silence_64 : List IE := [(.iload 4, 2, 0, 0, 4, 0)]
theorem k_X12_silence_64 : ckI mX12_silence 12 64 b_X12_silence_64 66 = true := by decide +kernel
theorem s_X12_silence_2 : cV mX12_silence 2 mX12_isQuery 385 1 12 := ⟨by decide +kernel, ⟨ml_X12_isQuery, li_RX12_385, im_X12_isQuery, se_X12_isQuery⟩, ⟨by decide +kernel, by decide +kernel⟩, by decide +kernel⟩
theorem s_X12_silence_13 : cS mX12_silence 13 mX12_in 109 3 := ⟨by decide +kernel, ⟨ml_X12_in, li_RX12_109, st_X12_in⟩, by decide +kernel⟩
theorem s_X12_silence_25 : cV mX12_silence 25 mX12_lay 246 1 12 := ⟨by decide +kernel, ⟨ml_X12_lay, li_RX12_246, im_X12_lay, se_X12_lay⟩, ⟨by decide +kernel, by decide +kernel⟩, by decide +kernel⟩
theorem s_X12_silence_32 : cV mX12_silence 32 mX12_find 382 2 12 := ⟨by decide +kernel, ⟨ml_X12_find, li_RX12_382, im_X12_find, se_X12_find⟩, ⟨by decide +kernel, by decide +kernel⟩, by decide +kernel⟩
theorem t_X12_silence_0 {rc rs : Nat} {Q : Option AV → AH → Prop} {h : AH} {x1 x2 : Int} (hL : LayM h) (hv : (0 ≤ iH h 89 30 ∧ iH h 89 30 ≤ 6) ∧ ((¬ (0 ≤ x1 ∧ x1 ≤ (iH h 89 30 - 1)) → Q (some (vi (-2))) h) ∧ ((0 ≤ x1 ∧ x1 ≤ (iH h 89 30 - 1)) → ((((0 : Int) ≤ x2 ∧ x2 ≤ (999 : Int)) → (m_nowL h ∧ (0 ≤ (6 : Int) ∧ (6 : Int) < 7)) ∧ LayM (m_lay h (6 : Int)) ∧ (∃ P15 : AH → Prop, Ct 4 0 0 mX12_find [vr 89, vi 6, vi x1] (m_lay h (6 : Int)) (QV P15) ∧ ∀ h13 : AH, P15 h13 → LayM h13 ∧ wp mX12_silence 5 rc rs Q 43 [some (vr 89), none, some (vi x2), some (vi (iH h13 89 43)), some (vi 0)] [] h13)) ∧ (¬ ((0 : Int) ≤ x2 ∧ x2 ≤ (999 : Int)) → Q (some (vi (-2))) h))))) : wp mX12_silence 5 rc rs Q 0 [some (vr 89), some (vi x1), some (vi x2), none, none] [] h :=
  (show wp mX12_silence 5 rc rs Q 0 [some (vr 89), some (vi x1), some (vi x2), none, none] [] h from xcV k_X12_silence_0 s_X12_silence_2 (have c25 := hv.1; have v26 := hv.2; (Exists.intro [vi x1] (Exists.intro 89 (Exists.intro [] (And.intro (And.intro rfl (And.intro rfl (Nat.le_of_ble_eq_true rfl))) (And.intro (lm_89 hL) (Exists.intro 1 (Exists.intro 0 (Exists.intro 0 (Exists.intro _ (And.intro (c_isQuery (h := h) hL c25) (And.intro (And.intro (by decide) (And.intro (Nat.zero_le _) (Nat.zero_le _))) (eQP (show wp mX12_silence 5 rc rs Q 5 [some (vr 89), some (vi x1), some (vi x2), none, none] [vi (b01 (0 ≤ x1 ∧ x1 ≤ (iH h 89 30 - 1)))] h from xIf k_X12_silence_5 (And.intro (fun c1 => have v3 := v26.1 (b01_n.mp c1); (show wp mX12_silence 5 rc rs Q 19 [some (vr 89), some (vi x1), some (vi x2), none, none] [] h from xI k_X12_silence_19 (And.intro rfl v3))) (fun c2 => have v4 := v26.2 (b01_p.mp c2); (show wp mX12_silence 5 rc rs Q 8 [some (vr 89), some (vi x1), some (vi x2), none, none] [] h from xcS k_X12_silence_8 s_X12_silence_13 ((Exists.intro [vi x2, vi 0, vi 999] (Exists.intro [] (And.intro (And.intro rfl (And.intro rfl (Nat.le_of_ble_eq_true rfl))) (Exists.intro 0 (Exists.intro 0 (Exists.intro 0 (Exists.intro _ (And.intro c_in (And.intro (And.intro (by decide) (And.intro (Nat.zero_le _) (Nat.zero_le _))) (eQP (show wp mX12_silence 5 rc rs Q 16 [some (vr 89), some (vi x1), some (vi x2), none, none] [vi (b01 ((0 : Int) ≤ x2 ∧ x2 ≤ (999 : Int)))] h from xIf k_X12_silence_16 (And.intro (fun c5 => have v7 := v4.1 (b01_p.mp c5); (show wp mX12_silence 5 rc rs Q 22 [some (vr 89), some (vi x1), some (vi x2), none, none] [] h from xcV k_X12_silence_22 s_X12_silence_25 (have c20 := v7.1; have v21 := v7.2; (Exists.intro [vi 6] (Exists.intro 89 (Exists.intro [] (And.intro (And.intro rfl (And.intro rfl (Nat.le_of_ble_eq_true rfl))) (And.intro (lm_89 hL) (Exists.intro 0 (Exists.intro 0 (Exists.intro 0 (Exists.intro _ (And.intro (c_lay (h := h) hL c20) (And.intro (And.intro (by decide) (And.intro (Nat.zero_le _) (Nat.zero_le _))) (eQPV (have hL := v21.1; have v12 := v21.2; (show wp mX12_silence 5 rc rs Q 28 [some (vr 89), some (vi x1), some (vi x2), none, none] [] (m_lay h (6 : Int)) from xcV k_X12_silence_28 s_X12_silence_32 (Exists.elim v12 (fun P15 v16 => (Exists.intro [vi 6, vi x1] (Exists.intro 89 (Exists.intro [] (And.intro (And.intro rfl (And.intro rfl (Nat.le_of_ble_eq_true rfl))) (And.intro (lm_89 hL) (Exists.intro 4 (Exists.intro 0 (Exists.intro 0 (Exists.intro (QV P15) (And.intro v16.1 (And.intro (And.intro (by decide) (And.intro (Nat.zero_le _) (Nat.zero_le _))) (eQV (fun h13 e18 => have v17 := v16.2 h13 e18; have hL := v17.1; have v17 := v17.2; (show wp mX12_silence 5 rc rs Q 35 [some (vr 89), some (vi x1), some (vi x2), none, none] [] h13 from xB k_X12_silence_35 (And.intro (lm_89 hL) (And.intro rfl (And.intro rfl (w_fg [true, false, true, true, true] v17))))))))))))))))))))))))))))))))))))) (fun c6 => have v8 := v4.2 (b01_nn.mp c6); (show wp mX12_silence 5 rc rs Q 19 [some (vr 89), some (vi x1), some (vi x2), none, none] [] h from xI k_X12_silence_19 (And.intro rfl v8))))))))))))))))))))))))))))))))))
theorem e_X12_silence {mc ms : Nat} {Q : Option AV → AH → Prop} {h : AH} {x1 x2 : Int} (hL : LayM h) (hv : (0 ≤ iH h 89 30 ∧ iH h 89 30 ≤ 6) ∧ ((¬ (0 ≤ x1 ∧ x1 ≤ (iH h 89 30 - 1)) → Q (some (vi (-2))) h) ∧ ((0 ≤ x1 ∧ x1 ≤ (iH h 89 30 - 1)) → ((((0 : Int) ≤ x2 ∧ x2 ≤ (999 : Int)) → (m_nowL h ∧ (0 ≤ (6 : Int) ∧ (6 : Int) < 7)) ∧ LayM (m_lay h (6 : Int)) ∧ (∃ P15 : AH → Prop, Ct 4 0 0 mX12_find [vr 89, vi 6, vi x1] (m_lay h (6 : Int)) (QV P15) ∧ ∀ h13 : AH, P15 h13 → LayM h13 ∧ wp mX12_silence 5 mc ms Q 43 [some (vr 89), none, some (vi x2), some (vi (iH h13 89 43)), some (vi 0)] [] h13)) ∧ (¬ ((0 : Int) ≤ x2 ∧ x2 ≤ (999 : Int)) → Q (some (vi (-2))) h))))) : Ct 5 mc ms mX12_silence [vr 89, vi x1, vi x2] h Q := Ct.of (by decide +kernel) (Nat.le_of_ble_eq_true rfl) (t_X12_silence_0 hL hv)
theorem t_X12_silence_43 {rc rs : Nat} {Q : Option AV → AH → Prop} {h : AH} {x2 x3 x4 : Int} (hL : LayM h) (hv : ((x3 ≤ x2 → Q (some (vi x4)) h) ∧ (x2 < x3 → (0 ≤ x4 ∧ x4 < 64) ∧ (-2147483648 ≤ (x3 - iH h 1180 x4.toNat) ∧ (x3 - iH h 1180 x4.toNat) < 2147483648) ∧ (-2147483648 ≤ (x4 + 1) ∧ (x4 + 1) < 2147483648) ∧ wp mX12_silence 5 rc rs Q 43 [some (vr 89), none, some (vi x2), some (vi (x3 - iH h 1180 x4.toNat)), some (vi (x4 + 1))] [] h))) : wp mX12_silence 5 rc rs Q 43 [some (vr 89), none, some (vi x2), some (vi x3), some (vi x4)] [] h :=
  (show wp mX12_silence 5 rc rs Q 43 [some (vr 89), none, some (vi x2), some (vi x3), some (vi x4)] [] h from xIc k_X12_silence_43 (And.intro (fun c1 => have v3 := hv.1 c1; (show wp mX12_silence 5 rc rs Q 64 [some (vr 89), none, some (vi x2), some (vi x3), some (vi x4)] [] h from xI k_X12_silence_64 (And.intro rfl v3))) (fun c2 => have v4 := hv.2 (Int.not_le.mp c2); (show wp mX12_silence 5 rc rs Q 48 [some (vr 89), none, some (vi x2), some (vi x3), some (vi x4)] [] h from xGo k_X12_silence_48 (And.intro (lm_89 hL) (Exists.intro 1180 (And.intro (lf_89_45 hL) (have c5 := v4.1; have v10 := v4.2; (And.intro (sdI (lm_1180 hL) c5) (have c6 := v10.1; have v9 := v10.2; (And.intro c6 (And.intro rfl (have c7 := v9.1; have v8 := v9.2; (And.intro c7 (And.intro rfl v8)))))))))))))))
def b_X12_dropBy_0 : List IE := [(.aload_n 0, 1, 0, 0, 0, 0), (.iload_n 1, 1, 0, 0, 1, 0)]
theorem k_X12_dropBy_0 : ckB mX12_dropBy 12 0 b_X12_dropBy_0 2 = true := by decide +kernel
def b_X12_dropBy_5 : List IE := []
theorem k_X12_dropBy_5 : ckIf mX12_dropBy 12 5 b_X12_dropBy_5 5 1 6 11 8 = true := by decide +kernel
def b_X12_dropBy_8 : List IE := [(.bipush (-2), 2, (-2), 0, 0, 0)]
theorem k_X12_dropBy_8 : ckI mX12_dropBy 12 8 b_X12_dropBy_8 10 = true := by decide +kernel
def b_X12_dropBy_11 : List IE := [(.aload_n 0, 1, 0, 0, 0, 0), (.bipush 6, 2, 6, 0, 0, 0)]
theorem k_X12_dropBy_11 : ckB mX12_dropBy 12 11 b_X12_dropBy_11 14 = true := by decide +kernel
def b_X12_dropBy_17 : List IE := [(.aload_n 0, 1, 0, 0, 0, 0), (.bipush 6, 2, 6, 0, 0, 0), (.iload_n 1, 1, 0, 0, 1, 0)]
theorem k_X12_dropBy_17 : ckB mX12_dropBy 12 17 b_X12_dropBy_17 21 = true := by decide +kernel
def b_X12_dropBy_24 : List IE := [(.iconst 0, 1, 0, 0, 0, 0), (.istore_n 2, 1, 0, 0, 2, 0)]
theorem k_X12_dropBy_24 : ckB mX12_dropBy 12 24 b_X12_dropBy_24 26 = true := by decide +kernel
def b_X12_dropBy_26 : List IE := [(.iload_n 2, 1, 0, 0, 2, 0), (.aload_n 0, 1, 0, 0, 0, 0), (.getfield 367, 3, 0, 12, 42, 0)]
theorem k_X12_dropBy_26 : ckIc mX12_dropBy 12 26 b_X12_dropBy_26 31 3 21 52 34 = true := by decide +kernel
def b_X12_dropBy_34 : List IE := [(.aload_n 0, 1, 0, 0, 0, 0), (.getfield 21, 3, 0, 12, 4, 1), (.aload_n 0, 1, 0, 0, 0, 0), (.getfield 82, 3, 0, 12, 44, 1), (.iload_n 2, 1, 0, 0, 2, 0), (.iaload, 1, 0, 0, 0, 0), (.iconst 1, 1, 1, 0, 0, 0), (.bastore, 1, 0, 0, 0, 0), (.iinc 2 1, 3, 1, 0, 2, 0)]
theorem k_X12_dropBy_34 : ckGo mX12_dropBy 12 34 b_X12_dropBy_34 49 (-23) 26 = true := by decide +kernel
def b_X12_dropBy_52 : List IE := [(.aload_n 0, 1, 0, 0, 0, 0), (.getfield 367, 3, 0, 12, 42, 0)]
theorem k_X12_dropBy_52 : ckI mX12_dropBy 12 52 b_X12_dropBy_52 56 = true := by decide +kernel
theorem s_X12_dropBy_2 : cV mX12_dropBy 2 mX12_isQuery 385 1 12 := ⟨by decide +kernel, ⟨ml_X12_isQuery, li_RX12_385, im_X12_isQuery, se_X12_isQuery⟩, ⟨by decide +kernel, by decide +kernel⟩, by decide +kernel⟩
theorem s_X12_dropBy_14 : cV mX12_dropBy 14 mX12_lay 246 1 12 := ⟨by decide +kernel, ⟨ml_X12_lay, li_RX12_246, im_X12_lay, se_X12_lay⟩, ⟨by decide +kernel, by decide +kernel⟩, by decide +kernel⟩
theorem s_X12_dropBy_21 : cV mX12_dropBy 21 mX12_find 382 2 12 := ⟨by decide +kernel, ⟨ml_X12_find, li_RX12_382, im_X12_find, se_X12_find⟩, ⟨by decide +kernel, by decide +kernel⟩, by decide +kernel⟩
theorem t_X12_dropBy_0 {rc rs : Nat} {Q : Option AV → AH → Prop} {h : AH} {x1 : Int} (hL : LayM h) (hv : (0 ≤ iH h 89 30 ∧ iH h 89 30 ≤ 6) ∧ (((0 ≤ x1 ∧ x1 ≤ (iH h 89 30 - 1)) → (m_nowL h ∧ (0 ≤ (6 : Int) ∧ (6 : Int) < 7)) ∧ LayM (m_lay h (6 : Int)) ∧ (∃ P11 : AH → Prop, Ct 4 0 0 mX12_find [vr 89, vi 6, vi x1] (m_lay h (6 : Int)) (QV P11) ∧ ∀ h9 : AH, P11 h9 → LayM h9 ∧ wp mX12_dropBy 5 rc rs Q 26 [some (vr 89), none, some (vi 0)] [] h9)) ∧ (¬ (0 ≤ x1 ∧ x1 ≤ (iH h 89 30 - 1)) → Q (some (vi (-2))) h))) : wp mX12_dropBy 5 rc rs Q 0 [some (vr 89), some (vi x1), none] [] h :=
  (show wp mX12_dropBy 5 rc rs Q 0 [some (vr 89), some (vi x1), none] [] h from xcV k_X12_dropBy_0 s_X12_dropBy_2 (have c18 := hv.1; have v19 := hv.2; (Exists.intro [vi x1] (Exists.intro 89 (Exists.intro [] (And.intro (And.intro rfl (And.intro rfl (Nat.le_of_ble_eq_true rfl))) (And.intro (lm_89 hL) (Exists.intro 1 (Exists.intro 0 (Exists.intro 0 (Exists.intro _ (And.intro (c_isQuery (h := h) hL c18) (And.intro (And.intro (by decide) (And.intro (Nat.zero_le _) (Nat.zero_le _))) (eQP (show wp mX12_dropBy 5 rc rs Q 5 [some (vr 89), some (vi x1), none] [vi (b01 (0 ≤ x1 ∧ x1 ≤ (iH h 89 30 - 1)))] h from xIf k_X12_dropBy_5 (And.intro (fun c1 => have v3 := v19.1 (b01_p.mp c1); (show wp mX12_dropBy 5 rc rs Q 11 [some (vr 89), some (vi x1), none] [] h from xcV k_X12_dropBy_11 s_X12_dropBy_14 (have c16 := v3.1; have v17 := v3.2; (Exists.intro [vi 6] (Exists.intro 89 (Exists.intro [] (And.intro (And.intro rfl (And.intro rfl (Nat.le_of_ble_eq_true rfl))) (And.intro (lm_89 hL) (Exists.intro 0 (Exists.intro 0 (Exists.intro 0 (Exists.intro _ (And.intro (c_lay (h := h) hL c16) (And.intro (And.intro (by decide) (And.intro (Nat.zero_le _) (Nat.zero_le _))) (eQPV (have hL := v17.1; have v8 := v17.2; (show wp mX12_dropBy 5 rc rs Q 17 [some (vr 89), some (vi x1), none] [] (m_lay h (6 : Int)) from xcV k_X12_dropBy_17 s_X12_dropBy_21 (Exists.elim v8 (fun P11 v12 => (Exists.intro [vi 6, vi x1] (Exists.intro 89 (Exists.intro [] (And.intro (And.intro rfl (And.intro rfl (Nat.le_of_ble_eq_true rfl))) (And.intro (lm_89 hL) (Exists.intro 4 (Exists.intro 0 (Exists.intro 0 (Exists.intro (QV P11) (And.intro v12.1 (And.intro (And.intro (by decide) (And.intro (Nat.zero_le _) (Nat.zero_le _))) (eQV (fun h9 e14 => have v13 := v12.2 h9 e14; have hL := v13.1; have v13 := v13.2; (show wp mX12_dropBy 5 rc rs Q 24 [some (vr 89), some (vi x1), none] [] h9 from xB k_X12_dropBy_24 (And.intro rfl (w_fg [true, false, true] v13))))))))))))))))))))))))))))))))))) (fun c2 => have v4 := v19.2 (b01_nn.mp c2); (show wp mX12_dropBy 5 rc rs Q 8 [some (vr 89), some (vi x1), none] [] h from xI k_X12_dropBy_8 (And.intro rfl v4)))))))))))))))))))
theorem e_X12_dropBy {mc ms : Nat} {Q : Option AV → AH → Prop} {h : AH} {x1 : Int} (hL : LayM h) (hv : (0 ≤ iH h 89 30 ∧ iH h 89 30 ≤ 6) ∧ (((0 ≤ x1 ∧ x1 ≤ (iH h 89 30 - 1)) → (m_nowL h ∧ (0 ≤ (6 : Int) ∧ (6 : Int) < 7)) ∧ LayM (m_lay h (6 : Int)) ∧ (∃ P11 : AH → Prop, Ct 4 0 0 mX12_find [vr 89, vi 6, vi x1] (m_lay h (6 : Int)) (QV P11) ∧ ∀ h9 : AH, P11 h9 → LayM h9 ∧ wp mX12_dropBy 5 mc ms Q 26 [some (vr 89), none, some (vi 0)] [] h9)) ∧ (¬ (0 ≤ x1 ∧ x1 ≤ (iH h 89 30 - 1)) → Q (some (vi (-2))) h))) : Ct 5 mc ms mX12_dropBy [vr 89, vi x1] h Q := Ct.of (by decide +kernel) (Nat.le_of_ble_eq_true rfl) (t_X12_dropBy_0 hL hv)
theorem t_X12_dropBy_26 {rc rs : Nat} {Q : Option AV → AH → Prop} {h : AH} {x2 : Int} (hL : LayM h) (hv : (((iH h 89 42) ≤ x2 → Q (some (vi (iH h 89 42))) h) ∧ (x2 < (iH h 89 42) → (0 ≤ x2 ∧ x2 < 64) ∧ (0 ≤ iH h 1179 x2.toNat ∧ iH h 1179 x2.toNat < 520) ∧ (-2147483648 ≤ (x2 + 1) ∧ (x2 + 1) < 2147483648) ∧ wp mX12_dropBy 5 rc rs Q 26 [some (vr 89), none, some (vi (x2 + 1))] [] (sI h 613 ((iH h 1179 x2.toNat).toNat) 1)))) : wp mX12_dropBy 5 rc rs Q 26 [some (vr 89), none, some (vi x2)] [] h :=
  (show wp mX12_dropBy 5 rc rs Q 26 [some (vr 89), none, some (vi x2)] [] h from xIc k_X12_dropBy_26 (And.intro (lm_89 hL) (And.intro (fun c1 => have v3 := hv.1 c1; (show wp mX12_dropBy 5 rc rs Q 52 [some (vr 89), none, some (vi x2)] [] h from xI k_X12_dropBy_52 (And.intro (lm_89 hL) (And.intro rfl v3)))) (fun c2 => have v4 := hv.2 (Int.not_le.mp c2); (show wp mX12_dropBy 5 rc rs Q 34 [some (vr 89), none, some (vi x2)] [] h from xGo k_X12_dropBy_34 (And.intro (lm_89 hL) (Exists.intro 613 (And.intro (lf_89_4 hL) (And.intro (lm_89 hL) (Exists.intro 1179 (And.intro (lf_89_44 hL) (have c5 := v4.1; have v10 := v4.2; (And.intro (sdI (lm_1179 hL) c5) (have c6 := v10.1; have v9 := v10.2; (And.intro (sdZs (lm_613 hL) c6 (Or.inr rfl)) (have c7 := v9.1; have v8 := v9.2; (And.intro c7 (And.intro rfl v8))))))))))))))))))
def b_X12_look_0 : List IE := [(.aload_n 0, 1, 0, 0, 0, 0), (.iload_n 1, 1, 0, 0, 1, 0)]
theorem k_X12_look_0 : ckB mX12_look 12 0 b_X12_look_0 2 = true := by decide +kernel
def b_X12_look_5 : List IE := []
theorem k_X12_look_5 : ckIf mX12_look 12 5 b_X12_look_5 5 0 10 15 8 = true := by decide +kernel
def b_X12_look_8 : List IE := [(.iload_n 2, 1, 0, 0, 2, 0)]
theorem k_X12_look_8 : ckB mX12_look 12 8 b_X12_look_8 9 = true := by decide +kernel
def b_X12_look_12 : List IE := []
theorem k_X12_look_12 : ckIf mX12_look 12 12 b_X12_look_12 12 1 6 18 15 = true := by decide +kernel
def b_X12_look_15 : List IE := [(.bipush (-2), 2, (-2), 0, 0, 0)]
theorem k_X12_look_15 : ckI mX12_look 12 15 b_X12_look_15 17 = true := by decide +kernel
def b_X12_look_18 : List IE := [(.aload_n 0, 1, 0, 0, 0, 0), (.dup, 1, 0, 0, 0, 0), (.getfield 397, 3, 0, 12, 46, 0), (.iconst 1, 1, 1, 0, 0, 0), (.iadd, 1, 0, 0, 0, 0), (.putfield 397, 3, 0, 12, 46, 0), (.aload_n 0, 1, 0, 0, 0, 0), (.aload_n 0, 1, 0, 0, 0, 0), (.getfield 397, 3, 0, 12, 46, 0)]
theorem k_X12_look_18 : ckB mX12_look 12 18 b_X12_look_18 33 = true := by decide +kernel
def b_X12_look_36 : List IE := [(.aload_n 0, 1, 0, 0, 0, 0), (.bipush 6, 2, 6, 0, 0, 0)]
theorem k_X12_look_36 : ckB mX12_look 12 36 b_X12_look_36 39 = true := by decide +kernel
def b_X12_look_42 : List IE := [(.aload_n 0, 1, 0, 0, 0, 0), (.bipush 6, 2, 6, 0, 0, 0), (.iload_n 1, 1, 0, 0, 1, 0)]
theorem k_X12_look_42 : ckB mX12_look 12 42 b_X12_look_42 46 = true := by decide +kernel
def b_X12_look_49 : List IE := [(.aload_n 0, 1, 0, 0, 0, 0), (.getfield 60, 3, 0, 12, 23, 0)]
theorem k_X12_look_49 : ckIc mX12_look 12 49 b_X12_look_49 53 5 8 61 56 = true := by decide +kernel
def b_X12_look_56 : List IE := [(.bipush (-6), 2, (-6), 0, 0, 0)]
theorem k_X12_look_56 : ckGo mX12_look 12 56 b_X12_look_56 58 11 69 = true := by decide +kernel
def b_X12_look_61 : List IE := [(.aload_n 0, 1, 0, 0, 0, 0), (.bipush 6, 2, 6, 0, 0, 0), (.iload_n 1, 1, 0, 0, 1, 0), (.iload_n 2, 1, 0, 0, 2, 0)]
theorem k_X12_look_61 : ckB mX12_look 12 61 b_X12_look_61 66 = true := by decide +kernel
def b_X12_look_69 : List IE := []
theorem k_X12_look_69 : ckI mX12_look 12 69 b_X12_look_69 69 = true := by decide +kernel
theorem s_X12_look_2 : cV mX12_look 2 mX12_isQuery 385 1 12 := ⟨by decide +kernel, ⟨ml_X12_isQuery, li_RX12_385, im_X12_isQuery, se_X12_isQuery⟩, ⟨by decide +kernel, by decide +kernel⟩, by decide +kernel⟩
theorem s_X12_look_9 : cS mX12_look 9 mX12_isAsked 388 1 := ⟨by decide +kernel, ⟨ml_X12_isAsked, li_RX12_388, st_X12_isAsked⟩, by decide +kernel⟩
theorem s_X12_look_33 : cV mX12_look 33 mX12_shutLook 400 1 12 := ⟨by decide +kernel, ⟨ml_X12_shutLook, li_RX12_400, im_X12_shutLook, se_X12_shutLook⟩, ⟨by decide +kernel, by decide +kernel⟩, by decide +kernel⟩
theorem s_X12_look_39 : cV mX12_look 39 mX12_lay 246 1 12 := ⟨by decide +kernel, ⟨ml_X12_lay, li_RX12_246, im_X12_lay, se_X12_lay⟩, ⟨by decide +kernel, by decide +kernel⟩, by decide +kernel⟩
theorem s_X12_look_46 : cV mX12_look 46 mX12_cost 379 2 12 := ⟨by decide +kernel, ⟨ml_X12_cost, li_RX12_379, im_X12_cost, se_X12_cost⟩, ⟨by decide +kernel, by decide +kernel⟩, by decide +kernel⟩
theorem s_X12_look_66 : cV mX12_look 66 mX12_answer 391 3 12 := ⟨by decide +kernel, ⟨ml_X12_answer, li_RX12_391, im_X12_answer, se_X12_answer⟩, ⟨by decide +kernel, by decide +kernel⟩, by decide +kernel⟩
theorem t_X12_look_0 {rc rs : Nat} {Q : Option AV → AH → Prop} {h : AH} {x1 x2 : Int} (hL : LayM h) (hv : (0 ≤ iH h 89 30 ∧ iH h 89 30 ≤ 6) ∧ ((¬ (0 ≤ x1 ∧ x1 ≤ (iH h 89 30 - 1)) → Q (some (vi (-2))) h) ∧ ((0 ≤ x1 ∧ x1 ≤ (iH h 89 30 - 1)) → ((((0 ≤ x2 ∧ x2 ≤ 2) ∨ (10 ≤ x2 ∧ x2 ≤ 73) ∨ (100 ≤ x2 ∧ x2 ≤ 163)) → (-2147483648 ≤ (iH h 89 46 + 1) ∧ (iH h 89 46 + 1) < 2147483648) ∧ (0 ≤ iH (sI h 89 46 (iH h 89 46 + 1)) 89 47 ∧ iH (sI h 89 46 (iH h 89 46 + 1)) 89 47 < 1040) ∧ LayM (m_shutL (sI h 89 46 (iH h 89 46 + 1)) (iH h 89 46 + 1)) ∧ (m_nowL (m_shutL (sI h 89 46 (iH h 89 46 + 1)) (iH h 89 46 + 1)) ∧ (0 ≤ (6 : Int) ∧ (6 : Int) < 7)) ∧ LayM (m_lay (m_shutL (sI h 89 46 (iH h 89 46 + 1)) (iH h 89 46 + 1)) (6 : Int)) ∧ (m_stdd (m_lay (m_shutL (sI h 89 46 (iH h 89 46 + 1)) (iH h 89 46 + 1)) (6 : Int)) (6 : Int) ∧ m_qok (m_lay (m_shutL (sI h 89 46 (iH h 89 46 + 1)) (iH h 89 46 + 1)) (6 : Int)) x1) ∧ (((m_cost (m_lay (m_shutL (sI h 89 46 (iH h 89 46 + 1)) (iH h 89 46 + 1)) (6 : Int)) (6 : Int) x1) ≤ (iH (m_lay (m_shutL (sI h 89 46 (iH h 89 46 + 1)) (iH h 89 46 + 1)) (6 : Int)) 89 23) → (∃ P24 : Int → AH → Prop, Ct 5 0 0 mX12_answer [vr 89, vi 6, vi x1, vi x2] (m_lay (m_shutL (sI h 89 46 (iH h 89 46 + 1)) (iH h 89 46 + 1)) (6 : Int)) (QI P24) ∧ ∀ (r23 : Int) (h22 : AH), (-2147483648 ≤ r23 ∧ r23 < 2147483648) → P24 r23 h22 → LayM h22 ∧ Q (some (vi r23)) h22)) ∧ ((iH (m_lay (m_shutL (sI h 89 46 (iH h 89 46 + 1)) (iH h 89 46 + 1)) (6 : Int)) 89 23) < (m_cost (m_lay (m_shutL (sI h 89 46 (iH h 89 46 + 1)) (iH h 89 46 + 1)) (6 : Int)) (6 : Int) x1) → Q (some (vi (-6))) (m_lay (m_shutL (sI h 89 46 (iH h 89 46 + 1)) (iH h 89 46 + 1)) (6 : Int))))) ∧ (¬ ((0 ≤ x2 ∧ x2 ≤ 2) ∨ (10 ≤ x2 ∧ x2 ≤ 73) ∨ (100 ≤ x2 ∧ x2 ≤ 163)) → Q (some (vi (-2))) h))))) : wp mX12_look 6 rc rs Q 0 [some (vr 89), some (vi x1), some (vi x2)] [] h :=
  (show wp mX12_look 6 rc rs Q 0 [some (vr 89), some (vi x1), some (vi x2)] [] h from xcV k_X12_look_0 s_X12_look_2 (have c40 := hv.1; have v41 := hv.2; (Exists.intro [vi x1] (Exists.intro 89 (Exists.intro [] (And.intro (And.intro rfl (And.intro rfl (Nat.le_of_ble_eq_true rfl))) (And.intro (lm_89 hL) (Exists.intro 1 (Exists.intro 0 (Exists.intro 0 (Exists.intro _ (And.intro (c_isQuery (h := h) hL c40) (And.intro (And.intro (by decide) (And.intro (Nat.zero_le _) (Nat.zero_le _))) (eQP (show wp mX12_look 6 rc rs Q 5 [some (vr 89), some (vi x1), some (vi x2)] [vi (b01 (0 ≤ x1 ∧ x1 ≤ (iH h 89 30 - 1)))] h from xIf k_X12_look_5 (And.intro (fun c1 => have v3 := v41.1 (b01_n.mp c1); (show wp mX12_look 6 rc rs Q 15 [some (vr 89), some (vi x1), some (vi x2)] [] h from xI k_X12_look_15 (And.intro rfl v3))) (fun c2 => have v4 := v41.2 (b01_p.mp c2); (show wp mX12_look 6 rc rs Q 8 [some (vr 89), some (vi x1), some (vi x2)] [] h from xcS k_X12_look_8 s_X12_look_9 ((Exists.intro [vi x2] (Exists.intro [] (And.intro (And.intro rfl (And.intro rfl (Nat.le_of_ble_eq_true rfl))) (Exists.intro 1 (Exists.intro 0 (Exists.intro 0 (Exists.intro _ (And.intro c_isAsked (And.intro (And.intro (by decide) (And.intro (Nat.zero_le _) (Nat.zero_le _))) (eQP (show wp mX12_look 6 rc rs Q 12 [some (vr 89), some (vi x1), some (vi x2)] [vi (b01 ((0 ≤ x2 ∧ x2 ≤ 2) ∨ (10 ≤ x2 ∧ x2 ≤ 73) ∨ (100 ≤ x2 ∧ x2 ≤ 163)))] h from xIf k_X12_look_12 (And.intro (fun c5 => have v7 := v4.1 (b01_p.mp c5); (show wp mX12_look 6 rc rs Q 18 [some (vr 89), some (vi x1), some (vi x2)] [] h from xcV k_X12_look_18 s_X12_look_33 (And.intro rfl (And.intro (lm_89 hL) (have c9 := v7.1; have v36 := v7.2; (And.intro c9 (And.intro (lm_89 hL) (And.intro (lm_89 hL) (have c34 := v36.1; have v35 := v36.2; (Exists.intro [vi (iH h 89 46 + 1)] (Exists.intro 89 (Exists.intro [] (And.intro (And.intro rfl (And.intro rfl (Nat.le_of_ble_eq_true rfl))) (And.intro (lm_89 hL) (Exists.intro 0 (Exists.intro 0 (Exists.intro 0 (Exists.intro _ (And.intro (c_shutLook (h := (sI h 89 46 (iH h 89 46 + 1))) hL c34) (And.intro (And.intro (by decide) (And.intro (Nat.zero_le _) (Nat.zero_le _))) (eQPV (have hL := v35.1; have v13 := v35.2; (show wp mX12_look 6 rc rs Q 36 [some (vr 89), some (vi x1), some (vi x2)] [] (m_shutL (sI h 89 46 (iH h 89 46 + 1)) (iH h 89 46 + 1)) from xcV k_X12_look_36 s_X12_look_39 (have c32 := v13.1; have v33 := v13.2; (Exists.intro [vi 6] (Exists.intro 89 (Exists.intro [] (And.intro (And.intro rfl (And.intro rfl (Nat.le_of_ble_eq_true rfl))) (And.intro (lm_89 hL) (Exists.intro 0 (Exists.intro 0 (Exists.intro 0 (Exists.intro _ (And.intro (c_lay (h := (m_shutL (sI h 89 46 (iH h 89 46 + 1)) (iH h 89 46 + 1))) hL c32) (And.intro (And.intro (by decide) (And.intro (Nat.zero_le _) (Nat.zero_le _))) (eQPV (have hL := v33.1; have v17 := v33.2; (show wp mX12_look 6 rc rs Q 42 [some (vr 89), some (vi x1), some (vi x2)] [] (m_lay (m_shutL (sI h 89 46 (iH h 89 46 + 1)) (iH h 89 46 + 1)) (6 : Int)) from xcV k_X12_look_42 s_X12_look_46 (have c29 := v17.1; have v30 := v17.2; (Exists.intro [vi 6, vi x1] (Exists.intro 89 (Exists.intro [] (And.intro (And.intro rfl (And.intro rfl (Nat.le_of_ble_eq_true rfl))) (And.intro (lm_89 hL) (Exists.intro 4 (Exists.intro 0 (Exists.intro 0 (Exists.intro _ (And.intro (c_cost (h := (m_lay (m_shutL (sI h 89 46 (iH h 89 46 + 1)) (iH h 89 46 + 1)) (6 : Int))) hL c29) (And.intro (And.intro (by decide) (And.intro (Nat.zero_le _) (Nat.zero_le _))) (eQP (show wp mX12_look 6 rc rs Q 49 [some (vr 89), some (vi x1), some (vi x2)] [vi (m_cost (m_lay (m_shutL (sI h 89 46 (iH h 89 46 + 1)) (iH h 89 46 + 1)) (6 : Int)) (6 : Int) x1)] (m_lay (m_shutL (sI h 89 46 (iH h 89 46 + 1)) (iH h 89 46 + 1)) (6 : Int)) from xIc k_X12_look_49 (And.intro (lm_89 hL) (And.intro (fun c18 => have v20 := v30.1 c18; (show wp mX12_look 6 rc rs Q 61 [some (vr 89), some (vi x1), some (vi x2)] [] (m_lay (m_shutL (sI h 89 46 (iH h 89 46 + 1)) (iH h 89 46 + 1)) (6 : Int)) from xcV k_X12_look_61 s_X12_look_66 (Exists.elim v20 (fun P24 v25 => (Exists.intro [vi 6, vi x1, vi x2] (Exists.intro 89 (Exists.intro [] (And.intro (And.intro rfl (And.intro rfl (Nat.le_of_ble_eq_true rfl))) (And.intro (lm_89 hL) (Exists.intro 5 (Exists.intro 0 (Exists.intro 0 (Exists.intro (QI P24) (And.intro v25.1 (And.intro (And.intro (by decide) (And.intro (Nat.zero_le _) (Nat.zero_le _))) (eQI (fun r23 h22 q28 e27 => have v26 := v25.2 r23 h22 q28 e27; have hL := v26.1; have v26 := v26.2; (show wp mX12_look 6 rc rs Q 69 [some (vr 89), some (vi x1), some (vi x2)] [vi r23] h22 from xI k_X12_look_69 (And.intro rfl v26))))))))))))))))))) (fun c19 => have v21 := v30.2 (Int.not_le.mp c19); (show wp mX12_look 6 rc rs Q 56 [some (vr 89), some (vi x1), some (vi x2)] [] (m_lay (m_shutL (sI h 89 46 (iH h 89 46 + 1)) (iH h 89 46 + 1)) (6 : Int)) from xGo k_X12_look_56 (show wp mX12_look 6 rc rs Q 69 [some (vr 89), some (vi x1), some (vi x2)] [vi (-6)] (m_lay (m_shutL (sI h 89 46 (iH h 89 46 + 1)) (iH h 89 46 + 1)) (6 : Int)) from xI k_X12_look_69 (And.intro rfl v21)))))))))))))))))))))))))))))))))))))))))))))))))))))))))) (fun c6 => have v8 := v4.2 (b01_nn.mp c6); (show wp mX12_look 6 rc rs Q 15 [some (vr 89), some (vi x1), some (vi x2)] [] h from xI k_X12_look_15 (And.intro rfl v8))))))))))))))))))))))))))))))))))
theorem e_X12_look {mc ms : Nat} {Q : Option AV → AH → Prop} {h : AH} {x1 x2 : Int} (hL : LayM h) (hv : (0 ≤ iH h 89 30 ∧ iH h 89 30 ≤ 6) ∧ ((¬ (0 ≤ x1 ∧ x1 ≤ (iH h 89 30 - 1)) → Q (some (vi (-2))) h) ∧ ((0 ≤ x1 ∧ x1 ≤ (iH h 89 30 - 1)) → ((((0 ≤ x2 ∧ x2 ≤ 2) ∨ (10 ≤ x2 ∧ x2 ≤ 73) ∨ (100 ≤ x2 ∧ x2 ≤ 163)) → (-2147483648 ≤ (iH h 89 46 + 1) ∧ (iH h 89 46 + 1) < 2147483648) ∧ (0 ≤ iH (sI h 89 46 (iH h 89 46 + 1)) 89 47 ∧ iH (sI h 89 46 (iH h 89 46 + 1)) 89 47 < 1040) ∧ LayM (m_shutL (sI h 89 46 (iH h 89 46 + 1)) (iH h 89 46 + 1)) ∧ (m_nowL (m_shutL (sI h 89 46 (iH h 89 46 + 1)) (iH h 89 46 + 1)) ∧ (0 ≤ (6 : Int) ∧ (6 : Int) < 7)) ∧ LayM (m_lay (m_shutL (sI h 89 46 (iH h 89 46 + 1)) (iH h 89 46 + 1)) (6 : Int)) ∧ (m_stdd (m_lay (m_shutL (sI h 89 46 (iH h 89 46 + 1)) (iH h 89 46 + 1)) (6 : Int)) (6 : Int) ∧ m_qok (m_lay (m_shutL (sI h 89 46 (iH h 89 46 + 1)) (iH h 89 46 + 1)) (6 : Int)) x1) ∧ (((m_cost (m_lay (m_shutL (sI h 89 46 (iH h 89 46 + 1)) (iH h 89 46 + 1)) (6 : Int)) (6 : Int) x1) ≤ (iH (m_lay (m_shutL (sI h 89 46 (iH h 89 46 + 1)) (iH h 89 46 + 1)) (6 : Int)) 89 23) → (∃ P24 : Int → AH → Prop, Ct 5 0 0 mX12_answer [vr 89, vi 6, vi x1, vi x2] (m_lay (m_shutL (sI h 89 46 (iH h 89 46 + 1)) (iH h 89 46 + 1)) (6 : Int)) (QI P24) ∧ ∀ (r23 : Int) (h22 : AH), (-2147483648 ≤ r23 ∧ r23 < 2147483648) → P24 r23 h22 → LayM h22 ∧ Q (some (vi r23)) h22)) ∧ ((iH (m_lay (m_shutL (sI h 89 46 (iH h 89 46 + 1)) (iH h 89 46 + 1)) (6 : Int)) 89 23) < (m_cost (m_lay (m_shutL (sI h 89 46 (iH h 89 46 + 1)) (iH h 89 46 + 1)) (6 : Int)) (6 : Int) x1) → Q (some (vi (-6))) (m_lay (m_shutL (sI h 89 46 (iH h 89 46 + 1)) (iH h 89 46 + 1)) (6 : Int))))) ∧ (¬ ((0 ≤ x2 ∧ x2 ≤ 2) ∨ (10 ≤ x2 ∧ x2 ≤ 73) ∨ (100 ≤ x2 ∧ x2 ≤ 163)) → Q (some (vi (-2))) h))))) : Ct 6 mc ms mX12_look [vr 89, vi x1, vi x2] h Q := Ct.of (by decide +kernel) (Nat.le_of_ble_eq_true rfl) (t_X12_look_0 hL hv)
def p_found (h : AH) (v q w : Int) (x : Int) (h' : AH) : Prop := ((¬ (0 ≤ v ∧ v ≤ 3) ∨ ¬ (0 ≤ q ∧ q ≤ iH h 89 30 - 1) ∨ ¬ m_asked w) ∧ x = -2 ∧ h' = h) ∨ (((0 ≤ v ∧ v ≤ 3) ∧ (0 ≤ q ∧ q ≤ iH h 89 30 - 1) ∧ m_asked w) ∧ iH h 1137 v.toNat = 0 ∧ x = -3 ∧ h' = h) ∨ (((0 ≤ v ∧ v ≤ 3) ∧ (0 ≤ q ∧ q ≤ iH h 89 30 - 1) ∧ m_asked w) ∧ iH h 1137 v.toNat ≠ 0 ∧ x = a_ans h v q w ∧ m_scr h h')
/-- the queries that are there are good ones -/
def m_qs (h : AH) : Prop := (0 ≤ iH h 89 30 ∧ iH h 89 30 ≤ 6) ∧ ∀ q : Int, 0 ≤ q → q ≤ iH h 89 30 - 1 → m_qok h q
/-- a stand's cells are good ones: all that queries ask of it -/
def m_gS (h : AH) (t : Int) : Prop := m_stT h t ∧ m_stdd h t
theorem m_gS_cg {h h' : AH} {t : Int} (e : AgQ h h') (hg : m_gS h t) : m_gS h' t := ⟨m_stT_cg e hg.1, m_stdd_cg e hg.2⟩
theorem c_found {h : AH} (hL : LayM h) {v q w : Int} (hq : m_qs h) (hv : ∀ v : Int, 0 ≤ v → v ≤ 3 → iH h 1137 v.toNat ≠ 0 → m_gS h v) : Ct 6 0 0 mX12_found [vr 89, vi v, vi q, vi w] h (QI (p_found h v q w)) := by
  refine e_X12_found hL ⟨fun c => ⟨_, rfl, Or.inl ⟨Or.inl c, rfl, rfl⟩⟩, fun c => ⟨hq.1, fun c2 => ⟨_, rfl, Or.inl ⟨Or.inr (Or.inl c2), rfl, rfl⟩⟩, fun c2 => ⟨fun c3 => ⟨by omega, fun c4 => ⟨_, rfl, Or.inr (Or.inl ⟨⟨c, c2, c3⟩, c4, rfl, rfl⟩)⟩, fun c4 => ?_⟩, fun c3 => ⟨_, rfl, Or.inl ⟨Or.inr (Or.inr c3), rfl, rfl⟩⟩⟩⟩⟩
  have hg := hv v c.1 c.2 c4
  refine ⟨_, c_answer hL ⟨hg.1, hg.2, hq.2 q c2.1 c2.2, c3⟩, fun x h2 _ hx => ?_⟩
  exact ⟨m_scr_L hL hx.2, _, rfl, Or.inr (Or.inr ⟨⟨c, c2, c3⟩, c4, hx.1, hx.2⟩)⟩
theorem AgQ_lay6 {h h' : AH} (hn : m_now h) (e : ∀ a k, 90 ≤ a → a < 1178 → iH h' a k = iH h a k) (e2 : iH h' 89 13 = iH h 89 13) : AgQ (m_lay h 6) (m_lay h' 6) := by
  have hl := hn.1
  have el : ∀ s, m_off h' s = m_off h s := fun s => sumN_cg fun i _ => by rw [e 615 _ (by decide) (by decide), e 1155 _ (by decide) (by decide)]
  intro a k h1 h2 h3
  by_cases c1 : a = 1148 + 6
  · subst c1
    have r : ∀ h : AH, iH (m_lay h 6) (1148 + 6) k = m_layW h (iH h (1148 + 6)) (iH h 89 13).toNat k := fun h => by unfold m_lay; exact rW_same
    rw [r, r, e2, show iH h' (1148 + 6) = iH h (1148 + 6) from funext fun k => e _ k (by decide) (by decide)]
    have : ∀ s : Nat, (s : Int) ≤ iH h 89 13 → ∀ n, m_layW h' (iH h (1148 + 6)) s n = m_layW h (iH h (1148 + 6)) s n := fun s => by
      induction s with
      | zero => intro _ n; rfl
      | succ s ih =>
        intro hs n
        have h5 := (hn.2 s (by omega)).1
        unfold m_layW m_layI m_drD
        rw [el, e 615 _ (by decide) (by decide), e 1155 _ (by decide) (by decide), e (617 + (iH h 1155 s).toNat) _ (by omega) (by omega), e 613 _ (by decide) (by decide), ih (by omega) n]
    exact this _ (by omega) k
  · by_cases c2 : a = 1140 + 6
    · subst c2
      have r : ∀ h : AH, iH (m_lay h 6) (1140 + 6) k = m_layR h 6 (iH h 89 13).toNat k := fun h => by
        unfold m_lay
        rw [rW_ne (by decide)]; exact rW_same
      rw [r, r, e2]
      unfold m_layR
      rw [e 1155 _ (by decide) (by decide), e (1140 + 6) _ (by decide) (by decide)]
    · by_cases c3 : a = 1138
      · subst c3
        have r : ∀ h : AH, iH (m_lay h 6) 1138 k = if k = 6 then iH h 89 13 else iH h 1138 k := fun h => by
          unfold m_lay m_layB
          rw [rW_ne (by decide), rW_ne (by decide), rI_if, rI_ne (by decide)]; rfl
        rw [r, r, e2, e 1138 _ (by decide) (by decide)]
      · rw [rL (t := 6) h3 c3 c2 c1, rL (t := 6) h3 c3 c2 c1]
        exact e a k h1 h2
/-- the cells that a query asks of what stands now: laid as stand 6 -/
def m_gN (h : AH) : Prop := m_nowL h ∧ m_gS (m_lay h 6) 6
theorem m_qs_lay {h : AH} {q : Int} (hq : m_qok h q) : m_qok (m_lay h 6) q := by
  have hb := hq.1
  exact m_qok_cg hq (fun k => rL (by omega) (by omega) (by omega) (by omega)) (rL (by decide) (by decide) (by decide) (by decide))
def p_silence (h : AH) (q n : Int) (x : Int) (h' : AH) : Prop := ((¬ (0 ≤ q ∧ q ≤ iH h 89 30 - 1) ∨ ¬ (0 ≤ n ∧ n ≤ 999)) ∧ x = -2 ∧ h' = h) ∨ (((0 ≤ q ∧ q ≤ iH h 89 30 - 1) ∧ (0 ≤ n ∧ n ≤ 999)) ∧ (∃ k : Nat, x = k ∧ k ≤ (m_F (m_lay h 6) 6 q).1 ∧ (m_F (m_lay h 6) 6 q).2.1 - sumN (m_F (m_lay h 6) 6 q).2.2.2 k ≤ n ∧ ∀ j, j < k → n < (m_F (m_lay h 6) 6 q).2.1 - sumN (m_F (m_lay h 6) 6 q).2.2.2 j) ∧ m_scr (m_lay h 6) h')
/-- the worths that are found are together what they are said to be -/
theorem f_sum_add {S : FS} {d v : Int} (hS : S.2.1 = sumN S.2.2.2 S.1) : (f_add S d v).2.1 = sumN (f_add S d v).2.2.2 (f_add S d v).1 := by
  have hp := f_ip_le S.2.2.2 v S.1
  have key : ∀ (w : Nat → Int) (p n : Nat), p ≤ n → sumN (f_in w p n v) (n + 1) = sumN w n + v := by
    intro w p n
    have low : ∀ m, m ≤ p → sumN (f_in w p n v) m = sumN w m := fun m hm => sumN_cg fun k hk => by unfold f_in f_sh; rw [if_neg (by omega), if_neg (by omega)]
    have hi : ∀ m, p ≤ m → m ≤ n → sumN (f_in w p n v) (m + 1) = sumN w m + v := by
      intro m
      induction m with
      | zero =>
        intro h1 h2
        have : p = 0 := by omega
        subst this
        show 0 + f_in w 0 n v 0 = 0 + v
        unfold f_in; rw [if_pos rfl]
      | succ m ih =>
        intro h1 h2
        show sumN (f_in w p n v) (m + 1) + f_in w p n v (m + 1) = sumN w m + w m + v
        by_cases c : p = m + 1
        · rw [low (m + 1) (by omega)]
          unfold f_in; rw [if_pos c.symm]; rfl
        · rw [ih (by omega) (by omega)]
          unfold f_in f_sh; rw [if_neg (by omega), if_pos (by omega), show m + 1 - 1 = m from rfl]; omega
    exact fun h => hi n h (Nat.le_refl n)
  show S.2.1 + v = sumN (f_in S.2.2.2 (f_ip S.2.2.2 v S.1) S.1 v) (S.1 + 1)
  rw [key _ _ _ hp, hS]
theorem m_F_sum (h : AH) (t q : Int) : (m_F h t q).2.1 = sumN (m_F h t q).2.2.2 (m_F h t q).1 := by
  have inner : ∀ (s : Nat) (S : FS) (k : Nat), S.2.1 = sumN S.2.2.2 S.1 → (m_fI h t q s S k).2.1 = sumN (m_fI h t q s S k).2.2.2 (m_fI h t q s S k).1 := by
    intro s S k hS
    induction k with
    | zero => exact hS
    | succ k ih =>
      unfold m_fI
      split
      · exact f_sum_add ih
      · exact ih
  have outer : ∀ s : Nat, (m_fd h t q s).2.1 = sumN (m_fd h t q s).2.2.2 (m_fd h t q s).1 := by
    intro s
    induction s with
    | zero => rfl
    | succ s ih => exact inner s _ _ ih
  exact outer _
theorem f_addw_all {P : Int → Prop} {S : FS} {d v : Int} (hS : ∀ i, i < S.1 → P (S.2.2.2 i)) (hd : P v) : ∀ i, i < (f_add S d v).1 → P ((f_add S d v).2.2.2 i) := by
  have hp := f_ip_le S.2.2.2 v S.1
  intro i hi
  replace hi : i < S.1 + 1 := hi
  unfold f_add f_in f_sh
  dsimp only
  by_cases q : i = f_ip S.2.2.2 v S.1
  · rw [if_pos q]; exact hd
  · rw [if_neg q]
    by_cases q2 : f_ip S.2.2.2 v S.1 < i ∧ i ≤ S.1
    · rw [if_pos q2]; exact hS (i - 1) (by omega)
    · rw [if_neg q2]; exact hS i (by omega)
theorem m_F_w {h : AH} {t q : Int} (hn : m_stT h t) (hq : m_qok h q) : ∀ i, i < (m_F h t q).1 → 0 < (m_F h t q).2.2.2 i ∧ (m_F h t q).2.2.2 i ≤ 999 := by
  have inner : ∀ (s : Nat) (S : FS) (k : Nat), (s : Int) < iH h 1138 t.toNat → (k : Int) ≤ iH h 615 (iH h (1140 + t.toNat) s).toNat → (∀ i, i < S.1 → 0 < S.2.2.2 i ∧ S.2.2.2 i ≤ 999) → ∀ i, i < (m_fI h t q s S k).1 → 0 < (m_fI h t q s S k).2.2.2 i ∧ (m_fI h t q s S k).2.2.2 i ≤ 999 := by
    intro s S k hs hk hS
    induction k with
    | zero => exact hS
    | succ k ih =>
      have hv := m_fv_bd hn hq (s := s) (k := k) hs (by omega)
      unfold m_fI
      split
      · exact f_addw_all (P := fun x => 0 < x ∧ x ≤ 999) (ih (by omega)) ⟨by assumption, hv.2⟩
      · exact ih (by omega)
  have outer : ∀ s : Nat, (s : Int) ≤ iH h 1138 t.toNat → ∀ i, i < (m_fd h t q s).1 → 0 < (m_fd h t q s).2.2.2 i ∧ (m_fd h t q s).2.2.2 i ≤ 999 := by
    intro s
    induction s with
    | zero => intro _ i hi; exact absurd hi (Nat.not_lt_zero i)
    | succ s ih =>
      intro hs
      have hl := (hn.2.1 s (by omega)).1.2.1
      exact inner s _ _ (by omega) (by omega) (ih (by omega))
  exact outer _ (by have := hn.1.2; omega)
theorem c_silence {h : AH} (hL : LayM h) {q n : Int} (hq : m_qs h) (hg : m_gN h) : Ct 5 0 0 mX12_silence [vr 89, vi q, vi n] h (QI (p_silence h q n)) := by
  refine e_X12_silence hL ⟨hq.1, fun c => ⟨_, rfl, Or.inl ⟨Or.inl c, rfl, rfl⟩⟩, fun c => ⟨fun c2 => ⟨⟨hg.1, by omega⟩, by exact hL, ?_⟩, fun c2 => ⟨_, rfl, Or.inl ⟨Or.inr c2, rfl, rfl⟩⟩⟩⟩
  have hqk := m_qs_lay (hq.2 q c.1 c.2)
  refine ⟨_, c_find (h := m_lay h 6) (by exact hL) hg.2.1 hqk, fun h2 hf => ?_⟩
  obtain ⟨f, w, hp, rfl, ha⟩ := hf
  have hb := m_F_bd hg.2.1 hqk
  have hsum := m_F_sum (m_lay h 6) 6 q
  have fin : m_scr (m_lay h 6) (m_fH (m_lay h 6) (m_F (m_lay h 6) 6 q).1 (m_F (m_lay h 6) 6 q).2.1 f w hp) := Or.inr ⟨_, _, _, _, _, rfl⟩
  rw [r_fHs]
  refine ⟨by exact hL, ?_⟩
  have wpos : ∀ j, j < (m_F (m_lay h 6) 6 q).1 → 0 < (m_F (m_lay h 6) 6 q).2.2.2 j ∧ (m_F (m_lay h 6) 6 q).2.2.2 j ≤ 999 := m_F_w hg.2.1 hqk
  generalize hS : m_F (m_lay h 6) 6 q = S at *
  have main : ∀ (r k : Nat), k + r = S.1 → (∀ j, j < k → n < S.2.1 - sumN S.2.2.2 j) → wp mX12_silence 5 0 0 (QI (p_silence h q n)) 43 [some (vr 89), none, some (vi n), some (vi (S.2.1 - sumN S.2.2.2 k)), some (vi k)] [] (m_fH (m_lay h 6) S.1 S.2.1 f w hp) := by
    intro r
    induction r with
    | zero =>
      intro k hk hj
      have : k = S.1 := by omega
      subst this
      refine t_X12_silence_43 (by exact hL) ⟨fun _ => ⟨_, rfl, Or.inr ⟨⟨c, c2⟩, ⟨S.1, rfl, by rw [hS]; exact Nat.le_refl _, by rw [hS]; omega, by rw [hS]; exact hj⟩, fin⟩⟩, fun q => by omega⟩
    | succ r ih =>
      intro k hk hj
      have hw := wpos k (by omega)
      have hle : sumN S.2.2.2 k ≤ S.2.1 ∧ 0 ≤ sumN S.2.2.2 k := by
        have a1 := sumN_bd S.2.2.2 999 (by omega) k (fun j hj => by have := wpos j (by omega); omega)
        have a2 : ∀ m, k + m ≤ S.1 → sumN S.2.2.2 k ≤ sumN S.2.2.2 (k + m) := by
          intro m
          induction m with
          | zero => intro _; exact Int.le_refl _
          | succ m ihm =>
            intro hm
            have b1 := ihm (by omega)
            have b2 := wpos (k + m) (by omega)
            have b3 : sumN S.2.2.2 (k + (m + 1)) = sumN S.2.2.2 (k + m) + S.2.2.2 (k + m) := rfl
            omega
        have a3 := a2 (r + 1) (by omega)
        rw [hk, ← hsum] at a3
        omega
      refine t_X12_silence_43 (by exact hL) ?_
      rw [r_fHw, show ((k : Int)).toNat = k from rfl, (ha k (by omega)).2]
      refine ⟨fun c3 => ⟨_, rfl, Or.inr ⟨⟨c, c2⟩, ⟨k, rfl, by rw [hS]; omega, by rw [hS]; omega, by rw [hS]; exact hj⟩, fin⟩⟩, fun c3 => ⟨by omega, by omega, by omega, ?_⟩⟩
      rw [show S.2.1 - sumN S.2.2.2 k - S.2.2.2 k = S.2.1 - sumN S.2.2.2 (k + 1) by show _ = S.2.1 - (sumN S.2.2.2 k + S.2.2.2 k); omega]
      refine ih (k + 1) (by omega) fun j hj2 => ?_
      by_cases e : j = k
      · subst e; exact c3
      · exact hj j (by omega)
  have := main S.1 0 (by omega) (fun j hj => absurd hj (Nat.not_lt_zero j))
  rw [show S.2.1 - sumN S.2.2.2 0 = S.2.1 by show S.2.1 - 0 = _; omega] at this
  exact this
