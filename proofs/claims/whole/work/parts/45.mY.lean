/-! THE REFERENCE: QUERY -/
def b_X12_query_0 : List IE := [(.aload_n 0, 1, 0, 0, 0, 0), (.getfield 113, 3, 0, 12, 30, 0), (.bipush 6, 2, 6, 0, 0, 0)]
theorem k_X12_query_0 : ckIc mX12_query 12 0 b_X12_query_0 6 1 6 12 9 = true := by decide +kernel
def b_X12_query_9 : List IE := [(.bipush (-4), 2, (-4), 0, 0, 0)]
theorem k_X12_query_9 : ckI mX12_query 12 9 b_X12_query_9 11 = true := by decide +kernel
def b_X12_query_12 : List IE := [(.aload_n 0, 1, 0, 0, 0, 0), (.iconst 0, 1, 0, 0, 0, 0), (.putfield 291, 3, 0, 12, 35, 0), (.aload_n 0, 1, 0, 0, 0, 0), (.iconst 0, 1, 0, 0, 0, 0), (.putfield 324, 3, 0, 12, 39, 0), (.aload_n 0, 1, 0, 0, 0, 0), (.iconst 0, 1, 0, 0, 0, 0), (.putfield 306, 3, 0, 12, 34, 0), (.aload_n 0, 1, 0, 0, 0, 0), (.iconst 0, 1, 0, 0, 0, 0), (.putfield 288, 3, 0, 12, 40, 2), (.aload_n 0, 1, 0, 0, 0, 0)]
theorem k_X12_query_12 : ckB mX12_query 12 12 b_X12_query_12 33 = true := by decide +kernel
def b_X12_query_36 : List IE := [(.aload_n 0, 1, 0, 0, 0, 0)]
theorem k_X12_query_36 : ckB mX12_query 12 36 b_X12_query_36 37 = true := by decide +kernel
def b_X12_query_40 : List IE := [(.aload_n 0, 1, 0, 0, 0, 0), (.dup, 1, 0, 0, 0, 0), (.getfield 288, 3, 0, 12, 40, 0), (.aload_n 0, 1, 0, 0, 0, 0), (.getfield 297, 3, 0, 12, 37, 0)]
theorem k_X12_query_40 : ckIf mX12_query 12 40 b_X12_query_40 49 0 7 56 52 = true := by decide +kernel
def b_X12_query_52 : List IE := [(.iconst 1, 1, 1, 0, 0, 0)]
theorem k_X12_query_52 : ckGo mX12_query 12 52 b_X12_query_52 53 4 57 = true := by decide +kernel
def b_X12_query_56 : List IE := [(.iconst 0, 1, 0, 0, 0, 0), (.ior, 1, 0, 0, 0, 0), (.putfield 288, 3, 0, 12, 40, 2), (.aload_n 0, 1, 0, 0, 0, 0), (.iconst 0, 1, 0, 0, 0, 0), (.putfield 120, 3, 0, 12, 18, 0), (.aload_n 0, 1, 0, 0, 0, 0), (.getfield 288, 3, 0, 12, 40, 0)]
theorem k_X12_query_56 : ckIf mX12_query 12 56 b_X12_query_56 70 0 11 81 73 = true := by decide +kernel
def b_X12_query_57 : List IE := [(.ior, 1, 0, 0, 0, 0), (.putfield 288, 3, 0, 12, 40, 2), (.aload_n 0, 1, 0, 0, 0, 0), (.iconst 0, 1, 0, 0, 0, 0), (.putfield 120, 3, 0, 12, 18, 0), (.aload_n 0, 1, 0, 0, 0, 0), (.getfield 288, 3, 0, 12, 40, 0)]
theorem k_X12_query_57 : ckIf mX12_query 12 57 b_X12_query_57 70 0 11 81 73 = true := by decide +kernel
def b_X12_query_73 : List IE := [(.bipush (-100), 2, (-100), 0, 0, 0), (.aload_n 0, 1, 0, 0, 0, 0), (.getfield 294, 3, 0, 12, 36, 0), (.isub, 1, 0, 0, 0, 0)]
theorem k_X12_query_73 : ckI mX12_query 12 73 b_X12_query_73 80 = true := by decide +kernel
def b_X12_query_81 : List IE := [(.aload_n 0, 1, 0, 0, 0, 0), (.getfield 76, 3, 0, 12, 33, 1), (.iconst 0, 1, 0, 0, 0, 0), (.aload_n 0, 1, 0, 0, 0, 0), (.getfield 70, 3, 0, 12, 31, 1), (.aload_n 0, 1, 0, 0, 0, 0), (.getfield 113, 3, 0, 12, 30, 0), (.aaload, 1, 0, 0, 0, 0), (.iconst 0, 1, 0, 0, 0, 0), (.aload_n 0, 1, 0, 0, 0, 0), (.getfield 306, 3, 0, 12, 34, 0)]
theorem k_X12_query_81 : ckB mX12_query 12 81 b_X12_query_81 100 = true := by decide +kernel
def b_X12_query_103 : List IE := [(.aload_n 0, 1, 0, 0, 0, 0), (.getfield 73, 3, 0, 12, 32, 1), (.aload_n 0, 1, 0, 0, 0, 0), (.getfield 113, 3, 0, 12, 30, 0), (.aload_n 0, 1, 0, 0, 0, 0), (.getfield 306, 3, 0, 12, 34, 0), (.iastore, 1, 0, 0, 0, 0), (.aload_n 0, 1, 0, 0, 0, 0), (.dup, 1, 0, 0, 0, 0), (.getfield 113, 3, 0, 12, 30, 0), (.iconst 1, 1, 1, 0, 0, 0), (.iadd, 1, 0, 0, 0, 0), (.putfield 113, 3, 0, 12, 30, 0), (.aload_n 0, 1, 0, 0, 0, 0), (.getfield 113, 3, 0, 12, 30, 0), (.iconst 1, 1, 1, 0, 0, 0), (.isub, 1, 0, 0, 0, 0)]
theorem k_X12_query_103 : ckI mX12_query 12 103 b_X12_query_103 132 = true := by decide +kernel
theorem s_X12_query_33 : cV mX12_query 33 mX12_next 315 0 12 := ⟨by decide +kernel, ⟨ml_X12_next, li_RX12_315, im_X12_next, se_X12_next⟩, ⟨by decide +kernel, by decide +kernel⟩, by decide +kernel⟩
theorem s_X12_query_37 : cV mX12_query 37 mX12_either 330 0 12 := ⟨by decide +kernel, ⟨ml_X12_either, li_RX12_330, im_X12_either, se_X12_either⟩, ⟨by decide +kernel, by decide +kernel⟩, by decide +kernel⟩
theorem s_X12_query_100 : cCp mX12_query 100 162 := ⟨by decide +kernel, gt_ok (List.mem_of_getElem? (i := 1193) (by decide +kernel)) (by decide +kernel), gt_ok (List.mem_of_getElem? (i := 456) (by decide +kernel)) (by decide +kernel), gt_ok (List.mem_of_getElem? (i := 455) (by decide +kernel)) (by decide +kernel), gt_ok (List.mem_of_getElem? (i := 102) (by decide +kernel)) (by decide +kernel)⟩
theorem t_X12_query_0 {rc rs : Nat} {Q : Option AV → AH → Prop} {h : AH}  (hL : LayM h) (hv : (((iH h 89 30) ≠ 6 → (∃ P7 : AH → Prop, Ct 6 0 0 mX12_next [vr 89] (sI (sI (sI (sI h 89 35 0) 89 39 0) 89 34 0) 89 40 0) (QV P7) ∧ ∀ h5 : AH, P7 h5 → LayM h5 ∧ (∃ d8 : Nat, (∃ P11 : AH → Prop, d8 + 1 ≤ 41 ∧ Ct d8 0 0 mX12_either [vr 89] h5 (QV P11) ∧ ∀ h9 : AH, P11 h9 → LayM h9 ∧ wp mX12_query 41 rc rs Q 40 [some (vr 89)] [] h9)))) ∧ ((iH h 89 30) = 6 → Q (some (vi (-4))) h))) : wp mX12_query 41 rc rs Q 0 [some (vr 89)] [] h :=
  (show wp mX12_query 41 rc rs Q 0 [some (vr 89)] [] h from xIc k_X12_query_0 (And.intro (lm_89 hL) (And.intro (fun c1 => have v3 := hv.1 c1; (show wp mX12_query 41 rc rs Q 12 [some (vr 89)] [] h from xcV k_X12_query_12 s_X12_query_33 (And.intro (lm_89 hL) (And.intro (lm_89 hL) (And.intro (lm_89 hL) (And.intro (lm_89 hL) (And.intro (Or.inl rfl) (Exists.elim v3 (fun P7 v16 => (Exists.intro [] (Exists.intro 89 (Exists.intro [] (And.intro (And.intro rfl (And.intro rfl (Nat.le_of_ble_eq_true rfl))) (And.intro (lm_89 hL) (Exists.intro 6 (Exists.intro 0 (Exists.intro 0 (Exists.intro (QV P7) (And.intro v16.1 (And.intro (And.intro (by decide) (And.intro (Nat.zero_le _) (Nat.zero_le _))) (eQV (fun h5 e18 => have v17 := v16.2 h5 e18; have hL := v17.1; have v17 := v17.2; (show wp mX12_query 41 rc rs Q 36 [some (vr 89)] [] h5 from xcV k_X12_query_36 s_X12_query_37 (Exists.elim v17 (fun d8 v12 => Exists.elim v12 (fun P11 v12 => (Exists.intro [] (Exists.intro 89 (Exists.intro [] (And.intro (And.intro rfl (And.intro rfl (Nat.le_of_ble_eq_true rfl))) (And.intro (lm_89 hL) (Exists.intro d8 (Exists.intro 0 (Exists.intro 0 (Exists.intro (QV P11) (And.intro v12.2.1 (And.intro (And.intro v12.1 (And.intro (Nat.zero_le _) (Nat.zero_le _))) (eQV (fun h9 e14 => have v13 := v12.2.2 h9 e14; have hL := v13.1; have v13 := v13.2; v13))))))))))))))))))))))))))))))))))))))) (fun c2 => have v4 := hv.2 (Decidable.not_not.mp c2); (show wp mX12_query 41 rc rs Q 9 [some (vr 89)] [] h from xI k_X12_query_9 (And.intro rfl v4))))))
theorem e_X12_query {mc ms : Nat} {Q : Option AV → AH → Prop} {h : AH}  (hL : LayM h) (hv : (((iH h 89 30) ≠ 6 → (∃ P7 : AH → Prop, Ct 6 0 0 mX12_next [vr 89] (sI (sI (sI (sI h 89 35 0) 89 39 0) 89 34 0) 89 40 0) (QV P7) ∧ ∀ h5 : AH, P7 h5 → LayM h5 ∧ (∃ d8 : Nat, (∃ P11 : AH → Prop, d8 + 1 ≤ 41 ∧ Ct d8 0 0 mX12_either [vr 89] h5 (QV P11) ∧ ∀ h9 : AH, P11 h9 → LayM h9 ∧ wp mX12_query 41 mc ms Q 40 [some (vr 89)] [] h9)))) ∧ ((iH h 89 30) = 6 → Q (some (vi (-4))) h))) : Ct 41 mc ms mX12_query [vr 89] h Q := Ct.of (by decide +kernel) (Nat.le_of_ble_eq_true rfl) (t_X12_query_0 hL hv)
theorem t_X12_query_40 {rc rs : Nat} {Q : Option AV → AH → Prop} {h : AH}  (hL : LayM h) (hv : (((iH h 89 37) = 0 → ((orI (iH h 89 40) 0) = 0 ∨ (orI (iH h 89 40) 0) = 1) ∧ (((orI (iH h 89 40) 0) = 0 → (0 ≤ iH h 89 30 ∧ iH h 89 30 < 6) ∧ (0 ≤ (0 : Int) ∧ 0 ≤ (0 : Int) ∧ 0 ≤ iH h 89 34 ∧ (0 : Int) + iH h 89 34 ≤ 128 ∧ (0 : Int) + iH h 89 34 ≤ 128) ∧ (0 ≤ iH (cpI (sI (sI h 89 40 (orI (iH h 89 40) 0)) 89 18 0) 1177 0 (1170 + (iH h 89 30).toNat) 0 ((iH h 89 34).toNat)) 89 30 ∧ iH (cpI (sI (sI h 89 40 (orI (iH h 89 40) 0)) 89 18 0) 1177 0 (1170 + (iH h 89 30).toNat) 0 ((iH h 89 34).toNat)) 89 30 < 6) ∧ (-2147483648 ≤ (iH (cpI (sI (sI h 89 40 (orI (iH h 89 40) 0)) 89 18 0) 1177 0 (1170 + (iH h 89 30).toNat) 0 ((iH h 89 34).toNat)) 89 30 + 1) ∧ (iH (cpI (sI (sI h 89 40 (orI (iH h 89 40) 0)) 89 18 0) 1177 0 (1170 + (iH h 89 30).toNat) 0 ((iH h 89 34).toNat)) 89 30 + 1) < 2147483648) ∧ (-2147483648 ≤ ((iH (cpI (sI (sI h 89 40 (orI (iH h 89 40) 0)) 89 18 0) 1177 0 (1170 + (iH h 89 30).toNat) 0 ((iH h 89 34).toNat)) 89 30 + 1) - 1) ∧ ((iH (cpI (sI (sI h 89 40 (orI (iH h 89 40) 0)) 89 18 0) 1177 0 (1170 + (iH h 89 30).toNat) 0 ((iH h 89 34).toNat)) 89 30 + 1) - 1) < 2147483648) ∧ Q (some (vi ((iH (cpI (sI (sI h 89 40 (orI (iH h 89 40) 0)) 89 18 0) 1177 0 (1170 + (iH h 89 30).toNat) 0 ((iH h 89 34).toNat)) 89 30 + 1) - 1))) (sI (sI (cpI (sI (sI h 89 40 (orI (iH h 89 40) 0)) 89 18 0) 1177 0 (1170 + (iH h 89 30).toNat) 0 ((iH h 89 34).toNat)) 1176 ((iH (cpI (sI (sI h 89 40 (orI (iH h 89 40) 0)) 89 18 0) 1177 0 (1170 + (iH h 89 30).toNat) 0 ((iH h 89 34).toNat)) 89 30).toNat) (iH (cpI (sI (sI h 89 40 (orI (iH h 89 40) 0)) 89 18 0) 1177 0 (1170 + (iH h 89 30).toNat) 0 ((iH h 89 34).toNat)) 89 34)) 89 30 (iH (cpI (sI (sI h 89 40 (orI (iH h 89 40) 0)) 89 18 0) 1177 0 (1170 + (iH h 89 30).toNat) 0 ((iH h 89 34).toNat)) 89 30 + 1))) ∧ ((orI (iH h 89 40) 0) ≠ 0 → (-2147483648 ≤ ((-100) - iH h 89 36) ∧ ((-100) - iH h 89 36) < 2147483648) ∧ Q (some (vi ((-100) - iH h 89 36))) (sI (sI h 89 40 (orI (iH h 89 40) 0)) 89 18 0)))) ∧ ((iH h 89 37) ≠ 0 → ((orI (iH h 89 40) 1) = 0 ∨ (orI (iH h 89 40) 1) = 1) ∧ (((orI (iH h 89 40) 1) = 0 → (0 ≤ iH h 89 30 ∧ iH h 89 30 < 6) ∧ (0 ≤ (0 : Int) ∧ 0 ≤ (0 : Int) ∧ 0 ≤ iH h 89 34 ∧ (0 : Int) + iH h 89 34 ≤ 128 ∧ (0 : Int) + iH h 89 34 ≤ 128) ∧ (0 ≤ iH (cpI (sI (sI h 89 40 (orI (iH h 89 40) 1)) 89 18 0) 1177 0 (1170 + (iH h 89 30).toNat) 0 ((iH h 89 34).toNat)) 89 30 ∧ iH (cpI (sI (sI h 89 40 (orI (iH h 89 40) 1)) 89 18 0) 1177 0 (1170 + (iH h 89 30).toNat) 0 ((iH h 89 34).toNat)) 89 30 < 6) ∧ (-2147483648 ≤ (iH (cpI (sI (sI h 89 40 (orI (iH h 89 40) 1)) 89 18 0) 1177 0 (1170 + (iH h 89 30).toNat) 0 ((iH h 89 34).toNat)) 89 30 + 1) ∧ (iH (cpI (sI (sI h 89 40 (orI (iH h 89 40) 1)) 89 18 0) 1177 0 (1170 + (iH h 89 30).toNat) 0 ((iH h 89 34).toNat)) 89 30 + 1) < 2147483648) ∧ (-2147483648 ≤ ((iH (cpI (sI (sI h 89 40 (orI (iH h 89 40) 1)) 89 18 0) 1177 0 (1170 + (iH h 89 30).toNat) 0 ((iH h 89 34).toNat)) 89 30 + 1) - 1) ∧ ((iH (cpI (sI (sI h 89 40 (orI (iH h 89 40) 1)) 89 18 0) 1177 0 (1170 + (iH h 89 30).toNat) 0 ((iH h 89 34).toNat)) 89 30 + 1) - 1) < 2147483648) ∧ Q (some (vi ((iH (cpI (sI (sI h 89 40 (orI (iH h 89 40) 1)) 89 18 0) 1177 0 (1170 + (iH h 89 30).toNat) 0 ((iH h 89 34).toNat)) 89 30 + 1) - 1))) (sI (sI (cpI (sI (sI h 89 40 (orI (iH h 89 40) 1)) 89 18 0) 1177 0 (1170 + (iH h 89 30).toNat) 0 ((iH h 89 34).toNat)) 1176 ((iH (cpI (sI (sI h 89 40 (orI (iH h 89 40) 1)) 89 18 0) 1177 0 (1170 + (iH h 89 30).toNat) 0 ((iH h 89 34).toNat)) 89 30).toNat) (iH (cpI (sI (sI h 89 40 (orI (iH h 89 40) 1)) 89 18 0) 1177 0 (1170 + (iH h 89 30).toNat) 0 ((iH h 89 34).toNat)) 89 34)) 89 30 (iH (cpI (sI (sI h 89 40 (orI (iH h 89 40) 1)) 89 18 0) 1177 0 (1170 + (iH h 89 30).toNat) 0 ((iH h 89 34).toNat)) 89 30 + 1))) ∧ ((orI (iH h 89 40) 1) ≠ 0 → (-2147483648 ≤ ((-100) - iH h 89 36) ∧ ((-100) - iH h 89 36) < 2147483648) ∧ Q (some (vi ((-100) - iH h 89 36))) (sI (sI h 89 40 (orI (iH h 89 40) 1)) 89 18 0)))))) : wp mX12_query 41 rc rs Q 40 [some (vr 89)] [] h :=
  (show wp mX12_query 41 rc rs Q 40 [some (vr 89)] [] h from xIf k_X12_query_40 (And.intro rfl (And.intro (lm_89 hL) (And.intro (lm_89 hL) (And.intro (fun c1 => have v3 := hv.1 c1; (show wp mX12_query 41 rc rs Q 56 [some (vr 89)] [vi (iH h 89 40), vr 89] h from xIf k_X12_query_56 (And.intro (lm_89 hL) (have c5 := v3.1; have v22 := v3.2; (And.intro c5 (And.intro (lm_89 hL) (And.intro (lm_89 hL) (And.intro (fun c6 => have v8 := v22.1 c6; (show wp mX12_query 41 rc rs Q 81 [some (vr 89)] [] (sI (sI h 89 40 (orI (iH h 89 40) 0)) 89 18 0) from xcp k_X12_query_81 s_X12_query_100 (And.intro (lm_89 hL) (Exists.intro 1177 (And.intro (lf_89_33 hL) (And.intro (lm_89 hL) (Exists.intro 1169 (And.intro (lf_89_31 hL) (And.intro (lm_89 hL) (have c10 := v8.1; have v19 := v8.2; (And.intro (sdQ (lm_1169 hL) c10) (Exists.intro (1170 + (iH h 89 30).toNat) (And.intro (lr_marks hL (tnl c10)) (And.intro (lm_89 hL) (have c17 := v19.1; have v18 := v19.2; Exists.intro _ (Exists.intro _ (Exists.intro 13 (And.intro (lm_1177 hL) (And.intro (lk_marks hL (tnl c10)) (And.intro (Or.inl rfl) (And.intro c17 (And.intro (And.intro (Nat.le_of_ble_eq_true rfl) (Nat.le_of_ble_eq_true rfl)) (show wp mX12_query 41 rc rs Q 103 [some (vr 89)] [] (cpI (sI (sI h 89 40 (orI (iH h 89 40) 0)) 89 18 0) 1177 0 (1170 + (iH h 89 30).toNat) 0 ((iH h 89 34).toNat)) from xI k_X12_query_103 (And.intro (lm_89 hL) (Exists.intro 1176 (And.intro (lf_89_32 hL) (And.intro (lm_89 hL) (And.intro (lm_89 hL) (have c11 := v18.1; have v16 := v18.2; (And.intro (sdI (lm_1176 hL) c11) (And.intro rfl (And.intro (lm_89 hL) (have c12 := v16.1; have v15 := v16.2; (And.intro c12 (And.intro (lm_89 hL) (And.intro (lm_89 hL) (have c13 := v15.1; have v14 := v15.2; (And.intro c13 (And.intro rfl v14))))))))))))))))))))))))))))))))))))))) (fun c7 => have v9 := v22.2 c7; (show wp mX12_query 41 rc rs Q 73 [some (vr 89)] [] (sI (sI h 89 40 (orI (iH h 89 40) 0)) 89 18 0) from xI k_X12_query_73 (And.intro (lm_89 hL) (have c20 := v9.1; have v21 := v9.2; (And.intro c20 (And.intro rfl v21)))))))))))))) (fun c2 => have v4 := hv.2 c2; (show wp mX12_query 41 rc rs Q 52 [some (vr 89)] [vi (iH h 89 40), vr 89] h from xGo k_X12_query_52 (show wp mX12_query 41 rc rs Q 57 [some (vr 89)] [vi 1, vi (iH h 89 40), vr 89] h from xIf k_X12_query_57 (And.intro (lm_89 hL) (have c23 := v4.1; have v40 := v4.2; (And.intro c23 (And.intro (lm_89 hL) (And.intro (lm_89 hL) (And.intro (fun c24 => have v26 := v40.1 c24; (show wp mX12_query 41 rc rs Q 81 [some (vr 89)] [] (sI (sI h 89 40 (orI (iH h 89 40) 1)) 89 18 0) from xcp k_X12_query_81 s_X12_query_100 (And.intro (lm_89 hL) (Exists.intro 1177 (And.intro (lf_89_33 hL) (And.intro (lm_89 hL) (Exists.intro 1169 (And.intro (lf_89_31 hL) (And.intro (lm_89 hL) (have c28 := v26.1; have v37 := v26.2; (And.intro (sdQ (lm_1169 hL) c28) (Exists.intro (1170 + (iH h 89 30).toNat) (And.intro (lr_marks hL (tnl c28)) (And.intro (lm_89 hL) (have c35 := v37.1; have v36 := v37.2; Exists.intro _ (Exists.intro _ (Exists.intro 13 (And.intro (lm_1177 hL) (And.intro (lk_marks hL (tnl c28)) (And.intro (Or.inl rfl) (And.intro c35 (And.intro (And.intro (Nat.le_of_ble_eq_true rfl) (Nat.le_of_ble_eq_true rfl)) (show wp mX12_query 41 rc rs Q 103 [some (vr 89)] [] (cpI (sI (sI h 89 40 (orI (iH h 89 40) 1)) 89 18 0) 1177 0 (1170 + (iH h 89 30).toNat) 0 ((iH h 89 34).toNat)) from xI k_X12_query_103 (And.intro (lm_89 hL) (Exists.intro 1176 (And.intro (lf_89_32 hL) (And.intro (lm_89 hL) (And.intro (lm_89 hL) (have c29 := v36.1; have v34 := v36.2; (And.intro (sdI (lm_1176 hL) c29) (And.intro rfl (And.intro (lm_89 hL) (have c30 := v34.1; have v33 := v34.2; (And.intro c30 (And.intro (lm_89 hL) (And.intro (lm_89 hL) (have c31 := v33.1; have v32 := v33.2; (And.intro c31 (And.intro rfl v32))))))))))))))))))))))))))))))))))))))) (fun c25 => have v27 := v40.2 c25; (show wp mX12_query 41 rc rs Q 73 [some (vr 89)] [] (sI (sI h 89 40 (orI (iH h 89 40) 1)) 89 18 0) from xI k_X12_query_73 (And.intro (lm_89 hL) (have c38 := v27.1; have v39 := v27.2; (And.intro c38 (And.intro rfl v39))))))))))))))))))))
theorem orI_q : orI 0 0 = 0 ∧ orI 0 1 = 1 ∧ orI 1 0 = 1 ∧ orI 1 1 = 1 := by decide +kernel
def m_qry (h : AH) (F mk : Nat → Int) (q len : Nat) : AH := sI (sI (cpI (sI (hP h F mk) 89 18 0) 1177 0 (1170 + q) 0 len) 1176 q len) 89 30 ((q : Int) + 1)
def p_query (h : AH) (x : Int) (h' : AH) : Prop := (iH h 89 30 = 6 ∧ x = -4 ∧ h' = h) ∨ (iH h 89 30 ≠ 6 ∧ ((∃ e : Nat, q_all h = .inl e ∧ x = -100 - (e : Int) ∧ ∃ F mk, h' = sI (hP h F mk) 89 18 0) ∨ (∃ (p : Nat) (o : qL), q_all h = .inr (p, o) ∧ x = iH h 89 30 ∧ ∃ F mk, (∀ i, i < o.flatten.length → mk i = o.flatten.getD i 0) ∧ h' = m_qry h F mk (iH h 89 30).toNat o.flatten.length)))
theorem pG_t {h h' : AH} {op : Int} {p : Nat} {l : List Int} (g : pG h op p l h') : iH h' 89 37 = 0 ↔ q_k h p = 0 := by
  obtain ⟨F, mk, rfl, g40, g35, g36, g1, g2, g3, g39, gr⟩ := g
  rw [hP_F (by omega)]
  rcases g3 with ⟨a, b⟩ | ⟨a, b, c⟩ | ⟨a, b, c⟩ | ⟨a, b, c⟩ <;> constructor <;> intro q <;> omega
theorem bd_inr {s : qS} {f : Nat → qL → qS} {p : Nat} {o : qL} (h : s = .inr (p, o)) : q_bd s f = f p o := by rw [h]; rfl
theorem bd_inl {s : qS} {f : Nat → qL → qS} {e : Nat} (h : s = .inl e) : q_bd s f = .inl e := by rw [h]; rfl
theorem q_tG {h : AH} (hL : LayM h) {F mk : Nat → Int} (e37 : F 37 = 0) (e40 : F 40 = 0) {len q : Nat} (e34 : F 34 = len) (hl : len ≤ 128) (hq : iH h 89 30 = q) (hq6 : q < 6) {Q : Option AV → AH → Prop} (k : Q (some (vi (q : Int))) (m_qry h (updF F 40 0) mk q len)) : wp mX12_query 41 0 0 Q 40 [some (vr 89)] [] (hP h F mk) := by
  have hL2 : LayM (hP h F mk) := hL
  have f37 : iH (hP h F mk) 89 37 = F 37 := hP_F (by omega)
  have f40 : iH (hP h F mk) 89 40 = F 40 := hP_F (by omega)
  have f30 : iH (hP h F mk) 89 30 = q := (hP_n (by omega)).trans hq
  have f34 : iH (hP h F mk) 89 34 = len := (hP_F (by omega)).trans e34
  have es : sI (hP h F mk) 89 40 0 = hP h (updF F 40 0) mk := hP_s (by omega)
  have g30 : iH (hP h (updF F 40 0) mk) 89 30 = q := (hP_n (by omega)).trans hq
  have g34 : iH (hP h (updF F 40 0) mk) 89 34 = len := by rw [hP_F (by omega)]; simp [updF, e34]
  have c30 : ∀ (n : Nat), iH (cpI (sI (hP h (updF F 40 0) mk) 89 18 0) 1177 0 (1170 + q) 0 n) 89 30 = q := fun n => by
    unfold cpI; rw [rW_ne (by omega), rI_nk (by omega)]; exact g30
  have c34 : ∀ (n : Nat), iH (cpI (sI (hP h (updF F 40 0) mk) 89 18 0) 1177 0 (1170 + q) 0 n) 89 34 = len := fun n => by
    unfold cpI; rw [rW_ne (by omega), rI_nk (by omega)]; exact g34
  refine t_X12_query_40 hL2 ?_
  rw [f37, f40, f30, f34, e40, orI_q.1, es, Int.toNat_natCast, Int.toNat_natCast, c30, c34, Int.toNat_natCast, e37]
  refine ⟨fun _ => ⟨Or.inl rfl, fun _ => ⟨by omega, by omega, by omega, by omega, by omega, ?_⟩, fun c => absurd rfl c⟩, fun c => absurd rfl c⟩
  rw [show (q : Int) + 1 - 1 = q by omega]
  exact k
theorem q_tE {h : AH} (hL : LayM h) {F mk : Nat → Int} (e : F 40 = 1 ∨ (F 40 = 0 ∧ F 37 ≠ 0)) {b : Nat} (e36 : F 36 = b) (hb : b ≤ 64) {Q : Option AV → AH → Prop} (k : ∀ F mk, Q (some (vi (-100 - (b : Int)))) (sI (hP h F mk) 89 18 0)) : wp mX12_query 41 0 0 Q 40 [some (vr 89)] [] (hP h F mk) := by
  have hL2 : LayM (hP h F mk) := hL
  have f37 : iH (hP h F mk) 89 37 = F 37 := hP_F (by omega)
  have f40 : iH (hP h F mk) 89 40 = F 40 := hP_F (by omega)
  have f36 : iH (hP h F mk) 89 36 = b := (hP_F (by omega)).trans e36
  have es : ∀ v, sI (hP h F mk) 89 40 v = hP h (updF F 40 v) mk := fun v => hP_s (by omega)
  refine t_X12_query_40 hL2 ?_
  rw [f37, f40, f36]
  have o1 : F 40 = 1 → orI (F 40) 0 = 1 := fun c => by rw [c]; exact orI_q.2.2.1
  have o2 : orI (F 40) 1 = 1 := by
    rcases e with c | ⟨c, -⟩
    · rw [c]; exact orI_q.2.2.2
    · rw [c]; exact orI_q.2.1
  refine ⟨fun c => ?_, fun c => ?_⟩
  · have o := o1 (by omega)
    rw [o]
    refine ⟨Or.inr rfl, fun c => absurd c (by omega), fun _ => ⟨by omega, ?_⟩⟩
    rw [es]
    exact k _ _
  · rw [o2]
    refine ⟨Or.inr rfl, fun c => absurd c (by omega), fun _ => ⟨by omega, ?_⟩⟩
    rw [es]
    exact k _ _
theorem c_query {h : AH} (hL : LayM h) (ht : q_tp h) (hy : ∀ k, k < d_n h → 0 ≤ iH h 1157 k) (hq : 0 ≤ iH h 89 30 ∧ iH h 89 30 ≤ 6) : Ct 41 0 0 mX12_query [vr 89] h (QI (p_query h)) := by
  refine e_X12_query hL ⟨fun c => ?_, fun c => ⟨_, rfl, Or.inl ⟨c, rfl, rfl⟩⟩⟩
  have hA := q_all_P ht
  have hn : d_n h ≤ 64 := by have := ht.2; unfold d_n; omega
  obtain ⟨n, hn1⟩ := Int.eq_ofNat_of_zero_le hq.1
  have e1 : sI (sI (sI (sI h 89 35 0) 89 39 0) 89 34 0) 89 40 0 = hP h (updF (updF (updF (updF (fun k => iH h 89 k) 35 0) 39 0) 34 0) 40 0) (fun k => iH h 1177 k) := by
    rw [← hP_s (by omega), ← hP_s (by omega), ← hP_s (by omega), ← hP_s (by omega), ← hP_id]
  rw [e1]
  refine ⟨_, c_next hL ht hy (p := 0) (fun _ => ⟨by simp [updF], Nat.zero_le _⟩), fun h5 q5 => ?_⟩
  have fE : ∀ {e : Nat} {h9 : AH}, q_all h = .inl e → pE h 0 e h9 → wp mX12_query 41 0 0 (QI (p_query h)) 40 [some (vr 89)] [] h9 := fun {e h9} ea g => by
    rw [ea] at hA
    have hA : e ≤ d_n h := hA
    obtain ⟨F, mk, rfl, g40, g36, -⟩ := g
    exact q_tE hL (Or.inl g40) g36 (by omega) (fun F mk => ⟨_, rfl, Or.inr ⟨c, Or.inl ⟨e, ea, rfl, F, mk, rfl⟩⟩⟩)
  have fG : ∀ {p : Nat} {o : qL} {h9 : AH}, q_all h = (if q_k h p = 0 then .inr (p, o) else .inl (q_b h p)) → pG h 0 p o.flatten h9 → wp mX12_query 41 0 0 (QI (p_query h)) 40 [some (vr 89)] [] h9 := fun {p o h9} ea g => by
    have gt := pG_t g
    obtain ⟨F, mk, rfl, g40, g35, g36, g1, g2, g3, g39, gr⟩ := g
    rw [hP_F (by omega)] at gt
    by_cases k0 : q_k h p = 0
    · rw [if_pos k0] at ea
      rw [ea] at hA
      have h97 : q_szL o ≤ 97 := hA.1
      have hfl := fl_len o
      exact q_tG hL (gt.mpr k0) g40 (len := o.flatten.length) gr.1 (by omega) hn1 (by omega) ⟨_, rfl, Or.inr ⟨c, Or.inr ⟨p, o, ea, hn1.symm, _, mk, gr.2, by rw [hn1]; rfl⟩⟩⟩
    · rw [if_neg k0] at ea
      have := q_b_le g1
      exact q_tE hL (Or.inr ⟨g40, fun q => k0 (gt.mp q)⟩) g36 (by omega) (fun F mk => ⟨_, rfl, Or.inr ⟨c, Or.inl ⟨_, ea, rfl, F, mk, rfl⟩⟩⟩)
  obtain ⟨F', rfl, q5⟩ := q5
  replace q5 := q5.elim (fun q => q.2) (fun q => absurd (show updF (updF (updF (updF (fun k => iH h 89 k) 35 0) 39 0) 34 0) 40 0 40 = 0 from rfl) q.1)
  obtain ⟨q1, q2, q3, q4⟩ := q5
  refine ⟨hL, 22, ?_⟩
  rcases q4 with ⟨k5, w⟩ | ⟨k5, w, w2, w3⟩
  · have ea : q_all h = .inl (q_b h 0) := by unfold q_all; rw [go_E k5]; rfl
    exact ⟨_, by omega, c_eitherE hL (by omega) (show pE h 0 (q_b h 0) _ from ⟨F', _, rfl, w, q3, by rw [q2]; simp [updF]⟩), fun h9 g => ⟨pE_L hL g, fE ea g⟩⟩
  · have g : pG h 0 0 ([] : qL).flatten (hP h F' fun k => iH h 1177 k) := ⟨F', _, rfl, w, w2, q3, Nat.zero_le _, k5, w3, by rw [q2]; simp [updF], by rw [q1]; simp [updF], fun i hi => absurd hi (Nat.not_lt_zero _)⟩
    refine ⟨_, by omega, c_eitherA hL ht hy 0 [] _ g (by simp [q_szL]), fun h9 g => ⟨pRt_L hL g, ?_⟩⟩
    have ea : q_all h = q_bd (q_ei h (q_one h 4) 0 []) fun p o => if q_k h p = 0 then .inr (p, o) else .inl (q_b h p) := by
      unfold q_all; rw [go_G k5]; rfl
    cases hs : q_ei h (q_one h 4) 0 [] with
    | inl e => rw [hs] at g ea; exact fE ea g
    | inr x => rw [hs] at g ea; exact fG (p := x.1) (o := x.2) ea g
/-- a new query is one that m_qok speaks of -/
theorem m_qok_new {h : AH} (ht : q_tp h) {p : Nat} {o : qL} (ea : q_all h = .inr (p, o)) {F mk : Nat → Int} {q : Nat} (hq : q < 6) (hm : ∀ i, i < o.flatten.length → mk i = o.flatten.getD i 0) : m_qok (m_qry h F mk q o.flatten.length) q ∧ q_ok (m_row (m_qry h F mk q o.flatten.length) q) o.flatten.length o.length := by
  have hA := q_all_P ht
  rw [ea] at hA
  have hA : q_szL o ≤ 97 ∧ q_wf 0 o 1 := hA
  have e1 : iH (m_qry h F mk q o.flatten.length) 1176 ((q : Int)).toNat = o.flatten.length := by
    unfold m_qry
    rw [rI_ne (by omega), Int.toNat_natCast, rI_same]
  have e2 : ∀ i, i < o.flatten.length → m_row (m_qry h F mk q o.flatten.length) q i = o.flatten.getD i 0 := fun i hi => by
    unfold m_row m_qry cpI
    rw [rI_ne (by omega), rI_ne (by omega), Int.toNat_natCast, rW_same, if_pos (by omega), rI_ne (by omega), Nat.sub_zero, Nat.zero_add, hP_m]
    exact hm i hi
  have h1 := q_ok_all e2 hA.1 hA.2
  exact ⟨⟨by omega, o.length, by rw [e1]; exact h1⟩, h1⟩
