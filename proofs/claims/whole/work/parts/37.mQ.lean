/-! THE REFERENCE: WHAT A SHEET TELLS; THE CHEAPEST WAY -/
def b_X12_otherwise_0 : List IE := [(.aload_n 0, 1, 0, 0, 0, 0), (.iload_n 2, 1, 0, 0, 2, 0), (.iload_n 3, 1, 0, 0, 3, 0)]
theorem k_X12_otherwise_0 : ckB mX12_otherwise 12 0 b_X12_otherwise_0 3 = true := by decide +kernel
def b_X12_otherwise_6 : List IE := [(.iconst 0, 1, 0, 0, 0, 0), (.istore 4, 2, 0, 0, 4, 0)]
theorem k_X12_otherwise_6 : ckB mX12_otherwise 12 6 b_X12_otherwise_6 9 = true := by decide +kernel
def b_X12_otherwise_9 : List IE := [(.iload 4, 2, 0, 0, 4, 0), (.aload_n 0, 1, 0, 0, 0, 0), (.getfield 97, 3, 0, 12, 51, 1), (.iload_n 1, 1, 0, 0, 1, 0), (.iaload, 1, 0, 0, 0, 0)]
theorem k_X12_otherwise_9 : ckIc mX12_otherwise 12 9 b_X12_otherwise_9 17 3 45 62 20 = true := by decide +kernel
def b_X12_otherwise_20 : List IE := [(.iload 4, 2, 0, 0, 4, 0), (.aload_n 0, 1, 0, 0, 0, 0), (.getfield 367, 3, 0, 12, 42, 0)]
theorem k_X12_otherwise_20 : ckIc mX12_otherwise 12 20 b_X12_otherwise_20 26 3 27 53 29 = true := by decide +kernel
def b_X12_otherwise_29 : List IE := [(.aload_n 0, 1, 0, 0, 0, 0), (.getfield 9, 3, 0, 12, 1, 1), (.aload_n 0, 1, 0, 0, 0, 0), (.getfield 82, 3, 0, 12, 44, 1), (.iload 4, 2, 0, 0, 4, 0), (.iaload, 1, 0, 0, 0, 0), (.iaload, 1, 0, 0, 0, 0), (.aload_n 0, 1, 0, 0, 0, 0), (.getfield 100, 3, 0, 12, 52, 1), (.iload_n 1, 1, 0, 0, 1, 0), (.aaload, 1, 0, 0, 0, 0), (.iload 4, 2, 0, 0, 4, 0), (.iaload, 1, 0, 0, 0, 0)]
theorem k_X12_otherwise_29 : ckIc mX12_otherwise 12 29 b_X12_otherwise_29 50 0 6 56 53 = true := by decide +kernel
def b_X12_otherwise_53 : List IE := [(.iload 4, 2, 0, 0, 4, 0)]
theorem k_X12_otherwise_53 : ckI mX12_otherwise 12 53 b_X12_otherwise_53 55 = true := by decide +kernel
def b_X12_otherwise_56 : List IE := [(.iinc 4 1, 3, 1, 0, 4, 0)]
theorem k_X12_otherwise_56 : ckGo mX12_otherwise 12 56 b_X12_otherwise_56 59 (-50) 9 = true := by decide +kernel
def b_X12_otherwise_62 : List IE := [(.aload_n 0, 1, 0, 0, 0, 0), (.getfield 367, 3, 0, 12, 42, 0), (.aload_n 0, 1, 0, 0, 0, 0), (.getfield 97, 3, 0, 12, 51, 1), (.iload_n 1, 1, 0, 0, 1, 0), (.iaload, 1, 0, 0, 0, 0)]
theorem k_X12_otherwise_62 : ckIc mX12_otherwise 12 62 b_X12_otherwise_62 72 5 12 84 75 = true := by decide +kernel
def b_X12_otherwise_75 : List IE := [(.aload_n 0, 1, 0, 0, 0, 0), (.getfield 97, 3, 0, 12, 51, 1), (.iload_n 1, 1, 0, 0, 1, 0), (.iaload, 1, 0, 0, 0, 0)]
theorem k_X12_otherwise_75 : ckGo mX12_otherwise 12 75 b_X12_otherwise_75 81 4 85 = true := by decide +kernel
def b_X12_otherwise_84 : List IE := [(.iconst (-1), 1, (-1), 0, 0, 0)]
theorem k_X12_otherwise_84 : ckI mX12_otherwise 12 84 b_X12_otherwise_84 85 = true := by decide +kernel
def b_X12_otherwise_85 : List IE := []
theorem k_X12_otherwise_85 : ckI mX12_otherwise 12 85 b_X12_otherwise_85 85 = true := by decide +kernel
theorem s_X12_otherwise_3 : cV mX12_otherwise 3 mX12_find 382 2 12 := ⟨by decide +kernel, ⟨ml_X12_find, li_RX12_382, im_X12_find, se_X12_find⟩, ⟨by decide +kernel, by decide +kernel⟩, by decide +kernel⟩
theorem t_X12_otherwise_0 {rc rs : Nat} {Q : Option AV → AH → Prop} {h : AH} {x1 x2 x3 : Int} (hL : LayM h) (hv : (∃ P3 : AH → Prop, Ct 4 0 0 mX12_find [vr 89, vi x2, vi x3] h (QV P3) ∧ ∀ h1 : AH, P3 h1 → LayM h1 ∧ wp mX12_otherwise 5 rc rs Q 9 [some (vr 89), some (vi x1), none, none, some (vi 0)] [] h1)) : wp mX12_otherwise 5 rc rs Q 0 [some (vr 89), some (vi x1), some (vi x2), some (vi x3), none] [] h :=
  (show wp mX12_otherwise 5 rc rs Q 0 [some (vr 89), some (vi x1), some (vi x2), some (vi x3), none] [] h from xcV k_X12_otherwise_0 s_X12_otherwise_3 (Exists.elim hv (fun P3 v4 => (Exists.intro [vi x2, vi x3] (Exists.intro 89 (Exists.intro [] (And.intro (And.intro rfl (And.intro rfl (Nat.le_of_ble_eq_true rfl))) (And.intro (lm_89 hL) (Exists.intro 4 (Exists.intro 0 (Exists.intro 0 (Exists.intro (QV P3) (And.intro v4.1 (And.intro (And.intro (by decide) (And.intro (Nat.zero_le _) (Nat.zero_le _))) (eQV (fun h1 e6 => have v5 := v4.2 h1 e6; have hL := v5.1; have v5 := v5.2; (show wp mX12_otherwise 5 rc rs Q 6 [some (vr 89), some (vi x1), some (vi x2), some (vi x3), none] [] h1 from xB k_X12_otherwise_6 (And.intro rfl (w_fg [true, true, false, false, true] v5)))))))))))))))))))
theorem e_X12_otherwise {mc ms : Nat} {Q : Option AV → AH → Prop} {h : AH} {x1 x2 x3 : Int} (hL : LayM h) (hv : (∃ P3 : AH → Prop, Ct 4 0 0 mX12_find [vr 89, vi x2, vi x3] h (QV P3) ∧ ∀ h1 : AH, P3 h1 → LayM h1 ∧ wp mX12_otherwise 5 mc ms Q 9 [some (vr 89), some (vi x1), none, none, some (vi 0)] [] h1)) : Ct 5 mc ms mX12_otherwise [vr 89, vi x1, vi x2, vi x3] h Q := Ct.of (by decide +kernel) (Nat.le_of_ble_eq_true rfl) (t_X12_otherwise_0 hL hv)
theorem t_X12_otherwise_9 {rc rs : Nat} {Q : Option AV → AH → Prop} {h : AH} {x1 x4 : Int} (hL : LayM h) (hv : (0 ≤ x1 ∧ x1 < 4) ∧ (((iH h 1184 x1.toNat) ≤ x4 → (((iH h 89 42) ≤ (iH h 1184 x1.toNat) → Q (some (vi (-1))) h) ∧ ((iH h 1184 x1.toNat) < (iH h 89 42) → Q (some (vi (iH h 1184 x1.toNat))) h))) ∧ (x4 < (iH h 1184 x1.toNat) → (((iH h 89 42) ≤ x4 → Q (some (vi x4)) h) ∧ (x4 < (iH h 89 42) → (0 ≤ x4 ∧ x4 < 64) ∧ (0 ≤ iH h 1179 x4.toNat ∧ iH h 1179 x4.toNat < 520) ∧ (0 ≤ x4 ∧ x4 < 40) ∧ (((iH h 90 ((iH h 1179 x4.toNat).toNat)) = (iH h (1186 + x1.toNat) x4.toNat) → (-2147483648 ≤ (x4 + 1) ∧ (x4 + 1) < 2147483648) ∧ wp mX12_otherwise 5 rc rs Q 9 [some (vr 89), some (vi x1), none, none, some (vi (x4 + 1))] [] h) ∧ ((iH h 90 ((iH h 1179 x4.toNat).toNat)) ≠ (iH h (1186 + x1.toNat) x4.toNat) → Q (some (vi x4)) h))))))) : wp mX12_otherwise 5 rc rs Q 9 [some (vr 89), some (vi x1), none, none, some (vi x4)] [] h :=
  (show wp mX12_otherwise 5 rc rs Q 9 [some (vr 89), some (vi x1), none, none, some (vi x4)] [] h from xIc k_X12_otherwise_9 (And.intro (lm_89 hL) (Exists.intro 1184 (And.intro (lf_89_51 hL) (have c1 := hv.1; have v29 := hv.2; (And.intro (sdI (lm_1184 hL) c1) (And.intro (fun c2 => have v4 := v29.1 c2; (show wp mX12_otherwise 5 rc rs Q 62 [some (vr 89), some (vi x1), none, none, some (vi x4)] [] h from xIc k_X12_otherwise_62 (And.intro (lm_89 hL) (And.intro (lm_89 hL) (Exists.intro 1184 (And.intro (lf_89_51 hL) (And.intro (sdI (lm_1184 hL) c1) (And.intro (fun c7 => have v9 := v4.1 c7; (show wp mX12_otherwise 5 rc rs Q 84 [some (vr 89), some (vi x1), none, none, some (vi x4)] [] h from xI k_X12_otherwise_84 (And.intro rfl v9))) (fun c8 => have v10 := v4.2 (Int.not_le.mp c8); (show wp mX12_otherwise 5 rc rs Q 75 [some (vr 89), some (vi x1), none, none, some (vi x4)] [] h from xGo k_X12_otherwise_75 (And.intro (lm_89 hL) (Exists.intro 1184 (And.intro (lf_89_51 hL) (And.intro (sdI (lm_1184 hL) c1) (show wp mX12_otherwise 5 rc rs Q 85 [some (vr 89), some (vi x1), none, none, some (vi x4)] [vi (iH h 1184 x1.toNat)] h from xI k_X12_otherwise_85 (And.intro rfl v10)))))))))))))))) (fun c3 => have v5 := v29.2 (Int.not_le.mp c3); (show wp mX12_otherwise 5 rc rs Q 20 [some (vr 89), some (vi x1), none, none, some (vi x4)] [] h from xIc k_X12_otherwise_20 (And.intro (lm_89 hL) (And.intro (fun c12 => have v14 := v5.1 c12; (show wp mX12_otherwise 5 rc rs Q 53 [some (vr 89), some (vi x1), none, none, some (vi x4)] [] h from xI k_X12_otherwise_53 (And.intro rfl v14))) (fun c13 => have v15 := v5.2 (Int.not_le.mp c13); (show wp mX12_otherwise 5 rc rs Q 29 [some (vr 89), some (vi x1), none, none, some (vi x4)] [] h from xIc k_X12_otherwise_29 (And.intro (lm_89 hL) (Exists.intro 90 (And.intro (lf_89_1 hL) (And.intro (lm_89 hL) (Exists.intro 1179 (And.intro (lf_89_44 hL) (have c16 := v15.1; have v28 := v15.2; (And.intro (sdI (lm_1179 hL) c16) (have c17 := v28.1; have v27 := v28.2; (And.intro (sdI (lm_90 hL) c17) (And.intro (lm_89 hL) (Exists.intro 1185 (And.intro (lf_89_52 hL) (And.intro (sdQ (lm_1185 hL) c1) (Exists.intro (1186 + x1.toNat) (And.intro (lr_items hL (tnl c1)) (have c19 := v27.1; have v26 := v27.2; (And.intro (sdI (lk_items hL (tnl c1)) c19) (And.intro (fun c20 => have v22 := v26.1 c20; (show wp mX12_otherwise 5 rc rs Q 56 [some (vr 89), some (vi x1), none, none, some (vi x4)] [] h from xGo k_X12_otherwise_56 (have c24 := v22.1; have v25 := v22.2; (And.intro c24 (And.intro rfl v25))))) (fun c21 => have v23 := v26.2 c21; (show wp mX12_otherwise 5 rc rs Q 53 [some (vr 89), some (vi x1), none, none, some (vi x4)] [] h from xI k_X12_otherwise_53 (And.intro rfl v23)))))))))))))))))))))))))))))))))))
def b_X12_film_0 : List IE := [(.iload_n 1, 1, 0, 0, 1, 0)]
theorem k_X12_film_0 : ckB mX12_film 12 0 b_X12_film_0 1 = true := by decide +kernel
def b_X12_film_4 : List IE := []
theorem k_X12_film_4 : ckIf mX12_film 12 4 b_X12_film_4 4 0 18 22 7 = true := by decide +kernel
def b_X12_film_7 : List IE := [(.iload_n 2, 1, 0, 0, 2, 0)]
theorem k_X12_film_7 : ckB mX12_film 12 7 b_X12_film_7 8 = true := by decide +kernel
def b_X12_film_11 : List IE := []
theorem k_X12_film_11 : ckIf mX12_film 12 11 b_X12_film_11 11 0 11 22 14 = true := by decide +kernel
def b_X12_film_14 : List IE := [(.aload_n 0, 1, 0, 0, 0, 0), (.iload_n 3, 1, 0, 0, 3, 0)]
theorem k_X12_film_14 : ckB mX12_film 12 14 b_X12_film_14 16 = true := by decide +kernel
def b_X12_film_19 : List IE := []
theorem k_X12_film_19 : ckIf mX12_film 12 19 b_X12_film_19 19 1 6 25 22 = true := by decide +kernel
def b_X12_film_22 : List IE := [(.bipush (-2), 2, (-2), 0, 0, 0)]
theorem k_X12_film_22 : ckI mX12_film 12 22 b_X12_film_22 24 = true := by decide +kernel
def b_X12_film_25 : List IE := [(.aload_n 0, 1, 0, 0, 0, 0), (.getfield 34, 3, 0, 12, 9, 1), (.iload_n 2, 1, 0, 0, 2, 0), (.baload, 1, 0, 0, 0, 0)]
theorem k_X12_film_25 : ckIf mX12_film 12 25 b_X12_film_25 31 1 6 37 34 = true := by decide +kernel
def b_X12_film_34 : List IE := [(.bipush (-3), 2, (-3), 0, 0, 0)]
theorem k_X12_film_34 : ckI mX12_film 12 34 b_X12_film_34 36 = true := by decide +kernel
def b_X12_film_37 : List IE := [(.aload_n 0, 1, 0, 0, 0, 0), (.iload_n 2, 1, 0, 0, 2, 0), (.iload_n 3, 1, 0, 0, 3, 0)]
theorem k_X12_film_37 : ckB mX12_film 12 37 b_X12_film_37 40 = true := by decide +kernel
def b_X12_film_43 : List IE := [(.aload_n 0, 1, 0, 0, 0, 0), (.getfield 94, 3, 0, 12, 50, 1), (.iload_n 1, 1, 0, 0, 1, 0), (.iconst 0, 1, 0, 0, 0, 0), (.iastore, 1, 0, 0, 0, 0), (.aload_n 0, 1, 0, 0, 0, 0), (.getfield 97, 3, 0, 12, 51, 1), (.iload_n 1, 1, 0, 0, 1, 0), (.bipush 40, 2, 40, 0, 0, 0), (.aload_n 0, 1, 0, 0, 0, 0), (.getfield 367, 3, 0, 12, 42, 0)]
theorem k_X12_film_43 : ckB mX12_film 12 43 b_X12_film_43 61 = true := by decide +kernel
def b_X12_film_64 : List IE := [(.iastore, 1, 0, 0, 0, 0), (.iconst 0, 1, 0, 0, 0, 0), (.istore 4, 2, 0, 0, 4, 0)]
theorem k_X12_film_64 : ckB mX12_film 12 64 b_X12_film_64 68 = true := by decide +kernel
def b_X12_film_68 : List IE := [(.iload 4, 2, 0, 0, 4, 0), (.aload_n 0, 1, 0, 0, 0, 0), (.getfield 97, 3, 0, 12, 51, 1), (.iload_n 1, 1, 0, 0, 1, 0), (.iaload, 1, 0, 0, 0, 0)]
theorem k_X12_film_68 : ckIc mX12_film 12 68 b_X12_film_68 76 3 30 106 79 = true := by decide +kernel
def b_X12_film_79 : List IE := [(.aload_n 0, 1, 0, 0, 0, 0), (.getfield 100, 3, 0, 12, 52, 1), (.iload_n 1, 1, 0, 0, 1, 0), (.aaload, 1, 0, 0, 0, 0), (.iload 4, 2, 0, 0, 4, 0), (.aload_n 0, 1, 0, 0, 0, 0), (.getfield 9, 3, 0, 12, 1, 1), (.aload_n 0, 1, 0, 0, 0, 0), (.getfield 82, 3, 0, 12, 44, 1), (.iload 4, 2, 0, 0, 4, 0), (.iaload, 1, 0, 0, 0, 0), (.iaload, 1, 0, 0, 0, 0), (.iastore, 1, 0, 0, 0, 0), (.iinc 4 1, 3, 1, 0, 4, 0)]
theorem k_X12_film_79 : ckGo mX12_film 12 79 b_X12_film_79 103 (-35) 68 = true := by decide +kernel
def b_X12_film_106 : List IE := [(.aload_n 0, 1, 0, 0, 0, 0), (.getfield 97, 3, 0, 12, 51, 1), (.iload_n 1, 1, 0, 0, 1, 0), (.iaload, 1, 0, 0, 0, 0)]
theorem k_X12_film_106 : ckI mX12_film 12 106 b_X12_film_106 112 = true := by decide +kernel
theorem s_X12_film_1 : cS mX12_film 1 mX12_isSheet 407 1 := ⟨by decide +kernel, ⟨ml_X12_isSheet, li_RX12_407, st_X12_isSheet⟩, by decide +kernel⟩
theorem s_X12_film_8 : cS mX12_film 8 mX12_isView 263 1 := ⟨by decide +kernel, ⟨ml_X12_isView, li_RX12_263, st_X12_isView⟩, by decide +kernel⟩
theorem s_X12_film_16 : cV mX12_film 16 mX12_isQuery 385 1 12 := ⟨by decide +kernel, ⟨ml_X12_isQuery, li_RX12_385, im_X12_isQuery, se_X12_isQuery⟩, ⟨by decide +kernel, by decide +kernel⟩, by decide +kernel⟩
theorem s_X12_film_40 : cV mX12_film 40 mX12_find 382 2 12 := ⟨by decide +kernel, ⟨ml_X12_find, li_RX12_382, im_X12_find, se_X12_find⟩, ⟨by decide +kernel, by decide +kernel⟩, by decide +kernel⟩
theorem s_X12_film_61 : cMx mX12_film 61 358 Lib.Math.min.name Lib.Math.min.code 2 := ⟨by decide +kernel, gt_ok (List.mem_of_getElem? (i := 1508) (by decide +kernel)) (by decide +kernel), gt_ok (List.mem_of_getElem? (i := 505) (by decide +kernel)) (by decide +kernel), gt_ok (List.mem_of_getElem? (i := 103) (by decide +kernel)) (by decide +kernel), gt_ok (List.mem_of_getElem? (i := 506) (by decide +kernel)) (by decide +kernel)⟩
theorem t_X12_film_0 {rc rs : Nat} {Q : Option AV → AH → Prop} {h : AH} {x1 x2 x3 : Int} (hL : LayM h) (hv : ((¬ (0 ≤ x1 ∧ x1 ≤ 3) → Q (some (vi (-2))) h) ∧ ((0 ≤ x1 ∧ x1 ≤ 3) → ((¬ (0 ≤ x2 ∧ x2 ≤ 3) → Q (some (vi (-2))) h) ∧ ((0 ≤ x2 ∧ x2 ≤ 3) → (0 ≤ iH h 89 30 ∧ iH h 89 30 ≤ 6) ∧ (((0 ≤ x3 ∧ x3 ≤ (iH h 89 30 - 1)) → (0 ≤ x2 ∧ x2 < 7) ∧ (((iH h 1137 x2.toNat) ≠ 0 → (∃ P20 : AH → Prop, Ct 4 0 0 mX12_find [vr 89, vi x2, vi x3] h (QV P20) ∧ ∀ h18 : AH, P20 h18 → LayM h18 ∧ (0 ≤ x1 ∧ x1 < 4) ∧ wp mX12_film 5 rc rs Q 68 [some (vr 89), some (vi x1), none, none, some (vi 0)] [] (sI (sI h18 1183 x1.toNat 0) 1184 x1.toNat (min 40 (iH h18 89 42))))) ∧ ((iH h 1137 x2.toNat) = 0 → Q (some (vi (-3))) h))) ∧ (¬ (0 ≤ x3 ∧ x3 ≤ (iH h 89 30 - 1)) → Q (some (vi (-2))) h))))))) : wp mX12_film 5 rc rs Q 0 [some (vr 89), some (vi x1), some (vi x2), some (vi x3), none] [] h :=
  (show wp mX12_film 5 rc rs Q 0 [some (vr 89), some (vi x1), some (vi x2), some (vi x3), none] [] h from xcS k_X12_film_0 s_X12_film_1 ((Exists.intro [vi x1] (Exists.intro [] (And.intro (And.intro rfl (And.intro rfl (Nat.le_of_ble_eq_true rfl))) (Exists.intro 1 (Exists.intro 0 (Exists.intro 0 (Exists.intro _ (And.intro c_isSheet (And.intro (And.intro (by decide) (And.intro (Nat.zero_le _) (Nat.zero_le _))) (eQP (show wp mX12_film 5 rc rs Q 4 [some (vr 89), some (vi x1), some (vi x2), some (vi x3), none] [vi (b01 (0 ≤ x1 ∧ x1 ≤ 3))] h from xIf k_X12_film_4 (And.intro (fun c1 => have v3 := hv.1 (b01_n.mp c1); (show wp mX12_film 5 rc rs Q 22 [some (vr 89), some (vi x1), some (vi x2), some (vi x3), none] [] h from xI k_X12_film_22 (And.intro rfl v3))) (fun c2 => have v4 := hv.2 (b01_p.mp c2); (show wp mX12_film 5 rc rs Q 7 [some (vr 89), some (vi x1), some (vi x2), some (vi x3), none] [] h from xcS k_X12_film_7 s_X12_film_8 ((Exists.intro [vi x2] (Exists.intro [] (And.intro (And.intro rfl (And.intro rfl (Nat.le_of_ble_eq_true rfl))) (Exists.intro 1 (Exists.intro 0 (Exists.intro 0 (Exists.intro _ (And.intro c_isView (And.intro (And.intro (by decide) (And.intro (Nat.zero_le _) (Nat.zero_le _))) (eQP (show wp mX12_film 5 rc rs Q 11 [some (vr 89), some (vi x1), some (vi x2), some (vi x3), none] [vi (b01 (0 ≤ x2 ∧ x2 ≤ 3))] h from xIf k_X12_film_11 (And.intro (fun c5 => have v7 := v4.1 (b01_n.mp c5); (show wp mX12_film 5 rc rs Q 22 [some (vr 89), some (vi x1), some (vi x2), some (vi x3), none] [] h from xI k_X12_film_22 (And.intro rfl v7))) (fun c6 => have v8 := v4.2 (b01_p.mp c6); (show wp mX12_film 5 rc rs Q 14 [some (vr 89), some (vi x1), some (vi x2), some (vi x3), none] [] h from xcV k_X12_film_14 s_X12_film_16 (have c29 := v8.1; have v30 := v8.2; (Exists.intro [vi x3] (Exists.intro 89 (Exists.intro [] (And.intro (And.intro rfl (And.intro rfl (Nat.le_of_ble_eq_true rfl))) (And.intro (lm_89 hL) (Exists.intro 1 (Exists.intro 0 (Exists.intro 0 (Exists.intro _ (And.intro (c_isQuery (h := h) hL c29) (And.intro (And.intro (by decide) (And.intro (Nat.zero_le _) (Nat.zero_le _))) (eQP (show wp mX12_film 5 rc rs Q 19 [some (vr 89), some (vi x1), some (vi x2), some (vi x3), none] [vi (b01 (0 ≤ x3 ∧ x3 ≤ (iH h 89 30 - 1)))] h from xIf k_X12_film_19 (And.intro (fun c9 => have v11 := v30.1 (b01_p.mp c9); (show wp mX12_film 5 rc rs Q 25 [some (vr 89), some (vi x1), some (vi x2), some (vi x3), none] [] h from xIf k_X12_film_25 (And.intro (lm_89 hL) (Exists.intro 1137 (And.intro (lf_89_9 hL) (have c13 := v11.1; have v28 := v11.2; (And.intro (sdZ (lm_1137 hL) c13) (And.intro (fun c14 => have v16 := v28.1 c14; (show wp mX12_film 5 rc rs Q 37 [some (vr 89), some (vi x1), some (vi x2), some (vi x3), none] [] h from xcV k_X12_film_37 s_X12_film_40 (Exists.elim v16 (fun P20 v24 => (Exists.intro [vi x2, vi x3] (Exists.intro 89 (Exists.intro [] (And.intro (And.intro rfl (And.intro rfl (Nat.le_of_ble_eq_true rfl))) (And.intro (lm_89 hL) (Exists.intro 4 (Exists.intro 0 (Exists.intro 0 (Exists.intro (QV P20) (And.intro v24.1 (And.intro (And.intro (by decide) (And.intro (Nat.zero_le _) (Nat.zero_le _))) (eQV (fun h18 e26 => have v25 := v24.2 h18 e26; have hL := v25.1; have v25 := v25.2; (show wp mX12_film 5 rc rs Q 43 [some (vr 89), some (vi x1), some (vi x2), some (vi x3), none] [] h18 from xMin k_X12_film_43 s_X12_film_61 (And.intro (lm_89 hL) (Exists.intro 1183 (And.intro (lf_89_50 hL) (have c21 := v25.1; have v23 := v25.2; (And.intro (sdI (lm_1183 hL) c21) (And.intro (lm_89 hL) (Exists.intro 1184 (And.intro (lf_89_51 hL) (And.intro (lm_89 hL) (And.intro (And.intro (Nat.le_of_ble_eq_true rfl) (Nat.le_of_ble_eq_true rfl)) (show wp mX12_film 5 rc rs Q 64 [some (vr 89), some (vi x1), some (vi x2), some (vi x3), none] [vi (min 40 (iH h18 89 42)), vi x1, vr 1184] (sI h18 1183 x1.toNat 0) from xB k_X12_film_64 (And.intro (sdI (lm_1184 hL) c21) (And.intro rfl (w_fg [true, true, false, false, true] v23)))))))))))))))))))))))))))))))) (fun c15 => have v17 := v28.2 (Decidable.not_not.mp c15); (show wp mX12_film 5 rc rs Q 34 [some (vr 89), some (vi x1), some (vi x2), some (vi x3), none] [] h from xI k_X12_film_34 (And.intro rfl v17))))))))))) (fun c10 => have v12 := v30.2 (b01_nn.mp c10); (show wp mX12_film 5 rc rs Q 22 [some (vr 89), some (vi x1), some (vi x2), some (vi x3), none] [] h from xI k_X12_film_22 (And.intro rfl v12)))))))))))))))))))))))))))))))))))))))))))))))))
theorem e_X12_film {mc ms : Nat} {Q : Option AV → AH → Prop} {h : AH} {x1 x2 x3 : Int} (hL : LayM h) (hv : ((¬ (0 ≤ x1 ∧ x1 ≤ 3) → Q (some (vi (-2))) h) ∧ ((0 ≤ x1 ∧ x1 ≤ 3) → ((¬ (0 ≤ x2 ∧ x2 ≤ 3) → Q (some (vi (-2))) h) ∧ ((0 ≤ x2 ∧ x2 ≤ 3) → (0 ≤ iH h 89 30 ∧ iH h 89 30 ≤ 6) ∧ (((0 ≤ x3 ∧ x3 ≤ (iH h 89 30 - 1)) → (0 ≤ x2 ∧ x2 < 7) ∧ (((iH h 1137 x2.toNat) ≠ 0 → (∃ P20 : AH → Prop, Ct 4 0 0 mX12_find [vr 89, vi x2, vi x3] h (QV P20) ∧ ∀ h18 : AH, P20 h18 → LayM h18 ∧ (0 ≤ x1 ∧ x1 < 4) ∧ wp mX12_film 5 mc ms Q 68 [some (vr 89), some (vi x1), none, none, some (vi 0)] [] (sI (sI h18 1183 x1.toNat 0) 1184 x1.toNat (min 40 (iH h18 89 42))))) ∧ ((iH h 1137 x2.toNat) = 0 → Q (some (vi (-3))) h))) ∧ (¬ (0 ≤ x3 ∧ x3 ≤ (iH h 89 30 - 1)) → Q (some (vi (-2))) h))))))) : Ct 5 mc ms mX12_film [vr 89, vi x1, vi x2, vi x3] h Q := Ct.of (by decide +kernel) (Nat.le_of_ble_eq_true rfl) (t_X12_film_0 hL hv)
theorem t_X12_film_68 {rc rs : Nat} {Q : Option AV → AH → Prop} {h : AH} {x1 x4 : Int} (hL : LayM h) (hv : (0 ≤ x1 ∧ x1 < 4) ∧ (((iH h 1184 x1.toNat) ≤ x4 → Q (some (vi (iH h 1184 x1.toNat))) h) ∧ (x4 < (iH h 1184 x1.toNat) → (0 ≤ x4 ∧ x4 < 64) ∧ (0 ≤ iH h 1179 x4.toNat ∧ iH h 1179 x4.toNat < 520) ∧ (0 ≤ x4 ∧ x4 < 40) ∧ (-2147483648 ≤ (x4 + 1) ∧ (x4 + 1) < 2147483648) ∧ wp mX12_film 5 rc rs Q 68 [some (vr 89), some (vi x1), none, none, some (vi (x4 + 1))] [] (sI h (1186 + x1.toNat) x4.toNat (iH h 90 ((iH h 1179 x4.toNat).toNat)))))) : wp mX12_film 5 rc rs Q 68 [some (vr 89), some (vi x1), none, none, some (vi x4)] [] h :=
  (show wp mX12_film 5 rc rs Q 68 [some (vr 89), some (vi x1), none, none, some (vi x4)] [] h from xIc k_X12_film_68 (And.intro (lm_89 hL) (Exists.intro 1184 (And.intro (lf_89_51 hL) (have c1 := hv.1; have v16 := hv.2; (And.intro (sdI (lm_1184 hL) c1) (And.intro (fun c2 => have v4 := v16.1 c2; (show wp mX12_film 5 rc rs Q 106 [some (vr 89), some (vi x1), none, none, some (vi x4)] [] h from xI k_X12_film_106 (And.intro (lm_89 hL) (Exists.intro 1184 (And.intro (lf_89_51 hL) (And.intro (sdI (lm_1184 hL) c1) (And.intro rfl v4))))))) (fun c3 => have v5 := v16.2 (Int.not_le.mp c3); (show wp mX12_film 5 rc rs Q 79 [some (vr 89), some (vi x1), none, none, some (vi x4)] [] h from xGo k_X12_film_79 (And.intro (lm_89 hL) (Exists.intro 1185 (And.intro (lf_89_52 hL) (And.intro (sdQ (lm_1185 hL) c1) (Exists.intro (1186 + x1.toNat) (And.intro (lr_items hL (tnl c1)) (And.intro (lm_89 hL) (Exists.intro 90 (And.intro (lf_89_1 hL) (And.intro (lm_89 hL) (Exists.intro 1179 (And.intro (lf_89_44 hL) (have c8 := v5.1; have v15 := v5.2; (And.intro (sdI (lm_1179 hL) c8) (have c9 := v15.1; have v14 := v15.2; (And.intro (sdI (lm_90 hL) c9) (have c10 := v14.1; have v13 := v14.2; (And.intro (sdI (lk_items hL (tnl c1)) c10) (have c11 := v13.1; have v12 := v13.2; (And.intro c11 (And.intro rfl v12))))))))))))))))))))))))))))))
def m_othP (h : AH) (S : FS) (s k : Nat) : Prop := S.1 ≤ k ∨ iH h 90 (S.2.2.1 k).toNat ≠ iH h (1186 + s) k
noncomputable def a_oth (h : AH) (s t q : Int) : Int := if fst (m_othP h (m_F h t q) s.toNat) (iH h 1184 s.toNat).toNat = -1 then (if iH h 1184 s.toNat < ((m_F h t q).1 : Int) then iH h 1184 s.toNat else -1) else fst (m_othP h (m_F h t q) s.toNat) (iH h 1184 s.toNat).toNat
theorem m_scr_fH {h : AH} {n : Nat} {sm : Int} {f w hp : Nat → Int} : m_scr h (m_fH h n sm f w hp) := Or.inr ⟨_, _, _, _, _, rfl⟩
theorem c_otherwise {h : AH} (hL : LayM h) {s t q : Int} (hp : (0 ≤ s ∧ s ≤ 3) ∧ m_stT h t ∧ m_qok h q ∧ m_shOK h) : Ct 5 0 0 mX12_otherwise [vr 89, vi s, vi t, vi q] h (QI fun x h' => x = a_oth h s t q ∧ m_scr h h') := by
  obtain ⟨hs, hn, hq, hsh⟩ := hp
  have h1 := (hsh s.toNat (by omega)).2
  have hb := m_F_bd hn hq
  refine e_X12_otherwise hL ⟨_, c_find hL hn hq, fun h2 hf => ?_⟩
  obtain ⟨f, w, hp, rfl, ha⟩ := hf
  refine ⟨by exact hL, ?_⟩
  have hdoc := fun i (hi : i < (m_F h t q).1) => (m_F_doc hn hi).1
  have e1 : iH (m_fH h (m_F h t q).1 (m_F h t q).2.1 f w hp) 1184 s.toNat = iH h 1184 s.toNat := r_fH (by decide) (by decide) (by decide) (by decide)
  refine up (P := fun k => (∀ j, j < k → ¬ m_othP h (m_F h t q) s.toNat j) → wp mX12_otherwise 5 _ _ _ 9 [some (vr 89), some (vi s), none, none, some (vi k)] [] (m_fH h (m_F h t q).1 (m_F h t q).2.1 f w hp)) (iH h 1184 s.toNat).toNat ?_ ?_ (fun j hj => absurd hj (Nat.not_lt_zero j))
  · intro hno
    refine t_X12_otherwise_9 (by exact hL) ?_
    rw [e1, r_fHn]
    have ef := fst_no hno
    refine ⟨by omega, fun _ => ⟨fun c => ⟨_, rfl, ?_, m_scr_fH⟩, fun c => ⟨_, rfl, ?_, m_scr_fH⟩⟩, fun c => absurd c (by omega)⟩
    · unfold a_oth; rw [if_pos ef, if_neg (by omega)]
    · unfold a_oth; rw [if_pos ef, if_pos c]
  · intro k hk ih hno
    have fin : m_othP h (m_F h t q) s.toNat k → (k : Int) = a_oth h s t q := fun hp => by
      have ef := fst_at hk hno hp
      unfold a_oth; rw [ef, if_neg (by omega)]
    refine t_X12_otherwise_9 (by exact hL) ?_
    rw [e1, r_fHn, r_fHf, r_fH (a := 90) (by decide) (by decide) (by decide) (by decide), r_fH (a := 1186 + s.toNat) (by omega) (by omega) (by omega) (by omega), show ((k : Int)).toNat = k from rfl]
    refine ⟨by omega, fun c => absurd c (by omega), fun _ => ⟨fun c => ⟨_, rfl, fin (Or.inl (by omega)), m_scr_fH⟩, fun c => ?_⟩⟩
    have hi : k < (m_F h t q).1 := by omega
    rw [(ha k hi).1]
    refine ⟨by omega, hdoc k hi, by omega, fun c2 => ⟨by omega, ih fun j hj => ?_⟩, fun c2 => ⟨_, rfl, fin (Or.inr c2), m_scr_fH⟩⟩
    by_cases e : j = k
    · subst e
      rintro (q | q)
      · omega
      · exact q c2
    · exact hno j (by omega)
def m_flmR (h : AH) (S : FS) (s j k : Nat) : Int := if k < j then iH h 90 (S.2.2.1 k).toNat else iH h (1186 + s) k
def m_film (h H : AH) (S : FS) (s : Nat) : AH := sW (sI (sI H 1183 s 0) 1184 s (min 40 (S.1 : Int))) (1186 + s) (m_flmR h S s (min 40 (S.1 : Int)).toNat)
def p_film (h : AH) (s v q : Int) (x : Int) (h' : AH) : Prop := ((¬ (0 ≤ s ∧ s ≤ 3) ∨ ¬ (0 ≤ v ∧ v ≤ 3) ∨ ¬ (0 ≤ q ∧ q ≤ iH h 89 30 - 1)) ∧ x = -2 ∧ h' = h) ∨ (((0 ≤ s ∧ s ≤ 3) ∧ (0 ≤ v ∧ v ≤ 3) ∧ (0 ≤ q ∧ q ≤ iH h 89 30 - 1)) ∧ iH h 1137 v.toNat = 0 ∧ x = -3 ∧ h' = h) ∨ (((0 ≤ s ∧ s ≤ 3) ∧ (0 ≤ v ∧ v ≤ 3) ∧ (0 ≤ q ∧ q ≤ iH h 89 30 - 1)) ∧ iH h 1137 v.toNat ≠ 0 ∧ x = min 40 ((m_F h v q).1 : Int) ∧ ∃ n sm f w hp, h' = m_film h (m_fH h n sm f w hp) (m_F h v q) s.toNat)
theorem c_film {h : AH} (hL : LayM h) {s v q : Int} (hq : m_qs h) (hv : ∀ v : Int, 0 ≤ v → v ≤ 3 → iH h 1137 v.toNat ≠ 0 → m_gS h v) : Ct 5 0 0 mX12_film [vr 89, vi s, vi v, vi q] h (QI (p_film h s v q)) := by
  refine e_X12_film hL ⟨fun c => ⟨_, rfl, Or.inl ⟨Or.inl c, rfl, rfl⟩⟩, fun c => ⟨fun c2 => ⟨_, rfl, Or.inl ⟨Or.inr (Or.inl c2), rfl, rfl⟩⟩, fun c2 => ⟨hq.1, fun c3 => ⟨by omega, fun c4 => ?_, fun c4 => ⟨_, rfl, Or.inr (Or.inl ⟨⟨c, c2, c3⟩, c4, rfl, rfl⟩)⟩⟩, fun c3 => ⟨_, rfl, Or.inl ⟨Or.inr (Or.inr c3), rfl, rfl⟩⟩⟩⟩⟩
  have hg := hv v c2.1 c2.2 c4
  have hqk := hq.2 q c3.1 c3.2
  have hb := m_F_bd hg.1 hqk
  have hdoc := fun i (hi : i < (m_F h v q).1) => (m_F_doc hg.1 hi).1
  refine ⟨_, c_find hL hg.1 hqk, fun h2 hf => ?_⟩
  obtain ⟨f, w, hp, rfl, ha⟩ := hf
  rw [r_fHn]
  refine ⟨by exact hL, by omega, ?_⟩
  generalize hS : m_F h v q = S at *
  have rI1 : ∀ a k, a ≠ 1183 → a ≠ 1184 → iH (sI (sI (m_fH h S.1 S.2.1 f w hp) 1183 s.toNat 0) 1184 s.toNat (min 40 (S.1 : Int))) a k = iH (m_fH h S.1 S.2.1 f w hp) a k := fun a k h1 h2 => by rw [rI_ne h2, rI_ne h1]
  have main := up (P := fun j => wp mX12_film 5 0 0 (QI (p_film h s v q)) 68 [some (vr 89), some (vi s), none, none, some (vi j)] [] (sW (sI (sI (m_fH h S.1 S.2.1 f w hp) 1183 s.toNat 0) 1184 s.toNat (min 40 (S.1 : Int))) (1186 + s.toNat) (m_flmR h S s.toNat j))) (min 40 (S.1 : Int)).toNat ?_ ?_
  · rw [sW_id (fun k => by unfold m_flmR; rw [if_neg (by omega), rI1 _ _ (by omega) (by omega), r_fH (by omega) (by omega) (by omega) (by omega)])] at main
    exact main
  · refine t_X12_film_68 (by exact hL) ?_
    rw [rW_ne (by omega), rI_same]
    refine ⟨by omega, fun _ => ⟨_, rfl, Or.inr (Or.inr ⟨⟨c, c2, c3⟩, c4, by rw [hS], _, _, _, _, _, by rw [hS]; rfl⟩)⟩, fun q => absurd q (by omega)⟩
  · intro j hj ih
    have hd := hdoc j (by omega)
    refine t_X12_film_68 (by exact hL) ?_
    rw [rW_ne (a := 1186 + s.toNat) (b := 1184) (by omega), rI_same, rW_ne (a := 1186 + s.toNat) (b := 1179) (by omega), rI1 1179 _ (by decide) (by decide), r_fHf, show ((j : Int)).toNat = j from rfl, (ha j (by omega)).1, rW_ne (a := 1186 + s.toNat) (b := 90) (by omega), rI1 90 _ (by decide) (by decide), r_fH (by decide) (by decide) (by decide) (by decide)]
    refine ⟨by omega, fun q => absurd q (by omega), fun _ => ⟨by omega, hd, by omega, by omega, ?_⟩⟩
    rw [sI_sW (g' := m_flmR h S s.toNat (j + 1)) (fun k => by
      unfold m_flmR
      by_cases q : k = j
      · subst q; rw [if_pos (by omega), if_pos rfl]
      · rw [if_neg q]
        by_cases q2 : k < j
        · rw [if_pos (by omega), if_pos q2]
        · rw [if_neg (by omega), if_neg q2])]
    exact ih
def b_X12_tells_0 : List IE := [(.iload_n 1, 1, 0, 0, 1, 0)]
theorem k_X12_tells_0 : ckB mX12_tells 12 0 b_X12_tells_0 1 = true := by decide +kernel
def b_X12_tells_4 : List IE := []
theorem k_X12_tells_4 : ckIf mX12_tells 12 4 b_X12_tells_4 4 0 28 32 7 = true := by decide +kernel
def b_X12_tells_7 : List IE := [(.iload_n 2, 1, 0, 0, 2, 0)]
theorem k_X12_tells_7 : ckB mX12_tells 12 7 b_X12_tells_7 8 = true := by decide +kernel
def b_X12_tells_11 : List IE := []
theorem k_X12_tells_11 : ckIf mX12_tells 12 11 b_X12_tells_11 11 0 21 32 14 = true := by decide +kernel
def b_X12_tells_14 : List IE := [(.aload_n 0, 1, 0, 0, 0, 0), (.iload_n 3, 1, 0, 0, 3, 0)]
theorem k_X12_tells_14 : ckB mX12_tells 12 14 b_X12_tells_14 16 = true := by decide +kernel
def b_X12_tells_19 : List IE := []
theorem k_X12_tells_19 : ckIf mX12_tells 12 19 b_X12_tells_19 19 0 13 32 22 = true := by decide +kernel
def b_X12_tells_22 : List IE := [(.iload 4, 2, 0, 0, 4, 0), (.iconst 0, 1, 0, 0, 0, 0), (.iconst 2, 1, 2, 0, 0, 0)]
theorem k_X12_tells_22 : ckB mX12_tells 12 22 b_X12_tells_22 26 = true := by decide +kernel
def b_X12_tells_29 : List IE := []
theorem k_X12_tells_29 : ckIf mX12_tells 12 29 b_X12_tells_29 29 1 6 35 32 = true := by decide +kernel
def b_X12_tells_32 : List IE := [(.bipush (-2), 2, (-2), 0, 0, 0)]
theorem k_X12_tells_32 : ckI mX12_tells 12 32 b_X12_tells_32 34 = true := by decide +kernel
def b_X12_tells_35 : List IE := [(.aload_n 0, 1, 0, 0, 0, 0), (.getfield 34, 3, 0, 12, 9, 1), (.iload_n 2, 1, 0, 0, 2, 0), (.baload, 1, 0, 0, 0, 0)]
theorem k_X12_tells_35 : ckIf mX12_tells 12 35 b_X12_tells_35 41 1 6 47 44 = true := by decide +kernel
def b_X12_tells_44 : List IE := [(.bipush (-3), 2, (-3), 0, 0, 0)]
theorem k_X12_tells_44 : ckI mX12_tells 12 44 b_X12_tells_44 46 = true := by decide +kernel
def b_X12_tells_47 : List IE := [(.aload_n 0, 1, 0, 0, 0, 0), (.getfield 94, 3, 0, 12, 50, 1), (.iload_n 1, 1, 0, 0, 1, 0), (.iaload, 1, 0, 0, 0, 0)]
theorem k_X12_tells_47 : ckIf mX12_tells 12 47 b_X12_tells_47 53 3 6 59 56 = true := by decide +kernel
def b_X12_tells_56 : List IE := [(.bipush (-11), 2, (-11), 0, 0, 0)]
theorem k_X12_tells_56 : ckI mX12_tells 12 56 b_X12_tells_56 58 = true := by decide +kernel
def b_X12_tells_59 : List IE := [(.iload 4, 2, 0, 0, 4, 0)]
theorem k_X12_tells_59 : ckIf mX12_tells 12 59 b_X12_tells_59 61 1 11 72 64 = true := by decide +kernel
def b_X12_tells_64 : List IE := [(.aload_n 0, 1, 0, 0, 0, 0), (.iload_n 1, 1, 0, 0, 1, 0), (.iload_n 2, 1, 0, 0, 2, 0), (.iload_n 3, 1, 0, 0, 3, 0)]
theorem k_X12_tells_64 : ckB mX12_tells 12 64 b_X12_tells_64 68 = true := by decide +kernel
def b_X12_tells_71 : List IE := []
theorem k_X12_tells_71 : ckI mX12_tells 12 71 b_X12_tells_71 71 = true := by decide +kernel
def b_X12_tells_72 : List IE := [(.iconst 0, 1, 0, 0, 0, 0), (.istore 5, 2, 0, 0, 5, 0), (.iload 4, 2, 0, 0, 4, 0), (.iconst 1, 1, 1, 0, 0, 0)]
theorem k_X12_tells_72 : ckIc mX12_tells 12 72 b_X12_tells_72 78 1 42 120 81 = true := by decide +kernel
def b_X12_tells_81 : List IE := [(.iconst 0, 1, 0, 0, 0, 0), (.istore 6, 2, 0, 0, 6, 0)]
theorem k_X12_tells_81 : ckB mX12_tells 12 81 b_X12_tells_81 84 = true := by decide +kernel
def b_X12_tells_84 : List IE := [(.iload 6, 2, 0, 0, 6, 0), (.aload_n 0, 1, 0, 0, 0, 0), (.getfield 113, 3, 0, 12, 30, 0)]
theorem k_X12_tells_84 : ckIc mX12_tells 12 84 b_X12_tells_84 90 3 30 120 93 = true := by decide +kernel
def b_X12_tells_93 : List IE := [(.aload_n 0, 1, 0, 0, 0, 0), (.iload_n 1, 1, 0, 0, 1, 0), (.iload_n 2, 1, 0, 0, 2, 0), (.iload 6, 2, 0, 0, 6, 0)]
theorem k_X12_tells_93 : ckB mX12_tells 12 93 b_X12_tells_93 98 = true := by decide +kernel
def b_X12_tells_101 : List IE := [(.iconst (-1), 1, (-1), 0, 0, 0)]
theorem k_X12_tells_101 : ckIc mX12_tells 12 101 b_X12_tells_101 102 1 12 114 105 = true := by decide +kernel
def b_X12_tells_105 : List IE := [(.iload 5, 2, 0, 0, 5, 0), (.iconst 1, 1, 1, 0, 0, 0), (.iload 6, 2, 0, 0, 6, 0), (.ishl, 1, 0, 0, 0, 0), (.ior, 1, 0, 0, 0, 0), (.istore 5, 2, 0, 0, 5, 0), (.iinc 6 1, 3, 1, 0, 6, 0)]
theorem k_X12_tells_105 : ckGo mX12_tells 12 105 b_X12_tells_105 117 (-33) 84 = true := by decide +kernel
def b_X12_tells_114 : List IE := [(.iinc 6 1, 3, 1, 0, 6, 0)]
theorem k_X12_tells_114 : ckGo mX12_tells 12 114 b_X12_tells_114 117 (-33) 84 = true := by decide +kernel
def b_X12_tells_120 : List IE := [(.iload 4, 2, 0, 0, 4, 0), (.iconst 2, 1, 2, 0, 0, 0)]
theorem k_X12_tells_120 : ckIc mX12_tells 12 120 b_X12_tells_120 123 1 49 172 126 = true := by decide +kernel
def b_X12_tells_126 : List IE := [(.iconst 0, 1, 0, 0, 0, 0), (.istore 6, 2, 0, 0, 6, 0)]
theorem k_X12_tells_126 : ckB mX12_tells 12 126 b_X12_tells_126 129 = true := by decide +kernel
def b_X12_tells_129 : List IE := [(.iload 6, 2, 0, 0, 6, 0), (.iconst 4, 1, 4, 0, 0, 0)]
theorem k_X12_tells_129 : ckIc mX12_tells 12 129 b_X12_tells_129 132 3 40 172 135 = true := by decide +kernel
def b_X12_tells_135 : List IE := [(.aload_n 0, 1, 0, 0, 0, 0), (.getfield 34, 3, 0, 12, 9, 1), (.iload 6, 2, 0, 0, 6, 0), (.baload, 1, 0, 0, 0, 0)]
theorem k_X12_tells_135 : ckIf mX12_tells 12 135 b_X12_tells_135 142 0 24 166 145 = true := by decide +kernel
def b_X12_tells_145 : List IE := [(.aload_n 0, 1, 0, 0, 0, 0), (.iload_n 1, 1, 0, 0, 1, 0), (.iload 6, 2, 0, 0, 6, 0), (.iload_n 3, 1, 0, 0, 3, 0)]
theorem k_X12_tells_145 : ckB mX12_tells 12 145 b_X12_tells_145 150 = true := by decide +kernel
def b_X12_tells_153 : List IE := [(.iconst (-1), 1, (-1), 0, 0, 0)]
theorem k_X12_tells_153 : ckIc mX12_tells 12 153 b_X12_tells_153 154 1 12 166 157 = true := by decide +kernel
def b_X12_tells_157 : List IE := [(.iload 5, 2, 0, 0, 5, 0), (.iconst 1, 1, 1, 0, 0, 0), (.iload 6, 2, 0, 0, 6, 0), (.ishl, 1, 0, 0, 0, 0), (.ior, 1, 0, 0, 0, 0), (.istore 5, 2, 0, 0, 5, 0), (.iinc 6 1, 3, 1, 0, 6, 0)]
theorem k_X12_tells_157 : ckGo mX12_tells 12 157 b_X12_tells_157 169 (-40) 129 = true := by decide +kernel
def b_X12_tells_166 : List IE := [(.iinc 6 1, 3, 1, 0, 6, 0)]
theorem k_X12_tells_166 : ckGo mX12_tells 12 166 b_X12_tells_166 169 (-40) 129 = true := by decide +kernel
def b_X12_tells_172 : List IE := [(.iload 5, 2, 0, 0, 5, 0)]
theorem k_X12_tells_172 : ckI mX12_tells 12 172 b_X12_tells_172 174 = true := by decide +kernel
theorem s_X12_tells_1 : cS mX12_tells 1 mX12_isSheet 407 1 := ⟨by decide +kernel, ⟨ml_X12_isSheet, li_RX12_407, st_X12_isSheet⟩, by decide +kernel⟩
theorem s_X12_tells_8 : cS mX12_tells 8 mX12_isView 263 1 := ⟨by decide +kernel, ⟨ml_X12_isView, li_RX12_263, st_X12_isView⟩, by decide +kernel⟩
theorem s_X12_tells_16 : cV mX12_tells 16 mX12_isQuery 385 1 12 := ⟨by decide +kernel, ⟨ml_X12_isQuery, li_RX12_385, im_X12_isQuery, se_X12_isQuery⟩, ⟨by decide +kernel, by decide +kernel⟩, by decide +kernel⟩
theorem s_X12_tells_26 : cS mX12_tells 26 mX12_in 109 3 := ⟨by decide +kernel, ⟨ml_X12_in, li_RX12_109, st_X12_in⟩, by decide +kernel⟩
theorem s_X12_tells_68 : cV mX12_tells 68 mX12_otherwise 410 3 12 := ⟨by decide +kernel, ⟨ml_X12_otherwise, li_RX12_410, im_X12_otherwise, se_X12_otherwise⟩, ⟨by decide +kernel, by decide +kernel⟩, by decide +kernel⟩
theorem s_X12_tells_98 : cV mX12_tells 98 mX12_otherwise 410 3 12 := ⟨by decide +kernel, ⟨ml_X12_otherwise, li_RX12_410, im_X12_otherwise, se_X12_otherwise⟩, ⟨by decide +kernel, by decide +kernel⟩, by decide +kernel⟩
theorem s_X12_tells_150 : cV mX12_tells 150 mX12_otherwise 410 3 12 := ⟨by decide +kernel, ⟨ml_X12_otherwise, li_RX12_410, im_X12_otherwise, se_X12_otherwise⟩, ⟨by decide +kernel, by decide +kernel⟩, by decide +kernel⟩
theorem t_X12_tells_0 {rc rs : Nat} {Q : Option AV → AH → Prop} {h : AH} {x1 x2 x3 x4 : Int} (hL : LayM h) (hv : ((¬ (0 ≤ x1 ∧ x1 ≤ 3) → Q (some (vi (-2))) h) ∧ ((0 ≤ x1 ∧ x1 ≤ 3) → ((¬ (0 ≤ x2 ∧ x2 ≤ 3) → Q (some (vi (-2))) h) ∧ ((0 ≤ x2 ∧ x2 ≤ 3) → (0 ≤ iH h 89 30 ∧ iH h 89 30 ≤ 6) ∧ ((¬ (0 ≤ x3 ∧ x3 ≤ (iH h 89 30 - 1)) → Q (some (vi (-2))) h) ∧ ((0 ≤ x3 ∧ x3 ≤ (iH h 89 30 - 1)) → ((((0 : Int) ≤ x4 ∧ x4 ≤ (2 : Int)) → (0 ≤ x2 ∧ x2 < 7) ∧ (((iH h 1137 x2.toNat) ≠ 0 → (0 ≤ x1 ∧ x1 < 4) ∧ ((0 ≤ (iH h 1183 x1.toNat) → ((x4 ≠ 0 → ((x4 ≠ 1 → ((x4 ≠ 2 → Q (some (vi 0)) h) ∧ (x4 = 2 → wp mX12_tells 6 rc rs Q 129 [some (vr 89), some (vi x1), none, some (vi x3), none, some (vi 0), some (vi 0)] [] h))) ∧ (x4 = 1 → wp mX12_tells 6 rc rs Q 84 [some (vr 89), some (vi x1), some (vi x2), some (vi x3), some (vi x4), some (vi 0), some (vi 0)] [] h))) ∧ (x4 = 0 → (∃ P41 : Int → AH → Prop, Ct 5 0 0 mX12_otherwise [vr 89, vi x1, vi x2, vi x3] h (QI P41) ∧ ∀ (r40 : Int) (h39 : AH), (-2147483648 ≤ r40 ∧ r40 < 2147483648) → P41 r40 h39 → LayM h39 ∧ Q (some (vi r40)) h39)))) ∧ ((iH h 1183 x1.toNat) < 0 → Q (some (vi (-11))) h))) ∧ ((iH h 1137 x2.toNat) = 0 → Q (some (vi (-3))) h))) ∧ (¬ ((0 : Int) ≤ x4 ∧ x4 ≤ (2 : Int)) → Q (some (vi (-2))) h))))))))) : wp mX12_tells 6 rc rs Q 0 [some (vr 89), some (vi x1), some (vi x2), some (vi x3), some (vi x4), none, none] [] h :=
  (show wp mX12_tells 6 rc rs Q 0 [some (vr 89), some (vi x1), some (vi x2), some (vi x3), some (vi x4), none, none] [] h from xcS k_X12_tells_0 s_X12_tells_1 ((Exists.intro [vi x1] (Exists.intro [] (And.intro (And.intro rfl (And.intro rfl (Nat.le_of_ble_eq_true rfl))) (Exists.intro 1 (Exists.intro 0 (Exists.intro 0 (Exists.intro _ (And.intro c_isSheet (And.intro (And.intro (by decide) (And.intro (Nat.zero_le _) (Nat.zero_le _))) (eQP (show wp mX12_tells 6 rc rs Q 4 [some (vr 89), some (vi x1), some (vi x2), some (vi x3), some (vi x4), none, none] [vi (b01 (0 ≤ x1 ∧ x1 ≤ 3))] h from xIf k_X12_tells_4 (And.intro (fun c1 => have v3 := hv.1 (b01_n.mp c1); (show wp mX12_tells 6 rc rs Q 32 [some (vr 89), some (vi x1), some (vi x2), some (vi x3), some (vi x4), none, none] [] h from xI k_X12_tells_32 (And.intro rfl v3))) (fun c2 => have v4 := hv.2 (b01_p.mp c2); (show wp mX12_tells 6 rc rs Q 7 [some (vr 89), some (vi x1), some (vi x2), some (vi x3), some (vi x4), none, none] [] h from xcS k_X12_tells_7 s_X12_tells_8 ((Exists.intro [vi x2] (Exists.intro [] (And.intro (And.intro rfl (And.intro rfl (Nat.le_of_ble_eq_true rfl))) (Exists.intro 1 (Exists.intro 0 (Exists.intro 0 (Exists.intro _ (And.intro c_isView (And.intro (And.intro (by decide) (And.intro (Nat.zero_le _) (Nat.zero_le _))) (eQP (show wp mX12_tells 6 rc rs Q 11 [some (vr 89), some (vi x1), some (vi x2), some (vi x3), some (vi x4), none, none] [vi (b01 (0 ≤ x2 ∧ x2 ≤ 3))] h from xIf k_X12_tells_11 (And.intro (fun c5 => have v7 := v4.1 (b01_n.mp c5); (show wp mX12_tells 6 rc rs Q 32 [some (vr 89), some (vi x1), some (vi x2), some (vi x3), some (vi x4), none, none] [] h from xI k_X12_tells_32 (And.intro rfl v7))) (fun c6 => have v8 := v4.2 (b01_p.mp c6); (show wp mX12_tells 6 rc rs Q 14 [some (vr 89), some (vi x1), some (vi x2), some (vi x3), some (vi x4), none, none] [] h from xcV k_X12_tells_14 s_X12_tells_16 (have c51 := v8.1; have v52 := v8.2; (Exists.intro [vi x3] (Exists.intro 89 (Exists.intro [] (And.intro (And.intro rfl (And.intro rfl (Nat.le_of_ble_eq_true rfl))) (And.intro (lm_89 hL) (Exists.intro 1 (Exists.intro 0 (Exists.intro 0 (Exists.intro _ (And.intro (c_isQuery (h := h) hL c51) (And.intro (And.intro (by decide) (And.intro (Nat.zero_le _) (Nat.zero_le _))) (eQP (show wp mX12_tells 6 rc rs Q 19 [some (vr 89), some (vi x1), some (vi x2), some (vi x3), some (vi x4), none, none] [vi (b01 (0 ≤ x3 ∧ x3 ≤ (iH h 89 30 - 1)))] h from xIf k_X12_tells_19 (And.intro (fun c9 => have v11 := v52.1 (b01_n.mp c9); (show wp mX12_tells 6 rc rs Q 32 [some (vr 89), some (vi x1), some (vi x2), some (vi x3), some (vi x4), none, none] [] h from xI k_X12_tells_32 (And.intro rfl v11))) (fun c10 => have v12 := v52.2 (b01_p.mp c10); (show wp mX12_tells 6 rc rs Q 22 [some (vr 89), some (vi x1), some (vi x2), some (vi x3), some (vi x4), none, none] [] h from xcS k_X12_tells_22 s_X12_tells_26 ((Exists.intro [vi x4, vi 0, vi 2] (Exists.intro [] (And.intro (And.intro rfl (And.intro rfl (Nat.le_of_ble_eq_true rfl))) (Exists.intro 0 (Exists.intro 0 (Exists.intro 0 (Exists.intro _ (And.intro c_in (And.intro (And.intro (by decide) (And.intro (Nat.zero_le _) (Nat.zero_le _))) (eQP (show wp mX12_tells 6 rc rs Q 29 [some (vr 89), some (vi x1), some (vi x2), some (vi x3), some (vi x4), none, none] [vi (b01 ((0 : Int) ≤ x4 ∧ x4 ≤ (2 : Int)))] h from xIf k_X12_tells_29 (And.intro (fun c13 => have v15 := v12.1 (b01_p.mp c13); (show wp mX12_tells 6 rc rs Q 35 [some (vr 89), some (vi x1), some (vi x2), some (vi x3), some (vi x4), none, none] [] h from xIf k_X12_tells_35 (And.intro (lm_89 hL) (Exists.intro 1137 (And.intro (lf_89_9 hL) (have c17 := v15.1; have v47 := v15.2; (And.intro (sdZ (lm_1137 hL) c17) (And.intro (fun c18 => have v20 := v47.1 c18; (show wp mX12_tells 6 rc rs Q 47 [some (vr 89), some (vi x1), some (vi x2), some (vi x3), some (vi x4), none, none] [] h from xIf k_X12_tells_47 (And.intro (lm_89 hL) (Exists.intro 1183 (And.intro (lf_89_50 hL) (have c22 := v20.1; have v46 := v20.2; (And.intro (sdI (lm_1183 hL) c22) (And.intro (fun c23 => have v25 := v46.1 c23; (show wp mX12_tells 6 rc rs Q 59 [some (vr 89), some (vi x1), some (vi x2), some (vi x3), some (vi x4), none, none] [] h from xIf k_X12_tells_59 (And.intro (fun c27 => have v29 := v25.1 c27; (show wp mX12_tells 6 rc rs Q 72 [some (vr 89), some (vi x1), some (vi x2), some (vi x3), some (vi x4), none, none] [] h from xIc k_X12_tells_72 (And.intro rfl (And.intro (fun c31 => have v33 := v29.1 c31; (show wp mX12_tells 6 rc rs Q 120 [some (vr 89), some (vi x1), some (vi x2), some (vi x3), some (vi x4), some (vi 0), none] [] h from xIc k_X12_tells_120 (And.intro (fun c35 => have v37 := v33.1 c35; (show wp mX12_tells 6 rc rs Q 172 [some (vr 89), some (vi x1), some (vi x2), some (vi x3), some (vi x4), some (vi 0), none] [] h from xI k_X12_tells_172 (And.intro rfl v37))) (fun c36 => have v38 := v33.2 (Decidable.not_not.mp c36); (show wp mX12_tells 6 rc rs Q 126 [some (vr 89), some (vi x1), some (vi x2), some (vi x3), some (vi x4), some (vi 0), none] [] h from xB k_X12_tells_126 (And.intro rfl (w_fg [true, true, false, true, false, true, true] v38))))))) (fun c32 => have v34 := v29.2 (Decidable.not_not.mp c32); (show wp mX12_tells 6 rc rs Q 81 [some (vr 89), some (vi x1), some (vi x2), some (vi x3), some (vi x4), some (vi 0), none] [] h from xB k_X12_tells_81 (And.intro rfl v34))))))) (fun c28 => have v30 := v25.2 (Decidable.not_not.mp c28); (show wp mX12_tells 6 rc rs Q 64 [some (vr 89), some (vi x1), some (vi x2), some (vi x3), some (vi x4), none, none] [] h from xcV k_X12_tells_64 s_X12_tells_68 (Exists.elim v30 (fun P41 v42 => (Exists.intro [vi x1, vi x2, vi x3] (Exists.intro 89 (Exists.intro [] (And.intro (And.intro rfl (And.intro rfl (Nat.le_of_ble_eq_true rfl))) (And.intro (lm_89 hL) (Exists.intro 5 (Exists.intro 0 (Exists.intro 0 (Exists.intro (QI P41) (And.intro v42.1 (And.intro (And.intro (by decide) (And.intro (Nat.zero_le _) (Nat.zero_le _))) (eQI (fun r40 h39 q45 e44 => have v43 := v42.2 r40 h39 q45 e44; have hL := v43.1; have v43 := v43.2; (show wp mX12_tells 6 rc rs Q 71 [some (vr 89), some (vi x1), some (vi x2), some (vi x3), some (vi x4), none, none] [vi r40] h39 from xI k_X12_tells_71 (And.intro rfl v43)))))))))))))))))))))) (fun c24 => have v26 := v46.2 (Int.not_le.mp c24); (show wp mX12_tells 6 rc rs Q 56 [some (vr 89), some (vi x1), some (vi x2), some (vi x3), some (vi x4), none, none] [] h from xI k_X12_tells_56 (And.intro rfl v26))))))))))) (fun c19 => have v21 := v47.2 (Decidable.not_not.mp c19); (show wp mX12_tells 6 rc rs Q 44 [some (vr 89), some (vi x1), some (vi x2), some (vi x3), some (vi x4), none, none] [] h from xI k_X12_tells_44 (And.intro rfl v21))))))))))) (fun c14 => have v16 := v12.2 (b01_nn.mp c14); (show wp mX12_tells 6 rc rs Q 32 [some (vr 89), some (vi x1), some (vi x2), some (vi x3), some (vi x4), none, none] [] h from xI k_X12_tells_32 (And.intro rfl v16))))))))))))))))))))))))))))))))))))))))))))))))))))))))))))))))
theorem e_X12_tells {mc ms : Nat} {Q : Option AV → AH → Prop} {h : AH} {x1 x2 x3 x4 : Int} (hL : LayM h) (hv : ((¬ (0 ≤ x1 ∧ x1 ≤ 3) → Q (some (vi (-2))) h) ∧ ((0 ≤ x1 ∧ x1 ≤ 3) → ((¬ (0 ≤ x2 ∧ x2 ≤ 3) → Q (some (vi (-2))) h) ∧ ((0 ≤ x2 ∧ x2 ≤ 3) → (0 ≤ iH h 89 30 ∧ iH h 89 30 ≤ 6) ∧ ((¬ (0 ≤ x3 ∧ x3 ≤ (iH h 89 30 - 1)) → Q (some (vi (-2))) h) ∧ ((0 ≤ x3 ∧ x3 ≤ (iH h 89 30 - 1)) → ((((0 : Int) ≤ x4 ∧ x4 ≤ (2 : Int)) → (0 ≤ x2 ∧ x2 < 7) ∧ (((iH h 1137 x2.toNat) ≠ 0 → (0 ≤ x1 ∧ x1 < 4) ∧ ((0 ≤ (iH h 1183 x1.toNat) → ((x4 ≠ 0 → ((x4 ≠ 1 → ((x4 ≠ 2 → Q (some (vi 0)) h) ∧ (x4 = 2 → wp mX12_tells 6 mc ms Q 129 [some (vr 89), some (vi x1), none, some (vi x3), none, some (vi 0), some (vi 0)] [] h))) ∧ (x4 = 1 → wp mX12_tells 6 mc ms Q 84 [some (vr 89), some (vi x1), some (vi x2), some (vi x3), some (vi x4), some (vi 0), some (vi 0)] [] h))) ∧ (x4 = 0 → (∃ P41 : Int → AH → Prop, Ct 5 0 0 mX12_otherwise [vr 89, vi x1, vi x2, vi x3] h (QI P41) ∧ ∀ (r40 : Int) (h39 : AH), (-2147483648 ≤ r40 ∧ r40 < 2147483648) → P41 r40 h39 → LayM h39 ∧ Q (some (vi r40)) h39)))) ∧ ((iH h 1183 x1.toNat) < 0 → Q (some (vi (-11))) h))) ∧ ((iH h 1137 x2.toNat) = 0 → Q (some (vi (-3))) h))) ∧ (¬ ((0 : Int) ≤ x4 ∧ x4 ≤ (2 : Int)) → Q (some (vi (-2))) h))))))))) : Ct 6 mc ms mX12_tells [vr 89, vi x1, vi x2, vi x3, vi x4] h Q := Ct.of (by decide +kernel) (Nat.le_of_ble_eq_true rfl) (t_X12_tells_0 hL hv)
theorem t_X12_tells_84 {rc rs : Nat} {Q : Option AV → AH → Prop} {h : AH} {x1 x2 x3 x4 x5 x6 : Int} (hL : LayM h) (hv : (((iH h 89 30) ≤ x6 → ((x4 ≠ 2 → Q (some (vi x5)) h) ∧ (x4 = 2 → wp mX12_tells 6 rc rs Q 129 [some (vr 89), some (vi x1), none, some (vi x3), none, some (vi x5), some (vi 0)] [] h))) ∧ (x6 < (iH h 89 30) → (∃ P11 : Int → AH → Prop, Ct 5 0 0 mX12_otherwise [vr 89, vi x1, vi x2, vi x6] h (QI P11) ∧ ∀ (r10 : Int) (h9 : AH), (-2147483648 ≤ r10 ∧ r10 < 2147483648) → P11 r10 h9 → LayM h9 ∧ ((r10 ≠ (-1) → (-2147483648 ≤ (x6 + 1) ∧ (x6 + 1) < 2147483648) ∧ wp mX12_tells 6 rc rs Q 84 [some (vr 89), some (vi x1), some (vi x2), some (vi x3), some (vi x4), some (vi x5), some (vi (x6 + 1))] [] h9) ∧ (r10 = (-1) → (-2147483648 ≤ (x6 + 1) ∧ (x6 + 1) < 2147483648) ∧ wp mX12_tells 6 rc rs Q 84 [some (vr 89), some (vi x1), some (vi x2), some (vi x3), some (vi x4), some (vi (orI x5 (shlI 1 x6))), some (vi (x6 + 1))] [] h9)))))) : wp mX12_tells 6 rc rs Q 84 [some (vr 89), some (vi x1), some (vi x2), some (vi x3), some (vi x4), some (vi x5), some (vi x6)] [] h :=
  (show wp mX12_tells 6 rc rs Q 84 [some (vr 89), some (vi x1), some (vi x2), some (vi x3), some (vi x4), some (vi x5), some (vi x6)] [] h from xIc k_X12_tells_84 (And.intro (lm_89 hL) (And.intro (fun c1 => have v3 := hv.1 c1; (show wp mX12_tells 6 rc rs Q 120 [some (vr 89), some (vi x1), some (vi x2), some (vi x3), some (vi x4), some (vi x5), some (vi x6)] [] h from xIc k_X12_tells_120 (And.intro (fun c5 => have v7 := v3.1 c5; (show wp mX12_tells 6 rc rs Q 172 [some (vr 89), some (vi x1), some (vi x2), some (vi x3), some (vi x4), some (vi x5), some (vi x6)] [] h from xI k_X12_tells_172 (And.intro rfl v7))) (fun c6 => have v8 := v3.2 (Decidable.not_not.mp c6); (show wp mX12_tells 6 rc rs Q 126 [some (vr 89), some (vi x1), some (vi x2), some (vi x3), some (vi x4), some (vi x5), some (vi x6)] [] h from xB k_X12_tells_126 (And.intro rfl (w_fg [true, true, false, true, false, true, true] v8))))))) (fun c2 => have v4 := hv.2 (Int.not_le.mp c2); (show wp mX12_tells 6 rc rs Q 93 [some (vr 89), some (vi x1), some (vi x2), some (vi x3), some (vi x4), some (vi x5), some (vi x6)] [] h from xcV k_X12_tells_93 s_X12_tells_98 (Exists.elim v4 (fun P11 v20 => (Exists.intro [vi x1, vi x2, vi x6] (Exists.intro 89 (Exists.intro [] (And.intro (And.intro rfl (And.intro rfl (Nat.le_of_ble_eq_true rfl))) (And.intro (lm_89 hL) (Exists.intro 5 (Exists.intro 0 (Exists.intro 0 (Exists.intro (QI P11) (And.intro v20.1 (And.intro (And.intro (by decide) (And.intro (Nat.zero_le _) (Nat.zero_le _))) (eQI (fun r10 h9 q23 e22 => have v21 := v20.2 r10 h9 q23 e22; have hL := v21.1; have v21 := v21.2; (show wp mX12_tells 6 rc rs Q 101 [some (vr 89), some (vi x1), some (vi x2), some (vi x3), some (vi x4), some (vi x5), some (vi x6)] [vi r10] h9 from xIc k_X12_tells_101 (And.intro (fun c12 => have v14 := v21.1 c12; (show wp mX12_tells 6 rc rs Q 114 [some (vr 89), some (vi x1), some (vi x2), some (vi x3), some (vi x4), some (vi x5), some (vi x6)] [] h9 from xGo k_X12_tells_114 (have c16 := v14.1; have v17 := v14.2; (And.intro c16 (And.intro rfl v17))))) (fun c13 => have v15 := v21.2 (Decidable.not_not.mp c13); (show wp mX12_tells 6 rc rs Q 105 [some (vr 89), some (vi x1), some (vi x2), some (vi x3), some (vi x4), some (vi x5), some (vi x6)] [] h9 from xGo k_X12_tells_105 (And.intro rfl (have c18 := v15.1; have v19 := v15.2; (And.intro c18 (And.intro rfl v19))))))))))))))))))))))))))))
theorem t_X12_tells_129 {rc rs : Nat} {Q : Option AV → AH → Prop} {h : AH} {x1 x3 x5 x6 : Int} (hL : LayM h) (hv : ((4 ≤ x6 → Q (some (vi x5)) h) ∧ (x6 < 4 → (0 ≤ x6 ∧ x6 < 7) ∧ (((iH h 1137 x6.toNat) = 0 → (-2147483648 ≤ (x6 + 1) ∧ (x6 + 1) < 2147483648) ∧ wp mX12_tells 6 rc rs Q 129 [some (vr 89), some (vi x1), none, some (vi x3), none, some (vi x5), some (vi (x6 + 1))] [] h) ∧ ((iH h 1137 x6.toNat) ≠ 0 → (∃ P14 : Int → AH → Prop, Ct 5 0 0 mX12_otherwise [vr 89, vi x1, vi x6, vi x3] h (QI P14) ∧ ∀ (r13 : Int) (h12 : AH), (-2147483648 ≤ r13 ∧ r13 < 2147483648) → P14 r13 h12 → LayM h12 ∧ ((r13 ≠ (-1) → (-2147483648 ≤ (x6 + 1) ∧ (x6 + 1) < 2147483648) ∧ wp mX12_tells 6 rc rs Q 129 [some (vr 89), some (vi x1), none, some (vi x3), none, some (vi x5), some (vi (x6 + 1))] [] h12) ∧ (r13 = (-1) → (-2147483648 ≤ (x6 + 1) ∧ (x6 + 1) < 2147483648) ∧ wp mX12_tells 6 rc rs Q 129 [some (vr 89), some (vi x1), none, some (vi x3), none, some (vi (orI x5 (shlI 1 x6))), some (vi (x6 + 1))] [] h12)))))))) : wp mX12_tells 6 rc rs Q 129 [some (vr 89), some (vi x1), none, some (vi x3), none, some (vi x5), some (vi x6)] [] h :=
  (show wp mX12_tells 6 rc rs Q 129 [some (vr 89), some (vi x1), none, some (vi x3), none, some (vi x5), some (vi x6)] [] h from xIc k_X12_tells_129 (And.intro (fun c1 => have v3 := hv.1 c1; (show wp mX12_tells 6 rc rs Q 172 [some (vr 89), some (vi x1), none, some (vi x3), none, some (vi x5), some (vi x6)] [] h from xI k_X12_tells_172 (And.intro rfl v3))) (fun c2 => have v4 := hv.2 (Int.not_le.mp c2); (show wp mX12_tells 6 rc rs Q 135 [some (vr 89), some (vi x1), none, some (vi x3), none, some (vi x5), some (vi x6)] [] h from xIf k_X12_tells_135 (And.intro (lm_89 hL) (Exists.intro 1137 (And.intro (lf_89_9 hL) (have c5 := v4.1; have v27 := v4.2; (And.intro (sdZ (lm_1137 hL) c5) (And.intro (fun c6 => have v8 := v27.1 c6; (show wp mX12_tells 6 rc rs Q 166 [some (vr 89), some (vi x1), none, some (vi x3), none, some (vi x5), some (vi x6)] [] h from xGo k_X12_tells_166 (have c10 := v8.1; have v11 := v8.2; (And.intro c10 (And.intro rfl v11))))) (fun c7 => have v9 := v27.2 c7; (show wp mX12_tells 6 rc rs Q 145 [some (vr 89), some (vi x1), none, some (vi x3), none, some (vi x5), some (vi x6)] [] h from xcV k_X12_tells_145 s_X12_tells_150 (Exists.elim v9 (fun P14 v23 => (Exists.intro [vi x1, vi x6, vi x3] (Exists.intro 89 (Exists.intro [] (And.intro (And.intro rfl (And.intro rfl (Nat.le_of_ble_eq_true rfl))) (And.intro (lm_89 hL) (Exists.intro 5 (Exists.intro 0 (Exists.intro 0 (Exists.intro (QI P14) (And.intro v23.1 (And.intro (And.intro (by decide) (And.intro (Nat.zero_le _) (Nat.zero_le _))) (eQI (fun r13 h12 q26 e25 => have v24 := v23.2 r13 h12 q26 e25; have hL := v24.1; have v24 := v24.2; (show wp mX12_tells 6 rc rs Q 153 [some (vr 89), some (vi x1), none, some (vi x3), none, some (vi x5), some (vi x6)] [vi r13] h12 from xIc k_X12_tells_153 (And.intro (fun c15 => have v17 := v24.1 c15; (show wp mX12_tells 6 rc rs Q 166 [some (vr 89), some (vi x1), none, some (vi x3), none, some (vi x5), some (vi x6)] [] h12 from xGo k_X12_tells_166 (have c19 := v17.1; have v20 := v17.2; (And.intro c19 (And.intro rfl v20))))) (fun c16 => have v18 := v24.2 (Decidable.not_not.mp c16); (show wp mX12_tells 6 rc rs Q 157 [some (vr 89), some (vi x1), none, some (vi x3), none, some (vi x5), some (vi x6)] [] h12 from xGo k_X12_tells_157 (And.intro rfl (have c21 := v18.1; have v22 := v18.2; (And.intro c21 (And.intro rfl v22)))))))))))))))))))))))))))))))))))
noncomputable def m_bits (p : Nat → Prop) : Nat → Int
  | 0 => 0
  | i + 1 => @ite _ (p i) (Classical.propDecidable _) (orI (m_bits p i) (shlI 1 i)) (m_bits p i)
theorem m_bits_y {p : Nat → Prop} {i : Nat} (h : p i) : m_bits p (i + 1) = orI (m_bits p i) (shlI 1 i) := by
  show @ite _ (p i) (Classical.propDecidable _) _ _ = _
  rw [if_pos h]
theorem m_bits_n {p : Nat → Prop} {i : Nat} (h : ¬ p i) : m_bits p (i + 1) = m_bits p i := by
  show @ite _ (p i) (Classical.propDecidable _) _ _ = _
  rw [if_neg h]
theorem m_fH_fH {h : AH} {n m : Nat} {sm sm' : Int} {f w hp f' w' hp' : Nat → Int} : m_fH (m_fH h n sm f w hp) m sm' f' w' hp' = m_fH h m sm' f' w' hp' := by
  have e : ∀ A B : AH, A.1 = B.1 → A.2.1 = B.2.1 → A.2.2.2 = B.2.2.2 → (∀ a k, iH A a k = iH B a k) → A = B := by
    rintro ⟨a1, a2, a3, a4⟩ ⟨b1, b2, b3, b4⟩ rfl rfl rfl h4
    congr 3
    funext a k
    exact h4 a k
  refine e _ _ rfl rfl rfl fun a k => ?_
  by_cases c1 : a = 89
  · subst c1
    by_cases c2 : k = 43
    · subst c2; rw [r_fHs, r_fHs]
    · by_cases c3 : k = 42
      · subst c3; rw [r_fHn, r_fHn]
      · rw [r_fH71 c3 c2, r_fH71 c3 c2, r_fH71 c3 c2]
  · by_cases c2 : a = 1180
    · subst c2; rw [r_fHw, r_fHw]
    · by_cases c3 : a = 1179
      · subst c3; rw [r_fHf, r_fHf]
      · by_cases c4 : a = 1178
        · subst c4
          have r : ∀ (h : AH) (n : Nat) (sm : Int) (f w hp : Nat → Int), iH (m_fH h n sm f w hp) 1178 k = hp k := fun h n sm f w hp => by
            unfold m_fH; rw [rI_ne (by decide), rI_ne (by decide), rW_ne (by decide), rW_ne (by decide), rW_same]
          rw [r, r]
        · rw [r_fH c1 c4 c3 c2, r_fH c1 c4 c3 c2, r_fH c1 c4 c3 c2]
theorem m_scr_tr {h h' h'' : AH} (h1 : m_scr h h') (h2 : m_scr h' h'') : m_scr h h'' := by
  rcases h2 with rfl | ⟨n, sm, f, w, hp, rfl⟩
  · exact h1
  · rcases h1 with rfl | ⟨n', sm', f', w', hp', rfl⟩
    · exact m_scr_fH
    · rw [m_fH_fH]; exact m_scr_fH
theorem r_scr {h h' : AH} {a k : Nat} (hs : m_scr h h') (h1 : a ≠ 89) (h2 : a ≠ 1178) (h3 : a ≠ 1179) (h4 : a ≠ 1180) : iH h' a k = iH h a k := by
  rcases hs with rfl | ⟨n, sm, f, w, hp, rfl⟩
  · rfl
  · exact r_fH h1 h2 h3 h4
theorem r_scr71 {h h' : AH} {k : Nat} (hs : m_scr h h') (h1 : k ≠ 42) (h2 : k ≠ 43) : iH h' 89 k = iH h 89 k := by
  rcases hs with rfl | ⟨n, sm, f, w, hp, rfl⟩
  · rfl
  · exact r_fH71 h1 h2
theorem AgQ_scr {h h' : AH} (hs : m_scr h h') : AgQ h h' := fun a k h1 h2 h3 => r_scr hs (by omega) (by omega) (by omega) (by omega)
theorem m_shOK_cg {h h' : AH} (hs : m_shOK h) (e1 : ∀ k, iH h' 1183 k = iH h 1183 k) (e2 : ∀ k, iH h' 1184 k = iH h 1184 k) : m_shOK h' := fun s h4 => by rw [e1, e2]; exact hs s h4
theorem a_oth_cg {h h' : AH} {s t q : Int} (hs : m_scr h h') (hb : 0 ≤ s ∧ s ≤ 3) (hn : m_stT h t) (hq : m_qok h q) : a_oth h' s t q = a_oth h s t q := by
  have e1 : iH h' 1184 s.toNat = iH h 1184 s.toNat := r_scr hs (by decide) (by decide) (by decide) (by decide)
  unfold a_oth
  rw [e1, m_F_cg (AgQ_scr hs) hn hq]
  have : fst (m_othP h' (m_F h t q) s.toNat) (iH h 1184 s.toNat).toNat = fst (m_othP h (m_F h t q) s.toNat) (iH h 1184 s.toNat).toNat := fst_cg fun k _ => by
    unfold m_othP
    rw [r_scr hs (by decide) (by decide) (by decide) (by decide), r_scr (a := 1186 + s.toNat) hs (by omega) (by omega) (by omega) (by omega)]
  rw [this]
noncomputable def a_tells (h : AH) (s v q w : Int) : Int := if w = 0 then a_oth h s v q else if w = 1 then m_bits (fun i => a_oth h s v i = -1) (iH h 89 30).toNat else m_bits (fun i => iH h 1137 i ≠ 0 ∧ a_oth h s i q = -1) 4
def m_telOK (h : AH) (s v q w : Int) : Prop := (0 ≤ s ∧ s ≤ 3) ∧ (0 ≤ v ∧ v ≤ 3) ∧ (0 ≤ q ∧ q ≤ iH h 89 30 - 1) ∧ (0 ≤ w ∧ w ≤ 2)
def p_tells (h : AH) (s v q w : Int) (x : Int) (h' : AH) : Prop := (¬ m_telOK h s v q w ∧ x = -2 ∧ h' = h) ∨ (m_telOK h s v q w ∧ iH h 1137 v.toNat = 0 ∧ x = -3 ∧ h' = h) ∨ (m_telOK h s v q w ∧ iH h 1137 v.toNat ≠ 0 ∧ iH h 1183 s.toNat < 0 ∧ x = -11 ∧ h' = h) ∨ (m_telOK h s v q w ∧ iH h 1137 v.toNat ≠ 0 ∧ 0 ≤ iH h 1183 s.toNat ∧ x = a_tells h s v q w ∧ m_scr h h')
theorem c_tells {h : AH} (hL : LayM h) {s v q w : Int} (hq : m_qs h) (hsh : m_shOK h) (hv : ∀ v : Int, 0 ≤ v → v ≤ 3 → iH h 1137 v.toNat ≠ 0 → m_gS h v) : Ct 6 0 0 mX12_tells [vr 89, vi s, vi v, vi q, vi w] h (QI (p_tells h s v q w)) := by
  have bad : ¬ m_telOK h s v q w → QI (p_tells h s v q w) (some (vi (-2))) h := fun q => ⟨_, rfl, Or.inl ⟨q, rfl, rfl⟩⟩
  have hq6 := hq.1
  refine e_X12_tells hL ⟨fun c => bad fun z => c z.1, fun c => ⟨fun c2 => bad fun z => c2 z.2.1, fun c2 => ⟨hq.1, fun c3 => bad fun z => c3 z.2.2.1, fun c3 => ⟨fun c4 => ⟨by omega, fun d0 => ?_, fun d0 => ⟨_, rfl, Or.inr (Or.inl ⟨⟨c, c2, c3, c4⟩, d0, rfl, rfl⟩)⟩⟩, fun c4 => bad fun z => c4 z.2.2.2⟩⟩⟩⟩
  have ok : m_telOK h s v q w := ⟨c, c2, c3, c4⟩
  have gv := hv v c2.1 c2.2 d0
  have gq := hq.2 q c3.1 c3.2
  have shc : ∀ H, m_scr h H → m_shOK H := fun H hs => m_shOK_cg hsh (fun k => r_scr hs (by decide) (by decide) (by decide) (by decide)) (fun k => r_scr hs (by decide) (by decide) (by decide) (by decide))
  refine ⟨by omega, fun d1 => ?_, fun d1 => ⟨_, rfl, Or.inr (Or.inr (Or.inl ⟨ok, d0, d1, rfl, rfl⟩))⟩⟩
  have fin : ∀ x H, x = a_tells h s v q w → m_scr h H → QI (p_tells h s v q w) (some (vi x)) H := fun x H hx hs => ⟨_, rfl, Or.inr (Or.inr (Or.inr ⟨ok, d0, d1, hx, hs⟩))⟩
  refine ⟨fun w0 => ⟨fun w1 => ⟨fun w2 => by omega, fun w2 => ?_⟩, fun w1 => ?_⟩, fun w0 => ?_⟩
  · have main := up (P := fun i => ∀ H, m_scr h H → wp mX12_tells 6 0 0 (QI (p_tells h s v q w)) 129 [some (vr 89), some (vi s), none, some (vi q), none, some (vi (m_bits (fun i => iH h 1137 i ≠ 0 ∧ a_oth h s i q = -1) i)), some (vi i)] [] H) 4 ?_ ?_
    · exact main h (Or.inl rfl)
    · intro H hs
      exact t_X12_tells_129 (m_scr_L hL hs) ⟨fun _ => fin _ _ (by unfold a_tells; rw [if_neg w0, if_neg w1]) hs, fun q => absurd q (by omega)⟩
    · intro i hi ih H hs
      have eT : iH H 1137 i = iH h 1137 i := r_scr hs (by decide) (by decide) (by decide) (by decide)
      refine t_X12_tells_129 (m_scr_L hL hs) ?_
      rw [show ((i : Int)).toNat = i from rfl, eT]
      refine ⟨fun q => absurd q (by omega), fun _ => ⟨by omega, fun e0 => ⟨by omega, ?_⟩, fun e0 => ?_⟩⟩
      · rw [← m_bits_n (p := fun i => iH h 1137 i ≠ 0 ∧ a_oth h s i q = -1) (i := i) (fun z => z.1 e0)]; exact ih H hs
      · have gi := hv i (by omega) (by omega) e0
        refine ⟨_, c_otherwise (h := H) (m_scr_L hL hs) ⟨c, m_stT_cg (AgQ_scr hs) gi.1, m_qok_cg2 (AgQ_scr hs) gq, shc H hs⟩, fun x h2 _ hx => ?_⟩
        obtain ⟨rfl, hs2⟩ := hx
        have hs3 := m_scr_tr hs hs2
        rw [a_oth_cg hs c gi.1 gq]
        refine ⟨m_scr_L hL hs3, fun e1 => ⟨by omega, ?_⟩, fun e1 => ⟨by omega, ?_⟩⟩
        · rw [← m_bits_n (p := fun i => iH h 1137 i ≠ 0 ∧ a_oth h s i q = -1) (i := i) (fun z => e1 z.2)]; exact ih _ hs3
        · rw [← m_bits_y (p := fun i => iH h 1137 i ≠ 0 ∧ a_oth h s i q = -1) (i := i) ⟨e0, e1⟩]; exact ih _ hs3
  · have main := up (P := fun i => ∀ H, m_scr h H → wp mX12_tells 6 0 0 (QI (p_tells h s v q w)) 84 [some (vr 89), some (vi s), some (vi v), some (vi q), some (vi w), some (vi (m_bits (fun i => a_oth h s v i = -1) i)), some (vi i)] [] H) (iH h 89 30).toNat ?_ ?_
    · exact main h (Or.inl rfl)
    · intro H hs
      have eQ : iH H 89 30 = iH h 89 30 := r_scr71 hs (by decide) (by decide)
      refine t_X12_tells_84 (m_scr_L hL hs) ?_
      rw [eQ]
      exact ⟨fun _ => ⟨fun _ => fin _ _ (by unfold a_tells; rw [if_neg w0, if_pos w1]) hs, fun w2 => by omega⟩, fun q => absurd q (by omega)⟩
    · intro i hi ih H hs
      have eQ : iH H 89 30 = iH h 89 30 := r_scr71 hs (by decide) (by decide)
      have gi := hq.2 i (by omega) (by omega)
      refine t_X12_tells_84 (m_scr_L hL hs) ?_
      rw [eQ]
      refine ⟨fun q => absurd q (by omega), fun _ => ?_⟩
      refine ⟨_, c_otherwise (h := H) (m_scr_L hL hs) ⟨c, m_stT_cg (AgQ_scr hs) gv.1, m_qok_cg2 (AgQ_scr hs) gi, shc H hs⟩, fun x h2 _ hx => ?_⟩
      obtain ⟨rfl, hs2⟩ := hx
      have hs3 := m_scr_tr hs hs2
      rw [a_oth_cg hs c gv.1 gi]
      refine ⟨m_scr_L hL hs3, fun e1 => ⟨by omega, ?_⟩, fun e1 => ⟨by omega, ?_⟩⟩
      · rw [← m_bits_n (p := fun i => a_oth h s v i = -1) (i := i) e1]; exact ih _ hs3
      · rw [← m_bits_y (p := fun i => a_oth h s v i = -1) (i := i) e1]; exact ih _ hs3
  · refine ⟨_, c_otherwise hL ⟨c, gv.1, gq, hsh⟩, fun x h2 _ hx => ⟨m_scr_L hL hx.2, fin _ _ ?_ hx.2⟩⟩
    rw [hx.1]; exact (if_pos w0).symm
