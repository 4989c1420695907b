/-! THE CLASS: HITS ARE ASKED; LOOKS; SHEETS -/
def b_X1_answer_0 : List IE := [(.iload_n 1, 1, 0, 0, 1, 0)]
theorem k_X1_answer_0 : ckIf mX1_answer 1 0 b_X1_answer_0 1 1 8 9 4 = true := by decide +kernel
def b_X1_answer_4 : List IE := [(.aload_n 0, 1, 0, 0, 0, 0), (.getfield 22, 3, 0, 1, 3, 0)]
theorem k_X1_answer_4 : ckI mX1_answer 1 4 b_X1_answer_4 8 = true := by decide +kernel
def b_X1_answer_9 : List IE := [(.iload_n 1, 1, 0, 0, 1, 0), (.iconst 2, 1, 2, 0, 0, 0)]
theorem k_X1_answer_9 : ckIc mX1_answer 1 9 b_X1_answer_9 11 1 8 19 14 = true := by decide +kernel
def b_X1_answer_14 : List IE := [(.aload_n 0, 1, 0, 0, 0, 0), (.getfield 26, 3, 0, 1, 4, 0)]
theorem k_X1_answer_14 : ckI mX1_answer 1 14 b_X1_answer_14 18 = true := by decide +kernel
def b_X1_answer_19 : List IE := [(.iload_n 1, 1, 0, 0, 1, 0), (.bipush 100, 2, 100, 0, 0, 0)]
theorem k_X1_answer_19 : ckIc mX1_answer 1 19 b_X1_answer_19 22 2 10 32 25 = true := by decide +kernel
def b_X1_answer_25 : List IE := [(.iload_n 1, 1, 0, 0, 1, 0), (.bipush 100, 2, 100, 0, 0, 0), (.isub, 1, 0, 0, 0, 0)]
theorem k_X1_answer_25 : ckGo mX1_answer 1 25 b_X1_answer_25 29 7 36 = true := by decide +kernel
def b_X1_answer_32 : List IE := [(.iload_n 1, 1, 0, 0, 1, 0), (.bipush 10, 2, 10, 0, 0, 0), (.isub, 1, 0, 0, 0, 0), (.istore_n 2, 1, 0, 0, 2, 0), (.iload_n 2, 1, 0, 0, 2, 0)]
theorem k_X1_answer_32 : ckIf mX1_answer 1 32 b_X1_answer_32 38 2 11 49 41 = true := by decide +kernel
def b_X1_answer_36 : List IE := [(.istore_n 2, 1, 0, 0, 2, 0), (.iload_n 2, 1, 0, 0, 2, 0)]
theorem k_X1_answer_36 : ckIf mX1_answer 1 36 b_X1_answer_36 38 2 11 49 41 = true := by decide +kernel
def b_X1_answer_41 : List IE := [(.iload_n 2, 1, 0, 0, 2, 0), (.aload_n 0, 1, 0, 0, 0, 0), (.getfield 22, 3, 0, 1, 3, 0)]
theorem k_X1_answer_41 : ckIc mX1_answer 1 41 b_X1_answer_41 46 2 5 51 49 = true := by decide +kernel
def b_X1_answer_49 : List IE := [(.iconst (-1), 1, (-1), 0, 0, 0)]
theorem k_X1_answer_49 : ckI mX1_answer 1 49 b_X1_answer_49 50 = true := by decide +kernel
def b_X1_answer_51 : List IE := [(.iload_n 1, 1, 0, 0, 1, 0), (.bipush 100, 2, 100, 0, 0, 0)]
theorem k_X1_answer_51 : ckIc mX1_answer 1 51 b_X1_answer_51 54 2 12 66 57 = true := by decide +kernel
def b_X1_answer_57 : List IE := [(.aload_n 0, 1, 0, 0, 0, 0), (.getfield 15, 3, 0, 1, 1, 1), (.iload_n 2, 1, 0, 0, 2, 0), (.iaload, 1, 0, 0, 0, 0)]
theorem k_X1_answer_57 : ckGo mX1_answer 1 57 b_X1_answer_57 63 9 72 = true := by decide +kernel
def b_X1_answer_66 : List IE := [(.aload_n 0, 1, 0, 0, 0, 0), (.getfield 9, 3, 0, 1, 0, 1), (.iload_n 2, 1, 0, 0, 2, 0), (.iaload, 1, 0, 0, 0, 0)]
theorem k_X1_answer_66 : ckI mX1_answer 1 66 b_X1_answer_66 72 = true := by decide +kernel
def b_X1_answer_72 : List IE := []
theorem k_X1_answer_72 : ckI mX1_answer 1 72 b_X1_answer_72 72 = true := by decide +kernel
theorem t_X1_answer_0 {rc rs : Nat} {Q : Option AV → AH → Prop} {h : AH} {a0 : Nat} {x1 : Int} (hL : LayL h) (hA0 : iHi a0) (hv : ((x1 ≠ 0 → ((x1 ≠ 2 → ((x1 < 100 → (-2147483648 ≤ (x1 - 10) ∧ (x1 - 10) < 2147483648) ∧ (((x1 - 10) < 0 → Q (some (vi (-1))) h) ∧ (0 ≤ (x1 - 10) → (((x1 - 10) < (iH h a0 3) → (0 ≤ (x1 - 10) ∧ (x1 - 10) < 64) ∧ Q (some (vi (iH h (a0 + 1) ((x1 - 10).toNat)))) h) ∧ ((iH h a0 3) ≤ (x1 - 10) → Q (some (vi (-1))) h))))) ∧ (100 ≤ x1 → (-2147483648 ≤ (x1 - 100) ∧ (x1 - 100) < 2147483648) ∧ (((x1 - 100) < 0 → Q (some (vi (-1))) h) ∧ (0 ≤ (x1 - 100) → (((x1 - 100) < (iH h a0 3) → (0 ≤ (x1 - 100) ∧ (x1 - 100) < 64) ∧ Q (some (vi (iH h (a0 + 2) ((x1 - 100).toNat)))) h) ∧ ((iH h a0 3) ≤ (x1 - 100) → Q (some (vi (-1))) h))))))) ∧ (x1 = 2 → Q (some (vi (iH h a0 4))) h))) ∧ (x1 = 0 → Q (some (vi (iH h a0 3))) h))) : wp mX1_answer 0 rc rs Q 0 [some (vr a0), some (vi x1), none] [] h :=
  (show wp mX1_answer 0 rc rs Q 0 [some (vr a0), some (vi x1), none] [] h from xIf k_X1_answer_0 (And.intro (fun c1 => have v3 := hv.1 c1; (show wp mX1_answer 0 rc rs Q 9 [some (vr a0), some (vi x1), none] [] h from xIc k_X1_answer_9 (And.intro (fun c5 => have v7 := v3.1 c5; (show wp mX1_answer 0 rc rs Q 19 [some (vr a0), some (vi x1), none] [] h from xIc k_X1_answer_19 (And.intro (fun c9 => have v11 := v7.1 c9; (show wp mX1_answer 0 rc rs Q 32 [some (vr a0), some (vi x1), none] [] h from xIf k_X1_answer_32 (have c13 := v11.1; have v24 := v11.2; (And.intro c13 (And.intro rfl (And.intro (fun c14 => have v16 := v24.1 c14; (show wp mX1_answer 0 rc rs Q 49 [some (vr a0), some (vi x1), some (vi (x1 - 10))] [] h from xI k_X1_answer_49 (And.intro rfl v16))) (fun c15 => have v17 := v24.2 (Int.not_lt.mp c15); (show wp mX1_answer 0 rc rs Q 41 [some (vr a0), some (vi x1), some (vi (x1 - 10))] [] h from xIc k_X1_answer_41 (And.intro (hi_o hL hA0) (And.intro (fun c18 => have v20 := v17.1 c18; (show wp mX1_answer 0 rc rs Q 51 [some (vr a0), some (vi x1), some (vi (x1 - 10))] [] h from xIc k_X1_answer_51 (And.intro (fun _ => (show wp mX1_answer 0 rc rs Q 66 [some (vr a0), some (vi x1), some (vi (x1 - 10))] [] h from xI k_X1_answer_66 (And.intro (hi_o hL hA0) (Exists.intro (a0 + 1) (And.intro (hi_r0 hL hA0) (have c22 := v20.1; have v23 := v20.2; (And.intro (sdI (hi_a0 hL hA0) c22) (And.intro rfl v23)))))))) (fun c => absurd (show x1 < 100 from c9) c)))) (fun c19 => have v21 := v17.2 (Int.not_lt.mp c19); (show wp mX1_answer 0 rc rs Q 49 [some (vr a0), some (vi x1), some (vi (x1 - 10))] [] h from xI k_X1_answer_49 (And.intro rfl v21))))))))))))) (fun c10 => have v12 := v7.2 (Int.not_lt.mp c10); (show wp mX1_answer 0 rc rs Q 25 [some (vr a0), some (vi x1), none] [] h from xGo k_X1_answer_25 (have c25 := v12.1; have v36 := v12.2; (And.intro c25 (show wp mX1_answer 0 rc rs Q 36 [some (vr a0), some (vi x1), none] [vi (x1 - 100)] h from xIf k_X1_answer_36 (And.intro rfl (And.intro (fun c26 => have v28 := v36.1 c26; (show wp mX1_answer 0 rc rs Q 49 [some (vr a0), some (vi x1), some (vi (x1 - 100))] [] h from xI k_X1_answer_49 (And.intro rfl v28))) (fun c27 => have v29 := v36.2 (Int.not_lt.mp c27); (show wp mX1_answer 0 rc rs Q 41 [some (vr a0), some (vi x1), some (vi (x1 - 100))] [] h from xIc k_X1_answer_41 (And.intro (hi_o hL hA0) (And.intro (fun c30 => have v32 := v29.1 c30; (show wp mX1_answer 0 rc rs Q 51 [some (vr a0), some (vi x1), some (vi (x1 - 100))] [] h from xIc k_X1_answer_51 (And.intro (fun c => (by have cq9 : x1 < 100 := c; have cq8 := (show 100 ≤ x1 from (Int.not_lt.mp c10)); omega)) (fun _ => (show wp mX1_answer 0 rc rs Q 57 [some (vr a0), some (vi x1), some (vi (x1 - 100))] [] h from xGo k_X1_answer_57 (And.intro (hi_o hL hA0) (Exists.intro (a0 + 2) (And.intro (hi_r1 hL hA0) (have c34 := v32.1; have v35 := v32.2; (And.intro (sdI (hi_a1 hL hA0) c34) (show wp mX1_answer 0 rc rs Q 72 [some (vr a0), some (vi x1), some (vi (x1 - 100))] [vi (iH h (a0 + 2) ((x1 - 100).toNat))] h from xI k_X1_answer_72 (And.intro rfl v35)))))))))))) (fun c31 => have v33 := v29.2 (Int.not_lt.mp c31); (show wp mX1_answer 0 rc rs Q 49 [some (vr a0), some (vi x1), some (vi (x1 - 100))] [] h from xI k_X1_answer_49 (And.intro rfl v33))))))))))))))))) (fun c6 => have v8 := v3.2 (Decidable.not_not.mp c6); (show wp mX1_answer 0 rc rs Q 14 [some (vr a0), some (vi x1), none] [] h from xI k_X1_answer_14 (And.intro (hi_o hL hA0) (And.intro rfl v8))))))) (fun c2 => have v4 := hv.2 (Decidable.not_not.mp c2); (show wp mX1_answer 0 rc rs Q 4 [some (vr a0), some (vi x1), none] [] h from xI k_X1_answer_4 (And.intro (hi_o hL hA0) (And.intro rfl v4))))))
theorem e_X1_answer {mc ms : Nat} {Q : Option AV → AH → Prop} {h : AH} {a0 : Nat} {x1 : Int} (hL : LayL h) (hA0 : iHi a0) (hv : ((x1 ≠ 0 → ((x1 ≠ 2 → ((x1 < 100 → (-2147483648 ≤ (x1 - 10) ∧ (x1 - 10) < 2147483648) ∧ (((x1 - 10) < 0 → Q (some (vi (-1))) h) ∧ (0 ≤ (x1 - 10) → (((x1 - 10) < (iH h a0 3) → (0 ≤ (x1 - 10) ∧ (x1 - 10) < 64) ∧ Q (some (vi (iH h (a0 + 1) ((x1 - 10).toNat)))) h) ∧ ((iH h a0 3) ≤ (x1 - 10) → Q (some (vi (-1))) h))))) ∧ (100 ≤ x1 → (-2147483648 ≤ (x1 - 100) ∧ (x1 - 100) < 2147483648) ∧ (((x1 - 100) < 0 → Q (some (vi (-1))) h) ∧ (0 ≤ (x1 - 100) → (((x1 - 100) < (iH h a0 3) → (0 ≤ (x1 - 100) ∧ (x1 - 100) < 64) ∧ Q (some (vi (iH h (a0 + 2) ((x1 - 100).toNat)))) h) ∧ ((iH h a0 3) ≤ (x1 - 100) → Q (some (vi (-1))) h))))))) ∧ (x1 = 2 → Q (some (vi (iH h a0 4))) h))) ∧ (x1 = 0 → Q (some (vi (iH h a0 3))) h))) : Ct 0 mc ms mX1_answer [vr a0, vi x1] h Q := Ct.of (by decide +kernel) (Nat.le_of_ble_eq_true rfl) (t_X1_answer_0 hL hA0 hv)
def b_X1_alsoIn_0 : List IE := [(.iconst 0, 1, 0, 0, 0, 0), (.istore_n 2, 1, 0, 0, 2, 0), (.iconst 0, 1, 0, 0, 0, 0), (.istore_n 3, 1, 0, 0, 3, 0)]
theorem k_X1_alsoIn_0 : ckB mX1_alsoIn 1 0 b_X1_alsoIn_0 4 = true := by decide +kernel
def b_X1_alsoIn_4 : List IE := [(.iload_n 3, 1, 0, 0, 3, 0), (.bipush 8, 2, 8, 0, 0, 0)]
theorem k_X1_alsoIn_4 : ckIc mX1_alsoIn 1 4 b_X1_alsoIn_4 7 3 28 35 10 = true := by decide +kernel
def b_X1_alsoIn_10 : List IE := [(.iload_n 2, 1, 0, 0, 2, 0), (.aload_n 0, 1, 0, 0, 0, 0), (.getfield 18, 3, 0, 1, 2, 1), (.iload_n 3, 1, 0, 0, 3, 0), (.laload, 1, 0, 0, 0, 0), (.aload_n 1, 1, 0, 0, 1, 0), (.getfield 18, 3, 0, 1, 2, 1), (.iload_n 3, 1, 0, 0, 3, 0), (.laload, 1, 0, 0, 0, 0), (.land, 1, 0, 0, 0, 0)]
theorem k_X1_alsoIn_10 : ckB mX1_alsoIn 1 10 b_X1_alsoIn_10 24 = true := by decide +kernel
def b_X1_alsoIn_27 : List IE := [(.iadd, 1, 0, 0, 0, 0), (.istore_n 2, 1, 0, 0, 2, 0), (.iinc 3 1, 3, 1, 0, 3, 0)]
theorem k_X1_alsoIn_27 : ckGo mX1_alsoIn 1 27 b_X1_alsoIn_27 32 (-28) 4 = true := by decide +kernel
def b_X1_alsoIn_35 : List IE := [(.iload_n 2, 1, 0, 0, 2, 0)]
theorem k_X1_alsoIn_35 : ckI mX1_alsoIn 1 35 b_X1_alsoIn_35 36 = true := by decide +kernel
theorem s_X1_alsoIn_24 : cS mX1_alsoIn 24 mJ13_bitCount_95d88 64 1 := ⟨by decide +kernel, ⟨ml_J13_bitCount_95d88, li_RX1_64, st_J13_bitCount_95d88⟩, by decide +kernel⟩
theorem t_X1_alsoIn_0 {rc rs : Nat} {Q : Option AV → AH → Prop} {h : AH} {a0 a1 : Nat} (hL : LayL h) (hA0 : iHi a0) (hA1 : iHi a1) (hv : wp mX1_alsoIn 1 rc rs Q 4 [some (vr a0), some (vr a1), some (vi 0), some (vi 0)] [] h) : wp mX1_alsoIn 1 rc rs Q 0 [some (vr a0), some (vr a1), none, none] [] h :=
  (show wp mX1_alsoIn 1 rc rs Q 0 [some (vr a0), some (vr a1), none, none] [] h from xB k_X1_alsoIn_0 (And.intro rfl (And.intro rfl hv)))
theorem e_X1_alsoIn {mc ms : Nat} {Q : Option AV → AH → Prop} {h : AH} {a0 a1 : Nat} (hL : LayL h) (hA0 : iHi a0) (hA1 : iHi a1) (hv : wp mX1_alsoIn 1 mc ms Q 4 [some (vr a0), some (vr a1), some (vi 0), some (vi 0)] [] h) : Ct 1 mc ms mX1_alsoIn [vr a0, vr a1] h Q := Ct.of (by decide +kernel) (Nat.le_of_ble_eq_true rfl) (t_X1_alsoIn_0 hL hA0 hA1 hv)
theorem t_X1_alsoIn_4 {rc rs : Nat} {Q : Option AV → AH → Prop} {h : AH} {a0 a1 : Nat} {x2 x3 : Int} (hL : LayL h) (hA0 : iHi a0) (hA1 : iHi a1) (hv : ((8 ≤ x3 → Q (some (vi x2)) h) ∧ (x3 < 8 → (0 ≤ x3 ∧ x3 < 8) ∧ (-2147483648 ≤ (x2 + pcL ((jH h (a0 + 3) x3.toNat) &&& (jH h (a1 + 3) x3.toNat))) ∧ (x2 + pcL ((jH h (a0 + 3) x3.toNat) &&& (jH h (a1 + 3) x3.toNat))) < 2147483648) ∧ (-2147483648 ≤ (x3 + 1) ∧ (x3 + 1) < 2147483648) ∧ wp mX1_alsoIn 1 rc rs Q 4 [some (vr a0), some (vr a1), some (vi (x2 + pcL ((jH h (a0 + 3) x3.toNat) &&& (jH h (a1 + 3) x3.toNat)))), some (vi (x3 + 1))] [] h))) : wp mX1_alsoIn 1 rc rs Q 4 [some (vr a0), some (vr a1), some (vi x2), some (vi x3)] [] h :=
  (show wp mX1_alsoIn 1 rc rs Q 4 [some (vr a0), some (vr a1), some (vi x2), some (vi x3)] [] h from xIc k_X1_alsoIn_4 (And.intro (fun c1 => have v3 := hv.1 c1; (show wp mX1_alsoIn 1 rc rs Q 35 [some (vr a0), some (vr a1), some (vi x2), some (vi x3)] [] h from xI k_X1_alsoIn_35 (And.intro rfl v3))) (fun c2 => have v4 := hv.2 (Int.not_le.mp c2); (show wp mX1_alsoIn 1 rc rs Q 10 [some (vr a0), some (vr a1), some (vi x2), some (vi x3)] [] h from xcS k_X1_alsoIn_10 s_X1_alsoIn_24 (And.intro (hi_o hL hA0) (Exists.intro (a0 + 3) (And.intro (hi_r2 hL hA0) (have c5 := v4.1; have v14 := v4.2; (And.intro (sdJ (hi_a2 hL hA0) c5) (And.intro (hi_o hL hA1) (Exists.intro (a1 + 3) (And.intro (hi_r2 hL hA1) (And.intro (sdJ (hi_a2 hL hA1) c5) ((Exists.intro [vl ((jH h (a0 + 3) x3.toNat) &&& (jH h (a1 + 3) x3.toNat))] (Exists.intro [vi x2] (And.intro (And.intro rfl (And.intro rfl (Nat.le_of_ble_eq_true rfl))) (Exists.intro 0 (Exists.intro 0 (Exists.intro 0 (Exists.intro _ (And.intro c_bitCount (And.intro (And.intro (by decide) (And.intro (Nat.zero_le _) (Nat.zero_le _))) (eQP (show wp mX1_alsoIn 1 rc rs Q 27 [some (vr a0), some (vr a1), some (vi x2), some (vi x3)] [vi (pcL ((jH h (a0 + 3) x3.toNat) &&& (jH h (a1 + 3) x3.toNat))), vi x2] h from xGo k_X1_alsoIn_27 (have c7 := v14.1; have v10 := v14.2; (And.intro c7 (And.intro rfl (have c8 := v10.1; have v9 := v10.2; (And.intro c8 (And.intro rfl v9)))))))))))))))))))))))))))))))
def b_X2_start_0 : List IE := [(.aload_n 0, 1, 0, 0, 0, 0), (.dup, 1, 0, 0, 0, 0), (.getfield 15, 3, 0, 2, 0, 0), (.iconst 1, 1, 1, 0, 0, 0), (.iadd, 1, 0, 0, 0, 0), (.putfield 15, 3, 0, 2, 0, 0), (.aload_n 0, 1, 0, 0, 0, 0), (.getfield 15, 3, 0, 2, 0, 0)]
theorem k_X2_start_0 : ckI mX2_start 2 0 b_X2_start_0 14 = true := by decide +kernel
theorem t_X2_start_0 {rc rs : Nat} {Q : Option AV → AH → Prop} {h : AH}  (hL : LayL h) (hv : (-2147483648 ≤ (iH h 21 0 + 1) ∧ (iH h 21 0 + 1) < 2147483648) ∧ Q (some (vi (iH h 21 0 + 1))) (sI h 21 0 (iH h 21 0 + 1))) : wp mX2_start 0 rc rs Q 0 [some (vr 21)] [] h :=
  (show wp mX2_start 0 rc rs Q 0 [some (vr 21)] [] h from xI k_X2_start_0 (And.intro rfl (And.intro (ll_21 hL) (have c1 := hv.1; have v2 := hv.2; (And.intro c1 (And.intro (ll_21 hL) (And.intro (ll_21 hL) (And.intro rfl v2))))))))
theorem e_X2_start {mc ms : Nat} {Q : Option AV → AH → Prop} {h : AH}  (hL : LayL h) (hv : (-2147483648 ≤ (iH h 21 0 + 1) ∧ (iH h 21 0 + 1) < 2147483648) ∧ Q (some (vi (iH h 21 0 + 1))) (sI h 21 0 (iH h 21 0 + 1))) : Ct 0 mc ms mX2_start [vr 21] h Q := Ct.of (by decide +kernel) (Nat.le_of_ble_eq_true rfl) (t_X2_start_0 hL hv)
def b_X2_end_0 : List IE := [(.aload_n 0, 1, 0, 0, 0, 0), (.aload_n 0, 1, 0, 0, 0, 0), (.getfield 19, 3, 0, 2, 2, 0), (.iconst 1, 1, 1, 0, 0, 0), (.iadd, 1, 0, 0, 0, 0), (.bipush 8, 2, 8, 0, 0, 0)]
theorem k_X2_end_0 : ckB mX2_end 2 0 b_X2_end_0 9 = true := by decide +kernel
def b_X2_end_12 : List IE := [(.putfield 19, 3, 0, 2, 2, 0), (.aload_n 0, 1, 0, 0, 0, 0), (.getfield 19, 3, 0, 2, 2, 0), (.iconst 1, 1, 1, 0, 0, 0), (.isub, 1, 0, 0, 0, 0), (.istore_n 2, 1, 0, 0, 2, 0)]
theorem k_X2_end_12 : ckB mX2_end 2 12 b_X2_end_12 22 = true := by decide +kernel
def b_X2_end_22 : List IE := [(.iload_n 2, 1, 0, 0, 2, 0)]
theorem k_X2_end_22 : ckIf mX2_end 2 22 b_X2_end_22 23 5 23 46 26 = true := by decide +kernel
def b_X2_end_26 : List IE := [(.aload_n 0, 1, 0, 0, 0, 0), (.getfield 9, 3, 0, 2, 1, 1), (.iload_n 2, 1, 0, 0, 2, 0), (.aload_n 0, 1, 0, 0, 0, 0), (.getfield 9, 3, 0, 2, 1, 1), (.iload_n 2, 1, 0, 0, 2, 0), (.iconst 1, 1, 1, 0, 0, 0), (.isub, 1, 0, 0, 0, 0), (.iaload, 1, 0, 0, 0, 0), (.iastore, 1, 0, 0, 0, 0), (.iinc 2 (-1), 3, (-1), 0, 2, 0)]
theorem k_X2_end_26 : ckGo mX2_end 2 26 b_X2_end_26 43 (-21) 22 = true := by decide +kernel
def b_X2_end_46 : List IE := [(.aload_n 0, 1, 0, 0, 0, 0), (.getfield 9, 3, 0, 2, 1, 1), (.iconst 0, 1, 0, 0, 0, 0), (.iload_n 1, 1, 0, 0, 1, 0), (.iastore, 1, 0, 0, 0, 0)]
theorem k_X2_end_46 : ckV mX2_end 2 46 b_X2_end_46 53 = true := by decide +kernel
theorem s_X2_end_9 : cMx mX2_end 9 22 Lib.Math.min.name Lib.Math.min.code 2 := ⟨by decide +kernel, gt_ok (List.mem_of_getElem? (i := 882) (by decide +kernel)) (by decide +kernel), gt_ok (List.mem_of_getElem? (i := 505) (by decide +kernel)) (by decide +kernel), gt_ok (List.mem_of_getElem? (i := 103) (by decide +kernel)) (by decide +kernel), gt_ok (List.mem_of_getElem? (i := 506) (by decide +kernel)) (by decide +kernel)⟩
theorem t_X2_end_0 {rc rs : Nat} {Q : Option AV → AH → Prop} {h : AH} {x1 : Int} (hL : LayL h) (hv : (-2147483648 ≤ (iH h 21 2 + 1) ∧ (iH h 21 2 + 1) < 2147483648) ∧ (-2147483648 ≤ ((min (iH h 21 2 + 1) 8) - 1) ∧ ((min (iH h 21 2 + 1) 8) - 1) < 2147483648) ∧ wp mX2_end 1 rc rs Q 22 [some (vr 21), some (vi x1), some (vi ((min (iH h 21 2 + 1) 8) - 1))] [] (sI h 21 2 (min (iH h 21 2 + 1) 8))) : wp mX2_end 1 rc rs Q 0 [some (vr 21), some (vi x1), none] [] h :=
  (show wp mX2_end 1 rc rs Q 0 [some (vr 21), some (vi x1), none] [] h from xMin k_X2_end_0 s_X2_end_9 (And.intro (ll_21 hL) (have c1 := hv.1; have v4 := hv.2; (And.intro c1 (And.intro (And.intro (Nat.le_of_ble_eq_true rfl) (Nat.le_of_ble_eq_true rfl)) (show wp mX2_end 1 rc rs Q 12 [some (vr 21), some (vi x1), none] [vi (min (iH h 21 2 + 1) 8), vr 21] h from xB k_X2_end_12 (And.intro (ll_21 hL) (And.intro (ll_21 hL) (have c2 := v4.1; have v3 := v4.2; (And.intro c2 (And.intro rfl v3)))))))))))
theorem e_X2_end {mc ms : Nat} {Q : Option AV → AH → Prop} {h : AH} {x1 : Int} (hL : LayL h) (hv : (-2147483648 ≤ (iH h 21 2 + 1) ∧ (iH h 21 2 + 1) < 2147483648) ∧ (-2147483648 ≤ ((min (iH h 21 2 + 1) 8) - 1) ∧ ((min (iH h 21 2 + 1) 8) - 1) < 2147483648) ∧ wp mX2_end 1 mc ms Q 22 [some (vr 21), some (vi x1), some (vi ((min (iH h 21 2 + 1) 8) - 1))] [] (sI h 21 2 (min (iH h 21 2 + 1) 8))) : Ct 1 mc ms mX2_end [vr 21, vi x1] h Q := Ct.of (by decide +kernel) (Nat.le_of_ble_eq_true rfl) (t_X2_end_0 hL hv)
theorem t_X2_end_22 {rc rs : Nat} {Q : Option AV → AH → Prop} {h : AH} {x1 x2 : Int} (hL : LayL h) (hv : ((x2 ≤ 0 → Q none (sI h 22 0 x1)) ∧ (0 < x2 → (-2147483648 ≤ (x2 - 1) ∧ (x2 - 1) < 2147483648) ∧ (0 ≤ (x2 - 1) ∧ (x2 - 1) < 8) ∧ (0 ≤ x2 ∧ x2 < 8) ∧ (-2147483648 ≤ (x2 + (-1)) ∧ (x2 + (-1)) < 2147483648) ∧ wp mX2_end 1 rc rs Q 22 [some (vr 21), some (vi x1), some (vi (x2 + (-1)))] [] (sI h 22 x2.toNat (iH h 22 ((x2 - 1).toNat)))))) : wp mX2_end 1 rc rs Q 22 [some (vr 21), some (vi x1), some (vi x2)] [] h :=
  (show wp mX2_end 1 rc rs Q 22 [some (vr 21), some (vi x1), some (vi x2)] [] h from xIf k_X2_end_22 (And.intro (fun c1 => have v3 := hv.1 c1; (show wp mX2_end 1 rc rs Q 46 [some (vr 21), some (vi x1), some (vi x2)] [] h from xV k_X2_end_46 (And.intro (ll_21 hL) (Exists.intro 22 (And.intro (lg_21_1 hL) (And.intro (sdI (ll_22 hL) (by decide)) (And.intro rfl v3))))))) (fun c2 => have v4 := hv.2 (Int.not_le.mp c2); (show wp mX2_end 1 rc rs Q 26 [some (vr 21), some (vi x1), some (vi x2)] [] h from xGo k_X2_end_26 (And.intro (ll_21 hL) (Exists.intro 22 (And.intro (lg_21_1 hL) (And.intro (ll_21 hL) (Exists.intro 22 (And.intro (lg_21_1 hL) (have c5 := v4.1; have v12 := v4.2; (And.intro c5 (have c6 := v12.1; have v11 := v12.2; (And.intro (sdI (ll_22 hL) c6) (have c7 := v11.1; have v10 := v11.2; (And.intro (sdI (ll_22 hL) c7) (have c8 := v10.1; have v9 := v10.2; (And.intro c8 (And.intro rfl v9)))))))))))))))))))
def b_X2_ended_0 : List IE := [(.iload_n 1, 1, 0, 0, 1, 0)]
theorem k_X2_ended_0 : ckIf mX2_ended 2 0 b_X2_ended_0 1 2 20 21 4 = true := by decide +kernel
def b_X2_ended_4 : List IE := [(.iload_n 1, 1, 0, 0, 1, 0), (.aload_n 0, 1, 0, 0, 0, 0), (.getfield 19, 3, 0, 2, 2, 0)]
theorem k_X2_ended_4 : ckIc mX2_ended 2 4 b_X2_ended_4 9 3 12 21 12 = true := by decide +kernel
def b_X2_ended_12 : List IE := [(.aload_n 0, 1, 0, 0, 0, 0), (.getfield 9, 3, 0, 2, 1, 1), (.iload_n 1, 1, 0, 0, 1, 0), (.iaload, 1, 0, 0, 0, 0)]
theorem k_X2_ended_12 : ckGo mX2_ended 2 12 b_X2_ended_12 18 4 22 = true := by decide +kernel
def b_X2_ended_21 : List IE := [(.iconst (-1), 1, (-1), 0, 0, 0)]
theorem k_X2_ended_21 : ckI mX2_ended 2 21 b_X2_ended_21 22 = true := by decide +kernel
def b_X2_ended_22 : List IE := []
theorem k_X2_ended_22 : ckI mX2_ended 2 22 b_X2_ended_22 22 = true := by decide +kernel
theorem t_X2_ended_0 {rc rs : Nat} {Q : Option AV → AH → Prop} {h : AH} {x1 : Int} (hL : LayL h) (hv : ((x1 < 0 → Q (some (vi (-1))) h) ∧ (0 ≤ x1 → (((iH h 21 2) ≤ x1 → Q (some (vi (-1))) h) ∧ (x1 < (iH h 21 2) → (0 ≤ x1 ∧ x1 < 8) ∧ Q (some (vi (iH h 22 x1.toNat))) h))))) : wp mX2_ended 0 rc rs Q 0 [some (vr 21), some (vi x1)] [] h :=
  (show wp mX2_ended 0 rc rs Q 0 [some (vr 21), some (vi x1)] [] h from xIf k_X2_ended_0 (And.intro (fun c1 => have v3 := hv.1 c1; (show wp mX2_ended 0 rc rs Q 21 [some (vr 21), some (vi x1)] [] h from xI k_X2_ended_21 (And.intro rfl v3))) (fun c2 => have v4 := hv.2 (Int.not_lt.mp c2); (show wp mX2_ended 0 rc rs Q 4 [some (vr 21), some (vi x1)] [] h from xIc k_X2_ended_4 (And.intro (ll_21 hL) (And.intro (fun c5 => have v7 := v4.1 c5; (show wp mX2_ended 0 rc rs Q 21 [some (vr 21), some (vi x1)] [] h from xI k_X2_ended_21 (And.intro rfl v7))) (fun c6 => have v8 := v4.2 (Int.not_le.mp c6); (show wp mX2_ended 0 rc rs Q 12 [some (vr 21), some (vi x1)] [] h from xGo k_X2_ended_12 (And.intro (ll_21 hL) (Exists.intro 22 (And.intro (lg_21_1 hL) (have c9 := v8.1; have v10 := v8.2; (And.intro (sdI (ll_22 hL) c9) (show wp mX2_ended 0 rc rs Q 22 [some (vr 21), some (vi x1)] [vi (iH h 22 x1.toNat)] h from xI k_X2_ended_22 (And.intro rfl v10)))))))))))))))
theorem e_X2_ended {mc ms : Nat} {Q : Option AV → AH → Prop} {h : AH} {x1 : Int} (hL : LayL h) (hv : ((x1 < 0 → Q (some (vi (-1))) h) ∧ (0 ≤ x1 → (((iH h 21 2) ≤ x1 → Q (some (vi (-1))) h) ∧ (x1 < (iH h 21 2) → (0 ≤ x1 ∧ x1 < 8) ∧ Q (some (vi (iH h 22 x1.toNat))) h))))) : Ct 0 mc ms mX2_ended [vr 21, vi x1] h Q := Ct.of (by decide +kernel) (Nat.le_of_ble_eq_true rfl) (t_X2_ended_0 hL hv)
def b_X8_isMissing_0 : List IE := [(.aload_n 0, 1, 0, 0, 0, 0), (.getfield 15, 3, 0, 8, 1, 0), (.iconst (-1), 1, (-1), 0, 0, 0)]
theorem k_X8_isMissing_0 : ckIc mX8_isMissing 8 0 b_X8_isMissing_0 5 1 7 12 8 = true := by decide +kernel
def b_X8_isMissing_8 : List IE := [(.iconst 1, 1, 1, 0, 0, 0)]
theorem k_X8_isMissing_8 : ckGo mX8_isMissing 8 8 b_X8_isMissing_8 9 4 13 = true := by decide +kernel
def b_X8_isMissing_12 : List IE := [(.iconst 0, 1, 0, 0, 0, 0)]
theorem k_X8_isMissing_12 : ckZ mX8_isMissing 8 12 b_X8_isMissing_12 13 = true := by decide +kernel
def b_X8_isMissing_13 : List IE := []
theorem k_X8_isMissing_13 : ckZ mX8_isMissing 8 13 b_X8_isMissing_13 13 = true := by decide +kernel
theorem t_X8_isMissing_0 {rc rs : Nat} {Q : Option AV → AH → Prop} {h : AH} {a0 : Nat} (hL : LayL h) (hA0 : iSh a0) (hv : (((iH h a0 1) ≠ (-1) → Q (some (vi 0)) h) ∧ ((iH h a0 1) = (-1) → Q (some (vi 1)) h))) : wp mX8_isMissing 0 rc rs Q 0 [some (vr a0)] [] h :=
  (show wp mX8_isMissing 0 rc rs Q 0 [some (vr a0)] [] h from xIc k_X8_isMissing_0 (And.intro (sh_o hL hA0) (And.intro (fun c1 => have v3 := hv.1 c1; (show wp mX8_isMissing 0 rc rs Q 12 [some (vr a0)] [] h from xZ k_X8_isMissing_12 (And.intro rfl (And.intro (Or.inl rfl) v3)))) (fun c2 => have v4 := hv.2 (Decidable.not_not.mp c2); (show wp mX8_isMissing 0 rc rs Q 8 [some (vr a0)] [] h from xGo k_X8_isMissing_8 (show wp mX8_isMissing 0 rc rs Q 13 [some (vr a0)] [vi 1] h from xZ k_X8_isMissing_13 (And.intro rfl (And.intro (Or.inr rfl) v4))))))))
theorem e_X8_isMissing {mc ms : Nat} {Q : Option AV → AH → Prop} {h : AH} {a0 : Nat} (hL : LayL h) (hA0 : iSh a0) (hv : (((iH h a0 1) ≠ (-1) → Q (some (vi 0)) h) ∧ ((iH h a0 1) = (-1) → Q (some (vi 1)) h))) : Ct 0 mc ms mX8_isMissing [vr a0] h Q := Ct.of (by decide +kernel) (Nat.le_of_ble_eq_true rfl) (t_X8_isMissing_0 hL hA0 hv)
def b_X8_become_0 : List IE := [(.aload_n 0, 1, 0, 0, 0, 0), (.iload_n 1, 1, 0, 0, 1, 0), (.putfield 15, 3, 0, 8, 1, 0), (.aload_n 0, 1, 0, 0, 0, 0), (.iload_n 2, 1, 0, 0, 2, 0), (.putfield 19, 3, 0, 8, 2, 0), (.iconst 0, 1, 0, 0, 0, 0), (.istore_n 3, 1, 0, 0, 3, 0)]
theorem k_X8_become_0 : ckB mX8_become 8 0 b_X8_become_0 12 = true := by decide +kernel
def b_X8_become_12 : List IE := [(.iload_n 3, 1, 0, 0, 3, 0), (.bipush 40, 2, 40, 0, 0, 0)]
theorem k_X8_become_12 : ckIc mX8_become 8 12 b_X8_become_12 15 3 16 31 18 = true := by decide +kernel
def b_X8_become_18 : List IE := [(.aload_n 0, 1, 0, 0, 0, 0), (.getfield 9, 3, 0, 8, 0, 1), (.iload_n 3, 1, 0, 0, 3, 0), (.iconst 0, 1, 0, 0, 0, 0), (.iastore, 1, 0, 0, 0, 0), (.iinc 3 1, 3, 1, 0, 3, 0)]
theorem k_X8_become_18 : ckGo mX8_become 8 18 b_X8_become_18 28 (-16) 12 = true := by decide +kernel
def b_X8_become_31 : List IE := []
theorem k_X8_become_31 : ckV mX8_become 8 31 b_X8_become_31 31 = true := by decide +kernel
theorem t_X8_become_0 {rc rs : Nat} {Q : Option AV → AH → Prop} {h : AH} {a0 : Nat} {x1 x2 : Int} (hL : LayL h) (hA0 : iSh a0) (hv : wp mX8_become 0 rc rs Q 12 [some (vr a0), none, none, some (vi 0)] [] (sI (sI h a0 1 x1) a0 2 x2)) : wp mX8_become 0 rc rs Q 0 [some (vr a0), some (vi x1), some (vi x2), none] [] h :=
  (show wp mX8_become 0 rc rs Q 0 [some (vr a0), some (vi x1), some (vi x2), none] [] h from xB k_X8_become_0 (And.intro (sh_o hL hA0) (And.intro (sh_o hL hA0) (And.intro rfl (w_fg [true, false, false, true] hv)))))
theorem e_X8_become {mc ms : Nat} {Q : Option AV → AH → Prop} {h : AH} {a0 : Nat} {x1 x2 : Int} (hL : LayL h) (hA0 : iSh a0) (hv : wp mX8_become 0 mc ms Q 12 [some (vr a0), none, none, some (vi 0)] [] (sI (sI h a0 1 x1) a0 2 x2)) : Ct 0 mc ms mX8_become [vr a0, vi x1, vi x2] h Q := Ct.of (by decide +kernel) (Nat.le_of_ble_eq_true rfl) (t_X8_become_0 hL hA0 hv)
theorem t_X8_become_12 {rc rs : Nat} {Q : Option AV → AH → Prop} {h : AH} {a0 : Nat} {x3 : Int} (hL : LayL h) (hA0 : iSh a0) (hv : ((40 ≤ x3 → Q none h) ∧ (x3 < 40 → (0 ≤ x3 ∧ x3 < 40) ∧ (-2147483648 ≤ (x3 + 1) ∧ (x3 + 1) < 2147483648) ∧ wp mX8_become 0 rc rs Q 12 [some (vr a0), none, none, some (vi (x3 + 1))] [] (sI h (a0 + 1) x3.toNat 0)))) : wp mX8_become 0 rc rs Q 12 [some (vr a0), none, none, some (vi x3)] [] h :=
  (show wp mX8_become 0 rc rs Q 12 [some (vr a0), none, none, some (vi x3)] [] h from xIc k_X8_become_12 (And.intro (fun c1 => have v3 := hv.1 c1; (show wp mX8_become 0 rc rs Q 31 [some (vr a0), none, none, some (vi x3)] [] h from xV k_X8_become_31 (And.intro rfl v3))) (fun c2 => have v4 := hv.2 (Int.not_le.mp c2); (show wp mX8_become 0 rc rs Q 18 [some (vr a0), none, none, some (vi x3)] [] h from xGo k_X8_become_18 (And.intro (sh_o hL hA0) (Exists.intro (a0 + 1) (And.intro (sh_r0 hL hA0) (have c5 := v4.1; have v8 := v4.2; (And.intro (sdI (sh_a0 hL hA0) c5) (have c6 := v8.1; have v7 := v8.2; (And.intro c6 (And.intro rfl v7))))))))))))
def b_X8_hasItems_0 : List IE := [(.iload_n 1, 1, 0, 0, 1, 0)]
theorem k_X8_hasItems_0 : ckIf mX8_hasItems 8 0 b_X8_hasItems_0 1 2 29 30 4 = true := by decide +kernel
def b_X8_hasItems_4 : List IE := [(.iload_n 2, 1, 0, 0, 2, 0)]
theorem k_X8_hasItems_4 : ckIf mX8_hasItems 8 4 b_X8_hasItems_4 5 2 25 30 8 = true := by decide +kernel
def b_X8_hasItems_8 : List IE := [(.iload_n 1, 1, 0, 0, 1, 0), (.aload_n 0, 1, 0, 0, 0, 0), (.getfield 19, 3, 0, 8, 2, 0)]
theorem k_X8_hasItems_8 : ckIc mX8_hasItems 8 8 b_X8_hasItems_8 13 4 17 30 16 = true := by decide +kernel
def b_X8_hasItems_16 : List IE := [(.iload_n 2, 1, 0, 0, 2, 0), (.aload_n 0, 1, 0, 0, 0, 0), (.getfield 19, 3, 0, 8, 2, 0), (.iload_n 1, 1, 0, 0, 1, 0), (.isub, 1, 0, 0, 0, 0)]
theorem k_X8_hasItems_16 : ckIc mX8_hasItems 8 16 b_X8_hasItems_16 23 4 7 30 26 = true := by decide +kernel
def b_X8_hasItems_26 : List IE := [(.iconst 1, 1, 1, 0, 0, 0)]
theorem k_X8_hasItems_26 : ckGo mX8_hasItems 8 26 b_X8_hasItems_26 27 4 31 = true := by decide +kernel
def b_X8_hasItems_30 : List IE := [(.iconst 0, 1, 0, 0, 0, 0)]
theorem k_X8_hasItems_30 : ckZ mX8_hasItems 8 30 b_X8_hasItems_30 31 = true := by decide +kernel
def b_X8_hasItems_31 : List IE := []
theorem k_X8_hasItems_31 : ckZ mX8_hasItems 8 31 b_X8_hasItems_31 31 = true := by decide +kernel
theorem t_X8_hasItems_0 {rc rs : Nat} {Q : Option AV → AH → Prop} {h : AH} {a0 : Nat} {x1 x2 : Int} (hL : LayL h) (hA0 : iSh a0) (hv : ((x1 < 0 → Q (some (vi 0)) h) ∧ (0 ≤ x1 → ((x2 < 0 → Q (some (vi 0)) h) ∧ (0 ≤ x2 → (((iH h a0 2) < x1 → Q (some (vi 0)) h) ∧ (x1 ≤ (iH h a0 2) → (-2147483648 ≤ (iH h a0 2 - x1) ∧ (iH h a0 2 - x1) < 2147483648) ∧ (((iH h a0 2 - x1) < x2 → Q (some (vi 0)) h) ∧ (x2 ≤ (iH h a0 2 - x1) → Q (some (vi 1)) h))))))))) : wp mX8_hasItems 0 rc rs Q 0 [some (vr a0), some (vi x1), some (vi x2)] [] h :=
  (show wp mX8_hasItems 0 rc rs Q 0 [some (vr a0), some (vi x1), some (vi x2)] [] h from xIf k_X8_hasItems_0 (And.intro (fun c1 => have v3 := hv.1 c1; (show wp mX8_hasItems 0 rc rs Q 30 [some (vr a0), some (vi x1), some (vi x2)] [] h from xZ k_X8_hasItems_30 (And.intro rfl (And.intro (Or.inl rfl) v3)))) (fun c2 => have v4 := hv.2 (Int.not_lt.mp c2); (show wp mX8_hasItems 0 rc rs Q 4 [some (vr a0), some (vi x1), some (vi x2)] [] h from xIf k_X8_hasItems_4 (And.intro (fun c5 => have v7 := v4.1 c5; (show wp mX8_hasItems 0 rc rs Q 30 [some (vr a0), some (vi x1), some (vi x2)] [] h from xZ k_X8_hasItems_30 (And.intro rfl (And.intro (Or.inl rfl) v7)))) (fun c6 => have v8 := v4.2 (Int.not_lt.mp c6); (show wp mX8_hasItems 0 rc rs Q 8 [some (vr a0), some (vi x1), some (vi x2)] [] h from xIc k_X8_hasItems_8 (And.intro (sh_o hL hA0) (And.intro (fun c9 => have v11 := v8.1 c9; (show wp mX8_hasItems 0 rc rs Q 30 [some (vr a0), some (vi x1), some (vi x2)] [] h from xZ k_X8_hasItems_30 (And.intro rfl (And.intro (Or.inl rfl) v11)))) (fun c10 => have v12 := v8.2 (Int.not_lt.mp c10); (show wp mX8_hasItems 0 rc rs Q 16 [some (vr a0), some (vi x1), some (vi x2)] [] h from xIc k_X8_hasItems_16 (And.intro (sh_o hL hA0) (have c13 := v12.1; have v18 := v12.2; (And.intro c13 (And.intro (fun c14 => have v16 := v18.1 c14; (show wp mX8_hasItems 0 rc rs Q 30 [some (vr a0), some (vi x1), some (vi x2)] [] h from xZ k_X8_hasItems_30 (And.intro rfl (And.intro (Or.inl rfl) v16)))) (fun c15 => have v17 := v18.2 (Int.not_lt.mp c15); (show wp mX8_hasItems 0 rc rs Q 26 [some (vr a0), some (vi x1), some (vi x2)] [] h from xGo k_X8_hasItems_26 (show wp mX8_hasItems 0 rc rs Q 31 [some (vr a0), some (vi x1), some (vi x2)] [vi 1] h from xZ k_X8_hasItems_31 (And.intro rfl (And.intro (Or.inr rfl) v17))))))))))))))))))))
theorem e_X8_hasItems {mc ms : Nat} {Q : Option AV → AH → Prop} {h : AH} {a0 : Nat} {x1 x2 : Int} (hL : LayL h) (hA0 : iSh a0) (hv : ((x1 < 0 → Q (some (vi 0)) h) ∧ (0 ≤ x1 → ((x2 < 0 → Q (some (vi 0)) h) ∧ (0 ≤ x2 → (((iH h a0 2) < x1 → Q (some (vi 0)) h) ∧ (x1 ≤ (iH h a0 2) → (-2147483648 ≤ (iH h a0 2 - x1) ∧ (iH h a0 2 - x1) < 2147483648) ∧ (((iH h a0 2 - x1) < x2 → Q (some (vi 0)) h) ∧ (x2 ≤ (iH h a0 2 - x1) → Q (some (vi 1)) h))))))))) : Ct 0 mc ms mX8_hasItems [vr a0, vi x1, vi x2] h Q := Ct.of (by decide +kernel) (Nat.le_of_ble_eq_true rfl) (t_X8_hasItems_0 hL hA0 hv)
def b_X8_firstOtherwise_0 : List IE := [(.iload_n 2, 1, 0, 0, 2, 0), (.aload_n 0, 1, 0, 0, 0, 0), (.getfield 19, 3, 0, 8, 2, 0)]
theorem k_X8_firstOtherwise_0 : ckB mX8_firstOtherwise 8 0 b_X8_firstOtherwise_0 5 = true := by decide +kernel
def b_X8_firstOtherwise_8 : List IE := [(.istore_n 3, 1, 0, 0, 3, 0), (.iconst 0, 1, 0, 0, 0, 0), (.istore 4, 2, 0, 0, 4, 0)]
theorem k_X8_firstOtherwise_8 : ckB mX8_firstOtherwise 8 8 b_X8_firstOtherwise_8 12 = true := by decide +kernel
def b_X8_firstOtherwise_12 : List IE := [(.iload 4, 2, 0, 0, 4, 0), (.iload_n 3, 1, 0, 0, 3, 0)]
theorem k_X8_firstOtherwise_12 : ckIc mX8_firstOtherwise 8 12 b_X8_firstOtherwise_12 15 3 26 41 18 = true := by decide +kernel
def b_X8_firstOtherwise_18 : List IE := [(.aload_n 0, 1, 0, 0, 0, 0), (.getfield 9, 3, 0, 8, 0, 1), (.iload 4, 2, 0, 0, 4, 0), (.iaload, 1, 0, 0, 0, 0), (.aload_n 1, 1, 0, 0, 1, 0), (.iload 4, 2, 0, 0, 4, 0), (.iaload, 1, 0, 0, 0, 0)]
theorem k_X8_firstOtherwise_18 : ckIc mX8_firstOtherwise 8 18 b_X8_firstOtherwise_18 29 0 6 35 32 = true := by decide +kernel
def b_X8_firstOtherwise_32 : List IE := [(.iload 4, 2, 0, 0, 4, 0)]
theorem k_X8_firstOtherwise_32 : ckI mX8_firstOtherwise 8 32 b_X8_firstOtherwise_32 34 = true := by decide +kernel
def b_X8_firstOtherwise_35 : List IE := [(.iinc 4 1, 3, 1, 0, 4, 0)]
theorem k_X8_firstOtherwise_35 : ckGo mX8_firstOtherwise 8 35 b_X8_firstOtherwise_35 38 (-26) 12 = true := by decide +kernel
def b_X8_firstOtherwise_41 : List IE := [(.iload_n 2, 1, 0, 0, 2, 0), (.aload_n 0, 1, 0, 0, 0, 0), (.getfield 19, 3, 0, 8, 2, 0)]
theorem k_X8_firstOtherwise_41 : ckIc mX8_firstOtherwise 8 41 b_X8_firstOtherwise_41 46 1 7 53 49 = true := by decide +kernel
def b_X8_firstOtherwise_49 : List IE := [(.iconst (-1), 1, (-1), 0, 0, 0)]
theorem k_X8_firstOtherwise_49 : ckGo mX8_firstOtherwise 8 49 b_X8_firstOtherwise_49 50 4 54 = true := by decide +kernel
def b_X8_firstOtherwise_53 : List IE := [(.iload_n 3, 1, 0, 0, 3, 0)]
theorem k_X8_firstOtherwise_53 : ckI mX8_firstOtherwise 8 53 b_X8_firstOtherwise_53 54 = true := by decide +kernel
def b_X8_firstOtherwise_54 : List IE := []
theorem k_X8_firstOtherwise_54 : ckI mX8_firstOtherwise 8 54 b_X8_firstOtherwise_54 54 = true := by decide +kernel
theorem s_X8_firstOtherwise_5 : cMx mX8_firstOtherwise 5 26 Lib.Math.min.name Lib.Math.min.code 2 := ⟨by decide +kernel, gt_ok (List.mem_of_getElem? (i := 919) (by decide +kernel)) (by decide +kernel), gt_ok (List.mem_of_getElem? (i := 505) (by decide +kernel)) (by decide +kernel), gt_ok (List.mem_of_getElem? (i := 103) (by decide +kernel)) (by decide +kernel), gt_ok (List.mem_of_getElem? (i := 506) (by decide +kernel)) (by decide +kernel)⟩
theorem t_X8_firstOtherwise_0 {rc rs : Nat} {Q : Option AV → AH → Prop} {h : AH} {a0 a1 n1 : Nat} {x2 : Int} (hL : LayL h) (hA0 : iSh a0) (hA1 : a1 < nH h ∧ kH h a1 = (13, n1)) (hv : wp mX8_firstOtherwise 1 rc rs Q 12 [some (vr a0), some (vr a1), some (vi x2), some (vi (min x2 (iH h a0 2))), some (vi 0)] [] h) : wp mX8_firstOtherwise 1 rc rs Q 0 [some (vr a0), some (vr a1), some (vi x2), none, none] [] h :=
  (show wp mX8_firstOtherwise 1 rc rs Q 0 [some (vr a0), some (vr a1), some (vi x2), none, none] [] h from xMin k_X8_firstOtherwise_0 s_X8_firstOtherwise_5 (And.intro (sh_o hL hA0) (And.intro (And.intro (Nat.le_of_ble_eq_true rfl) (Nat.le_of_ble_eq_true rfl)) (show wp mX8_firstOtherwise 1 rc rs Q 8 [some (vr a0), some (vr a1), some (vi x2), none, none] [vi (min x2 (iH h a0 2))] h from xB k_X8_firstOtherwise_8 (And.intro rfl (And.intro rfl hv))))))
theorem e_X8_firstOtherwise {mc ms : Nat} {Q : Option AV → AH → Prop} {h : AH} {a0 a1 n1 : Nat} {x2 : Int} (hL : LayL h) (hA0 : iSh a0) (hA1 : a1 < nH h ∧ kH h a1 = (13, n1)) (hv : wp mX8_firstOtherwise 1 mc ms Q 12 [some (vr a0), some (vr a1), some (vi x2), some (vi (min x2 (iH h a0 2))), some (vi 0)] [] h) : Ct 1 mc ms mX8_firstOtherwise [vr a0, vr a1, vi x2] h Q := Ct.of (by decide +kernel) (Nat.le_of_ble_eq_true rfl) (t_X8_firstOtherwise_0 hL hA0 hA1 hv)
theorem t_X8_firstOtherwise_12 {rc rs : Nat} {Q : Option AV → AH → Prop} {h : AH} {a0 a1 n1 : Nat} {x2 x3 x4 : Int} (hL : LayL h) (hA0 : iSh a0) (hA1 : a1 < nH h ∧ kH h a1 = (13, n1)) (hv : ((x3 ≤ x4 → ((x2 ≠ (iH h a0 2) → Q (some (vi x3)) h) ∧ (x2 = (iH h a0 2) → Q (some (vi (-1))) h))) ∧ (x4 < x3 → (0 ≤ x4 ∧ x4 < 40) ∧ (0 ≤ x4 ∧ x4 < n1) ∧ (((iH h (a0 + 1) x4.toNat) = (iH h a1 x4.toNat) → (-2147483648 ≤ (x4 + 1) ∧ (x4 + 1) < 2147483648) ∧ wp mX8_firstOtherwise 1 rc rs Q 12 [some (vr a0), some (vr a1), some (vi x2), some (vi x3), some (vi (x4 + 1))] [] h) ∧ ((iH h (a0 + 1) x4.toNat) ≠ (iH h a1 x4.toNat) → Q (some (vi x4)) h))))) : wp mX8_firstOtherwise 1 rc rs Q 12 [some (vr a0), some (vr a1), some (vi x2), some (vi x3), some (vi x4)] [] h :=
  (show wp mX8_firstOtherwise 1 rc rs Q 12 [some (vr a0), some (vr a1), some (vi x2), some (vi x3), some (vi x4)] [] h from xIc k_X8_firstOtherwise_12 (And.intro (fun c1 => have v3 := hv.1 c1; (show wp mX8_firstOtherwise 1 rc rs Q 41 [some (vr a0), some (vr a1), some (vi x2), some (vi x3), some (vi x4)] [] h from xIc k_X8_firstOtherwise_41 (And.intro (sh_o hL hA0) (And.intro (fun c5 => have v7 := v3.1 c5; (show wp mX8_firstOtherwise 1 rc rs Q 53 [some (vr a0), some (vr a1), some (vi x2), some (vi x3), some (vi x4)] [] h from xI k_X8_firstOtherwise_53 (And.intro rfl v7))) (fun c6 => have v8 := v3.2 (Decidable.not_not.mp c6); (show wp mX8_firstOtherwise 1 rc rs Q 49 [some (vr a0), some (vr a1), some (vi x2), some (vi x3), some (vi x4)] [] h from xGo k_X8_firstOtherwise_49 (show wp mX8_firstOtherwise 1 rc rs Q 54 [some (vr a0), some (vr a1), some (vi x2), some (vi x3), some (vi x4)] [vi (-1)] h from xI k_X8_firstOtherwise_54 (And.intro rfl v8)))))))) (fun c2 => have v4 := hv.2 (Int.not_le.mp c2); (show wp mX8_firstOtherwise 1 rc rs Q 18 [some (vr a0), some (vr a1), some (vi x2), some (vi x3), some (vi x4)] [] h from xIc k_X8_firstOtherwise_18 (And.intro (sh_o hL hA0) (Exists.intro (a0 + 1) (And.intro (sh_r0 hL hA0) (have c9 := v4.1; have v18 := v4.2; (And.intro (sdI (sh_a0 hL hA0) c9) (have c10 := v18.1; have v17 := v18.2; (And.intro (sdI hA1 c10) (And.intro (fun c11 => have v13 := v17.1 c11; (show wp mX8_firstOtherwise 1 rc rs Q 35 [some (vr a0), some (vr a1), some (vi x2), some (vi x3), some (vi x4)] [] h from xGo k_X8_firstOtherwise_35 (have c15 := v13.1; have v16 := v13.2; (And.intro c15 (And.intro rfl v16))))) (fun c12 => have v14 := v17.2 c12; (show wp mX8_firstOtherwise 1 rc rs Q 32 [some (vr a0), some (vr a1), some (vi x2), some (vi x3), some (vi x4)] [] h from xI k_X8_firstOtherwise_32 (And.intro rfl v14)))))))))))))))
def l_hit (h : AH) (a : Nat) (w : Int) : Int := if w = 0 then iH h a 3 else if w = 2 then iH h a 4 else if 100 ≤ w then (if w - 100 < iH h a 3 then iH h (a + 2) (w - 100).toNat else -1) else if w - 10 < iH h a 3 then iH h (a + 1) (w - 10).toNat else -1
theorem l_answerH {h : AH} (hL : LayL h) {a : Nat} {w : Int} (ha : iHi a) (hn : iH h a 3 ≤ 64) (hw : m_asked w) (h1 : w ≠ 1) : Ct 0 0 0 mX1_answer [vr a, vi w] h (QI fun x h' => x = l_hit h a w ∧ h' = h) := by
  unfold m_asked at hw
  refine e_X1_answer hL ha ?_
  unfold l_hit
  refine ⟨fun c => ⟨fun c2 => ⟨fun c3 => ⟨by omega, fun c4 => absurd c4 (by omega), fun c4 => ⟨fun c5 => ⟨by omega, _, rfl, ?_, rfl⟩, fun c5 => ⟨_, rfl, ?_, rfl⟩⟩⟩, fun c3 => ⟨by omega, fun c4 => absurd c4 (by omega), fun c4 => ⟨fun c5 => ⟨by omega, _, rfl, ?_, rfl⟩, fun c5 => ⟨_, rfl, ?_, rfl⟩⟩⟩⟩, fun c2 => ⟨_, rfl, ?_, rfl⟩⟩, fun c => ⟨_, rfl, ?_, rfl⟩⟩
  · rw [if_neg c, if_neg c2, if_neg (by omega), if_pos c5]
  · rw [if_neg c, if_neg c2, if_neg (by omega), if_neg (by omega)]
  · rw [if_neg c, if_neg c2, if_pos c3, if_pos c5]
  · rw [if_neg c, if_neg c2, if_pos c3, if_neg (by omega)]
  · rw [if_neg c, if_pos c2]
  · rw [if_pos c]
theorem pcL_bd (x : Int64) : 0 ≤ pcL x ∧ pcL x ≤ 64 := cnt_bd _ 64
theorem l_alsoIn {h : AH} (hL : LayL h) {a b : Nat} (ha : iHi a) (hb : iHi b) : Ct 1 0 0 mX1_alsoIn [vr a, vr b] h (QI fun x h' => x = sumN (fun s => pcL (jH h (a + 3) s &&& jH h (b + 3) s)) 8 ∧ h' = h) := by
  refine e_X1_alsoIn hL ha hb (up (P := fun s => wp mX1_alsoIn 1 _ _ _ 4 [some (vr a), some (vr b), some (vi (sumN (fun s => pcL (jH h (a + 3) s &&& jH h (b + 3) s)) s)), some (vi s)] [] h) 8 ?_ ?_)
  · exact t_X1_alsoIn_4 hL ha hb ⟨fun _ => ⟨_, rfl, rfl, rfl⟩, fun c => absurd c (by omega)⟩
  · intro s hs ih
    have hbd := sumN_bd (fun s => pcL (jH h (a + 3) s &&& jH h (b + 3) s)) 64 (by omega) s (fun i _ => pcL_bd _)
    have hb2 := pcL_bd (jH h (a + 3) s &&& jH h (b + 3) s)
    refine t_X1_alsoIn_4 hL ha hb ⟨fun c => absurd c (by omega), fun _ => ⟨by omega, ?_⟩⟩
    rw [Int.toNat_natCast]
    exact ⟨by omega, by omega, ih⟩
theorem l_start {h : AH} (hL : LayL h) (hp : 0 ≤ iH h 21 0 ∧ iH h 21 0 ≤ 100000) : Ct 0 0 0 mX2_start [vr 21] h (QI fun x h' => x = iH h 21 0 + 1 ∧ h' = sI h 21 0 (iH h 21 0 + 1)) :=
  e_X2_start hL ⟨by omega, _, rfl, rfl, rfl⟩
/-- a look's end: its number comes ahead of the others -/
def l_log (h : AH) (k : Int) : Nat → Int := fun i => if i = 0 then k else if (i : Int) < min (iH h 21 2 + 1) 8 then iH h 22 (i - 1) else iH h 22 i
def l_ended (h : AH) (k : Int) : AH := sW (sI h 21 2 (min (iH h 21 2 + 1) 8)) 22 (l_log h k)
theorem l_end {h : AH} (hL : LayL h) {k : Int} (hp : 0 ≤ iH h 21 2 ∧ iH h 21 2 ≤ 8) : Ct 1 0 0 mX2_end [vr 21, vi k] h (QV fun h' => h' = l_ended h k) := by
  refine e_X2_end hL ⟨by omega, by omega, ?_⟩
  generalize hm : min (iH h 21 2 + 1) 8 = m
  have hm1 : 1 ≤ m ∧ m ≤ 8 := by omega
  have main : ∀ j : Nat, (j : Int) ≤ m - 1 → wp mX2_end 1 0 0 (QV fun h' => h' = l_ended h k) 22 [some (vr 21), some (vi k), some (vi j)] [] (sW (sI h 21 2 m) 22 (fun i => if j < i ∧ (i : Int) < m then iH h 22 (i - 1) else iH h 22 i)) := by
    intro j
    induction j with
    | zero =>
      intro _
      refine t_X2_end_22 (by exact hL) ⟨fun _ => ⟨rfl, ?_⟩, fun c => absurd c (by omega)⟩
      unfold l_ended l_log
      rw [hm, sI_sW (g' := fun i => if i = 0 then k else if (i : Int) < m then iH h 22 (i - 1) else iH h 22 i) (fun i => ?_)]
      by_cases e : i = 0
      · rw [if_pos e, if_pos e]
      · rw [if_neg e, if_neg e]
        by_cases e2 : (i : Int) < m
        · rw [if_pos e2, if_pos ⟨by omega, e2⟩]
        · rw [if_neg e2, if_neg (fun q => e2 q.2)]
    | succ j ih =>
      intro hj
      refine t_X2_end_22 (by exact hL) ⟨fun c => absurd c (by omega), fun _ => ⟨by omega, by omega, by omega, by omega, ?_⟩⟩
      rw [show (((j + 1 : Nat) : Int) - 1).toNat = j by omega, rW_same, if_neg (by omega), show ((j + 1 : Nat) : Int).toNat = j + 1 from rfl, show ((j + 1 : Nat) : Int) + -1 = (j : Int) by omega]
      rw [sI_sW (g' := fun i => if j < i ∧ (i : Int) < m then iH h 22 (i - 1) else iH h 22 i) (fun i => ?_)]
      · exact ih (by omega)
      · by_cases e : i = j + 1
        · subst e; rw [if_pos ⟨by omega, by omega⟩, if_pos rfl]; rfl
        · rw [if_neg e]
          by_cases e2 : j < i ∧ (i : Int) < m
          · rw [if_pos e2, if_pos ⟨by omega, e2.2⟩]
          · rw [if_neg e2, if_neg (fun q => e2 ⟨by omega, q.2⟩)]
  have := main (m - 1).toNat (by omega)
  rw [show (((m - 1).toNat : Nat) : Int) = m - 1 by omega, sW_id (fun i => ?_)] at this
  · exact this
  · rw [if_neg (by omega), rI_ne (by decide)]
theorem l_endedK {h : AH} (hL : LayL h) {k : Int} (hp : iH h 21 2 ≤ 8) : Ct 0 0 0 mX2_ended [vr 21, vi k] h (QI fun x h' => x = (if 0 ≤ k ∧ k < iH h 21 2 then iH h 22 k.toNat else -1) ∧ h' = h) :=
  e_X2_ended hL ⟨fun c => ⟨_, rfl, by rw [if_neg (by omega)], rfl⟩, fun c => ⟨fun c2 => ⟨_, rfl, by rw [if_neg (by omega)], rfl⟩, fun c2 => ⟨by omega, _, rfl, by rw [if_pos ⟨c, c2⟩], rfl⟩⟩⟩
theorem l_isMissing {h : AH} (hL : LayL h) {a : Nat} (ha : iSh a) : Ct 0 0 0 mX8_isMissing [vr a] h (QI fun x h' => x = b01 (iH h a 1 = -1) ∧ h' = h) :=
  e_X8_isMissing hL ha ⟨fun c => ⟨_, rfl, (b01_f c).symm, rfl⟩, fun c => ⟨_, rfl, (b01_t c).symm, rfl⟩⟩
theorem l_becomeS {h : AH} (hL : LayL h) {a : Nat} {t n : Int} (ha : iSh a) : Ct 0 0 0 mX8_become [vr a, vi t, vi n] h (QV fun h' => h' = sW (sI (sI h a 1 t) a 2 n) (a + 1) (fun k => if k < 40 then 0 else iH h (a + 1) k)) := by
  have main := up (P := fun j => wp mX8_become 0 0 0 (QV fun h' => h' = sW (sI (sI h a 1 t) a 2 n) (a + 1) (fun k => if k < 40 then 0 else iH h (a + 1) k)) 12 [some (vr a), none, none, some (vi j)] [] (sW (sI (sI h a 1 t) a 2 n) (a + 1) (fun k => if k < j then 0 else iH h (a + 1) k))) 40 ?_ ?_
  · have e0 : sW (sI (sI h a 1 t) a 2 n) (a + 1) (fun k => if k < 0 then 0 else iH h (a + 1) k) = sI (sI h a 1 t) a 2 n := sW_id (fun k => by rw [if_neg (by omega), rI_ne (by omega), rI_ne (by omega)])
    rw [e0] at main
    exact e_X8_become hL ha main
  · exact t_X8_become_12 (by exact hL) ha ⟨fun _ => ⟨rfl, rfl⟩, fun c => absurd c (by omega)⟩
  · intro j hj ih
    refine t_X8_become_12 (by exact hL) ha ⟨fun c => absurd c (by omega), fun _ => ⟨by omega, by omega, ?_⟩⟩
    rw [Int.toNat_natCast, sI_sW (g' := fun k => if k < j + 1 then 0 else iH h (a + 1) k) (fun k => ?_)]
    · exact ih
    · by_cases e : k = j
      · rw [if_pos e, if_pos (by omega)]
      · rw [if_neg e]
        by_cases e2 : k < j
        · rw [if_pos e2, if_pos (by omega)]
        · rw [if_neg e2, if_neg (by omega)]
theorem l_hasItems {h : AH} (hL : LayL h) {a : Nat} {f n : Int} (hp : iSh a ∧ 0 ≤ iH h a 2 ∧ iH h a 2 ≤ 40) : Ct 0 0 0 mX8_hasItems [vr a, vi f, vi n] h (QI fun x h' => x = b01 (0 ≤ f ∧ 0 ≤ n ∧ f ≤ iH h a 2 ∧ n ≤ iH h a 2 - f) ∧ h' = h) :=
  e_X8_hasItems hL hp.1 ⟨fun c => ⟨_, rfl, (b01_f (by omega)).symm, rfl⟩, fun c => ⟨fun c2 => ⟨_, rfl, (b01_f (by omega)).symm, rfl⟩, fun c2 => ⟨fun c3 => ⟨_, rfl, (b01_f (by omega)).symm, rfl⟩, fun c3 => ⟨by omega, fun c4 => ⟨_, rfl, (b01_f (by omega)).symm, rfl⟩, fun c4 => ⟨_, rfl, (b01_t (by omega)).symm, rfl⟩⟩⟩⟩⟩
noncomputable def l_fo (h : AH) (a b : Nat) (n : Int) : Int := if fst (fun i => iH h (a + 1) i ≠ iH h b i) (min n (iH h a 2)).toNat ≠ -1 then fst (fun i => iH h (a + 1) i ≠ iH h b i) (min n (iH h a 2)).toNat else if n = iH h a 2 then -1 else min n (iH h a 2)
theorem l_firstOther {h : AH} (hL : LayL h) {a b : Nat} {n : Int} (ha : iSh a) (hb : b < nH h ∧ kH h b = (13, 64)) (hz : 0 ≤ iH h a 2 ∧ iH h a 2 ≤ 40) (hn : 0 ≤ n) : Ct 1 0 0 mX8_firstOtherwise [vr a, vr b, vi n] h (QI fun x h' => x = l_fo h a b n ∧ h' = h) := by
  have main : ∀ i : Nat, (i : Int) ≤ min n (iH h a 2) → (∀ j : Nat, j < i → ¬ iH h (a + 1) j ≠ iH h b j) → wp mX8_firstOtherwise 1 0 0 (QI fun x h' => x = l_fo h a b n ∧ h' = h) 12 [some (vr a), some (vr b), some (vi n), some (vi (min n (iH h a 2))), some (vi i)] [] h := by
    refine dn (min n (iH h a 2)).toNat (fun i hi h1 h2 => ?_) (fun i hi ih h1 h2 => ?_)
    · have e : fst (fun i => iH h (a + 1) i ≠ iH h b i) (min n (iH h a 2)).toNat = -1 := fst_no (fun j hj => h2 j (by omega))
      refine t_X8_firstOtherwise_12 hL ha hb ⟨fun _ => ⟨fun c => ⟨_, rfl, ?_, rfl⟩, fun c => ⟨_, rfl, ?_, rfl⟩⟩, fun c => absurd c (by omega)⟩
      · unfold l_fo; rw [if_neg (by omega), if_neg c]
      · unfold l_fo; rw [if_neg (by omega), if_pos c]
    · refine t_X8_firstOtherwise_12 hL ha hb ⟨fun c => absurd c (by omega), fun _ => ⟨by omega, by omega, ?_⟩⟩
      rw [Int.toNat_natCast]
      refine ⟨fun c => ⟨by omega, ih (by omega) (fun j hj => ?_)⟩, fun c => ⟨_, rfl, ?_, rfl⟩⟩
      · by_cases e : j = i
        · subst e; exact fun q => q c
        · exact h2 j (by omega)
      · have e : fst (fun i => iH h (a + 1) i ≠ iH h b i) (min n (iH h a 2)).toNat = i := fst_at hi h2 c
        unfold l_fo; rw [e, if_pos (by omega)]
  exact e_X8_firstOtherwise hL ha hb (main 0 (by omega) (fun j hj => absurd hj (Nat.not_lt_zero _)))
def b_X8_put_0 : List IE := [(.aload_n 0, 1, 0, 0, 0, 0), (.iload_n 1, 1, 0, 0, 1, 0), (.iconst 1, 1, 1, 0, 0, 0)]
theorem k_X8_put_0 : ckB mX8_put 8 0 b_X8_put_0 3 = true := by decide +kernel
def b_X8_put_6 : List IE := []
theorem k_X8_put_6 : ckIf mX8_put 8 6 b_X8_put_6 6 0 25 31 9 = true := by decide +kernel
def b_X8_put_9 : List IE := [(.aload_n 0, 1, 0, 0, 0, 0), (.getfield 9, 3, 0, 8, 0, 1), (.iload_n 1, 1, 0, 0, 1, 0), (.aload_n 0, 1, 0, 0, 0, 0), (.getfield 15, 3, 0, 8, 1, 0)]
theorem k_X8_put_9 : ckIf mX8_put 8 9 b_X8_put_9 18 1 11 29 21 = true := by decide +kernel
def b_X8_put_21 : List IE := [(.iload_n 2, 1, 0, 0, 2, 0), (.sipush 255, 3, 255, 0, 0, 0), (.iand, 1, 0, 0, 0, 0)]
theorem k_X8_put_21 : ckGo mX8_put 8 21 b_X8_put_21 26 4 30 = true := by decide +kernel
def b_X8_put_29 : List IE := [(.iload_n 2, 1, 0, 0, 2, 0), (.iastore, 1, 0, 0, 0, 0)]
theorem k_X8_put_29 : ckV mX8_put 8 29 b_X8_put_29 31 = true := by decide +kernel
def b_X8_put_30 : List IE := [(.iastore, 1, 0, 0, 0, 0)]
theorem k_X8_put_30 : ckV mX8_put 8 30 b_X8_put_30 31 = true := by decide +kernel
def b_X8_put_31 : List IE := []
theorem k_X8_put_31 : ckV mX8_put 8 31 b_X8_put_31 31 = true := by decide +kernel
theorem s_X8_put_3 : cV mX8_put 3 mX8_hasItems 22 2 8 := ⟨by decide +kernel, ⟨ml_X8_hasItems, li_RX8_22, im_X8_hasItems, se_X8_hasItems⟩, ⟨by decide +kernel, by decide +kernel⟩, by decide +kernel⟩
theorem t_X8_put_0 {rc rs : Nat} {Q : Option AV → AH → Prop} {h : AH} {a0 : Nat} {x1 x2 : Int} (hL : LayL h) (hA0 : iSh a0) (hv : (iSh a0 ∧ 0 ≤ iH h a0 2 ∧ iH h a0 2 ≤ 40) ∧ ((¬ (0 ≤ x1 ∧ 0 ≤ (1 : Int) ∧ x1 ≤ iH h a0 2 ∧ (1 : Int) ≤ iH h a0 2 - x1) → Q none h) ∧ ((0 ≤ x1 ∧ 0 ≤ (1 : Int) ∧ x1 ≤ iH h a0 2 ∧ (1 : Int) ≤ iH h a0 2 - x1) → (((iH h a0 1) ≠ 0 → (0 ≤ x1 ∧ x1 < 40) ∧ Q none (sI h (a0 + 1) x1.toNat x2)) ∧ ((iH h a0 1) = 0 → (0 ≤ x1 ∧ x1 < 40) ∧ Q none (sI h (a0 + 1) x1.toNat (andI x2 255))))))) : wp mX8_put 1 rc rs Q 0 [some (vr a0), some (vi x1), some (vi x2)] [] h :=
  (show wp mX8_put 1 rc rs Q 0 [some (vr a0), some (vi x1), some (vi x2)] [] h from xcV k_X8_put_0 s_X8_put_3 (have c13 := hv.1; have v14 := hv.2; (Exists.intro [vi x1, vi 1] (Exists.intro a0 (Exists.intro [] (And.intro (And.intro rfl (And.intro rfl (Nat.le_of_ble_eq_true rfl))) (And.intro (sh_o hL hA0) (Exists.intro 0 (Exists.intro 0 (Exists.intro 0 (Exists.intro _ (And.intro (l_hasItems (h := h) hL c13) (And.intro (And.intro (by decide) (And.intro (Nat.zero_le _) (Nat.zero_le _))) (eQP (show wp mX8_put 1 rc rs Q 6 [some (vr a0), some (vi x1), some (vi x2)] [vi (b01 (0 ≤ x1 ∧ 0 ≤ (1 : Int) ∧ x1 ≤ iH h a0 2 ∧ (1 : Int) ≤ iH h a0 2 - x1))] h from xIf k_X8_put_6 (And.intro (fun c1 => have v3 := v14.1 (b01_n.mp c1); (show wp mX8_put 1 rc rs Q 31 [some (vr a0), some (vi x1), some (vi x2)] [] h from xV k_X8_put_31 (And.intro rfl v3))) (fun c2 => have v4 := v14.2 (b01_p.mp c2); (show wp mX8_put 1 rc rs Q 9 [some (vr a0), some (vi x1), some (vi x2)] [] h from xIf k_X8_put_9 (And.intro (sh_o hL hA0) (Exists.intro (a0 + 1) (And.intro (sh_r0 hL hA0) (And.intro (sh_o hL hA0) (And.intro (fun c5 => have v7 := v4.1 c5; (show wp mX8_put 1 rc rs Q 29 [some (vr a0), some (vi x1), some (vi x2)] [vi x1, vr (a0 + 1)] h from xV k_X8_put_29 (have c9 := v7.1; have v10 := v7.2; (And.intro (sdI (sh_a0 hL hA0) c9) (And.intro rfl v10))))) (fun c6 => have v8 := v4.2 (Decidable.not_not.mp c6); (show wp mX8_put 1 rc rs Q 21 [some (vr a0), some (vi x1), some (vi x2)] [vi x1, vr (a0 + 1)] h from xGo k_X8_put_21 (show wp mX8_put 1 rc rs Q 30 [some (vr a0), some (vi x1), some (vi x2)] [vi (andI x2 255), vi x1, vr (a0 + 1)] h from xV k_X8_put_30 (have c11 := v8.1; have v12 := v8.2; (And.intro (sdI (sh_a0 hL hA0) c11) (And.intro rfl v12)))))))))))))))))))))))))))))
theorem e_X8_put {mc ms : Nat} {Q : Option AV → AH → Prop} {h : AH} {a0 : Nat} {x1 x2 : Int} (hL : LayL h) (hA0 : iSh a0) (hv : (iSh a0 ∧ 0 ≤ iH h a0 2 ∧ iH h a0 2 ≤ 40) ∧ ((¬ (0 ≤ x1 ∧ 0 ≤ (1 : Int) ∧ x1 ≤ iH h a0 2 ∧ (1 : Int) ≤ iH h a0 2 - x1) → Q none h) ∧ ((0 ≤ x1 ∧ 0 ≤ (1 : Int) ∧ x1 ≤ iH h a0 2 ∧ (1 : Int) ≤ iH h a0 2 - x1) → (((iH h a0 1) ≠ 0 → (0 ≤ x1 ∧ x1 < 40) ∧ Q none (sI h (a0 + 1) x1.toNat x2)) ∧ ((iH h a0 1) = 0 → (0 ≤ x1 ∧ x1 < 40) ∧ Q none (sI h (a0 + 1) x1.toNat (andI x2 255))))))) : Ct 1 mc ms mX8_put [vr a0, vi x1, vi x2] h Q := Ct.of (by decide +kernel) (Nat.le_of_ble_eq_true rfl) (t_X8_put_0 hL hA0 hv)
theorem l_putS {h : AH} (hL : LayL h) {a : Nat} {i v : Int} (hp : iSh a ∧ 0 ≤ iH h a 2 ∧ iH h a 2 ≤ 40) : Ct 1 0 0 mX8_put [vr a, vi i, vi v] h (QV fun h' => h' = if 0 ≤ i ∧ i < iH h a 2 then sI h (a + 1) i.toNat (if iH h a 1 = 0 then andI v 255 else v) else h) := by
  refine e_X8_put hL hp.1 ⟨hp, fun c => ⟨rfl, by rw [if_neg (by omega)]⟩, fun c => ⟨fun c2 => ⟨by omega, rfl, by rw [if_pos (by omega), if_neg c2]⟩, fun c2 => ⟨by omega, rfl, by rw [if_pos (by omega), if_pos c2]⟩⟩⟩
