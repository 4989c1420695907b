/-! THE CLASS: A SEGMENT IS MADE -/
def b_X7_init_0 : List IE := [(.aload_n 0, 1, 0, 0, 0, 0)]
theorem k_X7_init_0 : ckObj mX7_init 7 0 b_X7_init_0 1 1 = true := by decide +kernel
def b_X7_init_4 : List IE := [(.aload_n 0, 1, 0, 0, 0, 0), (.iload_n 1, 1, 0, 0, 1, 0), (.putfield 7, 3, 0, 7, 0, 0), (.aload_n 0, 1, 0, 0, 0, 0), (.aload_n 2, 1, 0, 0, 2, 0), (.putfield 13, 3, 0, 7, 1, 1), (.iconst 0, 1, 0, 0, 0, 0), (.istore_n 3, 1, 0, 0, 3, 0), (.iconst 0, 1, 0, 0, 0, 0), (.istore 4, 2, 0, 0, 4, 0)]
theorem k_X7_init_4 : ckB mX7_init 7 4 b_X7_init_4 19 = true := by decide +kernel
def b_X7_init_19 : List IE := [(.iload 4, 2, 0, 0, 4, 0), (.aload_n 2, 1, 0, 0, 2, 0), (.arraylength, 1, 0, 0, 0, 0)]
theorem k_X7_init_19 : ckIc mX7_init 7 19 b_X7_init_19 23 3 20 43 26 = true := by decide +kernel
def b_X7_init_26 : List IE := [(.iload_n 3, 1, 0, 0, 3, 0), (.aload_n 2, 1, 0, 0, 2, 0), (.iload 4, 2, 0, 0, 4, 0), (.aaload, 1, 0, 0, 0, 0), (.getfield 17, 3, 0, 0, 1, 1), (.arraylength, 1, 0, 0, 0, 0), (.iadd, 1, 0, 0, 0, 0), (.istore_n 3, 1, 0, 0, 3, 0), (.iinc 4 1, 3, 1, 0, 4, 0)]
theorem k_X7_init_26 : ckGo mX7_init 7 26 b_X7_init_26 40 (-21) 19 = true := by decide +kernel
def b_X7_init_43 : List IE := [(.aload_n 0, 1, 0, 0, 0, 0), (.iload_n 3, 1, 0, 0, 3, 0)]
theorem k_X7_init_43 : ckNewa mX7_init 7 43 b_X7_init_43 45 13 = true := by decide +kernel
def b_X7_init_47 : List IE := [(.putfield 23, 3, 0, 7, 2, 1), (.aload_n 0, 1, 0, 0, 0, 0), (.iload_n 3, 1, 0, 0, 3, 0)]
theorem k_X7_init_47 : ckNewa mX7_init 7 47 b_X7_init_47 52 13 = true := by decide +kernel
def b_X7_init_54 : List IE := [(.putfield 24, 3, 0, 7, 3, 1), (.aload_n 0, 1, 0, 0, 0, 0), (.iload_n 3, 1, 0, 0, 3, 0)]
theorem k_X7_init_54 : ckNewa mX7_init 7 54 b_X7_init_54 59 13 = true := by decide +kernel
def b_X7_init_61 : List IE := [(.putfield 27, 3, 0, 7, 4, 1), (.iconst 0, 1, 0, 0, 0, 0), (.istore 4, 2, 0, 0, 4, 0)]
theorem k_X7_init_61 : ckB mX7_init 7 61 b_X7_init_61 67 = true := by decide +kernel
def b_X7_init_67 : List IE := [(.iload 4, 2, 0, 0, 4, 0), (.aload_n 2, 1, 0, 0, 2, 0), (.arraylength, 1, 0, 0, 0, 0)]
theorem k_X7_init_67 : ckIc mX7_init 7 67 b_X7_init_67 71 3 59 130 74 = true := by decide +kernel
def b_X7_init_74 : List IE := [(.iconst 0, 1, 0, 0, 0, 0), (.istore 5, 2, 0, 0, 5, 0)]
theorem k_X7_init_74 : ckB mX7_init 7 74 b_X7_init_74 77 = true := by decide +kernel
def b_X7_init_77 : List IE := [(.iload 5, 2, 0, 0, 5, 0), (.aload_n 2, 1, 0, 0, 2, 0), (.iload 4, 2, 0, 0, 4, 0), (.aaload, 1, 0, 0, 0, 0), (.getfield 17, 3, 0, 0, 1, 1), (.arraylength, 1, 0, 0, 0, 0)]
theorem k_X7_init_77 : ckIc mX7_init 7 77 b_X7_init_77 87 3 37 124 90 = true := by decide +kernel
def b_X7_init_90 : List IE := [(.aload_n 2, 1, 0, 0, 2, 0), (.iload 4, 2, 0, 0, 4, 0), (.aaload, 1, 0, 0, 0, 0), (.iload 5, 2, 0, 0, 5, 0)]
theorem k_X7_init_90 : ckB mX7_init 7 90 b_X7_init_90 96 = true := by decide +kernel
def b_X7_init_99 : List IE := []
theorem k_X7_init_99 : ckIf mX7_init 7 99 b_X7_init_99 99 1 19 118 102 = true := by decide +kernel
def b_X7_init_102 : List IE := [(.aload_n 0, 1, 0, 0, 0, 0), (.aload_n 2, 1, 0, 0, 2, 0), (.iload 4, 2, 0, 0, 4, 0), (.aaload, 1, 0, 0, 0, 0), (.getfield 17, 3, 0, 0, 1, 1), (.iload 5, 2, 0, 0, 5, 0), (.iaload, 1, 0, 0, 0, 0), (.iload 4, 2, 0, 0, 4, 0)]
theorem k_X7_init_102 : ckB mX7_init 7 102 b_X7_init_102 115 = true := by decide +kernel
def b_X7_init_118 : List IE := [(.iinc 5 1, 3, 1, 0, 5, 0)]
theorem k_X7_init_118 : ckGo mX7_init 7 118 b_X7_init_118 121 (-44) 77 = true := by decide +kernel
def b_X7_init_124 : List IE := [(.iinc 4 1, 3, 1, 0, 4, 0)]
theorem k_X7_init_124 : ckGo mX7_init 7 124 b_X7_init_124 127 (-60) 67 = true := by decide +kernel
def b_X7_init_130 : List IE := []
theorem k_X7_init_130 : ckV mX7_init 7 130 b_X7_init_130 130 = true := by decide +kernel
theorem s_X7_init_1 : Cond.methodLink mX7_init.1.cls 1 objectInit ∈ gt ∧ Cond.instanceMethod objectInit ∈ gt ∧ Cond.code objectInit ⟨#[0xb1]⟩ 1 none ∈ gt := ⟨gt_ok (List.mem_of_getElem? (i := 531) (by decide +kernel)) (by decide +kernel), gt_ok (List.mem_of_getElem? (i := 116) (by decide +kernel)) (by decide +kernel), gt_ok (List.mem_of_getElem? (i := 117) (by decide +kernel)) (by decide +kernel)⟩
theorem s_X7_init_96 : cV mX7_init 96 mX0_hasBefore 30 1 0 := ⟨by decide +kernel, ⟨ml_X0_hasBefore, li_RX7_30, im_X0_hasBefore, se_X0_hasBefore⟩, ⟨by decide +kernel, by decide +kernel⟩, by decide +kernel⟩
theorem s_X7_init_115 : cV mX7_init 115 mX7_notePosting 34 2 7 := ⟨by decide +kernel, ⟨ml_X7_notePosting, li_RX7_34, im_X7_notePosting, se_X7_notePosting⟩, ⟨by decide +kernel, by decide +kernel⟩, by decide +kernel⟩
theorem t_X7_init_0 {rc rs : Nat} {Q : Option AV → AH → Prop} {h : AH} {a0 a2 n2 : Nat} {x1 : Int} (hL : LayL h) (hA2 : a2 < nH h ∧ kH h a2 = (16, n2)) (hv : (1 ≤ 2) ∧ (a0 < nH h ∧ kH h a0 = (7, 0)) ∧ (a0 < nH (sI h a0 0 x1) ∧ kH (sI h a0 0 x1) a0 = (7, 0)) ∧ LayL (sR (sI h a0 0 x1) a0 1 (some a2)) ∧ wp mX7_init 2 rc rs Q 19 [some (vr a0), none, some (vr a2), some (vi 0), some (vi 0), none] [] (sR (sI h a0 0 x1) a0 1 (some a2))) : wp mX7_init 2 rc rs Q 0 [some (vr a0), some (vi x1), some (vr a2), none, none, none] [] h :=
  (show wp mX7_init 2 rc rs Q 0 [some (vr a0), some (vi x1), some (vr a2), none, none, none] [] h from xObj k_X7_init_0 s_X7_init_1 (have c1 := hv.1; have v2 := hv.2; And.intro (And.intro c1 (Nat.le_of_ble_eq_true rfl)) (show wp mX7_init 2 rc rs Q 4 [some (vr a0), some (vi x1), some (vr a2), none, none, none] [] h from xB k_X7_init_4 (have c3 := v2.1; have v8 := v2.2; (And.intro c3 (have c4 := v8.1; have v7 := v8.2; (And.intro c4 (have c5 := v7.1; have v6 := v7.2; (have hL := c5; (And.intro rfl (And.intro rfl (w_fg [true, false, true, true, true, false] v6))))))))))))
theorem e_X7_init {mc ms : Nat} {Q : Option AV → AH → Prop} {h : AH} {a0 a2 n2 : Nat} {x1 : Int} (hL : LayL h) (hA2 : a2 < nH h ∧ kH h a2 = (16, n2)) (hv : (1 ≤ 2) ∧ (a0 < nH h ∧ kH h a0 = (7, 0)) ∧ (a0 < nH (sI h a0 0 x1) ∧ kH (sI h a0 0 x1) a0 = (7, 0)) ∧ LayL (sR (sI h a0 0 x1) a0 1 (some a2)) ∧ wp mX7_init 2 mc ms Q 19 [some (vr a0), none, some (vr a2), some (vi 0), some (vi 0), none] [] (sR (sI h a0 0 x1) a0 1 (some a2))) : Ct 2 mc ms mX7_init [vr a0, vi x1, vr a2] h Q := Ct.of (by decide +kernel) (Nat.le_of_ble_eq_true rfl) (t_X7_init_0 hL hA2 hv)
theorem t_X7_init_19 {rc rs : Nat} {Q : Option AV → AH → Prop} {h : AH} {a0 a2 n2 : Nat} {x3 x4 : Int} (hL : LayL h) (hA2 : a2 < nH h ∧ kH h a2 = (16, n2)) (hv : (n2 < 2147483648) ∧ (((n2 : Int) ≤ x4 → (0 ≤ (x3 : Int) ∧ (x3 : Int) ≤ 100000 ∧ 1 ≤ rc ∧ (x3 : Int).toNat ≤ rs) ∧ (a0 < nH (nw h 13 ((x3 : Int).toNat)) ∧ kH (nw h 13 ((x3 : Int).toNat)) a0 = (7, 0)) ∧ LayL (sR (nw h 13 ((x3 : Int).toNat)) a0 2 (some (nH h))) ∧ (0 ≤ (x3 : Int) ∧ (x3 : Int) ≤ 100000 ∧ 1 ≤ (rc - 1) ∧ (x3 : Int).toNat ≤ (rs - (x3 : Int).toNat)) ∧ (a0 < nH (nw (sR (nw h 13 ((x3 : Int).toNat)) a0 2 (some (nH h))) 13 ((x3 : Int).toNat)) ∧ kH (nw (sR (nw h 13 ((x3 : Int).toNat)) a0 2 (some (nH h))) 13 ((x3 : Int).toNat)) a0 = (7, 0)) ∧ LayL (sR (nw (sR (nw h 13 ((x3 : Int).toNat)) a0 2 (some (nH h))) 13 ((x3 : Int).toNat)) a0 3 (some (nH (sR (nw h 13 ((x3 : Int).toNat)) a0 2 (some (nH h)))))) ∧ (0 ≤ (x3 : Int) ∧ (x3 : Int) ≤ 100000 ∧ 1 ≤ ((rc - 1) - 1) ∧ (x3 : Int).toNat ≤ ((rs - (x3 : Int).toNat) - (x3 : Int).toNat)) ∧ (a0 < nH (nw (sR (nw (sR (nw h 13 ((x3 : Int).toNat)) a0 2 (some (nH h))) 13 ((x3 : Int).toNat)) a0 3 (some (nH (sR (nw h 13 ((x3 : Int).toNat)) a0 2 (some (nH h)))))) 13 ((x3 : Int).toNat)) ∧ kH (nw (sR (nw (sR (nw h 13 ((x3 : Int).toNat)) a0 2 (some (nH h))) 13 ((x3 : Int).toNat)) a0 3 (some (nH (sR (nw h 13 ((x3 : Int).toNat)) a0 2 (some (nH h)))))) 13 ((x3 : Int).toNat)) a0 = (7, 0)) ∧ LayL (sR (nw (sR (nw (sR (nw h 13 ((x3 : Int).toNat)) a0 2 (some (nH h))) 13 ((x3 : Int).toNat)) a0 3 (some (nH (sR (nw h 13 ((x3 : Int).toNat)) a0 2 (some (nH h)))))) 13 ((x3 : Int).toNat)) a0 4 (some (nH (sR (nw (sR (nw h 13 ((x3 : Int).toNat)) a0 2 (some (nH h))) 13 ((x3 : Int).toNat)) a0 3 (some (nH (sR (nw h 13 ((x3 : Int).toNat)) a0 2 (some (nH h))))))))) ∧ wp mX7_init 2 (((rc - 1) - 1) - 1) (((rs - (x3 : Int).toNat) - (x3 : Int).toNat) - (x3 : Int).toNat) Q 67 [some (vr a0), none, some (vr a2), none, some (vi 0), none] [] (sR (nw (sR (nw (sR (nw h 13 ((x3 : Int).toNat)) a0 2 (some (nH h))) 13 ((x3 : Int).toNat)) a0 3 (some (nH (sR (nw h 13 ((x3 : Int).toNat)) a0 2 (some (nH h)))))) 13 ((x3 : Int).toNat)) a0 4 (some (nH (sR (nw (sR (nw h 13 ((x3 : Int).toNat)) a0 2 (some (nH h))) 13 ((x3 : Int).toNat)) a0 3 (some (nH (sR (nw h 13 ((x3 : Int).toNat)) a0 2 (some (nH h)))))))))) ∧ (x4 < (n2 : Int) → (0 ≤ x4 ∧ x4 < n2) ∧ (∃ q25 n26 : Nat, (rH h a2 x4.toNat = some q25 ∧ iD h q25 n26) ∧ (-2147483648 ≤ (x3 + (n26 : Int)) ∧ (x3 + (n26 : Int)) < 2147483648) ∧ (-2147483648 ≤ (x4 + 1) ∧ (x4 + 1) < 2147483648) ∧ wp mX7_init 2 rc rs Q 19 [some (vr a0), none, some (vr a2), some (vi (x3 + (n26 : Int))), some (vi (x4 + 1)), none] [] h)))) : wp mX7_init 2 rc rs Q 19 [some (vr a0), none, some (vr a2), some (vi x3), some (vi x4), none] [] h :=
  (show wp mX7_init 2 rc rs Q 19 [some (vr a0), none, some (vr a2), some (vi x3), some (vi x4), none] [] h from xIc k_X7_init_19 (have c1 := hv.1; have v36 := hv.2; (And.intro (sdL hA2 (And.intro (by decide) (And.intro (by decide) c1))) (len_r hA2 (And.intro (fun c2 => have v4 := v36.1 c2; (show wp mX7_init 2 rc rs Q 43 [some (vr a0), none, some (vr a2), some (vi x3), some (vi x4), none] [] h from xNewa k_X7_init_43 (have c6 := v4.1; have v7 := v4.2; And.intro c6 (have hL := LayL_nw (t := 13) (n := (x3 : Int).toNat) hL; (show wp mX7_init 2 (rc - 1) (rs - (x3 : Int).toNat) Q 47 [some (vr a0), none, some (vr a2), some (vi x3), some (vi x4), none] [vr (nH h), vr a0] (nw h 13 ((x3 : Int).toNat)) from xNewa k_X7_init_47 (have c8 := v7.1; have v23 := v7.2; (And.intro c8 (have c9 := v23.1; have v22 := v23.2; (have hL := c9; (have c10 := v22.1; have v11 := v22.2; And.intro c10 (have hL := LayL_nw (t := 13) (n := (x3 : Int).toNat) hL; (show wp mX7_init 2 ((rc - 1) - 1) ((rs - (x3 : Int).toNat) - (x3 : Int).toNat) Q 54 [some (vr a0), none, some (vr a2), some (vi x3), some (vi x4), none] [vr (nH (sR (nw h 13 ((x3 : Int).toNat)) a0 2 (some (nH h)))), vr a0] (nw (sR (nw h 13 ((x3 : Int).toNat)) a0 2 (some (nH h))) 13 ((x3 : Int).toNat)) from xNewa k_X7_init_54 (have c12 := v11.1; have v21 := v11.2; (And.intro c12 (have c13 := v21.1; have v20 := v21.2; (have hL := c13; (have c14 := v20.1; have v15 := v20.2; And.intro c14 (have hL := LayL_nw (t := 13) (n := (x3 : Int).toNat) hL; (show wp mX7_init 2 (((rc - 1) - 1) - 1) (((rs - (x3 : Int).toNat) - (x3 : Int).toNat) - (x3 : Int).toNat) Q 61 [some (vr a0), none, some (vr a2), some (vi x3), some (vi x4), none] [vr (nH (sR (nw (sR (nw h 13 ((x3 : Int).toNat)) a0 2 (some (nH h))) 13 ((x3 : Int).toNat)) a0 3 (some (nH (sR (nw h 13 ((x3 : Int).toNat)) a0 2 (some (nH h))))))), vr a0] (nw (sR (nw (sR (nw h 13 ((x3 : Int).toNat)) a0 2 (some (nH h))) 13 ((x3 : Int).toNat)) a0 3 (some (nH (sR (nw h 13 ((x3 : Int).toNat)) a0 2 (some (nH h)))))) 13 ((x3 : Int).toNat)) from xB k_X7_init_61 (have c16 := v15.1; have v19 := v15.2; (And.intro c16 (have c17 := v19.1; have v18 := v19.2; (have hL := c17; (And.intro rfl (w_fg [true, false, true, false, true, false] v18))))))))))))))))))))))))) (fun c3 => have v5 := v36.2 (Int.not_le.mp c3); (show wp mX7_init 2 rc rs Q 26 [some (vr a0), none, some (vr a2), some (vi x3), some (vi x4), none] [] h from xGo k_X7_init_26 (have c24 := v5.1; have v35 := v5.2; (And.intro (sdQ hA2 c24) (Exists.elim v35 (fun q25 v33_0 => (Exists.elim v33_0 (fun n26 v33 => have c28 := v33.1; have v34 := v33.2; (Exists.intro _ (And.intro c28.1 (And.intro (dc_o c28.2) (Exists.intro (q25 + 1) (And.intro (dc_r1 c28.2) (And.intro (sdL (dc_a1 c28.2) (And.intro (by decide) (And.intro (by decide) (dc_n c28.2)))) (len_r (dc_a1 c28.2) (have c29 := v34.1; have v32 := v34.2; (And.intro c29 (And.intro rfl (have c30 := v32.1; have v31 := v32.2; (And.intro c30 (And.intro rfl v31))))))))))))))))))))))))))
theorem t_X7_init_67 {rc rs : Nat} {Q : Option AV → AH → Prop} {h : AH} {a0 a2 n2 : Nat} {x4 : Int} (hL : LayL h) (hA2 : a2 < nH h ∧ kH h a2 = (16, n2)) (hv : (n2 < 2147483648) ∧ (((n2 : Int) ≤ x4 → Q none h) ∧ (x4 < (n2 : Int) → wp mX7_init 2 rc rs Q 77 [some (vr a0), none, some (vr a2), none, some (vi x4), some (vi 0)] [] h))) : wp mX7_init 2 rc rs Q 67 [some (vr a0), none, some (vr a2), none, some (vi x4), none] [] h :=
  (show wp mX7_init 2 rc rs Q 67 [some (vr a0), none, some (vr a2), none, some (vi x4), none] [] h from xIc k_X7_init_67 (have c1 := hv.1; have v6 := hv.2; (And.intro (sdL hA2 (And.intro (by decide) (And.intro (by decide) c1))) (len_r hA2 (And.intro (fun c2 => have v4 := v6.1 c2; (show wp mX7_init 2 rc rs Q 130 [some (vr a0), none, some (vr a2), none, some (vi x4), none] [] h from xV k_X7_init_130 (And.intro rfl v4))) (fun c3 => have v5 := v6.2 (Int.not_le.mp c3); (show wp mX7_init 2 rc rs Q 74 [some (vr a0), none, some (vr a2), none, some (vi x4), none] [] h from xB k_X7_init_74 (And.intro rfl v5))))))))
theorem t_X7_init_77 {rc rs : Nat} {Q : Option AV → AH → Prop} {h : AH} {a0 a2 n2 : Nat} {x4 x5 : Int} (hL : LayL h) (hA2 : a2 < nH h ∧ kH h a2 = (16, n2)) (hv : (0 ≤ x4 ∧ x4 < n2) ∧ (∃ q2 n3 : Nat, (rH h a2 x4.toNat = some q2 ∧ iD h q2 n3) ∧ (((n3 : Int) ≤ x5 → (-2147483648 ≤ (x4 + 1) ∧ (x4 + 1) < 2147483648) ∧ wp mX7_init 2 rc rs Q 67 [some (vr a0), none, some (vr a2), none, some (vi (x4 + 1)), none] [] h) ∧ (x5 < (n3 : Int) → (∃ q13 n14 : Nat, (rH h a2 x4.toNat = some q13 ∧ iD h q13 n14) ∧ ((∃ n, iD h q13 n ∧ x5 < (n : Int)) ∧ 0 ≤ x5) ∧ (((wdB (iH h (q13 + 1)) (x5).toNat (iH h (q13 + 1) (x5).toNat)) → (-2147483648 ≤ (x5 + 1) ∧ (x5 + 1) < 2147483648) ∧ wp mX7_init 2 rc rs Q 77 [some (vr a0), none, some (vr a2), none, some (vi x4), some (vi (x5 + 1))] [] h) ∧ (¬ (wdB (iH h (q13 + 1)) (x5).toNat (iH h (q13 + 1) (x5).toNat)) → (∃ q24 n25 : Nat, (rH h a2 x4.toNat = some q24 ∧ iD h q24 n25) ∧ (0 ≤ x5 ∧ x5 < n25) ∧ (∃ P31 : AH → Prop, (a0 < nH h ∧ kH h a0 = (7, 0)) ∧ Ct 1 0 0 mX7_notePosting [vr a0, vi (iH h (q24 + 1) x5.toNat), vi x4] h (QV P31) ∧ ∀ h29 : AH, P31 h29 → LayL h29 ∧ (-2147483648 ≤ (x5 + 1) ∧ (x5 + 1) < 2147483648) ∧ wp mX7_init 2 rc rs Q 77 [some (vr a0), none, some (vr a2), none, some (vi x4), some (vi (x5 + 1))] [] h29))))))))) : wp mX7_init 2 rc rs Q 77 [some (vr a0), none, some (vr a2), none, some (vi x4), some (vi x5)] [] h :=
  (show wp mX7_init 2 rc rs Q 77 [some (vr a0), none, some (vr a2), none, some (vi x4), some (vi x5)] [] h from xIc k_X7_init_77 (have c1 := hv.1; have v50 := hv.2; (And.intro (sdQ hA2 c1) (Exists.elim v50 (fun q2 v48_0 => (Exists.elim v48_0 (fun n3 v48 => have c5 := v48.1; have v49 := v48.2; (Exists.intro _ (And.intro c5.1 (And.intro (dc_o c5.2) (Exists.intro (q2 + 1) (And.intro (dc_r1 c5.2) (And.intro (sdL (dc_a1 c5.2) (And.intro (by decide) (And.intro (by decide) (dc_n c5.2)))) (len_r (dc_a1 c5.2) (And.intro (fun c6 => have v8 := v49.1 c6; (show wp mX7_init 2 rc rs Q 124 [some (vr a0), none, some (vr a2), none, some (vi x4), some (vi x5)] [] h from xGo k_X7_init_124 (have c10 := v8.1; have v11 := v8.2; (And.intro c10 (And.intro rfl (w_fg [true, false, true, false, true, false] v11)))))) (fun c7 => have v9 := v49.2 (Int.not_le.mp c7); (show wp mX7_init 2 rc rs Q 90 [some (vr a0), none, some (vr a2), none, some (vi x4), some (vi x5)] [] h from xcV k_X7_init_90 s_X7_init_96 (And.intro (sdQ hA2 c1) (Exists.elim v9 (fun q13 v46_0 => (Exists.elim v46_0 (fun n14 v46 => have c16 := v46.1; have v47 := v46.2; (Exists.intro _ (And.intro c16.1 (have c43 := v47.1; have v44 := v47.2; (Exists.intro [vi x5] (Exists.intro q13 (Exists.intro [] (And.intro (And.intro rfl (And.intro rfl (Nat.le_of_ble_eq_true rfl))) (And.intro (dc_o c16.2) (Exists.intro 0 (Exists.intro 0 (Exists.intro 0 (Exists.intro _ (And.intro (l_hb (h := h) hL c43) (And.intro (And.intro (by decide) (And.intro (Nat.zero_le _) (Nat.zero_le _))) (eQP (show wp mX7_init 2 rc rs Q 99 [some (vr a0), none, some (vr a2), none, some (vi x4), some (vi x5)] [vi (b01 (wdB (iH h (q13 + 1)) (x5).toNat (iH h (q13 + 1) (x5).toNat)))] h from xIf k_X7_init_99 (And.intro (fun c17 => have v19 := v44.1 (b01_p.mp c17); (show wp mX7_init 2 rc rs Q 118 [some (vr a0), none, some (vr a2), none, some (vi x4), some (vi x5)] [] h from xGo k_X7_init_118 (have c21 := v19.1; have v22 := v19.2; (And.intro c21 (And.intro rfl v22))))) (fun c18 => have v20 := v44.2 (b01_nn.mp c18); (show wp mX7_init 2 rc rs Q 102 [some (vr a0), none, some (vr a2), none, some (vi x4), some (vi x5)] [] h from xcV k_X7_init_102 s_X7_init_115 (And.intro (sdQ hA2 c1) (Exists.elim v20 (fun q24 v41_0 => (Exists.elim v41_0 (fun n25 v41 => have c27 := v41.1; have v42 := v41.2; (Exists.intro _ (And.intro c27.1 (And.intro (dc_o c27.2) (Exists.intro (q24 + 1) (And.intro (dc_r1 c27.2) (have c28 := v42.1; have v40 := v42.2; (And.intro (sdI (dc_a1 c27.2) c28) (Exists.elim v40 (fun P31 v35 => have c32 := v35.1; have v35 := v35.2; have c39 := v35.1; have v35 := v35.2; (Exists.intro [vi (iH h (q24 + 1) x5.toNat), vi x4] (Exists.intro a0 (Exists.intro [] (And.intro (And.intro rfl (And.intro rfl (Nat.le_of_ble_eq_true rfl))) (And.intro c32 (Exists.intro 1 (Exists.intro 0 (Exists.intro 0 (Exists.intro (QV P31) (And.intro c39 (And.intro (And.intro (by decide) (And.intro (Nat.zero_le _) (Nat.zero_le _))) (eQV (fun h29 e37 => have v36 := v35 h29 e37; have hL := v36.1; have v36 := v36.2; (show wp mX7_init 2 rc rs Q 118 [some (vr a0), none, some (vr a2), none, some (vi x4), some (vi x5)] [] h29 from xGo k_X7_init_118 (have c33 := v36.1; have v34 := v36.2; (And.intro c33 (And.intro rfl v34))))))))))))))))))))))))))))))))))))))))))))))))))))))))))))))))))))))))
noncomputable def cpW (sz : Nat → Nat) (wd : Nat → Nat → Int) (i j : Nat) (w : Int) : Int := cnt (fun k => wdB (wd k) (sz k) w) i + b01 (wdB (wd i) j w)
noncomputable def spW (sz : Nat → Nat) (wd : Nat → Nat → Int) (i j : Nat) (w : Int) : Int := sumN (fun k => b01 (wdB (wd k) (sz k) w) * (k : Int)) i + b01 (wdB (wd i) j w) * (i : Int)
def MW (sz : Nat → Nat) (wd : Nat → Nat → Int) (i j : Nat) (w : Int) : Prop := (∃ k, k < i ∧ wdB (wd k) (sz k) w) ∨ wdB (wd i) j w
def szS (sz : Nat → Nat) (i : Nat) : Int := sumN (fun k => (sz k : Int)) i
theorem wdB_0 {f : Nat → Int} {w : Int} : ¬ wdB f 0 w := fun ⟨i, h, _⟩ => by omega
theorem wdB_s {f : Nat → Int} {j : Nat} {w : Int} : wdB f (j + 1) w ↔ wdB f j w ∨ w = f j := by
  constructor
  · rintro ⟨i, h, e⟩
    by_cases q : i = j
    · subst q; exact Or.inr e.symm
    · exact Or.inl ⟨i, by omega, e⟩
  · rintro (⟨i, h, e⟩ | e)
    · exact ⟨i, by omega, e⟩
    · exact ⟨j, by omega, e.symm⟩
theorem wdB_hb {f : Nat → Int} {j : Nat} {w : Int} (hb : wdB f j (f j)) : wdB f (j + 1) w ↔ wdB f j w := by
  rw [wdB_s]
  refine ⟨fun q => ?_, Or.inl⟩
  rcases q with q | rfl
  · exact q
  · exact hb
theorem b01_wdB {f : Nat → Int} {j : Nat} {w : Int} (hb : ¬ wdB f j (f j)) : b01 (wdB f (j + 1) w) = b01 (wdB f j w) + b01 (w = f j) := by
  by_cases e : w = f j
  · rw [b01_t (wdB_s.mpr (Or.inr e)), b01_t e, b01_f (by rw [e]; exact hb)]; rfl
  · rw [b01_f e, Int.add_zero]
    by_cases q : wdB f j w
    · rw [b01_t q, b01_t (wdB_s.mpr (Or.inl q))]
    · rw [b01_f q, b01_f fun u => (wdB_s.mp u).elim q e]
section
variable {sz : Nat → Nat} {wd : Nat → Nat → Int} {i j : Nat} {w : Int}
theorem cpW_e : cpW sz wd (i + 1) 0 = cpW sz wd i (sz i) := by
  funext w
  unfold cpW
  rw [b01_f wdB_0, Int.add_zero]; rfl
theorem spW_e : spW sz wd (i + 1) 0 = spW sz wd i (sz i) := by
  funext w
  unfold spW
  rw [b01_f wdB_0, Int.zero_mul, Int.add_zero]; rfl
theorem MW_e : MW sz wd (i + 1) 0 = MW sz wd i (sz i) := by
  funext w
  unfold MW
  refine propext ⟨fun q => ?_, fun q => ?_⟩
  · rcases q with ⟨k, q1, q2⟩ | q
    · by_cases e : k = i
      · subst e; exact Or.inr q2
      · exact Or.inl ⟨k, by omega, q2⟩
    · exact absurd q wdB_0
  · rcases q with ⟨k, q1, q2⟩ | q
    · exact Or.inl ⟨k, by omega, q2⟩
    · exact Or.inl ⟨i, by omega, q⟩
theorem cpW_h (hb : wdB (wd i) j (wd i j)) : cpW sz wd i (j + 1) = cpW sz wd i j := by
  funext w; unfold cpW; rw [propext (wdB_hb hb)]
theorem spW_h (hb : wdB (wd i) j (wd i j)) : spW sz wd i (j + 1) = spW sz wd i j := by
  funext w; unfold spW; rw [propext (wdB_hb hb)]
theorem MW_h (hb : wdB (wd i) j (wd i j)) : MW sz wd i (j + 1) = MW sz wd i j := by
  funext w; unfold MW; rw [propext (wdB_hb hb)]
theorem cpW_n (hb : ¬ wdB (wd i) j (wd i j)) : cpW sz wd i (j + 1) = fun w => cpW sz wd i j w + b01 (w = wd i j) := by
  funext w; unfold cpW; rw [b01_wdB hb, Int.add_assoc]
theorem spW_n (hb : ¬ wdB (wd i) j (wd i j)) : spW sz wd i (j + 1) = fun w => spW sz wd i j w + b01 (w = wd i j) * (i : Int) := by
  funext w; unfold spW; rw [b01_wdB hb, Int.add_mul, Int.add_assoc]
theorem MW_n : MW sz wd i (j + 1) = fun w => MW sz wd i j w ∨ w = wd i j := by
  funext w; unfold MW; rw [propext wdB_s, propext or_assoc]
theorem MW_no (hn : ¬ MW sz wd i j w) : cpW sz wd i j w = 0 ∧ spW sz wd i j w = 0 := by
  have h1 : ∀ k, k < i → ¬ wdB (wd k) (sz k) w := fun k hk q => hn (Or.inl ⟨k, hk, q⟩)
  have h2 : ¬ wdB (wd i) j w := fun q => hn (Or.inr q)
  unfold cpW spW
  rw [b01_f h2, cnt_cut (n := 0) (by omega) (fun k _ hk => h1 k hk), sumN_z fun k hk => by rw [b01_f (h1 k hk), Int.zero_mul]]
  exact ⟨rfl, by omega⟩
theorem cpW_bd (hi : i ≤ 64) : 0 ≤ cpW sz wd i j w ∧ cpW sz wd i j w ≤ 1000 := by
  have h1 := cnt_bd (fun k => wdB (wd k) (sz k) w) i
  have h2 := b01_01 (wdB (wd i) j w)
  unfold cpW; omega
theorem spW_bd (hi : i ≤ 64) : 0 ≤ spW sz wd i j w ∧ spW sz wd i j w ≤ 100000 := by
  have h1 := sumN_bd (fun k => b01 (wdB (wd k) (sz k) w) * (k : Int)) 64 (by omega) i fun k hk => by rcases b01_01 (wdB (wd k) (sz k) w) with e | e <;> rw [e] <;> omega
  have h2 : 0 ≤ b01 (wdB (wd i) j w) * (i : Int) ∧ b01 (wdB (wd i) j w) * (i : Int) ≤ 64 := by rcases b01_01 (wdB (wd i) j w) with e | e <;> rw [e] <;> omega
  unfold spW; omega
theorem szS_s : szS sz (i + 1) = szS sz i + (sz i : Int) := rfl
theorem szS_mo {n : Nat} (hi : i ≤ n) : szS sz i ≤ szS sz n := by
  induction n with
  | zero => rw [show i = 0 by omega]; exact Int.le_refl _
  | succ n ih =>
    by_cases e : i = n + 1
    · rw [e]; exact Int.le_refl _
    · have := ih (by omega); rw [szS_s]; omega
theorem szS_0 : szS sz 0 = 0 := rfl
theorem szS_nn : 0 ≤ szS sz i := by have := szS_mo (sz := sz) (i := 0) (n := i) (by omega); rw [szS_0] at this; exact this
theorem szS_bd (hz : ∀ k, k < i → sz k ≤ 12) : szS sz i ≤ 12 * (i : Int) := by
  induction i with
  | zero => exact Int.le_refl _
  | succ i ih =>
    have := ih fun k hk => hz k (by omega)
    have := hz i (by omega)
    rw [szS_s]; omega
end
/-- a row of documents, and what they are -/
def segD (h : AH) (d n : Nat) (sz : Nat → Nat) (wd : Nat → Nat → Int) : Prop := ∀ k : Nat, k < n → ∃ q, rH h d k = some q ∧ q + 1 < d ∧ iD h q (sz k) ∧ ∀ i : Nat, i < sz k → iH h (q + 1) i = wd k i
/-- three new rows -/
def sg3 (h : AH) (a r : Nat) : AH := sR (nw (sR (nw (sR (nw h 13 r) a 2 (some (nH h))) 13 r) a 3 (some (nH (sR (nw h 13 r) a 2 (some (nH h)))))) 13 r) a 4 (some (nH (sR (nw (sR (nw h 13 r) a 2 (some (nH h))) 13 r) a 3 (some (nH (sR (nw h 13 r) a 2 (some (nH h))))))))
theorem sg3_f {h : AH} {a r : Nat} (e : nH h = a + 1) : nH (sg3 h a r) = a + 4 ∧ (∀ x, x < a + 1 → kH (sg3 h a r) x = kH h x ∧ (∀ k, iH (sg3 h a r) x k = iH h x k) ∧ (∀ k, jH (sg3 h a r) x k = jH h x k) ∧ (x ≠ a → ∀ k, rH (sg3 h a r) x k = rH h x k)) ∧ (kH (sg3 h a r) (a + 1) = (13, r) ∧ kH (sg3 h a r) (a + 2) = (13, r) ∧ kH (sg3 h a r) (a + 3) = (13, r)) ∧ (rH (sg3 h a r) a 2 = some (a + 1) ∧ rH (sg3 h a r) a 3 = some (a + 2) ∧ rH (sg3 h a r) a 4 = some (a + 3) ∧ rH (sg3 h a r) a 1 = rH h a 1) := by
  obtain ⟨n0, kk, ii, jj, rr⟩ := h
  have e : n0 = a + 1 := e
  subst e
  refine ⟨rfl, fun x hx => ?_, ?_, ?_⟩
  · have h1 : x ≠ a + 1 := by omega
    have h2 : x ≠ a + 1 + 1 := by omega
    have h3 : x ≠ a + 1 + 1 + 1 := by omega
    refine ⟨?_, fun k => ?_, fun k => ?_, fun h0 k => ?_⟩ <;> simp [sg3, nH, kH, iH, jH, rH, nw, sR, u2, r2, *]
  · refine ⟨?_, ?_, ?_⟩ <;> simp [sg3, nH, kH, nw, sR]
  · have h2 : ¬ a = a + 1 + 1 := by omega
    have h3 : ¬ a = a + 1 + 1 + 1 := by omega
    refine ⟨?_, ?_, ?_, ?_⟩ <;> simp [sg3, nH, rH, nw, sR, u2, r2, h2, h3]
theorem LayL_sg3 {h : AH} {a r : Nat} (ha : 88 < a) (hL : LayL h) : LayL (sg3 h a r) := LayL_sR ha (LayL_nw (LayL_sR ha (LayL_nw (LayL_sR ha (LayL_nw hL)))))
/-- a new segment: what stays, and where its rows are -/
def segN (a n r : Nat) (x : Int) (h h' : AH) : Prop := nH h' = a + 4 ∧ (∀ y, y < a + 1 → kH h' y = kH h y ∧ (y ≠ a → (∀ k, iH h' y k = iH h y k) ∧ ∀ k, rH h' y k = rH h y k) ∧ ∀ k, jH h' y k = jH h y k) ∧ iSg h' a n r ∧ iH h' a 0 = x
def segS (sz : Nat → Nat) (wd : Nat → Nat → Int) (a i j : Nat) (h : AH) : Prop := (∃ c : Nat, (c : Int) ≤ szS sz i + j ∧ dD h a c (MW sz wd i j) (cpW sz wd i j) (spW sz wd i j)) ∧ 0 ≤ iH h a 6 ∧ iH h a 6 ≤ szS sz i + j
theorem segS_e {sz : Nat → Nat} {wd : Nat → Nat → Int} {a i : Nat} {h : AH} (s : segS sz wd a i (sz i) h) : segS sz wd a (i + 1) 0 h := by
  unfold segS
  rw [MW_e, cpW_e, spW_e, szS_s, show ((0 : Nat) : Int) = 0 from rfl, Int.add_zero]
  exact s
theorem segS_h {sz : Nat → Nat} {wd : Nat → Nat → Int} {a i j : Nat} {h : AH} (hb : wdB (wd i) j (wd i j)) (s : segS sz wd a i j h) : segS sz wd a i (j + 1) h := by
  obtain ⟨⟨c, s1, s2⟩, s3, s4⟩ := s
  unfold segS
  rw [MW_h hb, cpW_h hb, spW_h hb]
  exact ⟨⟨c, by omega, s2⟩, s3, by omega⟩
theorem l_segLoop {h : AH} {a d n r : Nat} {sz : Nat → Nat} {wd : Nat → Nat → Int} (hL : LayL h) (hda : a = d + 1) (hS : iSg h a n r) (hr : (r : Int) = szS sz n) (hsz : ∀ k, k < n → sz k ≤ 12) (hd : segD h d n sz wd) (h0 : segS sz wd a 0 0 h) {rc rs : Nat} {Q : Option AV → AH → Prop} (K : ∀ h', sgR a h h' → segS sz wd a n 0 h' → Q none h') : wp mX7_init 2 rc rs Q 67 [some (vr a), none, some (vr d), none, some (vi 0), none] [] h := by
  have hn := hS.2.2.2.2.1
  have hr2 := hS.2.2.2.2.2
  have hkd : d < nH h ∧ kH h d = (16, n) := by have := hS.1.2; rw [hda, Nat.add_sub_cancel] at this; exact this
  refine up (P := fun i => ∀ h', sgR a h h' → segS sz wd a i 0 h' → wp mX7_init 2 rc rs Q 67 [some (vr a), none, some (vr d), none, some (vi i), none] [] h') n ?_ ?_ h sgR_rf h0
  · intro h' e s
    have hkd' : d < nH h' ∧ kH h' d = (16, n) := by rw [e.1, e.2.1]; exact hkd
    exact t_X7_init_67 (sgR_L e hL) hkd' ⟨by omega, fun _ => K h' e s, fun c => absurd c (by omega)⟩
  · intro i hi ih h' e s
    have hkd' : d < nH h' ∧ kH h' d = (16, n) := by rw [e.1, e.2.1]; exact hkd
    refine t_X7_init_67 (sgR_L e hL) hkd' ⟨by omega, fun c => absurd c (by omega), fun _ => ?_⟩
    have hszi := hsz i hi
    have hmo := szS_mo (sz := sz) (i := i + 1) (n := n) (by omega)
    rw [szS_s] at hmo
    refine up (P := fun j => ∀ h', sgR a h h' → segS sz wd a i j h' → wp mX7_init 2 rc rs Q 77 [some (vr a), none, some (vr d), none, some (vi i), some (vi j)] [] h') (sz i) ?_ ?_ h' e s
    · intro h' e s
      have hkd' : d < nH h' ∧ kH h' d = (16, n) := by rw [e.1, e.2.1]; exact hkd
      obtain ⟨q, q1, q2, q3, q4⟩ := hd i hi
      refine t_X7_init_77 (sgR_L e hL) hkd' ⟨by omega, q, sz i, ⟨by rw [e.2.2.1]; exact q1, sgR_D e q3⟩, fun _ => ⟨by omega, ?_⟩, fun c => absurd c (by omega)⟩
      rw [show (i : Int) + 1 = ((i + 1 : Nat) : Int) by omega]
      exact ih h' e (segS_e s)
    · intro j hj ih2 h' e s
      have hkd' : d < nH h' ∧ kH h' d = (16, n) := by rw [e.1, e.2.1]; exact hkd
      obtain ⟨q, q1, q2, q3, q4⟩ := hd i hi
      have r1 : rH h' d (i : Int).toNat = some q := by rw [e.2.2.1, Int.toNat_natCast]; exact q1
      have r4 : ∀ k, k < sz i → iH h' (q + 1) k = wd i k := fun k hk => by rw [e.2.2.2.2 _ _ (by omega) (by omega) (by omega) (fun u => by omega)]; exact q4 k hk
      have wq : wdB (iH h' (q + 1)) j (iH h' (q + 1) j) ↔ wdB (wd i) j (wd i j) := by
        unfold wdB
        rw [r4 j hj]
        exact ⟨fun ⟨k, u1, u2⟩ => ⟨k, u1, by rw [← r4 k (by omega)]; exact u2⟩, fun ⟨k, u1, u2⟩ => ⟨k, u1, by rw [r4 k (by omega)]; exact u2⟩⟩
      refine t_X7_init_77 (sgR_L e hL) hkd' ⟨by omega, q, sz i, ⟨r1, sgR_D e q3⟩, fun c => absurd c (by omega), fun _ => ⟨q, sz i, ⟨r1, sgR_D e q3⟩, ⟨⟨sz i, sgR_D e q3, by omega⟩, by omega⟩, fun c => ?_, fun c => ?_⟩⟩
      · refine ⟨by omega, ?_⟩
        rw [show (j : Int) + 1 = ((j + 1 : Nat) : Int) by omega]
        rw [Int.toNat_natCast] at c
        exact ih2 h' e (segS_h (wq.mp c) s)
      · rw [Int.toNat_natCast] at c
        have c2 : ¬ wdB (wd i) j (wd i j) := fun u => c (wq.mpr u)
        obtain ⟨⟨cc, s1, s2⟩, s3, s4⟩ := s
        have r5 : iH h' (q + 1) (j : Int).toNat = wd i j := by rw [Int.toNat_natCast]; exact r4 j hj
        refine ⟨q, sz i, ⟨r1, sgR_D e q3⟩, by omega, _, (by rw [e.1, e.2.1]; exact hS.1.1), l_notePosting (sgR_L e hL) (sgR_S e hS) s2 (w := iH h' (q + 1) (j : Int).toNat) (pl := i) (by omega) (fun u => MW_no u) (cpW_bd (by omega)) (spW_bd (by omega)) (by omega) (by omega), fun h2 m => ?_⟩
        obtain ⟨m1, ⟨c', m2, m3⟩, m4⟩ := m
        refine ⟨sgR_L m1 (sgR_L e hL), by omega, ?_⟩
        rw [show (j : Int) + 1 = ((j + 1 : Nat) : Int) by omega]
        refine ih2 h2 (sgR_tr e m1) ⟨⟨c', by omega, ?_⟩, by omega, by omega⟩
        rw [MW_n, cpW_n c2, spW_n c2, ← r5]
        exact m3
theorem nw_at {h : AH} {t n x : Nat} {c : Nat × Nat} (hx : x < nH h ∧ kH h x = c) : x < nH (nw h t n) ∧ kH (nw h t n) x = c := by
  have e : x ≠ h.1 := Nat.ne_of_lt hx.1
  exact ⟨Nat.lt_succ_of_lt hx.1, by rw [← hx.2]; simp [kH, nw, e]⟩
theorem segD_mv {h h' : AH} {d n : Nat} {sz : Nat → Nat} {wd : Nat → Nat → Int} (e0 : nH h ≤ nH h') (e : ∀ y, y < d → kH h' y = kH h y ∧ (∀ k, iH h' y k = iH h y k) ∧ ∀ k, rH h' y k = rH h y k) (ed : ∀ k, rH h' d k = rH h d k) (hd : segD h d n sz wd) : segD h' d n sz wd := by
  intro k hk
  obtain ⟨q, q1, q2, q3, q4⟩ := hd k hk
  refine ⟨q, by rw [ed]; exact q1, q2, ?_, fun i hi => by rw [(e _ q2).2.1]; exact q4 i hi⟩
  obtain ⟨⟨u1, u2⟩, u3, ⟨u4, u5⟩, u6⟩ := q3
  exact ⟨⟨by omega, by rw [(e q (by omega)).1]; exact u2⟩, by rw [(e q (by omega)).2.2]; exact u3, ⟨by omega, by rw [(e _ q2).1]; exact u5⟩, u6⟩
theorem l_segment {h : AH} (hL : LayL h) {a d n r : Nat} {sz : Nat → Nat} {wd : Nat → Nat → Int} {x : Int} (hda : a = d + 1) (hn : nH h = a + 1) (h74 : 1192 ≤ a) (hk : kH h a = (7, 0)) (hkd : kH h d = (16, n)) (hn64 : n ≤ 64) (hz : ∀ k, iH h a k = 0) (hr : (r : Int) = szS sz n) (hsz : ∀ k, k < n → sz k ≤ 12) (hd : segD h d n sz wd) : Ct 2 3 2304 mX7_init [vr a, vi x, vr d] h (QV fun h' => segN a n r x h h' ∧ ∃ c : Nat, c ≤ r ∧ dD h' a c (MW sz wd n 0) (cpW sz wd n 0) (spW sz wd n 0)) := by
  have hb := szS_bd hsz
  obtain ⟨h1, hh1⟩ : ∃ h1, h1 = sR (sI h a 0 x) a 1 (some d) := ⟨_, rfl⟩
  have hL1 : LayL h1 := by rw [hh1]; exact LayL_sR (by omega) hL
  have hn1 : nH h1 = a + 1 := by rw [hh1]; exact hn
  have hk1 : ∀ y, kH h1 y = kH h y := fun y => by rw [hh1]; rfl
  have hi1 : ∀ y, y ≠ a → ∀ k, iH h1 y k = iH h y k := fun y hy k => by rw [hh1]; exact rI_ne hy
  have hr1 : ∀ y, y ≠ a → ∀ k, rH h1 y k = rH h y k := fun y hy k => by rw [hh1, rR_o hy]; rfl
  have hj1 : ∀ y k, jH h1 y k = jH h y k := fun y k => by rw [hh1]; rfl
  have ha1 : a < nH h1 ∧ kH h1 a = (7, 0) := ⟨by omega, by rw [hk1]; exact hk⟩
  have hd1 : segD h1 d n sz wd := segD_mv (by omega) (fun y hy => ⟨hk1 y, hi1 y (by omega), hr1 y (by omega)⟩) (hr1 d (by omega)) hd
  have hkd1 : d < nH h1 ∧ kH h1 d = (16, n) := ⟨by omega, by rw [hk1]; exact hkd⟩
  obtain ⟨f1, f2, f3, f4⟩ := sg3_f (h := h1) (r := r) hn1
  have main := up (P := fun i => wp mX7_init 2 3 2304 (QV fun h' => segN a n r x h h' ∧ ∃ c : Nat, c ≤ r ∧ dD h' a c (MW sz wd n 0) (cpW sz wd n 0) (spW sz wd n 0)) 19 [some (vr a), none, some (vr d), some (vi (szS sz i)), some (vi i), none] [] h1) n ?_ ?_
  · refine e_X7_init hL ⟨by omega, hkd⟩ ⟨by omega, ⟨by omega, hk⟩, ⟨(by rw [← hn1] at *; omega : a < nH h), hk⟩, ?_⟩
    rw [← hh1]
    exact ⟨hL1, main⟩
  · refine t_X7_init_19 hL1 hkd1 ⟨by omega, fun _ => ?_, fun c => absurd c (by omega)⟩
    rw [← hr]
    simp only [Int.toNat_natCast]
    refine ⟨by omega, nw_at ha1, LayL_sR (by omega) (LayL_nw hL1), by omega, nw_at (nw_at ha1), LayL_sR (by omega) (LayL_nw (LayL_sR (by omega) (LayL_nw hL1))), by omega, nw_at (nw_at (nw_at ha1)), LayL_sg3 (by omega) hL1, ?_⟩
    show wp mX7_init 2 _ _ _ 67 _ [] (sg3 h1 a r)
    have hS : iSg (sg3 h1 a r) a n r := ⟨⟨⟨by omega, by rw [(f2 a (by omega)).1]; exact ha1.2⟩, by omega, by rw [(f2 _ (by omega)).1, show a - 1 = d by omega]; exact hkd1.2⟩, ⟨by rw [f4.2.2.2, hh1, rR_s, show a - 1 = d by omega], f4.1, f4.2.1, f4.2.2.1⟩, ⟨⟨by omega, f3.1⟩, ⟨by omega, f3.2.1⟩, ⟨by omega, f3.2.2⟩⟩, h74, hn64, by omega⟩
    have z : ∀ k, k ≠ 0 → iH (sg3 h1 a r) a k = 0 := fun k hk => by rw [(f2 a (by omega)).2.1, hh1]; exact (rI_nk hk).trans (hz k)
    refine l_segLoop (LayL_sg3 (by omega) hL1) hda hS hr hsz (segD_mv (by omega) (fun y hy => ⟨(f2 y (by omega)).1, (f2 y (by omega)).2.1, (f2 y (by omega)).2.2.2 (by omega)⟩) ((f2 d (by omega)).2.2.2 (by omega)) hd1) ?_ ?_
    · refine ⟨⟨0, by rw [szS_0]; omega, z 5 (by omega), fun i j _ hj => by omega, fun j hj => by omega, fun w hw => ?_, z 6 (by omega)⟩, by rw [z 6 (by omega)]; omega, by rw [z 6 (by omega), szS_0]; omega⟩
      rcases hw with ⟨k, q, _⟩ | q
      · omega
      · exact absurd q wdB_0
    · intro h' e s
      obtain ⟨⟨c, s1, s2⟩, -, -⟩ := s
      refine ⟨rfl, ⟨by rw [e.1, f1], fun y hy => ⟨by rw [e.2.1, (f2 y hy).1, hk1], fun hya => ⟨fun k => ?_, fun k => ?_⟩, fun k => ?_⟩, sgR_S e hS, ?_⟩, c, by omega, s2⟩
      · rw [e.2.2.2.2 y k (by omega) (by omega) (by omega) (fun u => absurd u hya), (f2 y hy).2.1, hi1 y hya]
      · rw [e.2.2.1, (f2 y hy).2.2.2 hya, hr1 y hya]
      · rw [e.2.2.2.1, (f2 y hy).2.2.1, hj1]
      · rw [e.2.2.2.2 a 0 (by omega) (by omega) (by omega) (fun _ => by omega), (f2 a (by omega)).2.1, hh1]; exact rI_same
  · intro i hi ih
    obtain ⟨q, q1, q2, q3, q4⟩ := hd1 i hi
    have := szS_mo (sz := sz) (i := i) (n := n) (by omega)
    have := szS_nn (sz := sz) (i := i)
    have := hsz i hi
    refine t_X7_init_19 hL1 hkd1 ⟨by omega, fun c => absurd c (by omega), fun _ => ⟨by omega, q, sz i, ⟨by rw [Int.toNat_natCast]; exact q1, q3⟩, by omega, by omega, ?_⟩⟩
    rw [show (i : Int) + 1 = ((i + 1 : Nat) : Int) by omega]
    exact ih
