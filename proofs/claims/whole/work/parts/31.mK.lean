/-! THE REFERENCE: COST, FIND -/
def b_X12_cost_0 : List IE := [(.aload_n 0, 1, 0, 0, 0, 0), (.getfield 70, 3, 0, 12, 31, 1), (.iload_n 2, 1, 0, 0, 2, 0), (.aaload, 1, 0, 0, 0, 0), (.astore_n 3, 1, 0, 0, 3, 0), (.iconst 0, 1, 0, 0, 0, 0), (.istore 4, 2, 0, 0, 4, 0), (.iconst 0, 1, 0, 0, 0, 0), (.istore 5, 2, 0, 0, 5, 0)]
theorem k_X12_cost_0 : ckB mX12_cost 12 0 b_X12_cost_0 13 = true := by decide +kernel
def b_X12_cost_13 : List IE := [(.iload 5, 2, 0, 0, 5, 0), (.aload_n 0, 1, 0, 0, 0, 0), (.getfield 73, 3, 0, 12, 32, 1), (.iload_n 2, 1, 0, 0, 2, 0), (.iaload, 1, 0, 0, 0, 0)]
theorem k_X12_cost_13 : ckIc mX12_cost 12 13 b_X12_cost_13 21 3 152 173 24 = true := by decide +kernel
def b_X12_cost_24 : List IE := [(.aload_n 3, 1, 0, 0, 3, 0), (.iload 5, 2, 0, 0, 5, 0), (.iaload, 1, 0, 0, 0, 0), (.istore 6, 2, 0, 0, 6, 0), (.iload 6, 2, 0, 0, 6, 0), (.iconst 3, 1, 3, 0, 0, 0)]
theorem k_X12_cost_24 : ckIc mX12_cost 12 24 b_X12_cost_24 33 5 7 40 36 = true := by decide +kernel
def b_X12_cost_36 : List IE := [(.iconst 0, 1, 0, 0, 0, 0)]
theorem k_X12_cost_36 : ckGo mX12_cost 12 36 b_X12_cost_36 37 29 66 = true := by decide +kernel
def b_X12_cost_40 : List IE := [(.iload 6, 2, 0, 0, 6, 0), (.iconst 3, 1, 3, 0, 0, 0)]
theorem k_X12_cost_40 : ckIc mX12_cost 12 40 b_X12_cost_40 43 1 12 55 46 = true := by decide +kernel
def b_X12_cost_46 : List IE := [(.aload_n 3, 1, 0, 0, 3, 0), (.iload 5, 2, 0, 0, 5, 0), (.iconst 1, 1, 1, 0, 0, 0), (.iadd, 1, 0, 0, 0, 0), (.iaload, 1, 0, 0, 0, 0)]
theorem k_X12_cost_46 : ckGo mX12_cost 12 46 b_X12_cost_46 52 14 66 = true := by decide +kernel
def b_X12_cost_55 : List IE := [(.iload 6, 2, 0, 0, 6, 0), (.iconst 2, 1, 2, 0, 0, 0)]
theorem k_X12_cost_55 : ckIc mX12_cost 12 55 b_X12_cost_55 58 1 7 65 61 = true := by decide +kernel
def b_X12_cost_61 : List IE := [(.iconst 2, 1, 2, 0, 0, 0)]
theorem k_X12_cost_61 : ckGo mX12_cost 12 61 b_X12_cost_61 62 4 66 = true := by decide +kernel
def b_X12_cost_65 : List IE := [(.iconst 1, 1, 1, 0, 0, 0), (.istore 7, 2, 0, 0, 7, 0), (.iload 6, 2, 0, 0, 6, 0), (.iconst 3, 1, 3, 0, 0, 0)]
theorem k_X12_cost_65 : ckIc mX12_cost 12 65 b_X12_cost_65 71 1 10 81 74 = true := by decide +kernel
def b_X12_cost_66 : List IE := [(.istore 7, 2, 0, 0, 7, 0), (.iload 6, 2, 0, 0, 6, 0), (.iconst 3, 1, 3, 0, 0, 0)]
theorem k_X12_cost_66 : ckIc mX12_cost 12 66 b_X12_cost_66 71 1 10 81 74 = true := by decide +kernel
def b_X12_cost_74 : List IE := [(.iload 5, 2, 0, 0, 5, 0), (.iconst 2, 1, 2, 0, 0, 0), (.iadd, 1, 0, 0, 0, 0)]
theorem k_X12_cost_74 : ckGo mX12_cost 12 74 b_X12_cost_74 78 7 85 = true := by decide +kernel
def b_X12_cost_81 : List IE := [(.iload 5, 2, 0, 0, 5, 0), (.iconst 1, 1, 1, 0, 0, 0), (.iadd, 1, 0, 0, 0, 0), (.istore 8, 2, 0, 0, 8, 0), (.iconst 0, 1, 0, 0, 0, 0), (.istore 9, 2, 0, 0, 9, 0)]
theorem k_X12_cost_81 : ckB mX12_cost 12 81 b_X12_cost_81 90 = true := by decide +kernel
def b_X12_cost_85 : List IE := [(.istore 8, 2, 0, 0, 8, 0), (.iconst 0, 1, 0, 0, 0, 0), (.istore 9, 2, 0, 0, 9, 0)]
theorem k_X12_cost_85 : ckB mX12_cost 12 85 b_X12_cost_85 90 = true := by decide +kernel
def b_X12_cost_90 : List IE := [(.iload 9, 2, 0, 0, 9, 0), (.iload 7, 2, 0, 0, 7, 0)]
theorem k_X12_cost_90 : ckIc mX12_cost 12 90 b_X12_cost_90 94 3 43 137 97 = true := by decide +kernel
def b_X12_cost_97 : List IE := [(.iload 4, 2, 0, 0, 4, 0), (.aload_n 0, 1, 0, 0, 0, 0), (.iload_n 1, 1, 0, 0, 1, 0), (.aload_n 3, 1, 0, 0, 3, 0), (.iload 8, 2, 0, 0, 8, 0), (.iload 9, 2, 0, 0, 9, 0), (.iadd, 1, 0, 0, 0, 0), (.iaload, 1, 0, 0, 0, 0), (.iload 6, 2, 0, 0, 6, 0), (.iconst 1, 1, 1, 0, 0, 0)]
theorem k_X12_cost_97 : ckIc mX12_cost 12 97 b_X12_cost_97 111 1 12 123 114 = true := by decide +kernel
def b_X12_cost_114 : List IE := [(.aload_n 3, 1, 0, 0, 3, 0), (.iload 5, 2, 0, 0, 5, 0), (.iconst 2, 1, 2, 0, 0, 0), (.iadd, 1, 0, 0, 0, 0), (.iaload, 1, 0, 0, 0, 0)]
theorem k_X12_cost_114 : ckGo mX12_cost 12 114 b_X12_cost_114 120 5 125 = true := by decide +kernel
def b_X12_cost_123 : List IE := [(.bipush 6, 2, 6, 0, 0, 0)]
theorem k_X12_cost_123 : ckB mX12_cost 12 123 b_X12_cost_123 125 = true := by decide +kernel
def b_X12_cost_125 : List IE := []
theorem k_X12_cost_125 : ckB mX12_cost 12 125 b_X12_cost_125 125 = true := by decide +kernel
def b_X12_cost_128 : List IE := [(.iadd, 1, 0, 0, 0, 0), (.istore 4, 2, 0, 0, 4, 0), (.iinc 9 1, 3, 1, 0, 9, 0)]
theorem k_X12_cost_128 : ckGo mX12_cost 12 128 b_X12_cost_128 134 (-44) 90 = true := by decide +kernel
def b_X12_cost_137 : List IE := [(.iload 6, 2, 0, 0, 6, 0), (.iconst 3, 1, 3, 0, 0, 0)]
theorem k_X12_cost_137 : ckIc mX12_cost 12 137 b_X12_cost_137 140 5 10 150 143 = true := by decide +kernel
def b_X12_cost_143 : List IE := [(.iload 5, 2, 0, 0, 5, 0), (.iconst 1, 1, 1, 0, 0, 0), (.iadd, 1, 0, 0, 0, 0)]
theorem k_X12_cost_143 : ckGo mX12_cost 12 143 b_X12_cost_143 147 21 168 = true := by decide +kernel
def b_X12_cost_150 : List IE := [(.iload 6, 2, 0, 0, 6, 0), (.iconst 1, 1, 1, 0, 0, 0)]
theorem k_X12_cost_150 : ckIc mX12_cost 12 150 b_X12_cost_150 153 1 10 163 156 = true := by decide +kernel
def b_X12_cost_156 : List IE := [(.iload 5, 2, 0, 0, 5, 0), (.iconst 3, 1, 3, 0, 0, 0), (.iadd, 1, 0, 0, 0, 0)]
theorem k_X12_cost_156 : ckGo mX12_cost 12 156 b_X12_cost_156 160 8 168 = true := by decide +kernel
def b_X12_cost_163 : List IE := [(.iload 8, 2, 0, 0, 8, 0), (.iload 7, 2, 0, 0, 7, 0), (.iadd, 1, 0, 0, 0, 0), (.istore 5, 2, 0, 0, 5, 0)]
theorem k_X12_cost_163 : ckGo mX12_cost 12 163 b_X12_cost_163 170 (-157) 13 = true := by decide +kernel
def b_X12_cost_168 : List IE := [(.istore 5, 2, 0, 0, 5, 0)]
theorem k_X12_cost_168 : ckGo mX12_cost 12 168 b_X12_cost_168 170 (-157) 13 = true := by decide +kernel
def b_X12_cost_173 : List IE := [(.iload 4, 2, 0, 0, 4, 0)]
theorem k_X12_cost_173 : ckI mX12_cost 12 173 b_X12_cost_173 175 = true := by decide +kernel
theorem s_X12_cost_125 : cV mX12_cost 125 mX12_costOfWord 364 3 12 := ⟨by decide +kernel, ⟨ml_X12_costOfWord, li_RX12_364, im_X12_costOfWord, se_X12_costOfWord⟩, ⟨by decide +kernel, by decide +kernel⟩, by decide +kernel⟩
theorem t_X12_cost_0 {rc rs : Nat} {Q : Option AV → AH → Prop} {h : AH} {x1 x2 : Int} (hL : LayM h) (hv : (0 ≤ x2 ∧ x2 < 6) ∧ wp mX12_cost 4 rc rs Q 13 [some (vr 89), some (vi x1), some (vi x2), some (vr (1170 + x2.toNat)), some (vi 0), some (vi 0), none, none, none, none] [] h) : wp mX12_cost 4 rc rs Q 0 [some (vr 89), some (vi x1), some (vi x2), none, none, none, none, none, none, none] [] h :=
  (show wp mX12_cost 4 rc rs Q 0 [some (vr 89), some (vi x1), some (vi x2), none, none, none, none, none, none, none] [] h from xB k_X12_cost_0 (And.intro (lm_89 hL) (Exists.intro 1169 (And.intro (lf_89_31 hL) (have c1 := hv.1; have v2 := hv.2; (And.intro (sdQ (lm_1169 hL) c1) (Exists.intro (1170 + x2.toNat) (And.intro (lr_marks hL (tnl c1)) (And.intro rfl (And.intro rfl (And.intro rfl v2)))))))))))
theorem e_X12_cost {mc ms : Nat} {Q : Option AV → AH → Prop} {h : AH} {x1 x2 : Int} (hL : LayM h) (hv : (0 ≤ x2 ∧ x2 < 6) ∧ wp mX12_cost 4 mc ms Q 13 [some (vr 89), some (vi x1), some (vi x2), some (vr (1170 + x2.toNat)), some (vi 0), some (vi 0), none, none, none, none] [] h) : Ct 4 mc ms mX12_cost [vr 89, vi x1, vi x2] h Q := Ct.of (by decide +kernel) (Nat.le_of_ble_eq_true rfl) (t_X12_cost_0 hL hv)
theorem t_X12_cost_13 {rc rs : Nat} {Q : Option AV → AH → Prop} {h : AH} {x1 x2 x4 x5 : Int} {a3 n3 : Nat} (hL : LayM h) (hA3 : a3 < nH h ∧ kH h a3 = (13, n3)) (hv : (0 ≤ x2 ∧ x2 < 6) ∧ (((iH h 1176 x2.toNat) ≤ x5 → Q (some (vi x4)) h) ∧ (x5 < (iH h 1176 x2.toNat) → (0 ≤ x5 ∧ x5 < n3) ∧ (((iH h a3 x5.toNat) ≤ 3 → (((iH h a3 x5.toNat) ≠ 3 → (((iH h a3 x5.toNat) ≠ 2 → (-2147483648 ≤ (x5 + 1) ∧ (x5 + 1) < 2147483648) ∧ wp mX12_cost 4 rc rs Q 90 [some (vr 89), some (vi x1), some (vi x2), some (vr a3), some (vi x4), some (vi x5), some (vi (iH h a3 x5.toNat)), some (vi 1), some (vi (x5 + 1)), some (vi 0)] [] h) ∧ ((iH h a3 x5.toNat) = 2 → (-2147483648 ≤ (x5 + 1) ∧ (x5 + 1) < 2147483648) ∧ wp mX12_cost 4 rc rs Q 90 [some (vr 89), some (vi x1), some (vi x2), some (vr a3), some (vi x4), some (vi x5), some (vi (iH h a3 x5.toNat)), some (vi 2), some (vi (x5 + 1)), some (vi 0)] [] h))) ∧ ((iH h a3 x5.toNat) = 3 → (-2147483648 ≤ (x5 + 1) ∧ (x5 + 1) < 2147483648) ∧ (0 ≤ (x5 + 1) ∧ (x5 + 1) < n3) ∧ (-2147483648 ≤ (x5 + 2) ∧ (x5 + 2) < 2147483648) ∧ wp mX12_cost 4 rc rs Q 90 [some (vr 89), some (vi x1), some (vi x2), some (vr a3), some (vi x4), some (vi x5), some (vi (iH h a3 x5.toNat)), some (vi (iH h a3 ((x5 + 1).toNat))), some (vi (x5 + 2)), some (vi 0)] [] h))) ∧ (3 < (iH h a3 x5.toNat) → (((iH h a3 x5.toNat) ≠ 3 → (-2147483648 ≤ (x5 + 1) ∧ (x5 + 1) < 2147483648) ∧ wp mX12_cost 4 rc rs Q 90 [some (vr 89), some (vi x1), some (vi x2), some (vr a3), some (vi x4), some (vi x5), some (vi (iH h a3 x5.toNat)), some (vi 0), some (vi (x5 + 1)), some (vi 0)] [] h) ∧ ((iH h a3 x5.toNat) = 3 → (-2147483648 ≤ (x5 + 2) ∧ (x5 + 2) < 2147483648) ∧ wp mX12_cost 4 rc rs Q 90 [some (vr 89), some (vi x1), some (vi x2), some (vr a3), some (vi x4), some (vi x5), some (vi (iH h a3 x5.toNat)), some (vi 0), some (vi (x5 + 2)), some (vi 0)] [] h))))))) : wp mX12_cost 4 rc rs Q 13 [some (vr 89), some (vi x1), some (vi x2), some (vr a3), some (vi x4), some (vi x5), none, none, none, none] [] h :=
  (show wp mX12_cost 4 rc rs Q 13 [some (vr 89), some (vi x1), some (vi x2), some (vr a3), some (vi x4), some (vi x5), none, none, none, none] [] h from xIc k_X12_cost_13 (And.intro (lm_89 hL) (Exists.intro 1176 (And.intro (lf_89_32 hL) (have c1 := hv.1; have v38 := hv.2; (And.intro (sdI (lm_1176 hL) c1) (And.intro (fun c2 => have v4 := v38.1 c2; (show wp mX12_cost 4 rc rs Q 173 [some (vr 89), some (vi x1), some (vi x2), some (vr a3), some (vi x4), some (vi x5), none, none, none, none] [] h from xI k_X12_cost_173 (And.intro rfl v4))) (fun c3 => have v5 := v38.2 (Int.not_le.mp c3); (show wp mX12_cost 4 rc rs Q 24 [some (vr 89), some (vi x1), some (vi x2), some (vr a3), some (vi x4), some (vi x5), none, none, none, none] [] h from xIc k_X12_cost_24 (have c6 := v5.1; have v37 := v5.2; (And.intro (sdI hA3 c6) (And.intro rfl (And.intro (fun c7 => have v9 := v37.1 c7; (show wp mX12_cost 4 rc rs Q 40 [some (vr 89), some (vi x1), some (vi x2), some (vr a3), some (vi x4), some (vi x5), some (vi (iH h a3 x5.toNat)), none, none, none] [] h from xIc k_X12_cost_40 (And.intro (fun c11 => have v13 := v9.1 c11; (show wp mX12_cost 4 rc rs Q 55 [some (vr 89), some (vi x1), some (vi x2), some (vr a3), some (vi x4), some (vi x5), some (vi (iH h a3 x5.toNat)), none, none, none] [] h from xIc k_X12_cost_55 (And.intro (fun c15 => have v17 := v13.1 c15; (show wp mX12_cost 4 rc rs Q 65 [some (vr 89), some (vi x1), some (vi x2), some (vr a3), some (vi x4), some (vi x5), some (vi (iH h a3 x5.toNat)), none, none, none] [] h from xIc k_X12_cost_65 (And.intro rfl (And.intro (fun _ => (show wp mX12_cost 4 rc rs Q 81 [some (vr 89), some (vi x1), some (vi x2), some (vr a3), some (vi x4), some (vi x5), some (vi (iH h a3 x5.toNat)), some (vi 1), none, none] [] h from xB k_X12_cost_81 (have c19 := v17.1; have v20 := v17.2; (And.intro c19 (And.intro rfl (And.intro rfl v20)))))) (fun c => absurd (show (iH h a3 x5.toNat) ≠ 3 from c11) c))))) (fun c16 => have v18 := v13.2 (Decidable.not_not.mp c16); (show wp mX12_cost 4 rc rs Q 61 [some (vr 89), some (vi x1), some (vi x2), some (vr a3), some (vi x4), some (vi x5), some (vi (iH h a3 x5.toNat)), none, none, none] [] h from xGo k_X12_cost_61 (show wp mX12_cost 4 rc rs Q 66 [some (vr 89), some (vi x1), some (vi x2), some (vr a3), some (vi x4), some (vi x5), some (vi (iH h a3 x5.toNat)), none, none, none] [vi 2] h from xIc k_X12_cost_66 (And.intro rfl (And.intro (fun _ => (show wp mX12_cost 4 rc rs Q 81 [some (vr 89), some (vi x1), some (vi x2), some (vr a3), some (vi x4), some (vi x5), some (vi (iH h a3 x5.toNat)), some (vi 2), none, none] [] h from xB k_X12_cost_81 (have c21 := v18.1; have v22 := v18.2; (And.intro c21 (And.intro rfl (And.intro rfl v22)))))) (fun c => absurd (show (iH h a3 x5.toNat) ≠ 3 from c11) c))))))))) (fun c12 => have v14 := v9.2 (Decidable.not_not.mp c12); (show wp mX12_cost 4 rc rs Q 46 [some (vr 89), some (vi x1), some (vi x2), some (vr a3), some (vi x4), some (vi x5), some (vi (iH h a3 x5.toNat)), none, none, none] [] h from xGo k_X12_cost_46 (have c23 := v14.1; have v28 := v14.2; (And.intro c23 (have c24 := v28.1; have v27 := v28.2; (And.intro (sdI hA3 c24) (show wp mX12_cost 4 rc rs Q 66 [some (vr 89), some (vi x1), some (vi x2), some (vr a3), some (vi x4), some (vi x5), some (vi (iH h a3 x5.toNat)), none, none, none] [vi (iH h a3 ((x5 + 1).toNat))] h from xIc k_X12_cost_66 (And.intro rfl (And.intro (fun c => absurd (show (iH h a3 x5.toNat) = 3 from (Decidable.not_not.mp c12)) c) (fun _ => (show wp mX12_cost 4 rc rs Q 74 [some (vr 89), some (vi x1), some (vi x2), some (vr a3), some (vi x4), some (vi x5), some (vi (iH h a3 x5.toNat)), some (vi (iH h a3 ((x5 + 1).toNat))), none, none] [] h from xGo k_X12_cost_74 (have c25 := v27.1; have v26 := v27.2; (And.intro c25 (show wp mX12_cost 4 rc rs Q 85 [some (vr 89), some (vi x1), some (vi x2), some (vr a3), some (vi x4), some (vi x5), some (vi (iH h a3 x5.toNat)), some (vi (iH h a3 ((x5 + 1).toNat))), none, none] [vi (x5 + 2)] h from xB k_X12_cost_85 (And.intro rfl (And.intro rfl v26))))))))))))))))))) (fun c8 => have v10 := v37.2 (Int.not_le.mp c8); (show wp mX12_cost 4 rc rs Q 36 [some (vr 89), some (vi x1), some (vi x2), some (vr a3), some (vi x4), some (vi x5), some (vi (iH h a3 x5.toNat)), none, none, none] [] h from xGo k_X12_cost_36 (show wp mX12_cost 4 rc rs Q 66 [some (vr 89), some (vi x1), some (vi x2), some (vr a3), some (vi x4), some (vi x5), some (vi (iH h a3 x5.toNat)), none, none, none] [vi 0] h from xIc k_X12_cost_66 (And.intro rfl (And.intro (fun c29 => have v31 := v10.1 c29; (show wp mX12_cost 4 rc rs Q 81 [some (vr 89), some (vi x1), some (vi x2), some (vr a3), some (vi x4), some (vi x5), some (vi (iH h a3 x5.toNat)), some (vi 0), none, none] [] h from xB k_X12_cost_81 (have c33 := v31.1; have v34 := v31.2; (And.intro c33 (And.intro rfl (And.intro rfl v34)))))) (fun c30 => have v32 := v10.2 (Decidable.not_not.mp c30); (show wp mX12_cost 4 rc rs Q 74 [some (vr 89), some (vi x1), some (vi x2), some (vr a3), some (vi x4), some (vi x5), some (vi (iH h a3 x5.toNat)), some (vi 0), none, none] [] h from xGo k_X12_cost_74 (have c35 := v32.1; have v36 := v32.2; (And.intro c35 (show wp mX12_cost 4 rc rs Q 85 [some (vr 89), some (vi x1), some (vi x2), some (vr a3), some (vi x4), some (vi x5), some (vi (iH h a3 x5.toNat)), some (vi 0), none, none] [vi (x5 + 2)] h from xB k_X12_cost_85 (And.intro rfl (And.intro rfl v36)))))))))))))))))))))))))
theorem t_X12_cost_90 {rc rs : Nat} {Q : Option AV → AH → Prop} {h : AH} {x1 x2 x4 x5 x6 x7 x8 x9 : Int} {a3 n3 : Nat} (hL : LayM h) (hA3 : a3 < nH h ∧ kH h a3 = (13, n3)) (hv : ((x7 ≤ x9 → ((x6 ≤ 3 → ((x6 ≠ 1 → (-2147483648 ≤ (x8 + x7) ∧ (x8 + x7) < 2147483648) ∧ wp mX12_cost 4 rc rs Q 13 [some (vr 89), some (vi x1), some (vi x2), some (vr a3), some (vi x4), some (vi (x8 + x7)), none, none, none, none] [] h) ∧ (x6 = 1 → (-2147483648 ≤ (x5 + 3) ∧ (x5 + 3) < 2147483648) ∧ wp mX12_cost 4 rc rs Q 13 [some (vr 89), some (vi x1), some (vi x2), some (vr a3), some (vi x4), some (vi (x5 + 3)), none, none, none, none] [] h))) ∧ (3 < x6 → (-2147483648 ≤ (x5 + 1) ∧ (x5 + 1) < 2147483648) ∧ wp mX12_cost 4 rc rs Q 13 [some (vr 89), some (vi x1), some (vi x2), some (vr a3), some (vi x4), some (vi (x5 + 1)), none, none, none, none] [] h))) ∧ (x9 < x7 → (-2147483648 ≤ (x8 + x9) ∧ (x8 + x9) < 2147483648) ∧ (0 ≤ (x8 + x9) ∧ (x8 + x9) < n3) ∧ ((x6 ≠ 1 → (m_stdd h x1 ∧ m_bl (iH h a3 ((x8 + x9).toNat)) (6 : Int)) ∧ (-2147483648 ≤ (x4 + (m_cow h x1 (iH h a3 ((x8 + x9).toNat)) (6 : Int))) ∧ (x4 + (m_cow h x1 (iH h a3 ((x8 + x9).toNat)) (6 : Int))) < 2147483648) ∧ (-2147483648 ≤ (x9 + 1) ∧ (x9 + 1) < 2147483648) ∧ wp mX12_cost 4 rc rs Q 90 [some (vr 89), some (vi x1), some (vi x2), some (vr a3), some (vi (x4 + (m_cow h x1 (iH h a3 ((x8 + x9).toNat)) (6 : Int)))), some (vi x5), some (vi x6), some (vi x7), some (vi x8), some (vi (x9 + 1))] [] h) ∧ (x6 = 1 → (-2147483648 ≤ (x5 + 2) ∧ (x5 + 2) < 2147483648) ∧ (0 ≤ (x5 + 2) ∧ (x5 + 2) < n3) ∧ (m_stdd h x1 ∧ m_bl (iH h a3 ((x8 + x9).toNat)) (iH h a3 ((x5 + 2).toNat))) ∧ (-2147483648 ≤ (x4 + (m_cow h x1 (iH h a3 ((x8 + x9).toNat)) (iH h a3 ((x5 + 2).toNat)))) ∧ (x4 + (m_cow h x1 (iH h a3 ((x8 + x9).toNat)) (iH h a3 ((x5 + 2).toNat)))) < 2147483648) ∧ (-2147483648 ≤ (x9 + 1) ∧ (x9 + 1) < 2147483648) ∧ wp mX12_cost 4 rc rs Q 90 [some (vr 89), some (vi x1), some (vi x2), some (vr a3), some (vi (x4 + (m_cow h x1 (iH h a3 ((x8 + x9).toNat)) (iH h a3 ((x5 + 2).toNat))))), some (vi x5), some (vi x6), some (vi x7), some (vi x8), some (vi (x9 + 1))] [] h))))) : wp mX12_cost 4 rc rs Q 90 [some (vr 89), some (vi x1), some (vi x2), some (vr a3), some (vi x4), some (vi x5), some (vi x6), some (vi x7), some (vi x8), some (vi x9)] [] h :=
  (show wp mX12_cost 4 rc rs Q 90 [some (vr 89), some (vi x1), some (vi x2), some (vr a3), some (vi x4), some (vi x5), some (vi x6), some (vi x7), some (vi x8), some (vi x9)] [] h from xIc k_X12_cost_90 (And.intro (fun c1 => have v3 := hv.1 c1; (show wp mX12_cost 4 rc rs Q 137 [some (vr 89), some (vi x1), some (vi x2), some (vr a3), some (vi x4), some (vi x5), some (vi x6), some (vi x7), some (vi x8), some (vi x9)] [] h from xIc k_X12_cost_137 (And.intro (fun c5 => have v7 := v3.1 c5; (show wp mX12_cost 4 rc rs Q 150 [some (vr 89), some (vi x1), some (vi x2), some (vr a3), some (vi x4), some (vi x5), some (vi x6), some (vi x7), some (vi x8), some (vi x9)] [] h from xIc k_X12_cost_150 (And.intro (fun c9 => have v11 := v7.1 c9; (show wp mX12_cost 4 rc rs Q 163 [some (vr 89), some (vi x1), some (vi x2), some (vr a3), some (vi x4), some (vi x5), some (vi x6), some (vi x7), some (vi x8), some (vi x9)] [] h from xGo k_X12_cost_163 (have c13 := v11.1; have v14 := v11.2; (And.intro c13 (And.intro rfl (w_fg [true, true, true, true, true, true, false, false, false, false] v14)))))) (fun c10 => have v12 := v7.2 (Decidable.not_not.mp c10); (show wp mX12_cost 4 rc rs Q 156 [some (vr 89), some (vi x1), some (vi x2), some (vr a3), some (vi x4), some (vi x5), some (vi x6), some (vi x7), some (vi x8), some (vi x9)] [] h from xGo k_X12_cost_156 (have c15 := v12.1; have v16 := v12.2; (And.intro c15 (show wp mX12_cost 4 rc rs Q 168 [some (vr 89), some (vi x1), some (vi x2), some (vr a3), some (vi x4), some (vi x5), some (vi x6), some (vi x7), some (vi x8), some (vi x9)] [vi (x5 + 3)] h from xGo k_X12_cost_168 (And.intro rfl (w_fg [true, true, true, true, true, true, false, false, false, false] v16)))))))))) (fun c6 => have v8 := v3.2 (Int.not_le.mp c6); (show wp mX12_cost 4 rc rs Q 143 [some (vr 89), some (vi x1), some (vi x2), some (vr a3), some (vi x4), some (vi x5), some (vi x6), some (vi x7), some (vi x8), some (vi x9)] [] h from xGo k_X12_cost_143 (have c17 := v8.1; have v18 := v8.2; (And.intro c17 (show wp mX12_cost 4 rc rs Q 168 [some (vr 89), some (vi x1), some (vi x2), some (vr a3), some (vi x4), some (vi x5), some (vi x6), some (vi x7), some (vi x8), some (vi x9)] [vi (x5 + 1)] h from xGo k_X12_cost_168 (And.intro rfl (w_fg [true, true, true, true, true, true, false, false, false, false] v18)))))))))) (fun c2 => have v4 := hv.2 (Int.not_le.mp c2); (show wp mX12_cost 4 rc rs Q 97 [some (vr 89), some (vi x1), some (vi x2), some (vr a3), some (vi x4), some (vi x5), some (vi x6), some (vi x7), some (vi x8), some (vi x9)] [] h from xIc k_X12_cost_97 (have c19 := v4.1; have v44 := v4.2; (And.intro c19 (have c20 := v44.1; have v43 := v44.2; (And.intro (sdI hA3 c20) (And.intro (fun c21 => have v23 := v43.1 c21; (show wp mX12_cost 4 rc rs Q 123 [some (vr 89), some (vi x1), some (vi x2), some (vr a3), some (vi x4), some (vi x5), some (vi x6), some (vi x7), some (vi x8), some (vi x9)] [vi (iH h a3 ((x8 + x9).toNat)), vi x1, vr 89, vi x4] h from xcV k_X12_cost_123 s_X12_cost_125 (have c29 := v23.1; have v30 := v23.2; (Exists.intro [vi x1, vi (iH h a3 ((x8 + x9).toNat)), vi 6] (Exists.intro 89 (Exists.intro [vi x4] (And.intro (And.intro rfl (And.intro rfl (Nat.le_of_ble_eq_true rfl))) (And.intro (lm_89 hL) (Exists.intro 3 (Exists.intro 0 (Exists.intro 0 (Exists.intro _ (And.intro (c_costOfWord (h := h) hL c29) (And.intro (And.intro (by decide) (And.intro (Nat.zero_le _) (Nat.zero_le _))) (eQP (show wp mX12_cost 4 rc rs Q 128 [some (vr 89), some (vi x1), some (vi x2), some (vr a3), some (vi x4), some (vi x5), some (vi x6), some (vi x7), some (vi x8), some (vi x9)] [vi (m_cow h x1 (iH h a3 ((x8 + x9).toNat)) (6 : Int)), vi x4] h from xGo k_X12_cost_128 (have c25 := v30.1; have v28 := v30.2; (And.intro c25 (And.intro rfl (have c26 := v28.1; have v27 := v28.2; (And.intro c26 (And.intro rfl v27)))))))))))))))))))))) (fun c22 => have v24 := v43.2 (Decidable.not_not.mp c22); (show wp mX12_cost 4 rc rs Q 114 [some (vr 89), some (vi x1), some (vi x2), some (vr a3), some (vi x4), some (vi x5), some (vi x6), some (vi x7), some (vi x8), some (vi x9)] [vi (iH h a3 ((x8 + x9).toNat)), vi x1, vr 89, vi x4] h from xGo k_X12_cost_114 (have c32 := v24.1; have v42 := v24.2; (And.intro c32 (have c33 := v42.1; have v41 := v42.2; (And.intro (sdI hA3 c33) (show wp mX12_cost 4 rc rs Q 125 [some (vr 89), some (vi x1), some (vi x2), some (vr a3), some (vi x4), some (vi x5), some (vi x6), some (vi x7), some (vi x8), some (vi x9)] [vi (iH h a3 ((x5 + 2).toNat)), vi (iH h a3 ((x8 + x9).toNat)), vi x1, vr 89, vi x4] h from xcV k_X12_cost_125 s_X12_cost_125 (have c38 := v41.1; have v39 := v41.2; (Exists.intro [vi x1, vi (iH h a3 ((x8 + x9).toNat)), vi (iH h a3 ((x5 + 2).toNat))] (Exists.intro 89 (Exists.intro [vi x4] (And.intro (And.intro rfl (And.intro rfl (Nat.le_of_ble_eq_true rfl))) (And.intro (lm_89 hL) (Exists.intro 3 (Exists.intro 0 (Exists.intro 0 (Exists.intro _ (And.intro (c_costOfWord (h := h) hL c38) (And.intro (And.intro (by decide) (And.intro (Nat.zero_le _) (Nat.zero_le _))) (eQP (show wp mX12_cost 4 rc rs Q 128 [some (vr 89), some (vi x1), some (vi x2), some (vr a3), some (vi x4), some (vi x5), some (vi x6), some (vi x7), some (vi x8), some (vi x9)] [vi (m_cow h x1 (iH h a3 ((x8 + x9).toNat)) (iH h a3 ((x5 + 2).toNat))), vi x4] h from xGo k_X12_cost_128 (have c34 := v39.1; have v37 := v39.2; (And.intro c34 (And.intro rfl (have c35 := v37.1; have v36 := v37.2; (And.intro c35 (And.intro rfl v36))))))))))))))))))))))))))))))))))))
def q_mn (r : Nat → Int) (k : Nat) : Nat := if 3 < r k then 0 else if r k = 3 then (r (k + 1)).toNat else if r k = 2 then 2 else 1
def q_fr (r : Nat → Int) (k : Nat) : Nat := if r k = 3 then k + 2 else k + 1
def q_lt (r : Nat → Int) (k : Nat) : Int := if r k = 1 then r (k + 2) else 6
noncomputable def m_ocF (h : AH) (t q : Int) (k i : Nat) : Int := m_cow h t (m_row h q (q_fr (m_row h q) k + i)) (q_lt (m_row h q) k)
noncomputable def m_oc (h : AH) (t q : Int) (k : Nat) : Int := sumN (m_ocF h t q k) (q_mn (m_row h q) k)
noncomputable def m_cost (h : AH) (t q : Int) : Int := sumN (fun j => m_oc h t q (q_pos (m_row h q) j)) (m_nop h q)
theorem m_oc_bd' {h : AH} {t q : Int} (ht : m_stdd h t) (k i : Nat) : 0 ≤ sumN (m_ocF h t q k) i ∧ sumN (m_ocF h t q k) i ≤ (i : Int) * 393216 := sumN_bd _ 393216 (by omega) i fun j _ => m_cow_bd ht
theorem q_mn_le {r : Nat → Int} {k : Nat} (ho : q_op r k) : q_mn r k ≤ q_ol r k ∧ (r k ≤ 3 → r k ≠ 1 → q_fr r k + q_mn r k = k + q_ol r k) ∧ (r k = 1 → k + 3 = k + q_ol r k) ∧ (3 < r k → k + 1 = k + q_ol r k) ∧ (r k ≤ 3 → q_fr r k + q_mn r k ≤ k + q_ol r k) := by
  have h1 := ho.1
  have h3 := ho.2.2.2.2
  by_cases c3 : r k = 3
  · have h3' := h3 c3
    have e1 : q_mn r k = (r (k + 1)).toNat := by unfold q_mn; rw [if_neg (by omega), if_pos c3]
    have e2 : q_fr r k = k + 2 := if_pos c3
    have e3 : q_ol r k = 2 + (r (k + 1)).toNat := by unfold q_ol; rw [if_neg (by omega), if_neg (by omega), if_pos c3]
    omega
  · have e2 : q_fr r k = k + 1 := if_neg c3
    by_cases c4 : 3 < r k
    · have e1 : q_mn r k = 0 := if_pos c4
      have e3 : q_ol r k = 1 := by unfold q_ol; rw [if_neg (by omega), if_neg (by omega), if_neg c3]
      omega
    · by_cases c2 : r k = 2
      · have e1 : q_mn r k = 2 := by unfold q_mn; rw [if_neg c4, if_neg c3, if_pos c2]
        have e3 : q_ol r k = 3 := by unfold q_ol; rw [if_neg (by omega), if_pos (Or.inr c2)]
        omega
      · have e1 : q_mn r k = 1 := by unfold q_mn; rw [if_neg c4, if_neg c3, if_neg c2]
        by_cases c1 : r k = 1
        · have e3 : q_ol r k = 3 := by unfold q_ol; rw [if_neg (by omega), if_pos (Or.inl c1)]
          omega
        · have e3 : q_ol r k = 2 := by unfold q_ol; rw [if_pos (by omega)]
          omega
theorem q_word {r : Nat → Int} {k i : Nat} (ho : q_op r k) (hi : i < q_mn r k) : 0 < r (q_fr r k + i) ∧ r (q_fr r k + i) < 387420489 := by
  have h1 := ho.1
  unfold q_mn at hi
  unfold q_fr
  by_cases c4 : 3 < r k
  · rw [if_pos c4] at hi; omega
  · rw [if_neg c4] at hi
    by_cases c3 : r k = 3
    · rw [if_pos c3] at hi
      rw [if_pos c3]
      exact (ho.2.2.2.2 c3).2.2 i (by omega)
    · rw [if_neg c3] at hi
      rw [if_neg c3]
      by_cases c2 : r k = 2
      · rw [if_pos c2] at hi
        have : i = 0 ∨ i = 1 := by omega
        rcases this with rfl | rfl
        · exact ho.2.1 (by omega)
        · exact ho.2.2.2.1 c2
      · rw [if_neg c2] at hi
        have : i = 0 := by omega
        subst this
        exact ho.2.1 (by omega)
theorem m_cost_bd {h : AH} {t q : Int} (ht : m_stdd h t) (hq : m_qok h q) : ∀ j, j ≤ m_nop h q → 0 ≤ sumN (fun j => m_oc h t q (q_pos (m_row h q) j)) j ∧ sumN (fun j => m_oc h t q (q_pos (m_row h q) j)) j ≤ (q_pos (m_row h q) j : Int) * 393216
  | 0, _ => ⟨Int.le_refl 0, by show (0 : Int) ≤ ((0 : Nat) : Int) * 393216; omega⟩
  | j + 1, hj => by
    have ih := m_cost_bd ht hq j (by omega)
    have e : sumN (fun j => m_oc h t q (q_pos (m_row h q) j)) (j + 1) = sumN (fun j => m_oc h t q (q_pos (m_row h q) j)) j + m_oc h t q (q_pos (m_row h q) j) := rfl
    have ep : q_pos (m_row h q) (j + 1) = q_pos (m_row h q) j + q_ol (m_row h q) (q_pos (m_row h q) j) := rfl
    have h1 := m_oc_bd' (q := q) ht (q_pos (m_row h q) j) (q_mn (m_row h q) (q_pos (m_row h q) j))
    have h2 := (q_mn_le ((m_nop_ok hq).2.2.2 j (by omega)).1).1
    have h3 : m_oc h t q (q_pos (m_row h q) j) = sumN (m_ocF h t q (q_pos (m_row h q) j)) (q_mn (m_row h q) (q_pos (m_row h q) j)) := rfl
    rw [e, ep]
    omega
theorem c_cost {h : AH} (hL : LayM h) {t q : Int} (hp : m_stdd h t ∧ m_qok h q) : Ct 4 0 0 mX12_cost [vr 89, vi t, vi q] h (QI fun x h' => x = m_cost h t q ∧ h' = h) := by
  obtain ⟨ht, hq⟩ := hp
  have hb := hq.1
  have hok := m_nop_ok hq
  have hA : 1170 + q.toNat < nH h ∧ kH h (1170 + q.toNat) = (13, 128) := lk_marks hL (by omega)
  have rR : ∀ k, iH h (1170 + q.toNat) k = m_row h q k := fun k => rfl
  refine e_X12_cost hL ⟨by omega, up (P := fun j => wp mX12_cost 4 _ _ _ 13 [some (vr 89), some (vi t), some (vi q), some (vr (1170 + q.toNat)), some (vi (sumN (fun j => m_oc h t q (q_pos (m_row h q) j)) j)), some (vi (q_pos (m_row h q) j)), none, none, none, none] [] h) (m_nop h q) ?_ ?_⟩
  · exact t_X12_cost_13 hL hA ⟨by omega, fun _ => ⟨_, rfl, rfl, rfl⟩, fun c => absurd c (by have := hok.1; omega)⟩
  · intro j hj ih
    obtain ⟨ho, -⟩ := hok.2.2.2 j hj
    have hlt := q_pos_lt (r := m_row h q) hj
    have hle := q_pos_le (r := m_row h q) (show j + 1 ≤ m_nop h q by omega)
    have hn := hok.1
    have hn2 := hok.2.1
    have ep : q_pos (m_row h q) (j + 1) = q_pos (m_row h q) j + q_ol (m_row h q) (q_pos (m_row h q) j) := rfl
    have es : sumN (fun j => m_oc h t q (q_pos (m_row h q) j)) (j + 1) = sumN (fun j => m_oc h t q (q_pos (m_row h q) j)) j + m_oc h t q (q_pos (m_row h q) j) := rfl
    have hbd := m_cost_bd ht hq j (by omega)
    generalize hk : q_pos (m_row h q) j = k at *
    generalize hS : sumN (fun j => m_oc h t q (q_pos (m_row h q) j)) j = S at *
    have hml := q_mn_le ho
    have ek1 : ((k : Int) + 1).toNat = k + 1 := by omega
    have ek2 : ((k : Int) + 2).toNat = k + 2 := by omega
    have inner : wp mX12_cost 4 0 0 (QI fun x h' => x = m_cost h t q ∧ h' = h) 90 [some (vr 89), some (vi t), some (vi q), some (vr (1170 + q.toNat)), some (vi S), some (vi k), some (vi (m_row h q k)), some (vi (q_mn (m_row h q) k : Int)), some (vi (q_fr (m_row h q) k : Int)), some (vi 0)] [] h := by
      have main := up (P := fun i => wp mX12_cost 4 0 0 (QI fun x h' => x = m_cost h t q ∧ h' = h) 90 [some (vr 89), some (vi t), some (vi q), some (vr (1170 + q.toNat)), some (vi (S + sumN (m_ocF h t q k) i)), some (vi k), some (vi (m_row h q k)), some (vi (q_mn (m_row h q) k : Int)), some (vi (q_fr (m_row h q) k : Int)), some (vi i)] [] h) (q_mn (m_row h q) k) ?_ ?_
      · have e0 : S + sumN (m_ocF h t q k) 0 = S := by show S + 0 = S; omega
        rw [e0] at main
        exact main
      · have e1 : S + sumN (m_ocF h t q k) (q_mn (m_row h q) k) = sumN (fun j => m_oc h t q (q_pos (m_row h q) j)) (j + 1) := by rw [es]; rfl
        rw [e1]
        have go : ∀ x : Int, x = ((q_pos (m_row h q) (j + 1) : Nat) : Int) → wp mX12_cost 4 0 0 (QI fun x h' => x = m_cost h t q ∧ h' = h) 13 [some (vr 89), some (vi t), some (vi q), some (vr (1170 + q.toNat)), some (vi (sumN (fun j => m_oc h t q (q_pos (m_row h q) j)) (j + 1))), some (vi x), none, none, none, none] [] h := fun x hx => by rw [hx]; exact ih
        exact t_X12_cost_90 hL hA ⟨fun _ => ⟨fun c3 => ⟨fun c1 => ⟨by omega, go _ (by omega)⟩, fun c1 => ⟨by omega, go _ (by omega)⟩⟩, fun c3 => ⟨by omega, go _ (by omega)⟩⟩, fun c => absurd c (by omega)⟩
      · intro i hi ih2
        have hw := q_word ho hi
        have hob := m_oc_bd' (q := q) ht k i
        have hcb := m_cow_bd (w := m_row h q (q_fr (m_row h q) k + i)) (l := q_lt (m_row h q) k) ht
        have h3 : m_row h q k ≤ 3 := by
          by_cases c : 3 < m_row h q k
          · have : q_mn (m_row h q) k = 0 := if_pos c
            omega
          · omega
        have efi : (((q_fr (m_row h q) k : Nat) : Int) + (i : Int)).toNat = q_fr (m_row h q) k + i := by omega
        have hle2 := hml.2.2.2.2 h3
        have e2 : S + sumN (m_ocF h t q k) i + m_cow h t (m_row h q (q_fr (m_row h q) k + i)) (q_lt (m_row h q) k) = S + sumN (m_ocF h t q k) (i + 1) := by
          rw [show sumN (m_ocF h t q k) (i + 1) = sumN (m_ocF h t q k) i + m_cow h t (m_row h q (q_fr (m_row h q) k + i)) (q_lt (m_row h q) k) from rfl]; omega
        refine t_X12_cost_90 hL hA ?_
        simp only [rR, efi, ek2]
        refine ⟨fun c => absurd c (by omega), fun _ => ⟨by omega, by omega, fun c1 => ?_, fun c1 => ?_⟩⟩
        · have el : q_lt (m_row h q) k = 6 := if_neg c1
          rw [el] at e2 hcb
          rw [e2]
          exact ⟨⟨ht, by unfold m_bl; omega⟩, by omega, by omega, ih2⟩
        · have el : q_lt (m_row h q) k = m_row h q (k + 2) := if_pos c1
          rw [el] at e2 hcb
          have h6 := ho.2.2.1 c1
          rw [e2]
          exact ⟨by omega, by omega, ⟨ht, by unfold m_bl; omega⟩, by omega, by omega, ih2⟩
    have h00 := ho.1
    refine t_X12_cost_13 hL hA ?_
    simp only [rR, Int.toNat_natCast, ek1]
    refine ⟨by omega, fun c => absurd c (by omega), fun _ => ⟨by omega, fun c3 => ⟨fun c33 => ⟨fun c2 => ⟨by omega, ?_⟩, fun c2 => ⟨by omega, ?_⟩⟩, fun c33 => ?_⟩, fun c3 => ⟨fun c33 => ⟨by omega, ?_⟩, fun c33 => by omega⟩⟩⟩
    · have e1 : q_mn (m_row h q) k = 1 := by unfold q_mn; rw [if_neg (by omega), if_neg c33, if_neg c2]
      have e2 : q_fr (m_row h q) k = k + 1 := if_neg c33
      rw [e1, e2] at inner; exact inner
    · have e1 : q_mn (m_row h q) k = 2 := by unfold q_mn; rw [if_neg (by omega), if_neg c33, if_pos c2]
      have e2 : q_fr (m_row h q) k = k + 1 := if_neg c33
      rw [e1, e2] at inner; exact inner
    · have h3 := ho.2.2.2.2 c33
      have e1 : q_mn (m_row h q) k = (m_row h q (k + 1)).toNat := by unfold q_mn; rw [if_neg (by omega), if_pos c33]
      have e2 : q_fr (m_row h q) k = k + 2 := if_pos c33
      rw [e1, e2, show (((m_row h q (k + 1)).toNat : Nat) : Int) = m_row h q (k + 1) by omega] at inner
      have hle3 := hml.2.2.2.2 (by omega)
      exact ⟨by omega, by omega, by omega, inner⟩
    · have e1 : q_mn (m_row h q) k = 0 := if_pos c3
      have e2 : q_fr (m_row h q) k = k + 1 := if_neg c33
      rw [e1, e2] at inner; exact inner
def b_X12_comes_0 : List IE := [(.aload_n 0, 1, 0, 0, 0, 0), (.getfield 367, 3, 0, 12, 42, 0), (.istore_n 3, 1, 0, 0, 3, 0)]
theorem k_X12_comes_0 : ckB mX12_comes 12 0 b_X12_comes_0 5 = true := by decide +kernel
def b_X12_comes_5 : List IE := [(.iload_n 3, 1, 0, 0, 3, 0)]
theorem k_X12_comes_5 : ckIf mX12_comes 12 5 b_X12_comes_5 6 5 49 55 9 = true := by decide +kernel
def b_X12_comes_9 : List IE := [(.aload_n 0, 1, 0, 0, 0, 0), (.getfield 85, 3, 0, 12, 45, 1), (.iload_n 3, 1, 0, 0, 3, 0), (.iconst 1, 1, 1, 0, 0, 0), (.isub, 1, 0, 0, 0, 0), (.iaload, 1, 0, 0, 0, 0), (.iload_n 2, 1, 0, 0, 2, 0)]
theorem k_X12_comes_9 : ckIc mX12_comes 12 9 b_X12_comes_9 18 3 37 55 21 = true := by decide +kernel
def b_X12_comes_21 : List IE := [(.aload_n 0, 1, 0, 0, 0, 0), (.getfield 82, 3, 0, 12, 44, 1), (.iload_n 3, 1, 0, 0, 3, 0), (.aload_n 0, 1, 0, 0, 0, 0), (.getfield 82, 3, 0, 12, 44, 1), (.iload_n 3, 1, 0, 0, 3, 0), (.iconst 1, 1, 1, 0, 0, 0), (.isub, 1, 0, 0, 0, 0), (.iaload, 1, 0, 0, 0, 0), (.iastore, 1, 0, 0, 0, 0), (.aload_n 0, 1, 0, 0, 0, 0), (.getfield 85, 3, 0, 12, 45, 1), (.iload_n 3, 1, 0, 0, 3, 0), (.aload_n 0, 1, 0, 0, 0, 0), (.getfield 85, 3, 0, 12, 45, 1), (.iload_n 3, 1, 0, 0, 3, 0), (.iconst 1, 1, 1, 0, 0, 0), (.isub, 1, 0, 0, 0, 0), (.iaload, 1, 0, 0, 0, 0), (.iastore, 1, 0, 0, 0, 0), (.iinc 3 (-1), 3, (-1), 0, 3, 0)]
theorem k_X12_comes_21 : ckGo mX12_comes 12 21 b_X12_comes_21 52 (-47) 5 = true := by decide +kernel
def b_X12_comes_55 : List IE := [(.aload_n 0, 1, 0, 0, 0, 0), (.getfield 82, 3, 0, 12, 44, 1), (.iload_n 3, 1, 0, 0, 3, 0), (.iload_n 1, 1, 0, 0, 1, 0), (.iastore, 1, 0, 0, 0, 0), (.aload_n 0, 1, 0, 0, 0, 0), (.getfield 85, 3, 0, 12, 45, 1), (.iload_n 3, 1, 0, 0, 3, 0), (.iload_n 2, 1, 0, 0, 2, 0), (.iastore, 1, 0, 0, 0, 0), (.aload_n 0, 1, 0, 0, 0, 0), (.dup, 1, 0, 0, 0, 0), (.getfield 367, 3, 0, 12, 42, 0), (.iconst 1, 1, 1, 0, 0, 0), (.iadd, 1, 0, 0, 0, 0), (.putfield 367, 3, 0, 12, 42, 0), (.aload_n 0, 1, 0, 0, 0, 0), (.dup, 1, 0, 0, 0, 0), (.getfield 370, 3, 0, 12, 43, 0), (.iload_n 2, 1, 0, 0, 2, 0), (.iadd, 1, 0, 0, 0, 0), (.putfield 370, 3, 0, 12, 43, 0)]
theorem k_X12_comes_55 : ckV mX12_comes 12 55 b_X12_comes_55 89 = true := by decide +kernel
theorem t_X12_comes_0 {rc rs : Nat} {Q : Option AV → AH → Prop} {h : AH} {x1 x2 : Int} (hL : LayM h) (hv : wp mX12_comes 0 rc rs Q 5 [some (vr 89), some (vi x1), some (vi x2), some (vi (iH h 89 42))] [] h) : wp mX12_comes 0 rc rs Q 0 [some (vr 89), some (vi x1), some (vi x2), none] [] h :=
  (show wp mX12_comes 0 rc rs Q 0 [some (vr 89), some (vi x1), some (vi x2), none] [] h from xB k_X12_comes_0 (And.intro (lm_89 hL) (And.intro rfl hv)))
theorem e_X12_comes {mc ms : Nat} {Q : Option AV → AH → Prop} {h : AH} {x1 x2 : Int} (hL : LayM h) (hv : wp mX12_comes 0 mc ms Q 5 [some (vr 89), some (vi x1), some (vi x2), some (vi (iH h 89 42))] [] h) : Ct 0 mc ms mX12_comes [vr 89, vi x1, vi x2] h Q := Ct.of (by decide +kernel) (Nat.le_of_ble_eq_true rfl) (t_X12_comes_0 hL hv)
theorem t_X12_comes_5 {rc rs : Nat} {Q : Option AV → AH → Prop} {h : AH} {x1 x2 x3 : Int} (hL : LayM h) (hv : ((x3 ≤ 0 → (0 ≤ x3 ∧ x3 < 64) ∧ (-2147483648 ≤ (iH h 89 42 + 1) ∧ (iH h 89 42 + 1) < 2147483648) ∧ (-2147483648 ≤ (iH h 89 43 + x2) ∧ (iH h 89 43 + x2) < 2147483648) ∧ Q none (sI (sI (sI (sI h 1179 x3.toNat x1) 1180 x3.toNat x2) 89 42 (iH h 89 42 + 1)) 89 43 (iH h 89 43 + x2))) ∧ (0 < x3 → (-2147483648 ≤ (x3 - 1) ∧ (x3 - 1) < 2147483648) ∧ (0 ≤ (x3 - 1) ∧ (x3 - 1) < 64) ∧ ((x2 ≤ (iH h 1180 ((x3 - 1).toNat)) → (0 ≤ x3 ∧ x3 < 64) ∧ (-2147483648 ≤ (iH h 89 42 + 1) ∧ (iH h 89 42 + 1) < 2147483648) ∧ (-2147483648 ≤ (iH h 89 43 + x2) ∧ (iH h 89 43 + x2) < 2147483648) ∧ Q none (sI (sI (sI (sI h 1179 x3.toNat x1) 1180 x3.toNat x2) 89 42 (iH h 89 42 + 1)) 89 43 (iH h 89 43 + x2))) ∧ ((iH h 1180 ((x3 - 1).toNat)) < x2 → (0 ≤ x3 ∧ x3 < 64) ∧ (-2147483648 ≤ (x3 + (-1)) ∧ (x3 + (-1)) < 2147483648) ∧ wp mX12_comes 0 rc rs Q 5 [some (vr 89), some (vi x1), some (vi x2), some (vi (x3 + (-1)))] [] (sI (sI h 1179 x3.toNat (iH h 1179 ((x3 - 1).toNat))) 1180 x3.toNat (iH h 1180 ((x3 - 1).toNat)))))))) : wp mX12_comes 0 rc rs Q 5 [some (vr 89), some (vi x1), some (vi x2), some (vi x3)] [] h :=
  (show wp mX12_comes 0 rc rs Q 5 [some (vr 89), some (vi x1), some (vi x2), some (vi x3)] [] h from xIf k_X12_comes_5 (And.intro (fun c1 => have v3 := hv.1 c1; (show wp mX12_comes 0 rc rs Q 55 [some (vr 89), some (vi x1), some (vi x2), some (vi x3)] [] h from xV k_X12_comes_55 (And.intro (lm_89 hL) (Exists.intro 1179 (And.intro (lf_89_44 hL) (have c5 := v3.1; have v11 := v3.2; (And.intro (sdI (lm_1179 hL) c5) (And.intro (lm_89 hL) (Exists.intro 1180 (And.intro (lf_89_45 hL) (And.intro (sdI (lm_1180 hL) c5) (And.intro rfl (And.intro (lm_89 hL) (have c7 := v11.1; have v10 := v11.2; (And.intro c7 (And.intro (lm_89 hL) (And.intro rfl (And.intro (lm_89 hL) (have c8 := v10.1; have v9 := v10.2; (And.intro c8 (And.intro (lm_89 hL) (And.intro rfl v9)))))))))))))))))))))) (fun c2 => have v4 := hv.2 (Int.not_le.mp c2); (show wp mX12_comes 0 rc rs Q 9 [some (vr 89), some (vi x1), some (vi x2), some (vi x3)] [] h from xIc k_X12_comes_9 (And.intro (lm_89 hL) (Exists.intro 1180 (And.intro (lf_89_45 hL) (have c12 := v4.1; have v35 := v4.2; (And.intro c12 (have c13 := v35.1; have v34 := v35.2; (And.intro (sdI (lm_1180 hL) c13) (And.intro (fun c14 => have v16 := v34.1 c14; (show wp mX12_comes 0 rc rs Q 55 [some (vr 89), some (vi x1), some (vi x2), some (vi x3)] [] h from xV k_X12_comes_55 (And.intro (lm_89 hL) (Exists.intro 1179 (And.intro (lf_89_44 hL) (have c18 := v16.1; have v24 := v16.2; (And.intro (sdI (lm_1179 hL) c18) (And.intro (lm_89 hL) (Exists.intro 1180 (And.intro (lf_89_45 hL) (And.intro (sdI (lm_1180 hL) c18) (And.intro rfl (And.intro (lm_89 hL) (have c20 := v24.1; have v23 := v24.2; (And.intro c20 (And.intro (lm_89 hL) (And.intro rfl (And.intro (lm_89 hL) (have c21 := v23.1; have v22 := v23.2; (And.intro c21 (And.intro (lm_89 hL) (And.intro rfl v22)))))))))))))))))))))) (fun c15 => have v17 := v34.2 (Int.not_le.mp c15); (show wp mX12_comes 0 rc rs Q 21 [some (vr 89), some (vi x1), some (vi x2), some (vi x3)] [] h from xGo k_X12_comes_21 (And.intro (lm_89 hL) (Exists.intro 1179 (And.intro (lf_89_44 hL) (And.intro (lm_89 hL) (Exists.intro 1179 (And.intro (lf_89_44 hL) (And.intro c12 (And.intro (sdI (lm_1179 hL) c13) (have c27 := v17.1; have v33 := v17.2; (And.intro (sdI (lm_1179 hL) c27) (And.intro (lm_89 hL) (Exists.intro 1180 (And.intro (lf_89_45 hL) (And.intro (lm_89 hL) (Exists.intro 1180 (And.intro (lf_89_45 hL) (And.intro c12 (And.intro (sdI (lm_1180 hL) c13) (And.intro (sdI (lm_1180 hL) c27) (have c31 := v33.1; have v32 := v33.2; (And.intro c31 (And.intro rfl v32))))))))))))))))))))))))))))))))))))
/-- the place behind all that are v or more, counted from the end -/
def f_ip (w : Nat → Int) (v : Int) : Nat → Nat
  | 0 => 0
  | n + 1 => if w n < v then f_ip w v n else n + 1
theorem f_ip_le (w : Nat → Int) (v : Int) : ∀ n, f_ip w v n ≤ n
  | 0 => Nat.le_refl 0
  | n + 1 => by
    have := f_ip_le w v n
    unfold f_ip
    split <;> omega
theorem f_ip_cg {w w' : Nat → Int} {v : Int} : ∀ {n : Nat}, (∀ i, i < n → w i = w' i) → f_ip w v n = f_ip w' v n
  | 0, _ => rfl
  | n + 1, h => by
    unfold f_ip
    rw [h n (by omega), f_ip_cg (fun i hi => h i (by omega))]
/-- x stands at place p now, what stood there and behind, up to n, one further -/
def f_sh (f : Nat → Int) (p n i : Nat) : Int := if p < i ∧ i ≤ n then f (i - 1) else f i
def f_in (f : Nat → Int) (p n : Nat) (x : Int) (i : Nat) : Int := if i = p then x else f_sh f p n i
def m_comes (h : AH) (d v : Int) : AH := sI (sI (sW (sW h 1179 (f_in (iH h 1179) (f_ip (iH h 1180) v (iH h 89 42).toNat) (iH h 89 42).toNat d)) 1180 (f_in (iH h 1180) (f_ip (iH h 1180) v (iH h 89 42).toNat) (iH h 89 42).toNat v)) 89 42 (iH h 89 42 + 1)) 89 43 (iH h 89 43 + v)
theorem c_comes {h : AH} (hL : LayM h) {d v : Int} (hp : (0 ≤ iH h 89 42 ∧ iH h 89 42 < 64) ∧ (0 ≤ iH h 89 43 ∧ iH h 89 43 ≤ 1000000) ∧ (0 ≤ v ∧ v ≤ 1000)) : Ct 0 0 0 mX12_comes [vr 89, vi d, vi v] h (QV fun h' => h' = m_comes h d v) := by
  have h1 := hp.1
  refine e_X12_comes hL ?_
  have st : ∀ p : Nat, sW (sW h 1179 (f_sh (iH h 1179) p (iH h 89 42).toNat)) 1180 (f_sh (iH h 1180) p (iH h 89 42).toNat) = sW (sW h 1179 (f_sh (iH h 1179) p (iH h 89 42).toNat)) 1180 (f_sh (iH h 1180) p (iH h 89 42).toNat) := fun _ => rfl
  have main : ∀ p : Nat, p ≤ (iH h 89 42).toNat → f_ip (iH h 1180) v p = f_ip (iH h 1180) v (iH h 89 42).toNat → wp mX12_comes 0 0 0 (QV fun h' => h' = m_comes h d v) 5 [some (vr 89), some (vi d), some (vi v), some (vi p)] [] (sW (sW h 1179 (f_sh (iH h 1179) p (iH h 89 42).toNat)) 1180 (f_sh (iH h 1180) p (iH h 89 42).toNat)) := by
    intro p
    have fin : ∀ p : Nat, p = f_ip (iH h 1180) v (iH h 89 42).toNat → sI (sI (sI (sI (sW (sW h 1179 (f_sh (iH h 1179) p (iH h 89 42).toNat)) 1180 (f_sh (iH h 1180) p (iH h 89 42).toNat)) 1179 p d) 1180 p v) 89 42 (iH h 89 42 + 1)) 89 43 (iH h 89 43 + v) = m_comes h d v := by
      intro p hp
      rw [sI_sW_ne (by decide), sI_sW (g' := f_in (iH h 1179) p (iH h 89 42).toNat d) (fun i => rfl), sI_sW (g' := f_in (iH h 1180) p (iH h 89 42).toNat v) (fun i => rfl)]
      unfold m_comes
      rw [hp]
    induction p with
    | zero =>
      intro _ he
      refine t_X12_comes_5 (by exact hL) ?_
      simp (disch := decide) only [rW_ne]
      exact ⟨fun _ => ⟨by omega, by omega, by omega, rfl, fin 0 he⟩, fun c => absurd c (by omega)⟩
    | succ p ih =>
      intro hpn he
      have e1 : (((p + 1 : Nat) : Int) - 1).toNat = p := by omega
      have e2 : (((p + 1 : Nat) : Int)).toNat = p + 1 := rfl
      have r1 : f_sh (iH h 1180) (p + 1) (iH h 89 42).toNat p = iH h 1180 p := if_neg (by omega)
      have r2 : f_sh (iH h 1179) (p + 1) (iH h 89 42).toNat p = iH h 1179 p := if_neg (by omega)
      refine t_X12_comes_5 (by exact hL) ?_
      rw [e1, e2]
      simp (disch := decide) only [rW_ne, rW_same, r1, r2]
      refine ⟨fun c => absurd c (by omega), fun _ => ⟨by omega, by omega, fun c => ⟨by omega, by omega, by omega, rfl, fin (p + 1) ?_⟩, fun c => ⟨by omega, by omega, ?_⟩⟩⟩
      · rw [← he]; unfold f_ip; rw [if_neg (by omega)]
      · have sh : ∀ (f : Nat → Int) (i : Nat), f_sh f p (iH h 89 42).toNat i = if i = p + 1 then f p else f_sh f (p + 1) (iH h 89 42).toNat i := fun f i => by
          unfold f_sh
          by_cases q : i = p + 1
          · subst q; rw [if_pos (by omega), if_pos rfl]; rfl
          · rw [if_neg q]
            by_cases q2 : p + 1 < i ∧ i ≤ (iH h 89 42).toNat
            · rw [if_pos q2, if_pos (by omega)]
            · rw [if_neg q2, if_neg (by omega)]
        rw [sI_sW_ne (by decide), sI_sW (g' := f_sh (iH h 1179) p (iH h 89 42).toNat) (fun i => sh _ i), sI_sW (g' := f_sh (iH h 1180) p (iH h 89 42).toNat) (fun i => sh _ i), show ((p + 1 : Nat) : Int) + -1 = (p : Int) by omega]
        refine ih (by omega) ?_
        rw [← he]
        show _ = if iH h 1180 p < v then f_ip (iH h 1180) v p else p + 1
        rw [if_pos c]
  have := main (iH h 89 42).toNat (Nat.le_refl _) rfl
  rw [sW_id (h := h) (a := 1179) (g := f_sh (iH h 1179) (iH h 89 42).toNat (iH h 89 42).toNat) (fun k => if_neg (by omega)), sW_id (h := h) (a := 1180) (g := f_sh (iH h 1180) (iH h 89 42).toNat (iH h 89 42).toNat) (fun k => if_neg (by omega)), show (((iH h 89 42).toNat : Nat) : Int) = iH h 89 42 by omega] at this
  exact this
