/-! THE INDEX: WHO IS HELD, COUNTS -/
def b_X11_told_0 : List IE := [(.aload_n 0, 1, 0, 0, 0, 0), (.iload_n 1, 1, 0, 0, 1, 0)]
theorem k_X11_told_0 : ckB mX11_told 11 0 b_X11_told_0 2 = true := by decide +kernel
def b_X11_told_5 : List IE := []
theorem k_X11_told_5 : ckIf mX11_told 11 5 b_X11_told_5 5 1 6 11 8 = true := by decide +kernel
def b_X11_told_8 : List IE := [(.bipush (-2), 2, (-2), 0, 0, 0)]
theorem k_X11_told_8 : ckI mX11_told 11 8 b_X11_told_8 10 = true := by decide +kernel
def b_X11_told_11 : List IE := [(.aload_n 0, 1, 0, 0, 0, 0), (.getfield 25, 3, 0, 11, 3, 1), (.getfield 182, 3, 0, 9, 0, 1), (.iload_n 1, 1, 0, 0, 1, 0), (.aaload, 1, 0, 0, 0, 0), (.astore_n 3, 1, 0, 0, 3, 0), (.iload_n 2, 1, 0, 0, 2, 0)]
theorem k_X11_told_11 : ckTs mX11_told 11 11 b_X11_told_11 22 135 0 8 #[50, 56, 65, 70, 75, 88, 101, 106, 115] 50 157 [(0, 72), (1, 78), (2, 87), (3, 92), (4, 97), (5, 110), (6, 123), (7, 128), (8, 137)] = true := by decide +kernel
def b_X11_told_72 : List IE := [(.aload_n 3, 1, 0, 0, 3, 0), (.getfield 186, 3, 0, 7, 1, 1), (.arraylength, 1, 0, 0, 0, 0)]
theorem k_X11_told_72 : ckI mX11_told 11 72 b_X11_told_72 77 = true := by decide +kernel
def b_X11_told_78 : List IE := [(.aload_n 0, 1, 0, 0, 0, 0), (.getfield 25, 3, 0, 11, 3, 1), (.iload_n 1, 1, 0, 0, 1, 0)]
theorem k_X11_told_78 : ckB mX11_told 11 78 b_X11_told_78 83 = true := by decide +kernel
def b_X11_told_86 : List IE := []
theorem k_X11_told_86 : ckI mX11_told 11 86 b_X11_told_86 86 = true := by decide +kernel
def b_X11_told_87 : List IE := [(.aload_n 3, 1, 0, 0, 3, 0), (.getfield 199, 3, 0, 7, 5, 0)]
theorem k_X11_told_87 : ckI mX11_told 11 87 b_X11_told_87 91 = true := by decide +kernel
def b_X11_told_92 : List IE := [(.aload_n 3, 1, 0, 0, 3, 0), (.getfield 202, 3, 0, 7, 6, 0)]
theorem k_X11_told_92 : ckI mX11_told 11 92 b_X11_told_92 96 = true := by decide +kernel
def b_X11_told_97 : List IE := [(.aload_n 0, 1, 0, 0, 0, 0), (.getfield 45, 3, 0, 11, 9, 1), (.aload_n 0, 1, 0, 0, 0, 0), (.getfield 25, 3, 0, 11, 3, 1), (.iload_n 1, 1, 0, 0, 1, 0)]
theorem k_X11_told_97 : ckB mX11_told 11 97 b_X11_told_97 106 = true := by decide +kernel
def b_X11_told_109 : List IE := []
theorem k_X11_told_109 : ckI mX11_told 11 109 b_X11_told_109 109 = true := by decide +kernel
def b_X11_told_110 : List IE := [(.aload_n 0, 1, 0, 0, 0, 0), (.getfield 45, 3, 0, 11, 9, 1), (.aload_n 0, 1, 0, 0, 0, 0), (.getfield 25, 3, 0, 11, 3, 1), (.iload_n 1, 1, 0, 0, 1, 0)]
theorem k_X11_told_110 : ckB mX11_told 11 110 b_X11_told_110 119 = true := by decide +kernel
def b_X11_told_122 : List IE := []
theorem k_X11_told_122 : ckI mX11_told 11 122 b_X11_told_122 122 = true := by decide +kernel
def b_X11_told_123 : List IE := [(.aload_n 3, 1, 0, 0, 3, 0), (.getfield 212, 3, 0, 7, 0, 0)]
theorem k_X11_told_123 : ckI mX11_told 11 123 b_X11_told_123 127 = true := by decide +kernel
def b_X11_told_128 : List IE := [(.aload_n 0, 1, 0, 0, 0, 0), (.aload_n 3, 1, 0, 0, 3, 0), (.getfield 212, 3, 0, 7, 0, 0)]
theorem k_X11_told_128 : ckB mX11_told 11 128 b_X11_told_128 133 = true := by decide +kernel
def b_X11_told_136 : List IE := []
theorem k_X11_told_136 : ckI mX11_told 11 136 b_X11_told_136 136 = true := by decide +kernel
def b_X11_told_137 : List IE := [(.aload_n 0, 1, 0, 0, 0, 0), (.getfield 32, 3, 0, 11, 5, 1), (.aload_n 3, 1, 0, 0, 3, 0), (.getfield 212, 3, 0, 7, 0, 0)]
theorem k_X11_told_137 : ckB mX11_told 11 137 b_X11_told_137 145 = true := by decide +kernel
def b_X11_told_148 : List IE := []
theorem k_X11_told_148 : ckIf mX11_told 11 148 b_X11_told_148 148 0 7 155 151 = true := by decide +kernel
def b_X11_told_151 : List IE := [(.iconst 1, 1, 1, 0, 0, 0)]
theorem k_X11_told_151 : ckGo mX11_told 11 151 b_X11_told_151 152 4 156 = true := by decide +kernel
def b_X11_told_155 : List IE := [(.iconst 0, 1, 0, 0, 0, 0)]
theorem k_X11_told_155 : ckI mX11_told 11 155 b_X11_told_155 156 = true := by decide +kernel
def b_X11_told_156 : List IE := []
theorem k_X11_told_156 : ckI mX11_told 11 156 b_X11_told_156 156 = true := by decide +kernel
def b_X11_told_157 : List IE := [(.bipush (-2), 2, (-2), 0, 0, 0)]
theorem k_X11_told_157 : ckI mX11_told 11 157 b_X11_told_157 159 = true := by decide +kernel
theorem s_X11_told_2 : cV mX11_told 2 mX11_isSegment 193 1 11 := ⟨by decide +kernel, ⟨ml_X11_isSegment, li_RX11_193, im_X11_isSegment, se_X11_isSegment⟩, ⟨by decide +kernel, by decide +kernel⟩, by decide +kernel⟩
theorem s_X11_told_83 : cV mX11_told 83 mX9_liveIn 196 1 9 := ⟨by decide +kernel, ⟨ml_X9_liveIn, li_RX11_196, im_X9_liveIn, se_X9_liveIn⟩, ⟨by decide +kernel, by decide +kernel⟩, by decide +kernel⟩
theorem s_X11_told_106 : cV mX11_told 106 mX4_sizeOf 205 2 4 := ⟨by decide +kernel, ⟨ml_X4_sizeOf, li_RX11_205, im_X4_sizeOf, se_X4_sizeOf⟩, ⟨by decide +kernel, by decide +kernel⟩, by decide +kernel⟩
theorem s_X11_told_119 : cV mX11_told 119 mX4_tierOf 209 2 4 := ⟨by decide +kernel, ⟨ml_X4_tierOf, li_RX11_209, im_X4_tierOf, se_X4_tierOf⟩, ⟨by decide +kernel, by decide +kernel⟩, by decide +kernel⟩
theorem s_X11_told_133 : cV mX11_told 133 mX11_viewsWith 215 1 11 := ⟨by decide +kernel, ⟨ml_X11_viewsWith, li_RX11_215, im_X11_viewsWith, se_X11_viewsWith⟩, ⟨by decide +kernel, by decide +kernel⟩, by decide +kernel⟩
theorem s_X11_told_145 : cV mX11_told 145 mX9_hasName 218 1 9 := ⟨by decide +kernel, ⟨ml_X9_hasName, li_RX11_218, im_X9_hasName, se_X9_hasName⟩, ⟨by decide +kernel, by decide +kernel⟩, by decide +kernel⟩
theorem t_X11_told_0 {rc rs : Nat} {Q : Option AV → AH → Prop} {h : AH} {sa : Nat → Nat} {da : Nat → Nat} {g : AH} {x1 x2 : Int} (hL : LayL h) (hv : (((0 ≤ x1 ∧ x1 < iH h 5 2) → (0 ≤ x1 ∧ x1 < 8) ∧ (∃ q6 n7 r8 : Nat, (rH h 6 x1.toNat = some q6 ∧ iSg h q6 n7 r8) ∧ ((x2 = 0 → Q (some (vi (n7 : Int))) h) ∧ (x2 ≠ 0 → ((x2 = 1 → (5 = 5 ∧ cRd h g da sa ∧ 0 ≤ x1 ∧ x1 < iH g 89 13) ∧ Q (some (vi (m_live g (iH g 1155 (x1).toNat)))) h) ∧ (x2 ≠ 1 → ((x2 = 2 → Q (some (vi (iH h q6 5))) h) ∧ (x2 ≠ 2 → ((x2 = 3 → Q (some (vi (iH h q6 6))) h) ∧ (x2 ≠ 3 → ((x2 = 4 → (5 = 5 ∧ cPol h g ∧ cRd h g da sa ∧ 0 ≤ x1 ∧ x1 < iH g 89 13) ∧ Q (some (vi (m_size g x1))) h) ∧ (x2 ≠ 4 → ((x2 = 5 → (5 = 5 ∧ cPol h g ∧ cRd h g da sa ∧ 0 ≤ x1 ∧ x1 < iH g 89 13) ∧ Q (some (vi (m_tier g x1))) h) ∧ (x2 ≠ 5 → ((x2 = 6 → Q (some (vi (iH h q6 0))) h) ∧ (x2 ≠ 6 → ((x2 = 7 → (cSegs h g da sa ∧ (∀ t : Nat, t < 6 → kV h g sa t) ∧ kF h g) ∧ Q (some (vi (m_opv g ((iH h q6 0) - 1)))) h) ∧ (x2 ≠ 7 → ((x2 = 8 → (∃ P12 : Int → AH → Prop, Ct 0 0 0 mX9_hasName [vr 11, vi (iH h q6 0)] h (QI P12) ∧ ∀ (r11 : Int) (h10 : AH), (-2147483648 ≤ r11 ∧ r11 < 2147483648) → P12 r11 h10 → LayL h10 ∧ ((r11 = 0 → Q (some (vi 0)) h10) ∧ (r11 ≠ 0 → Q (some (vi 1)) h10)))) ∧ (x2 ≠ 8 → Q (some (vi (-2))) h)))))))))))))))))))) ∧ (¬ (0 ≤ x1 ∧ x1 < iH h 5 2) → Q (some (vi (-2))) h))) : wp mX11_told 4 rc rs Q 0 [some (vr 0), some (vi x1), some (vi x2), none] [] h :=
  (show wp mX11_told 4 rc rs Q 0 [some (vr 0), some (vi x1), some (vi x2), none] [] h from xcV k_X11_told_0 s_X11_told_2 ((Exists.intro [vi x1] (Exists.intro 0 (Exists.intro [] (And.intro (And.intro rfl (And.intro rfl (Nat.le_of_ble_eq_true rfl))) (And.intro (ll_0 hL) (Exists.intro 0 (Exists.intro 0 (Exists.intro 0 (Exists.intro _ (And.intro (l_isSegment (h := h) hL) (And.intro (And.intro (by decide) (And.intro (Nat.zero_le _) (Nat.zero_le _))) (eQP (show wp mX11_told 4 rc rs Q 5 [some (vr 0), some (vi x1), some (vi x2), none] [vi (b01 (0 ≤ x1 ∧ x1 < iH h 5 2))] h from xIf k_X11_told_5 (And.intro (fun c1 => have v3 := hv.1 (b01_p.mp c1); (show wp mX11_told 4 rc rs Q 11 [some (vr 0), some (vi x1), some (vi x2), none] [] h from xTs k_X11_told_11 (And.intro (ll_0 hL) (Exists.intro 5 (And.intro (lg_0_3 hL) (And.intro (ll_5 hL) (Exists.intro 6 (And.intro (lg_5_0 hL) (have c5 := v3.1; have v71 := v3.2; (And.intro (sdQ (ll_6 hL) c5) (Exists.elim v71 (fun q6 v69_0 => (Exists.elim v69_0 (fun n7 v69_1 => (Exists.elim v69_1 (fun r8 v69 => have c9 := v69.1; have v70 := v69.2; (Exists.intro _ (And.intro c9.1 (And.intro rfl (And.intro (fun c65 => have v67 := v70.1 c65; (show wp mX11_told 4 rc rs Q 72 [some (vr 0), some (vi x1), some (vi x2), some (vr q6)] [] h from xI k_X11_told_72 (And.intro (sg_o c9.2) (Exists.intro (q6 - 1) (And.intro (sg_r1 c9.2) (And.intro (sdL (sg_a1 c9.2) (And.intro (by decide) (And.intro (by decide) (sg_n c9.2)))) (len_r (sg_a1 c9.2) (And.intro rfl v67)))))))) (fun c66 => have v68 := v70.2 c66; (And.intro (fun c61 => have v63 := v68.1 c61; (show wp mX11_told 4 rc rs Q 78 [some (vr 0), some (vi x1), some (vi x2), some (vr q6)] [] h from xcV k_X11_told_78 s_X11_told_83 (And.intro (ll_0 hL) (Exists.intro 5 (And.intro (lg_0_3 hL) (have c58 := v63.1; have v59 := v63.2; (Exists.intro [vi x1] (Exists.intro 5 (Exists.intro [] (And.intro (And.intro rfl (And.intro rfl (Nat.le_of_ble_eq_true rfl))) (And.intro (ll_5 hL) (Exists.intro 1 (Exists.intro 0 (Exists.intro 0 (Exists.intro _ (And.intro (l_liveIn (h := h) hL c58) (And.intro (And.intro (by decide) (And.intro (Nat.zero_le _) (Nat.zero_le _))) (eQP (show wp mX11_told 4 rc rs Q 86 [some (vr 0), some (vi x1), some (vi x2), some (vr q6)] [vi (m_live g (iH g 1155 (x1).toNat))] h from xI k_X11_told_86 (And.intro rfl v59)))))))))))))))))))) (fun c62 => have v64 := v68.2 c62; (And.intro (fun c54 => have v56 := v64.1 c54; (show wp mX11_told 4 rc rs Q 87 [some (vr 0), some (vi x1), some (vi x2), some (vr q6)] [] h from xI k_X11_told_87 (And.intro (sg_o c9.2) (And.intro rfl v56)))) (fun c55 => have v57 := v64.2 c55; (And.intro (fun c50 => have v52 := v57.1 c50; (show wp mX11_told 4 rc rs Q 92 [some (vr 0), some (vi x1), some (vi x2), some (vr q6)] [] h from xI k_X11_told_92 (And.intro (sg_o c9.2) (And.intro rfl v52)))) (fun c51 => have v53 := v57.2 c51; (And.intro (fun c46 => have v48 := v53.1 c46; (show wp mX11_told 4 rc rs Q 97 [some (vr 0), some (vi x1), some (vi x2), some (vr q6)] [] h from xcV k_X11_told_97 s_X11_told_106 (And.intro (ll_0 hL) (Exists.intro 16 (And.intro (lg_0_9 hL) (And.intro (ll_0 hL) (Exists.intro 5 (And.intro (lg_0_3 hL) (have c43 := v48.1; have v44 := v48.2; (Exists.intro [vr 5, vi x1] (Exists.intro 16 (Exists.intro [] (And.intro (And.intro rfl (And.intro rfl (Nat.le_of_ble_eq_true rfl))) (And.intro (ll_16 hL) (Exists.intro 2 (Exists.intro 0 (Exists.intro 0 (Exists.intro _ (And.intro (l_sizeOf (h := h) hL c43) (And.intro (And.intro (by decide) (And.intro (Nat.zero_le _) (Nat.zero_le _))) (eQP (show wp mX11_told 4 rc rs Q 109 [some (vr 0), some (vi x1), some (vi x2), some (vr q6)] [vi (m_size g x1)] h from xI k_X11_told_109 (And.intro rfl v44))))))))))))))))))))))) (fun c47 => have v49 := v53.2 c47; (And.intro (fun c39 => have v41 := v49.1 c39; (show wp mX11_told 4 rc rs Q 110 [some (vr 0), some (vi x1), some (vi x2), some (vr q6)] [] h from xcV k_X11_told_110 s_X11_told_119 (And.intro (ll_0 hL) (Exists.intro 16 (And.intro (lg_0_9 hL) (And.intro (ll_0 hL) (Exists.intro 5 (And.intro (lg_0_3 hL) (have c36 := v41.1; have v37 := v41.2; (Exists.intro [vr 5, vi x1] (Exists.intro 16 (Exists.intro [] (And.intro (And.intro rfl (And.intro rfl (Nat.le_of_ble_eq_true rfl))) (And.intro (ll_16 hL) (Exists.intro 3 (Exists.intro 0 (Exists.intro 0 (Exists.intro _ (And.intro (l_tierOf (h := h) hL c36) (And.intro (And.intro (by decide) (And.intro (Nat.zero_le _) (Nat.zero_le _))) (eQP (show wp mX11_told 4 rc rs Q 122 [some (vr 0), some (vi x1), some (vi x2), some (vr q6)] [vi (m_tier g x1)] h from xI k_X11_told_122 (And.intro rfl v37))))))))))))))))))))))) (fun c40 => have v42 := v49.2 c40; (And.intro (fun c32 => have v34 := v42.1 c32; (show wp mX11_told 4 rc rs Q 123 [some (vr 0), some (vi x1), some (vi x2), some (vr q6)] [] h from xI k_X11_told_123 (And.intro (sg_o c9.2) (And.intro rfl v34)))) (fun c33 => have v35 := v42.2 c33; (And.intro (fun c28 => have v30 := v35.1 c28; (show wp mX11_told 4 rc rs Q 128 [some (vr 0), some (vi x1), some (vi x2), some (vr q6)] [] h from xcV k_X11_told_128 s_X11_told_133 (And.intro (sg_o c9.2) (have c25 := v30.1; have v26 := v30.2; (Exists.intro [vi (iH h q6 0)] (Exists.intro 0 (Exists.intro [] (And.intro (And.intro rfl (And.intro rfl (Nat.le_of_ble_eq_true rfl))) (And.intro (ll_0 hL) (Exists.intro 1 (Exists.intro 0 (Exists.intro 0 (Exists.intro _ (And.intro (l_viewsWith (h := h) hL c25) (And.intro (And.intro (by decide) (And.intro (Nat.zero_le _) (Nat.zero_le _))) (eQP (show wp mX11_told 4 rc rs Q 136 [some (vr 0), some (vi x1), some (vi x2), some (vr q6)] [vi (m_opv g ((iH h q6 0) - 1))] h from xI k_X11_told_136 (And.intro rfl v26)))))))))))))))))) (fun c29 => have v31 := v35.2 c29; (And.intro (fun c21 => have v23 := v31.1 c21; (show wp mX11_told 4 rc rs Q 137 [some (vr 0), some (vi x1), some (vi x2), some (vr q6)] [] h from xcV k_X11_told_137 s_X11_told_145 (And.intro (ll_0 hL) (Exists.intro 11 (And.intro (lg_0_5 hL) (And.intro (sg_o c9.2) (Exists.elim v23 (fun P12 v17 => (Exists.intro [vi (iH h q6 0)] (Exists.intro 11 (Exists.intro [] (And.intro (And.intro rfl (And.intro rfl (Nat.le_of_ble_eq_true rfl))) (And.intro (ll_11 hL) (Exists.intro 0 (Exists.intro 0 (Exists.intro 0 (Exists.intro (QI P12) (And.intro v17.1 (And.intro (And.intro (by decide) (And.intro (Nat.zero_le _) (Nat.zero_le _))) (eQI (fun r11 h10 q20 e19 => have v18 := v17.2 r11 h10 q20 e19; have hL := v18.1; have v18 := v18.2; (show wp mX11_told 4 rc rs Q 148 [some (vr 0), some (vi x1), some (vi x2), some (vr q6)] [vi r11] h10 from xIf k_X11_told_148 (And.intro (fun c13 => have v15 := v18.1 c13; (show wp mX11_told 4 rc rs Q 155 [some (vr 0), some (vi x1), some (vi x2), some (vr q6)] [] h10 from xI k_X11_told_155 (And.intro rfl v15))) (fun c14 => have v16 := v18.2 c14; (show wp mX11_told 4 rc rs Q 151 [some (vr 0), some (vi x1), some (vi x2), some (vr q6)] [] h10 from xGo k_X11_told_151 (show wp mX11_told 4 rc rs Q 156 [some (vr 0), some (vi x1), some (vi x2), some (vr q6)] [vi 1] h10 from xI k_X11_told_156 (And.intro rfl v16))))))))))))))))))))))))))) (fun c22 => have v24 := v31.2 c22; (show wp mX11_told 4 rc rs Q 157 [some (vr 0), some (vi x1), some (vi x2), some (vr q6)] [] h from xI k_X11_told_157 (And.intro rfl v24))))))))))))))))))))))))))))))))))))))) (fun c2 => have v4 := hv.2 (b01_nn.mp c2); (show wp mX11_told 4 rc rs Q 8 [some (vr 0), some (vi x1), some (vi x2), none] [] h from xI k_X11_told_8 (And.intro rfl v4)))))))))))))))))))
theorem e_X11_told {mc ms : Nat} {Q : Option AV → AH → Prop} {h : AH} {sa : Nat → Nat} {da : Nat → Nat} {g : AH} {x1 x2 : Int} (hL : LayL h) (hv : (((0 ≤ x1 ∧ x1 < iH h 5 2) → (0 ≤ x1 ∧ x1 < 8) ∧ (∃ q6 n7 r8 : Nat, (rH h 6 x1.toNat = some q6 ∧ iSg h q6 n7 r8) ∧ ((x2 = 0 → Q (some (vi (n7 : Int))) h) ∧ (x2 ≠ 0 → ((x2 = 1 → (5 = 5 ∧ cRd h g da sa ∧ 0 ≤ x1 ∧ x1 < iH g 89 13) ∧ Q (some (vi (m_live g (iH g 1155 (x1).toNat)))) h) ∧ (x2 ≠ 1 → ((x2 = 2 → Q (some (vi (iH h q6 5))) h) ∧ (x2 ≠ 2 → ((x2 = 3 → Q (some (vi (iH h q6 6))) h) ∧ (x2 ≠ 3 → ((x2 = 4 → (5 = 5 ∧ cPol h g ∧ cRd h g da sa ∧ 0 ≤ x1 ∧ x1 < iH g 89 13) ∧ Q (some (vi (m_size g x1))) h) ∧ (x2 ≠ 4 → ((x2 = 5 → (5 = 5 ∧ cPol h g ∧ cRd h g da sa ∧ 0 ≤ x1 ∧ x1 < iH g 89 13) ∧ Q (some (vi (m_tier g x1))) h) ∧ (x2 ≠ 5 → ((x2 = 6 → Q (some (vi (iH h q6 0))) h) ∧ (x2 ≠ 6 → ((x2 = 7 → (cSegs h g da sa ∧ (∀ t : Nat, t < 6 → kV h g sa t) ∧ kF h g) ∧ Q (some (vi (m_opv g ((iH h q6 0) - 1)))) h) ∧ (x2 ≠ 7 → ((x2 = 8 → (∃ P12 : Int → AH → Prop, Ct 0 0 0 mX9_hasName [vr 11, vi (iH h q6 0)] h (QI P12) ∧ ∀ (r11 : Int) (h10 : AH), (-2147483648 ≤ r11 ∧ r11 < 2147483648) → P12 r11 h10 → LayL h10 ∧ ((r11 = 0 → Q (some (vi 0)) h10) ∧ (r11 ≠ 0 → Q (some (vi 1)) h10)))) ∧ (x2 ≠ 8 → Q (some (vi (-2))) h)))))))))))))))))))) ∧ (¬ (0 ≤ x1 ∧ x1 < iH h 5 2) → Q (some (vi (-2))) h))) : Ct 4 mc ms mX11_told [vr 0, vi x1, vi x2] h Q := Ct.of (by decide +kernel) (Nat.le_of_ble_eq_true rfl) (t_X11_told_0 hL hv)
def b_X11_openViews_0 : List IE := [(.iconst 0, 1, 0, 0, 0, 0), (.istore_n 1, 1, 0, 0, 1, 0), (.iconst 0, 1, 0, 0, 0, 0), (.istore_n 2, 1, 0, 0, 2, 0)]
theorem k_X11_openViews_0 : ckB mX11_openViews 11 0 b_X11_openViews_0 4 = true := by decide +kernel
def b_X11_openViews_4 : List IE := [(.iload_n 2, 1, 0, 0, 2, 0), (.iconst 4, 1, 4, 0, 0, 0)]
theorem k_X11_openViews_4 : ckIc mX11_openViews 11 4 b_X11_openViews_4 6 3 24 30 9 = true := by decide +kernel
def b_X11_openViews_9 : List IE := [(.aload_n 0, 1, 0, 0, 0, 0), (.getfield 35, 3, 0, 11, 6, 1), (.iload_n 2, 1, 0, 0, 2, 0), (.aaload, 1, 0, 0, 0, 0), (.getfield 102, 3, 0, 9, 3, 0)]
theorem k_X11_openViews_9 : ckIf mX11_openViews 11 9 b_X11_openViews_9 18 0 6 24 21 = true := by decide +kernel
def b_X11_openViews_21 : List IE := [(.iinc 1 1, 3, 1, 0, 1, 0), (.iinc 2 1, 3, 1, 0, 2, 0)]
theorem k_X11_openViews_21 : ckGo mX11_openViews 11 21 b_X11_openViews_21 27 (-23) 4 = true := by decide +kernel
def b_X11_openViews_24 : List IE := [(.iinc 2 1, 3, 1, 0, 2, 0)]
theorem k_X11_openViews_24 : ckGo mX11_openViews 11 24 b_X11_openViews_24 27 (-23) 4 = true := by decide +kernel
def b_X11_openViews_30 : List IE := [(.iload_n 1, 1, 0, 0, 1, 0)]
theorem k_X11_openViews_30 : ckI mX11_openViews 11 30 b_X11_openViews_30 31 = true := by decide +kernel
theorem t_X11_openViews_0 {rc rs : Nat} {Q : Option AV → AH → Prop} {h : AH}  (hL : LayL h) (hv : wp mX11_openViews 0 rc rs Q 4 [some (vr 0), some (vi 0), some (vi 0)] [] h) : wp mX11_openViews 0 rc rs Q 0 [some (vr 0), none, none] [] h :=
  (show wp mX11_openViews 0 rc rs Q 0 [some (vr 0), none, none] [] h from xB k_X11_openViews_0 (And.intro rfl (And.intro rfl hv)))
theorem e_X11_openViews {mc ms : Nat} {Q : Option AV → AH → Prop} {h : AH}  (hL : LayL h) (hv : wp mX11_openViews 0 mc ms Q 4 [some (vr 0), some (vi 0), some (vi 0)] [] h) : Ct 0 mc ms mX11_openViews [vr 0] h Q := Ct.of (by decide +kernel) (Nat.le_of_ble_eq_true rfl) (t_X11_openViews_0 hL hv)
theorem t_X11_openViews_4 {rc rs : Nat} {Q : Option AV → AH → Prop} {h : AH} {x1 x2 : Int} (hL : LayL h) (hv : ((4 ≤ x2 → Q (some (vi x1)) h) ∧ (x2 < 4 → (0 ≤ x2 ∧ x2 < 4) ∧ (((iH h (33 + 3 * x2.toNat) 3) = 0 → (-2147483648 ≤ (x2 + 1) ∧ (x2 + 1) < 2147483648) ∧ wp mX11_openViews 0 rc rs Q 4 [some (vr 0), some (vi x1), some (vi (x2 + 1))] [] h) ∧ ((iH h (33 + 3 * x2.toNat) 3) ≠ 0 → (-2147483648 ≤ (x1 + 1) ∧ (x1 + 1) < 2147483648) ∧ (-2147483648 ≤ (x2 + 1) ∧ (x2 + 1) < 2147483648) ∧ wp mX11_openViews 0 rc rs Q 4 [some (vr 0), some (vi (x1 + 1)), some (vi (x2 + 1))] [] h))))) : wp mX11_openViews 0 rc rs Q 4 [some (vr 0), some (vi x1), some (vi x2)] [] h :=
  (show wp mX11_openViews 0 rc rs Q 4 [some (vr 0), some (vi x1), some (vi x2)] [] h from xIc k_X11_openViews_4 (And.intro (fun c1 => have v3 := hv.1 c1; (show wp mX11_openViews 0 rc rs Q 30 [some (vr 0), some (vi x1), some (vi x2)] [] h from xI k_X11_openViews_30 (And.intro rfl v3))) (fun c2 => have v4 := hv.2 (Int.not_le.mp c2); (show wp mX11_openViews 0 rc rs Q 9 [some (vr 0), some (vi x1), some (vi x2)] [] h from xIf k_X11_openViews_9 (And.intro (ll_0 hL) (Exists.intro 14 (And.intro (lg_0_6 hL) (have c5 := v4.1; have v16 := v4.2; (And.intro (sdQ (ll_14 hL) c5) (Exists.intro (33 + 3 * x2.toNat) (And.intro (tb_vw hL (tnl c5)) (And.intro (st_o hL (ti_vw (tnl c5))) (And.intro (fun c6 => have v8 := v16.1 c6; (show wp mX11_openViews 0 rc rs Q 24 [some (vr 0), some (vi x1), some (vi x2)] [] h from xGo k_X11_openViews_24 (have c10 := v8.1; have v11 := v8.2; (And.intro c10 (And.intro rfl v11))))) (fun c7 => have v9 := v16.2 c7; (show wp mX11_openViews 0 rc rs Q 21 [some (vr 0), some (vi x1), some (vi x2)] [] h from xGo k_X11_openViews_21 (have c12 := v9.1; have v15 := v9.2; (And.intro c12 (And.intro rfl (have c13 := v15.1; have v14 := v15.2; (And.intro c13 (And.intro rfl v14)))))))))))))))))))))
def b_X11_isHeldBefore_0 : List IE := [(.iconst 0, 1, 0, 0, 0, 0), (.istore_n 3, 1, 0, 0, 3, 0)]
theorem k_X11_isHeldBefore_0 : ckB mX11_isHeldBefore 11 0 b_X11_isHeldBefore_0 2 = true := by decide +kernel
def b_X11_isHeldBefore_2 : List IE := [(.iload_n 3, 1, 0, 0, 3, 0), (.iload_n 1, 1, 0, 0, 1, 0)]
theorem k_X11_isHeldBefore_2 : ckIc mX11_isHeldBefore 11 2 b_X11_isHeldBefore_2 4 3 36 40 7 = true := by decide +kernel
def b_X11_isHeldBefore_7 : List IE := [(.aload_n 0, 1, 0, 0, 0, 0), (.getfield 39, 3, 0, 11, 7, 1), (.iload_n 3, 1, 0, 0, 3, 0), (.aaload, 1, 0, 0, 0, 0), (.getfield 102, 3, 0, 9, 3, 0)]
theorem k_X11_isHeldBefore_7 : ckIf mX11_isHeldBefore 11 7 b_X11_isHeldBefore_7 16 0 18 34 19 = true := by decide +kernel
def b_X11_isHeldBefore_19 : List IE := [(.aload_n 0, 1, 0, 0, 0, 0), (.getfield 39, 3, 0, 11, 7, 1), (.iload_n 3, 1, 0, 0, 3, 0), (.aaload, 1, 0, 0, 0, 0), (.iload_n 2, 1, 0, 0, 2, 0)]
theorem k_X11_isHeldBefore_19 : ckB mX11_isHeldBefore 11 19 b_X11_isHeldBefore_19 26 = true := by decide +kernel
def b_X11_isHeldBefore_29 : List IE := []
theorem k_X11_isHeldBefore_29 : ckIf mX11_isHeldBefore 11 29 b_X11_isHeldBefore_29 29 0 5 34 32 = true := by decide +kernel
def b_X11_isHeldBefore_32 : List IE := [(.iconst 1, 1, 1, 0, 0, 0)]
theorem k_X11_isHeldBefore_32 : ckZ mX11_isHeldBefore 11 32 b_X11_isHeldBefore_32 33 = true := by decide +kernel
def b_X11_isHeldBefore_34 : List IE := [(.iinc 3 1, 3, 1, 0, 3, 0)]
theorem k_X11_isHeldBefore_34 : ckGo mX11_isHeldBefore 11 34 b_X11_isHeldBefore_34 37 (-35) 2 = true := by decide +kernel
def b_X11_isHeldBefore_40 : List IE := [(.iconst 0, 1, 0, 0, 0, 0)]
theorem k_X11_isHeldBefore_40 : ckZ mX11_isHeldBefore 11 40 b_X11_isHeldBefore_40 41 = true := by decide +kernel
theorem s_X11_isHeldBefore_26 : cV mX11_isHeldBefore 26 mX9_hasName 218 1 9 := ⟨by decide +kernel, ⟨ml_X9_hasName, li_RX11_218, im_X9_hasName, se_X9_hasName⟩, ⟨by decide +kernel, by decide +kernel⟩, by decide +kernel⟩
theorem t_X11_isHeldBefore_0 {rc rs : Nat} {Q : Option AV → AH → Prop} {h : AH} {x1 x2 : Int} (hL : LayL h) (hv : wp mX11_isHeldBefore 1 rc rs Q 2 [some (vr 0), some (vi x1), some (vi x2), some (vi 0)] [] h) : wp mX11_isHeldBefore 1 rc rs Q 0 [some (vr 0), some (vi x1), some (vi x2), none] [] h :=
  (show wp mX11_isHeldBefore 1 rc rs Q 0 [some (vr 0), some (vi x1), some (vi x2), none] [] h from xB k_X11_isHeldBefore_0 (And.intro rfl hv))
theorem e_X11_isHeldBefore {mc ms : Nat} {Q : Option AV → AH → Prop} {h : AH} {x1 x2 : Int} (hL : LayL h) (hv : wp mX11_isHeldBefore 1 mc ms Q 2 [some (vr 0), some (vi x1), some (vi x2), some (vi 0)] [] h) : Ct 1 mc ms mX11_isHeldBefore [vr 0, vi x1, vi x2] h Q := Ct.of (by decide +kernel) (Nat.le_of_ble_eq_true rfl) (t_X11_isHeldBefore_0 hL hv)
theorem t_X11_isHeldBefore_2 {rc rs : Nat} {Q : Option AV → AH → Prop} {h : AH} {x1 x2 x3 : Int} (hL : LayL h) (hv : ((x1 ≤ x3 → Q (some (vi 0)) h) ∧ (x3 < x1 → (0 ≤ x3 ∧ x3 < 7) ∧ (((iH h (hld x3.toNat) 3) = 0 → (-2147483648 ≤ (x3 + 1) ∧ (x3 + 1) < 2147483648) ∧ wp mX11_isHeldBefore 1 rc rs Q 2 [some (vr 0), some (vi x1), some (vi x2), some (vi (x3 + 1))] [] h) ∧ ((iH h (hld x3.toNat) 3) ≠ 0 → (∃ P15 : Int → AH → Prop, Ct 0 0 0 mX9_hasName [vr (hld x3.toNat), vi x2] h (QI P15) ∧ ∀ (r14 : Int) (h13 : AH), (-2147483648 ≤ r14 ∧ r14 < 2147483648) → P15 r14 h13 → LayL h13 ∧ ((r14 = 0 → (-2147483648 ≤ (x3 + 1) ∧ (x3 + 1) < 2147483648) ∧ wp mX11_isHeldBefore 1 rc rs Q 2 [some (vr 0), some (vi x1), some (vi x2), some (vi (x3 + 1))] [] h13) ∧ (r14 ≠ 0 → Q (some (vi 1)) h13)))))))) : wp mX11_isHeldBefore 1 rc rs Q 2 [some (vr 0), some (vi x1), some (vi x2), some (vi x3)] [] h :=
  (show wp mX11_isHeldBefore 1 rc rs Q 2 [some (vr 0), some (vi x1), some (vi x2), some (vi x3)] [] h from xIc k_X11_isHeldBefore_2 (And.intro (fun c1 => have v3 := hv.1 c1; (show wp mX11_isHeldBefore 1 rc rs Q 40 [some (vr 0), some (vi x1), some (vi x2), some (vi x3)] [] h from xZ k_X11_isHeldBefore_40 (And.intro rfl (And.intro (Or.inl rfl) v3)))) (fun c2 => have v4 := hv.2 (Int.not_le.mp c2); (show wp mX11_isHeldBefore 1 rc rs Q 7 [some (vr 0), some (vi x1), some (vi x2), some (vi x3)] [] h from xIf k_X11_isHeldBefore_7 (And.intro (ll_0 hL) (Exists.intro 15 (And.intro (lg_0_7 hL) (have c5 := v4.1; have v26 := v4.2; (And.intro (sdQ (ll_15 hL) c5) (Exists.intro (hld x3.toNat) (And.intro (tb_hd hL (tnl c5)) (And.intro (st_o hL (ti_hd (tnl c5))) (And.intro (fun c6 => have v8 := v26.1 c6; (show wp mX11_isHeldBefore 1 rc rs Q 34 [some (vr 0), some (vi x1), some (vi x2), some (vi x3)] [] h from xGo k_X11_isHeldBefore_34 (have c10 := v8.1; have v11 := v8.2; (And.intro c10 (And.intro rfl v11))))) (fun c7 => have v9 := v26.2 c7; (show wp mX11_isHeldBefore 1 rc rs Q 19 [some (vr 0), some (vi x1), some (vi x2), some (vi x3)] [] h from xcV k_X11_isHeldBefore_19 s_X11_isHeldBefore_26 (And.intro (ll_0 hL) (Exists.intro 15 (And.intro (lg_0_7 hL) (And.intro (sdQ (ll_15 hL) c5) (Exists.intro (hld x3.toNat) (And.intro (tb_hd hL (tnl c5)) (Exists.elim v9 (fun P15 v22 => (Exists.intro [vi x2] (Exists.intro (hld x3.toNat) (Exists.intro [] (And.intro (And.intro rfl (And.intro rfl (Nat.le_of_ble_eq_true rfl))) (And.intro (st_o hL (ti_hd (tnl c5))) (Exists.intro 0 (Exists.intro 0 (Exists.intro 0 (Exists.intro (QI P15) (And.intro v22.1 (And.intro (And.intro (by decide) (And.intro (Nat.zero_le _) (Nat.zero_le _))) (eQI (fun r14 h13 q25 e24 => have v23 := v22.2 r14 h13 q25 e24; have hL := v23.1; have v23 := v23.2; (show wp mX11_isHeldBefore 1 rc rs Q 29 [some (vr 0), some (vi x1), some (vi x2), some (vi x3)] [vi r14] h13 from xIf k_X11_isHeldBefore_29 (And.intro (fun c16 => have v18 := v23.1 c16; (show wp mX11_isHeldBefore 1 rc rs Q 34 [some (vr 0), some (vi x1), some (vi x2), some (vi x3)] [] h13 from xGo k_X11_isHeldBefore_34 (have c20 := v18.1; have v21 := v18.2; (And.intro c20 (And.intro rfl v21))))) (fun c17 => have v19 := v23.2 c17; (show wp mX11_isHeldBefore 1 rc rs Q 32 [some (vr 0), some (vi x1), some (vi x2), some (vi x3)] [] h13 from xZ k_X11_isHeldBefore_32 (And.intro rfl (And.intro (Or.inr rfl) v19))))))))))))))))))))))))))))))))))))))))))
theorem l_told {h g : AH} {da sa : Nat → Nat} (hL : LayL h) {s w : Int} (hp : cRd h g da sa ∧ cPol h g ∧ (∀ t : Nat, t < 6 → kV h g sa t) ∧ kF h g) : Ct 4 0 0 mX11_told [vr 0, vi s, vi w] h (QI fun x h' => x = a_told g s w ∧ h' = h) := by
  obtain ⟨hc, hp, hv, hf⟩ := hp
  have hn : iH h 5 2 = iH g 89 13 := hc.2.2.1
  have h8 := hc.2.2.2.1
  refine e_X11_told (mc := 0) (ms := 0) (Q := QI fun x h' => x = a_told g s w ∧ h' = h) (h := h) (x1 := s) (x2 := w) (g := g) (da := da) (sa := sa) hL ?_
  rw [hn]
  refine ⟨fun c => ?_, fun c => ⟨_, rfl, (if_pos (Or.inl (by omega))).symm, rfl⟩⟩
  obtain ⟨x, e1, e2, e3, ⟨m1, m2, m3, ⟨r, m4, n1, n2, n3, n4⟩, m6⟩, e5⟩ := now_seg hc c
  have hl := m1.1.1.2.1
  rw [Int.toNat_natCast] at hl
  have e0 : ¬ w < 0 → ¬ 8 < w → a_told g s w = (if w = 0 then iH g 615 x else if w = 1 then m_live g x else if w = 2 then m_dic g x 0 else if w = 3 then m_dic g x 1 else if w = 4 then m_size g s else if w = 5 then m_tier g s else if w = 6 then iH g 614 x else if w = 7 then m_opv g x else b01 (m_stands g 5 x)) := fun q1 q2 => by
    unfold a_told
    rw [if_neg (by omega), e1, Int.toNat_natCast]
  refine ⟨by omega, sa x, _, r, ⟨e3, m4⟩, fun d0 => ⟨_, rfl, ?_, rfl⟩, fun d0 => ⟨fun d1 => ⟨⟨rfl, hc, c⟩, _, rfl, ?_, rfl⟩, fun d1 => ⟨fun d2 => ⟨_, rfl, ?_, rfl⟩, fun d2 => ⟨fun d3 => ⟨_, rfl, ?_, rfl⟩, fun d3 => ⟨fun d4 => ⟨⟨rfl, hp, hc, c⟩, _, rfl, ?_, rfl⟩, fun d4 => ⟨fun d5 => ⟨⟨rfl, hp, hc, c⟩, _, rfl, ?_, rfl⟩, fun d5 => ⟨fun d6 => ⟨_, rfl, ?_, rfl⟩, fun d6 => ⟨fun d7 => ⟨⟨hc.2.1, hv, hf⟩, _, rfl, ?_, rfl⟩, fun d7 => ⟨fun d8 => ?_, fun d8 => ⟨_, rfl, (if_pos (Or.inr (by omega))).symm, rfl⟩⟩⟩⟩⟩⟩⟩⟩⟩⟩
  · rw [e0 (by omega) (by omega), if_pos d0]; omega
  · rw [e0 (by omega) (by omega), if_neg d0, if_pos d1, e1]
  · rw [e0 (by omega) (by omega), if_neg d0, if_neg d1, if_pos d2, n1]; rfl
  · rw [e0 (by omega) (by omega), if_neg d0, if_neg d1, if_neg d2, if_pos d3, n3]
  · rw [e0 (by omega) (by omega), if_neg d0, if_neg d1, if_neg d2, if_neg d3, if_pos d4]
  · rw [e0 (by omega) (by omega), if_neg d0, if_neg d1, if_neg d2, if_neg d3, if_neg d4, if_pos d5]
  · rw [e0 (by omega) (by omega), if_neg d0, if_neg d1, if_neg d2, if_neg d3, if_neg d4, if_neg d5, if_pos d6, m2, m3]
  · rw [e0 (by omega) (by omega), if_neg d0, if_neg d1, if_neg d2, if_neg d3, if_neg d4, if_neg d5, if_neg d6, if_pos d7, m3, show (x : Int) + 1 - 1 = (x : Int) by omega]
  · refine ⟨_, l_hasName hL (da := da) ⟨iSt_av (t := 5) (by omega), hc.2.1, hv 5 (by omega)⟩, fun v h1 _ hv1 => ?_⟩
    obtain ⟨rfl, rfl⟩ := hv1
    have e : m_stands g 5 x ↔ ∃ s : Nat, (s : Int) < iH g 1138 5 ∧ tRow g 5 s = iH h1 (sa x) 0 - 1 := by
      unfold m_stands
      rw [m3, show (x : Int) + 1 - 1 = (x : Int) by omega]
      refine ⟨fun q => q.2, fun q => ⟨fun u => ?_, q⟩⟩
      obtain ⟨s, q1, -⟩ := q
      have := hf.2.2.2 u
      omega
    have e9 : a_told g s w = b01 (m_stands g 5 x) := by rw [e0 (by omega) (by omega), if_neg d0, if_neg d1, if_neg d2, if_neg d3, if_neg d4, if_neg d5, if_neg d6, if_neg d7]
    refine ⟨hL, fun c2 => ⟨_, rfl, ?_, rfl⟩, fun c2 => ⟨_, rfl, ?_, rfl⟩⟩
    · rw [e9, propext e]; exact c2.symm
    · rw [e9, propext e]; exact (b01_t (b01_p.mp c2)).symm
theorem l_openViews {h g : AH} (hL : LayL h) (hf : kF h g) : Ct 0 0 0 mX11_openViews [vr 0] h (QI fun x h' => x = m_views g ∧ h' = h) := by
  refine e_X11_openViews hL (up (P := fun k => wp mX11_openViews 0 _ _ _ 4 [some (vr 0), some (vi (cnt (fun v => ¬ iH g 1137 v = 0) k)), some (vi k)] [] h) 4 ?_ ?_)
  · exact t_X11_openViews_4 hL ⟨fun _ => ⟨_, rfl, rfl, rfl⟩, fun c => absurd c (by omega)⟩
  · intro k hk ih
    have hb := cnt_bd (fun v => ¬ iH g 1137 v = 0) k
    have hfk := (hf.1 k (by omega)).1
    rw [avT_v hk] at hfk
    refine t_X11_openViews_4 hL ⟨fun c => absurd c (by omega), fun _ => ⟨by omega, ?_⟩⟩
    rw [Int.toNat_natCast, hfk, show (k : Int) + 1 = ((k + 1 : Nat) : Int) by omega]
    refine ⟨fun c => ⟨by omega, ?_⟩, fun c => ⟨by omega, by omega, ?_⟩⟩
    · rw [← cnt_n (p := fun v => ¬ iH g 1137 v = 0) (n := k) (fun q => q c)]; exact ih
    · rw [← cnt_s (p := fun v => ¬ iH g 1137 v = 0) (n := k) c]; exact ih
def tH (j : Nat) : Nat := if j = 0 then 6 else if j = 1 then 5 else if j = 2 then 4 else j - 3
def cntH (g : AH) (j : Nat) : Int := if j = 0 then iH g 89 13 else iH g 1138 (tH j)
def rowH (g : AH) (j s : Nat) : Int := if j = 0 then nRow g s else tRow g (tH j) s
def drH (g : AH) (j s k : Nat) : Prop := if j = 0 then nDr g s k else tDr g (tH j) s k
def thereH (g : AH) (j : Nat) : Prop := j ≤ 1 ∨ iH g 1137 (tH j) ≠ 0
/-- no segment stands twice in one stand -/
def kI (g : AH) : Prop := ∀ j : Nat, j < 7 → ∀ s s' : Nat, s < s' → (s' : Int) < cntH g j → rowH g j s ≠ rowH g j s'
theorem hld_av {j : Nat} (h0 : j ≠ 0) (h7 : j < 7) : hld j = avT (tH j) ∧ tH j < 6 := by
  unfold hld avT tH
  (repeat' split) <;> omega
theorem hold_of {h g : AH} {da sa : Nat → Nat} (hc : cRd h g da sa) (hv : ∀ t : Nat, t < 6 → kV h g sa t) (hf : kF h g) {j : Nat} (hj : j < 7) : cStd h g sa (hld j) (cntH g j) (rowH g j) (drH g j) ∧ (iH h (hld j) 3 = 0 ↔ ¬ thereH g j) := by
  by_cases e : j = 0
  · subst e
    exact ⟨hc.2.2, ⟨fun q => absurd q (by rw [show hld 0 = 5 from rfl, hf.2.1]; omega), fun q => absurd (Or.inl (by omega)) q⟩⟩
  · obtain ⟨e1, e2⟩ := hld_av e hj
    have r1 : cntH g j = iH g 1138 (tH j) := if_neg e
    have r2 : rowH g j = tRow g (tH j) := by funext s; exact if_neg e
    have r3 : drH g j = tDr g (tH j) := by funext s k; exact if_neg e
    rw [r1, r2, r3, e1]
    refine ⟨hv _ e2, ?_⟩
    unfold thereH
    by_cases e5 : tH j = 5
    · have : j = 1 := by unfold tH at e5; (repeat' split at e5) <;> omega
      rw [e5, show avT 5 = 11 from rfl, hf.2.2.1]
      exact ⟨fun q => absurd q (by omega), fun q => absurd (Or.inl (by omega)) q⟩
    · have : ¬ j ≤ 1 := by unfold tH at e5; (repeat' split at e5) <;> omega
      rw [(hf.1 _ (by omega)).1]
      exact ⟨fun q u => u.elim this fun u => u q, fun q => Classical.byContradiction fun u => q (Or.inr u)⟩
/-- holder j holds segment x; one before j does -/
def hdS (g : AH) (j : Nat) (x : Int) : Prop := thereH g j ∧ ∃ s : Nat, (s : Int) < cntH g j ∧ rowH g j s = x
def hdB (g : AH) (j : Nat) (x : Int) : Prop := ∃ i : Nat, i < j ∧ hdS g i x
theorem hdB_s {g : AH} {j : Nat} {x : Int} : hdB g (j + 1) x ↔ hdB g j x ∨ hdS g j x := by
  constructor
  · rintro ⟨i, h, q⟩
    by_cases e : i = j
    · subst e; exact Or.inr q
    · exact Or.inl ⟨i, by omega, q⟩
  · rintro (⟨i, h, q⟩ | q)
    · exact ⟨i, by omega, q⟩
    · exact ⟨j, by omega, q⟩
def kHd (h g : AH) (da sa : Nat → Nat) : Prop := cRd h g da sa ∧ (∀ t : Nat, t < 6 → kV h g sa t) ∧ kF h g
theorem iSt_hld {j : Nat} (hj : j < 7) : iSt (hld j) := ti_hd hj
theorem l_isHeldBefore {h g : AH} {da sa : Nat → Nat} (hL : LayL h) {j w : Int} (hp : kHd h g da sa ∧ 0 ≤ j ∧ j ≤ 7) : Ct 1 0 0 mX11_isHeldBefore [vr 0, vi j, vi w] h (QI fun x h' => x = b01 (hdB g j.toNat (w - 1)) ∧ h' = h) := by
  obtain ⟨⟨hc, hv, hf⟩, h0, h7⟩ := hp
  obtain ⟨n, rfl⟩ := Int.eq_ofNat_of_zero_le h0
  simp only [Int.toNat_natCast]
  have main : ∀ i : Nat, ¬ hdB g i (w - 1) → i ≤ n → wp mX11_isHeldBefore 1 0 0 (QI fun x h' => x = b01 (hdB g n (w - 1)) ∧ h' = h) 2 [some (vr 0), some (vi (n : Int)), some (vi w), some (vi i)] [] h := by
    refine dn n (fun i hi q1 q2 => ?_) (fun i hi ih q1 q2 => ?_)
    · obtain rfl : i = n := by omega
      exact t_X11_isHeldBefore_2 hL ⟨fun _ => ⟨_, rfl, (b01_f q1).symm, rfl⟩, fun c => absurd c (by omega)⟩
    · obtain ⟨hh, hfl⟩ := hold_of hc hv hf (j := i) (by omega)
      have next : ¬ hdS g i (w - 1) → wp mX11_isHeldBefore 1 0 0 (QI fun x h' => x = b01 (hdB g n (w - 1)) ∧ h' = h) 2 [some (vr 0), some (vi (n : Int)), some (vi w), some (vi ((i : Int) + 1))] [] h := fun u => by
        rw [show (i : Int) + 1 = ((i + 1 : Nat) : Int) by omega]
        exact ih (fun q => (hdB_s.mp q).elim q1 u) (by omega)
      refine t_X11_isHeldBefore_2 hL ⟨fun c => absurd c (by omega), fun _ => ⟨by omega, ?_⟩⟩
      rw [Int.toNat_natCast]
      refine ⟨fun c => ⟨by omega, next fun u => hfl.mp c u.1⟩, fun c => ⟨_, l_hasName hL (da := da) ⟨iSt_hld (by omega), hc.2.1, hh⟩, fun v h1 _ hv1 => ?_⟩⟩
      obtain ⟨rfl, rfl⟩ := hv1
      have th : thereH g i := Classical.byContradiction fun u => c (hfl.mpr u)
      exact ⟨hL, fun c2 => ⟨by omega, next fun u => b01_n.mp c2 u.2⟩, fun c2 => ⟨_, rfl, (b01_t ⟨i, hi, th, b01_p.mp c2⟩).symm, rfl⟩⟩
  exact e_X11_isHeldBefore hL (main 0 (fun ⟨i, q, _⟩ => by omega) (by omega))
def b_X11_heldSegments_0 : List IE := [(.iconst 0, 1, 0, 0, 0, 0), (.istore_n 1, 1, 0, 0, 1, 0), (.iconst 0, 1, 0, 0, 0, 0), (.istore_n 2, 1, 0, 0, 2, 0)]
theorem k_X11_heldSegments_0 : ckB mX11_heldSegments 11 0 b_X11_heldSegments_0 4 = true := by decide +kernel
def b_X11_heldSegments_4 : List IE := [(.iload_n 2, 1, 0, 0, 2, 0), (.aload_n 0, 1, 0, 0, 0, 0), (.getfield 39, 3, 0, 11, 7, 1), (.arraylength, 1, 0, 0, 0, 0)]
theorem k_X11_heldSegments_4 : ckIc mX11_heldSegments 11 4 b_X11_heldSegments_4 10 3 62 72 13 = true := by decide +kernel
def b_X11_heldSegments_13 : List IE := [(.aload_n 0, 1, 0, 0, 0, 0), (.getfield 39, 3, 0, 11, 7, 1), (.iload_n 2, 1, 0, 0, 2, 0), (.aaload, 1, 0, 0, 0, 0), (.astore_n 3, 1, 0, 0, 3, 0), (.iconst 0, 1, 0, 0, 0, 0), (.istore 4, 2, 0, 0, 4, 0)]
theorem k_X11_heldSegments_13 : ckB mX11_heldSegments 11 13 b_X11_heldSegments_13 23 = true := by decide +kernel
def b_X11_heldSegments_23 : List IE := [(.aload_n 3, 1, 0, 0, 3, 0), (.getfield 102, 3, 0, 9, 3, 0)]
theorem k_X11_heldSegments_23 : ckIf mX11_heldSegments 11 23 b_X11_heldSegments_23 27 0 39 66 30 = true := by decide +kernel
def b_X11_heldSegments_30 : List IE := [(.iload 4, 2, 0, 0, 4, 0), (.aload_n 3, 1, 0, 0, 3, 0), (.getfield 153, 3, 0, 9, 2, 0)]
theorem k_X11_heldSegments_30 : ckIc mX11_heldSegments 11 30 b_X11_heldSegments_30 36 3 30 66 39 = true := by decide +kernel
def b_X11_heldSegments_39 : List IE := [(.aload_n 0, 1, 0, 0, 0, 0), (.iload_n 2, 1, 0, 0, 2, 0), (.aload_n 3, 1, 0, 0, 3, 0), (.getfield 182, 3, 0, 9, 0, 1), (.iload 4, 2, 0, 0, 4, 0), (.aaload, 1, 0, 0, 0, 0), (.getfield 212, 3, 0, 7, 0, 0)]
theorem k_X11_heldSegments_39 : ckB mX11_heldSegments 11 39 b_X11_heldSegments_39 51 = true := by decide +kernel
def b_X11_heldSegments_54 : List IE := []
theorem k_X11_heldSegments_54 : ckIf mX11_heldSegments 11 54 b_X11_heldSegments_54 54 1 6 60 57 = true := by decide +kernel
def b_X11_heldSegments_57 : List IE := [(.iinc 1 1, 3, 1, 0, 1, 0), (.iinc 4 1, 3, 1, 0, 4, 0)]
theorem k_X11_heldSegments_57 : ckGo mX11_heldSegments 11 57 b_X11_heldSegments_57 63 (-40) 23 = true := by decide +kernel
def b_X11_heldSegments_60 : List IE := [(.iinc 4 1, 3, 1, 0, 4, 0)]
theorem k_X11_heldSegments_60 : ckGo mX11_heldSegments 11 60 b_X11_heldSegments_60 63 (-40) 23 = true := by decide +kernel
def b_X11_heldSegments_66 : List IE := [(.iinc 2 1, 3, 1, 0, 2, 0)]
theorem k_X11_heldSegments_66 : ckGo mX11_heldSegments 11 66 b_X11_heldSegments_66 69 (-65) 4 = true := by decide +kernel
def b_X11_heldSegments_72 : List IE := [(.iload_n 1, 1, 0, 0, 1, 0)]
theorem k_X11_heldSegments_72 : ckI mX11_heldSegments 11 72 b_X11_heldSegments_72 73 = true := by decide +kernel
theorem s_X11_heldSegments_51 : cV mX11_heldSegments 51 mX11_isHeldBefore 372 2 11 := ⟨by decide +kernel, ⟨ml_X11_isHeldBefore, li_RX11_372, im_X11_isHeldBefore, se_X11_isHeldBefore⟩, ⟨by decide +kernel, by decide +kernel⟩, by decide +kernel⟩
theorem t_X11_heldSegments_0 {rc rs : Nat} {Q : Option AV → AH → Prop} {h : AH}  (hL : LayL h) (hv : wp mX11_heldSegments 2 rc rs Q 4 [some (vr 0), some (vi 0), some (vi 0), none, none] [] h) : wp mX11_heldSegments 2 rc rs Q 0 [some (vr 0), none, none, none, none] [] h :=
  (show wp mX11_heldSegments 2 rc rs Q 0 [some (vr 0), none, none, none, none] [] h from xB k_X11_heldSegments_0 (And.intro rfl (And.intro rfl hv)))
theorem e_X11_heldSegments {mc ms : Nat} {Q : Option AV → AH → Prop} {h : AH}  (hL : LayL h) (hv : wp mX11_heldSegments 2 mc ms Q 4 [some (vr 0), some (vi 0), some (vi 0), none, none] [] h) : Ct 2 mc ms mX11_heldSegments [vr 0] h Q := Ct.of (by decide +kernel) (Nat.le_of_ble_eq_true rfl) (t_X11_heldSegments_0 hL hv)
theorem t_X11_heldSegments_4 {rc rs : Nat} {Q : Option AV → AH → Prop} {h : AH} {x1 x2 : Int} (hL : LayL h) (hv : ((7 ≤ x2 → Q (some (vi x1)) h) ∧ (x2 < 7 → (0 ≤ x2 ∧ x2 < 7) ∧ wp mX11_heldSegments 2 rc rs Q 23 [some (vr 0), some (vi x1), some (vi x2), some (vr (hld x2.toNat)), some (vi 0)] [] h))) : wp mX11_heldSegments 2 rc rs Q 4 [some (vr 0), some (vi x1), some (vi x2), none, none] [] h :=
  (show wp mX11_heldSegments 2 rc rs Q 4 [some (vr 0), some (vi x1), some (vi x2), none, none] [] h from xIc k_X11_heldSegments_4 (And.intro (ll_0 hL) (Exists.intro 15 (And.intro (lg_0_7 hL) (And.intro (sdL (ll_15 hL) (by decide)) (len_r (ll_15 hL) (And.intro (fun c1 => have v3 := hv.1 c1; (show wp mX11_heldSegments 2 rc rs Q 72 [some (vr 0), some (vi x1), some (vi x2), none, none] [] h from xI k_X11_heldSegments_72 (And.intro rfl v3))) (fun c2 => have v4 := hv.2 (Int.not_le.mp c2); (show wp mX11_heldSegments 2 rc rs Q 13 [some (vr 0), some (vi x1), some (vi x2), none, none] [] h from xB k_X11_heldSegments_13 (And.intro (ll_0 hL) (Exists.intro 15 (And.intro (lg_0_7 hL) (have c5 := v4.1; have v6 := v4.2; (And.intro (sdQ (ll_15 hL) c5) (Exists.intro (hld x2.toNat) (And.intro (tb_hd hL (tnl c5)) (And.intro rfl (And.intro rfl v6))))))))))))))))))
theorem t_X11_heldSegments_23 {rc rs : Nat} {Q : Option AV → AH → Prop} {h : AH} {sa : Nat → Nat} {da : Nat → Nat} {g : AH} {x1 x2 x4 : Int} {a3 : Nat} (hL : LayL h) (hA3 : iSt a3) (hv : (((iH h a3 3) = 0 → (-2147483648 ≤ (x2 + 1) ∧ (x2 + 1) < 2147483648) ∧ wp mX11_heldSegments 2 rc rs Q 4 [some (vr 0), some (vi x1), some (vi (x2 + 1)), none, none] [] h) ∧ ((iH h a3 3) ≠ 0 → (((iH h a3 2) ≤ x4 → (-2147483648 ≤ (x2 + 1) ∧ (x2 + 1) < 2147483648) ∧ wp mX11_heldSegments 2 rc rs Q 4 [some (vr 0), some (vi x1), some (vi (x2 + 1)), none, none] [] h) ∧ (x4 < (iH h a3 2) → (0 ≤ x4 ∧ x4 < 8) ∧ (∃ q14 n15 r16 : Nat, (rH h (a3 + 1) x4.toNat = some q14 ∧ iSg h q14 n15 r16) ∧ (kHd h g da sa ∧ 0 ≤ x2 ∧ x2 ≤ 7) ∧ (((hdB g (x2).toNat ((iH h q14 0) - 1)) → (-2147483648 ≤ (x4 + 1) ∧ (x4 + 1) < 2147483648) ∧ wp mX11_heldSegments 2 rc rs Q 23 [some (vr 0), some (vi x1), some (vi x2), some (vr a3), some (vi (x4 + 1))] [] h) ∧ (¬ (hdB g (x2).toNat ((iH h q14 0) - 1)) → (-2147483648 ≤ (x1 + 1) ∧ (x1 + 1) < 2147483648) ∧ (-2147483648 ≤ (x4 + 1) ∧ (x4 + 1) < 2147483648) ∧ wp mX11_heldSegments 2 rc rs Q 23 [some (vr 0), some (vi (x1 + 1)), some (vi x2), some (vr a3), some (vi (x4 + 1))] [] h)))))))) : wp mX11_heldSegments 2 rc rs Q 23 [some (vr 0), some (vi x1), some (vi x2), some (vr a3), some (vi x4)] [] h :=
  (show wp mX11_heldSegments 2 rc rs Q 23 [some (vr 0), some (vi x1), some (vi x2), some (vr a3), some (vi x4)] [] h from xIf k_X11_heldSegments_23 (And.intro (st_o hL hA3) (And.intro (fun c1 => have v3 := hv.1 c1; (show wp mX11_heldSegments 2 rc rs Q 66 [some (vr 0), some (vi x1), some (vi x2), some (vr a3), some (vi x4)] [] h from xGo k_X11_heldSegments_66 (have c5 := v3.1; have v6 := v3.2; (And.intro c5 (And.intro rfl (w_fg [true, true, true, false, false] v6)))))) (fun c2 => have v4 := hv.2 c2; (show wp mX11_heldSegments 2 rc rs Q 30 [some (vr 0), some (vi x1), some (vi x2), some (vr a3), some (vi x4)] [] h from xIc k_X11_heldSegments_30 (And.intro (st_o hL hA3) (And.intro (fun c7 => have v9 := v4.1 c7; (show wp mX11_heldSegments 2 rc rs Q 66 [some (vr 0), some (vi x1), some (vi x2), some (vr a3), some (vi x4)] [] h from xGo k_X11_heldSegments_66 (have c11 := v9.1; have v12 := v9.2; (And.intro c11 (And.intro rfl (w_fg [true, true, true, false, false] v12)))))) (fun c8 => have v10 := v4.2 (Int.not_le.mp c8); (show wp mX11_heldSegments 2 rc rs Q 39 [some (vr 0), some (vi x1), some (vi x2), some (vr a3), some (vi x4)] [] h from xcV k_X11_heldSegments_39 s_X11_heldSegments_51 (And.intro (st_o hL hA3) (Exists.intro (a3 + 1) (And.intro (st_r0 hL hA3) (have c13 := v10.1; have v33 := v10.2; (And.intro (sdQ (st_a0 hL hA3) c13) (Exists.elim v33 (fun q14 v31_0 => (Exists.elim v31_0 (fun n15 v31_1 => (Exists.elim v31_1 (fun r16 v31 => have c17 := v31.1; have v32 := v31.2; (Exists.intro _ (And.intro c17.1 (And.intro (sg_o c17.2) (have c28 := v32.1; have v29 := v32.2; (Exists.intro [vi x2, vi (iH h q14 0)] (Exists.intro 0 (Exists.intro [] (And.intro (And.intro rfl (And.intro rfl (Nat.le_of_ble_eq_true rfl))) (And.intro (ll_0 hL) (Exists.intro 1 (Exists.intro 0 (Exists.intro 0 (Exists.intro _ (And.intro (l_isHeldBefore (h := h) hL c28) (And.intro (And.intro (by decide) (And.intro (Nat.zero_le _) (Nat.zero_le _))) (eQP (show wp mX11_heldSegments 2 rc rs Q 54 [some (vr 0), some (vi x1), some (vi x2), some (vr a3), some (vi x4)] [vi (b01 (hdB g (x2).toNat ((iH h q14 0) - 1)))] h from xIf k_X11_heldSegments_54 (And.intro (fun c18 => have v20 := v29.1 (b01_p.mp c18); (show wp mX11_heldSegments 2 rc rs Q 60 [some (vr 0), some (vi x1), some (vi x2), some (vr a3), some (vi x4)] [] h from xGo k_X11_heldSegments_60 (have c22 := v20.1; have v23 := v20.2; (And.intro c22 (And.intro rfl v23))))) (fun c19 => have v21 := v29.2 (b01_nn.mp c19); (show wp mX11_heldSegments 2 rc rs Q 57 [some (vr 0), some (vi x1), some (vi x2), some (vr a3), some (vi x4)] [] h from xGo k_X11_heldSegments_57 (have c24 := v21.1; have v27 := v21.2; (And.intro c24 (And.intro rfl (have c25 := v27.1; have v26 := v27.2; (And.intro c25 (And.intro rfl v26))))))))))))))))))))))))))))))))))))))))))))))
theorem cnt_one {p q : Nat → Prop} {x N : Nat} (hx : x < N) (hp : ¬ p x) (hq : ∀ y, q y ↔ p y ∨ y = x) : cnt q N = cnt p N + 1 := by
  have low : ∀ n, n ≤ x → cnt q n = cnt p n := fun n hn => cnt_cg fun k hk => by rw [hq]; exact ⟨fun u => u.elim id fun e => by omega, Or.inl⟩
  have hi : ∀ n, x < n → cnt q n = cnt p n + 1 := by
    intro n
    induction n with
    | zero => intro h; omega
    | succ n ih =>
      intro h
      by_cases e : x = n
      · subst e
        rw [cnt_s ((hq x).mpr (Or.inr rfl)), cnt_n hp, low x (Nat.le_refl _)]
      · show cnt q n + b01 (q n) = cnt p n + b01 (p n) + 1
        rw [ih (by omega), show q n = p n from propext ⟨fun u => ((hq n).mp u).elim id fun e2 => by omega, fun u => (hq n).mpr (Or.inl u)⟩]
        omega
  exact hi N hx
noncomputable def hdC (g : AH) (j i : Nat) : Int := cnt (fun x => hdB g j x ∨ (thereH g j ∧ ∃ s : Nat, s < i ∧ rowH g j s = (x : Int))) (iH g 89 5).toNat
theorem hdC_0 {g : AH} {j : Nat} : hdC g j 0 = cnt (fun x => hdB g j x) (iH g 89 5).toNat := cnt_cg fun k _ => ⟨fun u => u.elim id fun ⟨_, s, q, _⟩ => by omega, Or.inl⟩
theorem hdC_e {g : AH} {j : Nat} : cnt (fun x => hdB g (j + 1) x) (iH g 89 5).toNat = hdC g j (cntH g j).toNat := cnt_cg fun k _ => by
  rw [hdB_s]
  refine or_congr Iff.rfl ?_
  unfold hdS
  exact ⟨fun ⟨a, s, b, c⟩ => ⟨a, s, by omega, c⟩, fun ⟨a, s, b, c⟩ => ⟨a, s, by omega, c⟩⟩
theorem hdC_t {g : AH} {j : Nat} (h : ¬ thereH g j) : cnt (fun x => hdB g (j + 1) x) (iH g 89 5).toNat = hdC g j 0 := by
  rw [hdC_0]
  exact cnt_cg fun k _ => by rw [hdB_s]; exact ⟨fun u => u.elim id fun q => absurd q.1 h, Or.inl⟩
theorem l_heldSegments {h g : AH} {da sa : Nat → Nat} (hL : LayL h) (hp : kHd h g da sa ∧ kI g ∧ 0 ≤ iH g 89 5 ∧ iH g 89 5 ≤ 520) : Ct 2 0 0 mX11_heldSegments [vr 0] h (QI fun x h' => x = cnt (fun x => hdB g 7 x) (iH g 89 5).toNat ∧ h' = h) := by
  obtain ⟨hk, hI, hN⟩ := hp
  obtain ⟨hc, hv, hf⟩ := hk
  generalize hR : cnt (fun x : Nat => hdB g 7 x) (iH g 89 5).toNat = R
  have e00 : cnt (fun x : Nat => hdB g 0 x) (iH g 89 5).toNat = 0 := by
    rw [cnt_cut (n := 0) (by omega) (fun k _ _ ⟨i, q, _⟩ => by omega)]; rfl
  have main := up (P := fun j => wp mX11_heldSegments 2 0 0 (QI fun x h' => x = R ∧ h' = h) 4 [some (vr 0), some (vi (cnt (fun x => hdB g j x) (iH g 89 5).toNat)), some (vi j), none, none] [] h) 7 ?_ ?_
  · simp only [e00] at main
    exact e_X11_heldSegments hL main
  · exact t_X11_heldSegments_4 hL ⟨fun _ => ⟨_, rfl, hR, rfl⟩, fun c => absurd c (by omega)⟩
  · intro j hj ih
    obtain ⟨hh, hfl⟩ := hold_of hc hv hf (j := j) hj
    obtain ⟨s1, s2, s3⟩ := hh
    refine t_X11_heldSegments_4 hL ⟨fun c => absurd c (by omega), fun _ => ⟨by omega, ?_⟩⟩
    rw [Int.toNat_natCast, ← hdC_0, show (0 : Int) = ((0 : Nat) : Int) from rfl]
    have nx : (j : Int) + 1 = ((j + 1 : Nat) : Int) := by omega
    by_cases th : thereH g j
    · have h0 : iH h (hld j) 3 ≠ 0 := fun q => hfl.mp q th
      refine up (P := fun i => wp mX11_heldSegments 2 _ _ _ 23 [some (vr 0), some (vi (hdC g j i)), some (vi j), some (vr (hld j)), some (vi i)] [] h) (cntH g j).toNat ?_ ?_
      · refine t_X11_heldSegments_23 (g := g) (da := da) (sa := sa) hL (iSt_hld hj) ⟨fun c => absurd c h0, fun _ => ?_⟩
        rw [s1, nx]
        refine ⟨fun _ => ⟨by omega, ?_⟩, fun c => absurd c (by omega)⟩
        rw [← hdC_e]
        exact ih
      · intro i hi ih2
        obtain ⟨q1, q2, q3⟩ := s3 i (by omega)
        obtain ⟨x, hx⟩ := Int.eq_ofNat_of_zero_le q1.1
        rw [hx] at q1 q2
        rw [Int.toNat_natCast] at q2
        obtain ⟨m1, m2, m3, ⟨r, m4, m5⟩, m6⟩ := hc.2.1 x q1.2
        have hb := cnt_bd (fun x => hdB g j x ∨ (thereH g j ∧ ∃ s : Nat, s < i ∧ rowH g j s = (x : Int))) (iH g 89 5).toNat
        have ex : (x : Int) + 1 - 1 = (x : Int) := by omega
        have upd : ∀ y : Nat, (hdB g j y ∨ (thereH g j ∧ ∃ s : Nat, s < i + 1 ∧ rowH g j s = (y : Int))) ↔ (hdB g j y ∨ (thereH g j ∧ ∃ s : Nat, s < i ∧ rowH g j s = (y : Int))) ∨ y = x := fun y => by
          constructor
          · rintro (u | ⟨u1, s, u2, u3⟩)
            · exact Or.inl (Or.inl u)
            · by_cases e : s = i
              · subst e; exact Or.inr (by omega)
              · exact Or.inl (Or.inr ⟨u1, s, by omega, u3⟩)
          · rintro ((u | ⟨u1, s, u2, u3⟩) | u)
            · exact Or.inl u
            · exact Or.inr ⟨u1, s, by omega, u3⟩
            · exact Or.inr ⟨th, i, by omega, by rw [u]; exact hx⟩
        refine t_X11_heldSegments_23 (g := g) (da := da) (sa := sa) hL (iSt_hld hj) ⟨fun c => absurd c h0, fun _ => ?_⟩
        rw [s1]
        refine ⟨fun c => absurd c (by omega), fun _ => ⟨by omega, sa x, _, r, ⟨by rw [Int.toNat_natCast]; exact q2, m4⟩, ⟨⟨hc, hv, hf⟩, by omega, by omega⟩, ?_⟩⟩
        rw [m3, ex, Int.toNat_natCast, show (i : Int) + 1 = ((i + 1 : Nat) : Int) by omega]
        refine ⟨fun c => ⟨by omega, ?_⟩, fun c => ⟨?_, by omega, ?_⟩⟩
        · have : hdC g j (i + 1) = hdC g j i := cnt_cg fun y _ => by
            rw [upd y]
            exact ⟨fun u => u.elim id fun e => Or.inl (by rw [e]; exact c), Or.inl⟩
          rw [← this]; exact ih2
        · unfold hdC; omega
        · have : hdC g j (i + 1) = hdC g j i + 1 := cnt_one (x := x) (by omega) (fun u => u.elim c fun ⟨_, s, u2, u3⟩ => hI j hj s i u2 (by omega) (by rw [u3, hx])) upd
          rw [← this]; exact ih2
    · refine t_X11_heldSegments_23 (g := g) (da := da) (sa := sa) hL (iSt_hld hj) ⟨fun _ => ⟨by omega, ?_⟩, fun c => absurd (hfl.mpr th) c⟩
      rw [nx, ← hdC_t th]
      exact ih
theorem lay6_t {g : AH} {t : Nat} (ht : t < 6) : iH (m_lay g 6) 1137 t = iH g 1137 t ∧ iH (m_lay g 6) 1138 t = iH g 1138 t ∧ ∀ k, iH (m_lay g 6) (1140 + t) k = iH g (1140 + t) k := by
  unfold m_lay m_layB
  refine ⟨?_, ?_, fun k => ?_⟩
  · rw [rW_ne (by decide), rW_ne (by decide), rI_ne (by decide), rI_nk (by have : (6 : Int).toNat = 6 := rfl; omega)]
  · rw [rW_ne (by decide), rW_ne (by decide), rI_nk (by have : (6 : Int).toNat = 6 := rfl; omega), rI_ne (by decide)]
  · have : (6 : Int).toNat = 6 := rfl
    rw [rW_ne (by omega), rW_ne (by omega), rI_ne (by omega), rI_ne (by omega)]
theorem lay6_6 {g : AH} : iH (m_lay g 6) 1137 6 = 1 ∧ iH (m_lay g 6) 1138 6 = iH g 89 13 ∧ ∀ k : Nat, (k : Int) < iH g 89 13 → iH (m_lay g 6) (1140 + 6) k = iH g 1155 k := by
  unfold m_lay m_layB
  refine ⟨?_, ?_, fun k hk => ?_⟩
  · rw [rW_ne (by decide), rW_ne (by decide), rI_ne (by decide)]; exact rI_same
  · rw [rW_ne (by decide), rW_ne (by decide)]; exact rI_same
  · rw [rW_ne (by decide)]
    refine rW_same.trans ?_
    unfold m_layR
    rw [if_pos (by omega)]
theorem hd_held {h g : AH} (hf : kF h g) {x : Nat} : hdB g 7 x ↔ m_heldP (m_lay g 6) x := by
  constructor
  · rintro ⟨j, hj, th, s, q1, q2⟩
    by_cases e : j = 0
    · subst e
      refine ⟨6, by omega, ?_⟩
      have q1 : (s : Int) < iH g 89 13 := q1
      have q2 : iH g 1155 s = x := q2
      obtain ⟨l1, l2, l3⟩ := lay6_6 (g := g)
      exact ⟨by rw [show ((6 : Nat) : Int).toNat = 6 from rfl, l1]; omega, s, by rw [show ((6 : Nat) : Int).toNat = 6 from rfl, l2]; exact q1, by rw [show ((6 : Nat) : Int).toNat = 6 from rfl, l3 s q1]; exact q2⟩
    · have e2 := (hld_av e hj).2
      rw [show cntH g j = iH g 1138 (tH j) from if_neg e] at q1
      rw [show rowH g j s = tRow g (tH j) s from if_neg e] at q2
      obtain ⟨l1, l2, l3⟩ := lay6_t (g := g) e2
      refine ⟨tH j, by omega, ?_, s, ?_, ?_⟩
      · rw [Int.toNat_natCast, l1]
        rcases th with th | th
        · have : tH j = 5 := by unfold tH; rw [if_neg e, if_pos (by omega)]
          rw [this] at q1 ⊢
          intro u
          have := hf.2.2.2 u
          omega
        · exact th
      · rw [Int.toNat_natCast, l2]; exact q1
      · rw [Int.toNat_natCast, l3]; exact q2
  · rintro ⟨t, ht, th, s, q1, q2⟩
    rw [Int.toNat_natCast] at th q1 q2
    by_cases e : t = 6
    · subst e
      obtain ⟨l1, l2, l3⟩ := lay6_6 (g := g)
      rw [l2] at q1
      rw [l3 s q1] at q2
      exact ⟨0, by omega, Or.inl (by omega), s, q1, q2⟩
    · obtain ⟨l1, l2, l3⟩ := lay6_t (g := g) (t := t) (by omega)
      rw [l1] at th
      rw [l2] at q1
      rw [l3] at q2
      obtain ⟨j, hj, hj0, ej⟩ : ∃ j, j < 7 ∧ j ≠ 0 ∧ tH j = t := by
        refine ⟨if t = 5 then 1 else if t = 4 then 2 else t + 3, ?_, ?_, ?_⟩ <;> (try unfold tH) <;> (repeat' split) <;> omega
      exact ⟨j, hj, Or.inr (by rw [ej]; exact th), s, by rw [show cntH g j = iH g 1138 (tH j) from if_neg hj0, ej]; exact q1, by rw [show rowH g j s = tRow g (tH j) s from if_neg hj0, ej]; exact q2⟩
theorem l_held {h g : AH} {da sa : Nat → Nat} (hL : LayL h) (hp : kHd h g da sa ∧ kI g ∧ 0 ≤ iH g 89 5 ∧ iH g 89 5 ≤ 520) : Ct 2 0 0 mX11_heldSegments [vr 0] h (QI fun x h' => x = m_hs g ∧ h' = h) := by
  have e : (m_lay g 6) = m_lay g 6 := rfl
  have : m_hs g = cnt (fun x => hdB g 7 x) (iH g 89 5).toNat := (cnt_cg fun x _ => hd_held hp.1.2.2).symm
  rw [this]
  exact l_heldSegments hL hp
