/-! THE INDEX: COUNTS, AND WHAT IS SET -/
def b_X11_count_0 : List IE := [(.iload_n 1, 1, 0, 0, 1, 0)]
theorem k_X11_count_0 : ckTs mX11_count 11 0 b_X11_count_0 1 144 0 9 #[55, 76, 81, 89, 94, 102, 107, 112, 120, 136] 55 145 [(0, 56), (1, 77), (2, 82), (3, 90), (4, 95), (5, 103), (6, 108), (7, 113), (8, 121), (9, 137)] = true := by decide +kernel
def b_X11_count_56 : List IE := [(.aload_n 0, 1, 0, 0, 0, 0), (.getfield 122, 3, 0, 11, 2, 0), (.aload_n 0, 1, 0, 0, 0, 0), (.getfield 25, 3, 0, 11, 3, 1), (.iconst 0, 1, 0, 0, 0, 0), (.aload_n 0, 1, 0, 0, 0, 0), (.getfield 25, 3, 0, 11, 3, 1), (.getfield 153, 3, 0, 9, 2, 0)]
theorem k_X11_count_56 : ckB mX11_count 11 56 b_X11_count_56 72 = true := by decide +kernel
def b_X11_count_75 : List IE := [(.iadd, 1, 0, 0, 0, 0)]
theorem k_X11_count_75 : ckI mX11_count 11 75 b_X11_count_75 76 = true := by decide +kernel
def b_X11_count_77 : List IE := [(.aload_n 0, 1, 0, 0, 0, 0), (.getfield 122, 3, 0, 11, 2, 0)]
theorem k_X11_count_77 : ckI mX11_count 11 77 b_X11_count_77 81 = true := by decide +kernel
def b_X11_count_82 : List IE := [(.aload_n 0, 1, 0, 0, 0, 0), (.getfield 25, 3, 0, 11, 3, 1), (.getfield 153, 3, 0, 9, 2, 0)]
theorem k_X11_count_82 : ckI mX11_count 11 82 b_X11_count_82 89 = true := by decide +kernel
def b_X11_count_90 : List IE := [(.aload_n 0, 1, 0, 0, 0, 0)]
theorem k_X11_count_90 : ckB mX11_count 11 90 b_X11_count_90 91 = true := by decide +kernel
def b_X11_count_94 : List IE := []
theorem k_X11_count_94 : ckI mX11_count 11 94 b_X11_count_94 94 = true := by decide +kernel
def b_X11_count_95 : List IE := [(.aload_n 0, 1, 0, 0, 0, 0), (.getfield 32, 3, 0, 11, 5, 1), (.getfield 153, 3, 0, 9, 2, 0)]
theorem k_X11_count_95 : ckI mX11_count 11 95 b_X11_count_95 102 = true := by decide +kernel
def b_X11_count_103 : List IE := [(.aload_n 0, 1, 0, 0, 0, 0)]
theorem k_X11_count_103 : ckB mX11_count 11 103 b_X11_count_103 104 = true := by decide +kernel
def b_X11_count_107 : List IE := []
theorem k_X11_count_107 : ckI mX11_count 11 107 b_X11_count_107 107 = true := by decide +kernel
def b_X11_count_108 : List IE := [(.aload_n 0, 1, 0, 0, 0, 0), (.getfield 285, 3, 0, 11, 13, 0)]
theorem k_X11_count_108 : ckI mX11_count 11 108 b_X11_count_108 112 = true := by decide +kernel
def b_X11_count_113 : List IE := [(.aload_n 0, 1, 0, 0, 0, 0), (.getfield 10, 3, 0, 11, 0, 1), (.getfield 112, 3, 0, 10, 1, 0)]
theorem k_X11_count_113 : ckI mX11_count 11 113 b_X11_count_113 120 = true := by decide +kernel
def b_X11_count_121 : List IE := [(.aload_n 0, 1, 0, 0, 0, 0), (.getfield 52, 3, 0, 11, 10, 1), (.getfield 251, 3, 0, 3, 0, 0)]
theorem k_X11_count_121 : ckIf mX11_count 11 121 b_X11_count_121 128 0 7 135 131 = true := by decide +kernel
def b_X11_count_131 : List IE := [(.iconst 1, 1, 1, 0, 0, 0)]
theorem k_X11_count_131 : ckGo mX11_count 11 131 b_X11_count_131 132 4 136 = true := by decide +kernel
def b_X11_count_135 : List IE := [(.iconst 0, 1, 0, 0, 0, 0)]
theorem k_X11_count_135 : ckI mX11_count 11 135 b_X11_count_135 136 = true := by decide +kernel
def b_X11_count_136 : List IE := []
theorem k_X11_count_136 : ckI mX11_count 11 136 b_X11_count_136 136 = true := by decide +kernel
def b_X11_count_137 : List IE := [(.aload_n 0, 1, 0, 0, 0, 0), (.getfield 78, 3, 0, 11, 15, 1), (.getfield 354, 3, 0, 2, 0, 0)]
theorem k_X11_count_137 : ckI mX11_count 11 137 b_X11_count_137 144 = true := by decide +kernel
def b_X11_count_145 : List IE := [(.iload_n 1, 1, 0, 0, 1, 0), (.bipush 10, 2, 10, 0, 0, 0)]
theorem k_X11_count_145 : ckIc mX11_count 11 145 b_X11_count_145 148 2 23 171 151 = true := by decide +kernel
def b_X11_count_151 : List IE := [(.iload_n 1, 1, 0, 0, 1, 0), (.bipush 18, 2, 18, 0, 0, 0)]
theorem k_X11_count_151 : ckIc mX11_count 11 151 b_X11_count_151 154 3 17 171 157 = true := by decide +kernel
def b_X11_count_157 : List IE := [(.aload_n 0, 1, 0, 0, 0, 0), (.getfield 78, 3, 0, 11, 15, 1), (.iload_n 1, 1, 0, 0, 1, 0), (.bipush 10, 2, 10, 0, 0, 0), (.isub, 1, 0, 0, 0, 0)]
theorem k_X11_count_157 : ckB mX11_count 11 157 b_X11_count_157 165 = true := by decide +kernel
def b_X11_count_168 : List IE := []
theorem k_X11_count_168 : ckGo mX11_count 11 168 b_X11_count_168 168 5 173 = true := by decide +kernel
def b_X11_count_171 : List IE := [(.bipush (-2), 2, (-2), 0, 0, 0)]
theorem k_X11_count_171 : ckI mX11_count 11 171 b_X11_count_171 173 = true := by decide +kernel
def b_X11_count_173 : List IE := []
theorem k_X11_count_173 : ckI mX11_count 11 173 b_X11_count_173 173 = true := by decide +kernel
theorem s_X11_count_72 : cV mX11_count 72 mX9_liveBetween 247 2 9 := ⟨by decide +kernel, ⟨ml_X9_liveBetween, li_RX11_247, im_X9_liveBetween, se_X9_liveBetween⟩, ⟨by decide +kernel, by decide +kernel⟩, by decide +kernel⟩
theorem s_X11_count_91 : cV mX11_count 91 mX11_heldSegments 295 0 11 := ⟨by decide +kernel, ⟨ml_X11_heldSegments, li_RX11_295, im_X11_heldSegments, se_X11_heldSegments⟩, ⟨by decide +kernel, by decide +kernel⟩, by decide +kernel⟩
theorem s_X11_count_104 : cV mX11_count 104 mX11_openViews 351 0 11 := ⟨by decide +kernel, ⟨ml_X11_openViews, li_RX11_351, im_X11_openViews, se_X11_openViews⟩, ⟨by decide +kernel, by decide +kernel⟩, by decide +kernel⟩
theorem s_X11_count_165 : cV mX11_count 165 mX2_ended 357 1 2 := ⟨by decide +kernel, ⟨ml_X2_ended, li_RX11_357, im_X2_ended, se_X2_ended⟩, ⟨by decide +kernel, by decide +kernel⟩, by decide +kernel⟩
theorem t_X11_count_0 {rc rs : Nat} {Q : Option AV → AH → Prop} {h : AH} {sa : Nat → Nat} {da : Nat → Nat} {g : AH} {x1 : Int} (hL : LayL h) (hv : ((x1 = 0 → (5 = 5 ∧ cRd h g da sa ∧ 0 ≤ (0 : Int) ∧ (0 : Int) ≤ (iH h 5 2) ∧ (iH h 5 2) ≤ iH g 89 13) ∧ (-2147483648 ≤ (iH h 0 2 + (m_liveIn g (0 : Int) ((iH h 5 2) - (0 : Int)))) ∧ (iH h 0 2 + (m_liveIn g (0 : Int) ((iH h 5 2) - (0 : Int)))) < 2147483648) ∧ Q (some (vi (iH h 0 2 + (m_liveIn g (0 : Int) ((iH h 5 2) - (0 : Int)))))) h) ∧ (x1 ≠ 0 → ((x1 = 1 → Q (some (vi (iH h 0 2))) h) ∧ (x1 ≠ 1 → ((x1 = 2 → Q (some (vi (iH h 5 2))) h) ∧ (x1 ≠ 2 → ((x1 = 3 → (kHd h g da sa ∧ kI g ∧ 0 ≤ iH g 89 5 ∧ iH g 89 5 ≤ 520) ∧ Q (some (vi (m_hs g))) h) ∧ (x1 ≠ 3 → ((x1 = 4 → Q (some (vi (iH h 11 2))) h) ∧ (x1 ≠ 4 → ((x1 = 5 → (kF h g) ∧ Q (some (vi (m_views g))) h) ∧ (x1 ≠ 5 → ((x1 = 6 → Q (some (vi (iH h 0 13))) h) ∧ (x1 ≠ 6 → ((x1 = 7 → Q (some (vi (iH h 1 1))) h) ∧ (x1 ≠ 7 → ((x1 = 8 → (((iH h 17 0) = 0 → Q (some (vi 0)) h) ∧ ((iH h 17 0) ≠ 0 → Q (some (vi 1)) h))) ∧ (x1 ≠ 8 → ((x1 = 9 → Q (some (vi (iH h 21 0))) h) ∧ (x1 ≠ 9 → ((x1 < 10 → Q (some (vi (-2))) h) ∧ (10 ≤ x1 → ((18 ≤ x1 → Q (some (vi (-2))) h) ∧ (x1 < 18 → (-2147483648 ≤ (x1 - 10) ∧ (x1 - 10) < 2147483648) ∧ (iH h 21 2 ≤ 8) ∧ Q (some (vi (if 0 ≤ (x1 - 10) ∧ (x1 - 10) < iH h 21 2 then iH h 22 ((x1 - 10)).toNat else -1))) h))))))))))))))))))))))))) : wp mX11_count 3 rc rs Q 0 [some (vr 0), some (vi x1)] [] h :=
  (show wp mX11_count 3 rc rs Q 0 [some (vr 0), some (vi x1)] [] h from xTs k_X11_count_0 (And.intro (fun c65 => have v67 := hv.1 c65; (show wp mX11_count 3 rc rs Q 56 [some (vr 0), some (vi x1)] [] h from xcV k_X11_count_56 s_X11_count_72 (And.intro (ll_0 hL) (And.intro (ll_0 hL) (Exists.intro 5 (And.intro (lg_0_3 hL) (And.intro (ll_0 hL) (Exists.intro 5 (And.intro (lg_0_3 hL) (And.intro (ll_5 hL) (have c62 := v67.1; have v63 := v67.2; (Exists.intro [vi 0, vi (iH h 5 2)] (Exists.intro 5 (Exists.intro [vi (iH h 0 2)] (And.intro (And.intro rfl (And.intro rfl (Nat.le_of_ble_eq_true rfl))) (And.intro (ll_5 hL) (Exists.intro 2 (Exists.intro 0 (Exists.intro 0 (Exists.intro _ (And.intro (l_liveBetween (h := h) hL c62) (And.intro (And.intro (by decide) (And.intro (Nat.zero_le _) (Nat.zero_le _))) (eQP (show wp mX11_count 3 rc rs Q 75 [some (vr 0), some (vi x1)] [vi (m_liveIn g (0 : Int) ((iH h 5 2) - (0 : Int))), vi (iH h 0 2)] h from xI k_X11_count_75 (have c60 := v63.1; have v61 := v63.2; (And.intro c60 (And.intro rfl v61))))))))))))))))))))))))))) (fun c66 => have v68 := hv.2 c66; (And.intro (fun c56 => have v58 := v68.1 c56; (show wp mX11_count 3 rc rs Q 77 [some (vr 0), some (vi x1)] [] h from xI k_X11_count_77 (And.intro (ll_0 hL) (And.intro rfl v58)))) (fun c57 => have v59 := v68.2 c57; (And.intro (fun c52 => have v54 := v59.1 c52; (show wp mX11_count 3 rc rs Q 82 [some (vr 0), some (vi x1)] [] h from xI k_X11_count_82 (And.intro (ll_0 hL) (Exists.intro 5 (And.intro (lg_0_3 hL) (And.intro (ll_5 hL) (And.intro rfl v54))))))) (fun c53 => have v55 := v59.2 c53; (And.intro (fun c48 => have v50 := v55.1 c48; (show wp mX11_count 3 rc rs Q 90 [some (vr 0), some (vi x1)] [] h from xcV k_X11_count_90 s_X11_count_91 (have c45 := v50.1; have v46 := v50.2; (Exists.intro [] (Exists.intro 0 (Exists.intro [] (And.intro (And.intro rfl (And.intro rfl (Nat.le_of_ble_eq_true rfl))) (And.intro (ll_0 hL) (Exists.intro 2 (Exists.intro 0 (Exists.intro 0 (Exists.intro _ (And.intro (l_held (h := h) hL c45) (And.intro (And.intro (by decide) (And.intro (Nat.zero_le _) (Nat.zero_le _))) (eQP (show wp mX11_count 3 rc rs Q 94 [some (vr 0), some (vi x1)] [vi (m_hs g)] h from xI k_X11_count_94 (And.intro rfl v46))))))))))))))))) (fun c49 => have v51 := v55.2 c49; (And.intro (fun c41 => have v43 := v51.1 c41; (show wp mX11_count 3 rc rs Q 95 [some (vr 0), some (vi x1)] [] h from xI k_X11_count_95 (And.intro (ll_0 hL) (Exists.intro 11 (And.intro (lg_0_5 hL) (And.intro (ll_11 hL) (And.intro rfl v43))))))) (fun c42 => have v44 := v51.2 c42; (And.intro (fun c37 => have v39 := v44.1 c37; (show wp mX11_count 3 rc rs Q 103 [some (vr 0), some (vi x1)] [] h from xcV k_X11_count_103 s_X11_count_104 (have c34 := v39.1; have v35 := v39.2; (Exists.intro [] (Exists.intro 0 (Exists.intro [] (And.intro (And.intro rfl (And.intro rfl (Nat.le_of_ble_eq_true rfl))) (And.intro (ll_0 hL) (Exists.intro 0 (Exists.intro 0 (Exists.intro 0 (Exists.intro _ (And.intro (l_openViews (h := h) hL c34) (And.intro (And.intro (by decide) (And.intro (Nat.zero_le _) (Nat.zero_le _))) (eQP (show wp mX11_count 3 rc rs Q 107 [some (vr 0), some (vi x1)] [vi (m_views g)] h from xI k_X11_count_107 (And.intro rfl v35))))))))))))))))) (fun c38 => have v40 := v44.2 c38; (And.intro (fun c30 => have v32 := v40.1 c30; (show wp mX11_count 3 rc rs Q 108 [some (vr 0), some (vi x1)] [] h from xI k_X11_count_108 (And.intro (ll_0 hL) (And.intro rfl v32)))) (fun c31 => have v33 := v40.2 c31; (And.intro (fun c26 => have v28 := v33.1 c26; (show wp mX11_count 3 rc rs Q 113 [some (vr 0), some (vi x1)] [] h from xI k_X11_count_113 (And.intro (ll_0 hL) (Exists.intro 1 (And.intro (lg_0_0 hL) (And.intro (ll_1 hL) (And.intro rfl v28))))))) (fun c27 => have v29 := v33.2 c27; (And.intro (fun c22 => have v24 := v29.1 c22; (show wp mX11_count 3 rc rs Q 121 [some (vr 0), some (vi x1)] [] h from xIf k_X11_count_121 (And.intro (ll_0 hL) (Exists.intro 17 (And.intro (lg_0_10 hL) (And.intro (ll_17 hL) (And.intro (fun c18 => have v20 := v24.1 c18; (show wp mX11_count 3 rc rs Q 135 [some (vr 0), some (vi x1)] [] h from xI k_X11_count_135 (And.intro rfl v20))) (fun c19 => have v21 := v24.2 c19; (show wp mX11_count 3 rc rs Q 131 [some (vr 0), some (vi x1)] [] h from xGo k_X11_count_131 (show wp mX11_count 3 rc rs Q 136 [some (vr 0), some (vi x1)] [vi 1] h from xI k_X11_count_136 (And.intro rfl v21))))))))))) (fun c23 => have v25 := v29.2 c23; (And.intro (fun c14 => have v16 := v25.1 c14; (show wp mX11_count 3 rc rs Q 137 [some (vr 0), some (vi x1)] [] h from xI k_X11_count_137 (And.intro (ll_0 hL) (Exists.intro 21 (And.intro (lg_0_15 hL) (And.intro (ll_21 hL) (And.intro rfl v16))))))) (fun c15 => have v17 := v25.2 c15; (show wp mX11_count 3 rc rs Q 145 [some (vr 0), some (vi x1)] [] h from xIc k_X11_count_145 (And.intro (fun c1 => have v3 := v17.1 c1; (show wp mX11_count 3 rc rs Q 171 [some (vr 0), some (vi x1)] [] h from xI k_X11_count_171 (And.intro rfl v3))) (fun c2 => have v4 := v17.2 (Int.not_lt.mp c2); (show wp mX11_count 3 rc rs Q 151 [some (vr 0), some (vi x1)] [] h from xIc k_X11_count_151 (And.intro (fun c5 => have v7 := v4.1 c5; (show wp mX11_count 3 rc rs Q 171 [some (vr 0), some (vi x1)] [] h from xI k_X11_count_171 (And.intro rfl v7))) (fun c6 => have v8 := v4.2 (Int.not_le.mp c6); (show wp mX11_count 3 rc rs Q 157 [some (vr 0), some (vi x1)] [] h from xcV k_X11_count_157 s_X11_count_165 (And.intro (ll_0 hL) (Exists.intro 21 (And.intro (lg_0_15 hL) (have c9 := v8.1; have v13 := v8.2; (And.intro c9 (have c10 := v13.1; have v11 := v13.2; (Exists.intro [vi (x1 - 10)] (Exists.intro 21 (Exists.intro [] (And.intro (And.intro rfl (And.intro rfl (Nat.le_of_ble_eq_true rfl))) (And.intro (ll_21 hL) (Exists.intro 0 (Exists.intro 0 (Exists.intro 0 (Exists.intro _ (And.intro (l_endedK (h := h) hL c10) (And.intro (And.intro (by decide) (And.intro (Nat.zero_le _) (Nat.zero_le _))) (eQP (show wp mX11_count 3 rc rs Q 168 [some (vr 0), some (vi x1)] [vi (if 0 ≤ (x1 - 10) ∧ (x1 - 10) < iH h 21 2 then iH h 22 ((x1 - 10)).toNat else -1)] h from xGo k_X11_count_168 (show wp mX11_count 3 rc rs Q 173 [some (vr 0), some (vi x1)] [vi (if 0 ≤ (x1 - 10) ∧ (x1 - 10) < iH h 21 2 then iH h 22 ((x1 - 10)).toNat else -1)] h from xI k_X11_count_173 (And.intro rfl v11)))))))))))))))))))))))))))))))))))))))))))))))))
theorem e_X11_count {mc ms : Nat} {Q : Option AV → AH → Prop} {h : AH} {sa : Nat → Nat} {da : Nat → Nat} {g : AH} {x1 : Int} (hL : LayL h) (hv : ((x1 = 0 → (5 = 5 ∧ cRd h g da sa ∧ 0 ≤ (0 : Int) ∧ (0 : Int) ≤ (iH h 5 2) ∧ (iH h 5 2) ≤ iH g 89 13) ∧ (-2147483648 ≤ (iH h 0 2 + (m_liveIn g (0 : Int) ((iH h 5 2) - (0 : Int)))) ∧ (iH h 0 2 + (m_liveIn g (0 : Int) ((iH h 5 2) - (0 : Int)))) < 2147483648) ∧ Q (some (vi (iH h 0 2 + (m_liveIn g (0 : Int) ((iH h 5 2) - (0 : Int)))))) h) ∧ (x1 ≠ 0 → ((x1 = 1 → Q (some (vi (iH h 0 2))) h) ∧ (x1 ≠ 1 → ((x1 = 2 → Q (some (vi (iH h 5 2))) h) ∧ (x1 ≠ 2 → ((x1 = 3 → (kHd h g da sa ∧ kI g ∧ 0 ≤ iH g 89 5 ∧ iH g 89 5 ≤ 520) ∧ Q (some (vi (m_hs g))) h) ∧ (x1 ≠ 3 → ((x1 = 4 → Q (some (vi (iH h 11 2))) h) ∧ (x1 ≠ 4 → ((x1 = 5 → (kF h g) ∧ Q (some (vi (m_views g))) h) ∧ (x1 ≠ 5 → ((x1 = 6 → Q (some (vi (iH h 0 13))) h) ∧ (x1 ≠ 6 → ((x1 = 7 → Q (some (vi (iH h 1 1))) h) ∧ (x1 ≠ 7 → ((x1 = 8 → (((iH h 17 0) = 0 → Q (some (vi 0)) h) ∧ ((iH h 17 0) ≠ 0 → Q (some (vi 1)) h))) ∧ (x1 ≠ 8 → ((x1 = 9 → Q (some (vi (iH h 21 0))) h) ∧ (x1 ≠ 9 → ((x1 < 10 → Q (some (vi (-2))) h) ∧ (10 ≤ x1 → ((18 ≤ x1 → Q (some (vi (-2))) h) ∧ (x1 < 18 → (-2147483648 ≤ (x1 - 10) ∧ (x1 - 10) < 2147483648) ∧ (iH h 21 2 ≤ 8) ∧ Q (some (vi (if 0 ≤ (x1 - 10) ∧ (x1 - 10) < iH h 21 2 then iH h 22 ((x1 - 10)).toNat else -1))) h))))))))))))))))))))))))) : Ct 3 mc ms mX11_count [vr 0, vi x1] h Q := Ct.of (by decide +kernel) (Nat.le_of_ble_eq_true rfl) (t_X11_count_0 hL hv)
def b_X11_set_0 : List IE := [(.iload_n 2, 1, 0, 0, 2, 0)]
theorem k_X11_set_0 : ckIf mX11_set 11 0 b_X11_set_0 1 3 6 7 4 = true := by decide +kernel
def b_X11_set_4 : List IE := [(.bipush (-2), 2, (-2), 0, 0, 0)]
theorem k_X11_set_4 : ckI mX11_set 11 4 b_X11_set_4 6 = true := by decide +kernel
def b_X11_set_7 : List IE := [(.iload_n 1, 1, 0, 0, 1, 0)]
theorem k_X11_set_7 : ckIf mX11_set 11 7 b_X11_set_7 8 1 28 36 11 = true := by decide +kernel
def b_X11_set_11 : List IE := [(.iload_n 2, 1, 0, 0, 2, 0), (.bipush 6, 2, 6, 0, 0, 0)]
theorem k_X11_set_11 : ckIc mX11_set 11 11 b_X11_set_11 14 3 22 36 17 = true := by decide +kernel
def b_X11_set_17 : List IE := [(.aload_n 0, 1, 0, 0, 0, 0), (.getfield 45, 3, 0, 11, 9, 1), (.getfield 231, 3, 0, 4, 0, 0), (.istore_n 3, 1, 0, 0, 3, 0), (.aload_n 0, 1, 0, 0, 0, 0), (.getfield 45, 3, 0, 11, 9, 1), (.iload_n 2, 1, 0, 0, 2, 0), (.putfield 231, 3, 0, 4, 0, 0)]
theorem k_X11_set_17 : ckGo mX11_set 11 17 b_X11_set_17 33 61 94 = true := by decide +kernel
def b_X11_set_36 : List IE := [(.iload_n 1, 1, 0, 0, 1, 0), (.iconst 1, 1, 1, 0, 0, 0)]
theorem k_X11_set_36 : ckIc mX11_set 11 36 b_X11_set_36 38 1 28 66 41 = true := by decide +kernel
def b_X11_set_41 : List IE := [(.iload_n 2, 1, 0, 0, 2, 0), (.bipush 9, 2, 9, 0, 0, 0)]
theorem k_X11_set_41 : ckIc mX11_set 11 41 b_X11_set_41 44 4 22 66 47 = true := by decide +kernel
def b_X11_set_47 : List IE := [(.aload_n 0, 1, 0, 0, 0, 0), (.getfield 45, 3, 0, 11, 9, 1), (.getfield 234, 3, 0, 4, 1, 0), (.istore_n 3, 1, 0, 0, 3, 0), (.aload_n 0, 1, 0, 0, 0, 0), (.getfield 45, 3, 0, 11, 9, 1), (.iload_n 2, 1, 0, 0, 2, 0), (.putfield 234, 3, 0, 4, 1, 0)]
theorem k_X11_set_47 : ckGo mX11_set 11 47 b_X11_set_47 63 31 94 = true := by decide +kernel
def b_X11_set_66 : List IE := [(.iload_n 1, 1, 0, 0, 1, 0), (.iconst 2, 1, 2, 0, 0, 0)]
theorem k_X11_set_66 : ckIc mX11_set 11 66 b_X11_set_66 68 1 23 91 71 = true := by decide +kernel
def b_X11_set_71 : List IE := [(.iload_n 2, 1, 0, 0, 2, 0), (.sipush 9999, 3, 9999, 0, 0, 0)]
theorem k_X11_set_71 : ckIc mX11_set 11 71 b_X11_set_71 75 4 16 91 78 = true := by decide +kernel
def b_X11_set_78 : List IE := [(.aload_n 0, 1, 0, 0, 0, 0), (.getfield 56, 3, 0, 11, 11, 0), (.istore_n 3, 1, 0, 0, 3, 0), (.aload_n 0, 1, 0, 0, 0, 0), (.iload_n 2, 1, 0, 0, 2, 0), (.putfield 56, 3, 0, 11, 11, 0)]
theorem k_X11_set_78 : ckGo mX11_set 11 78 b_X11_set_78 88 6 94 = true := by decide +kernel
def b_X11_set_91 : List IE := [(.bipush (-2), 2, (-2), 0, 0, 0), (.istore_n 3, 1, 0, 0, 3, 0), (.iload_n 3, 1, 0, 0, 3, 0)]
theorem k_X11_set_91 : ckI mX11_set 11 91 b_X11_set_91 95 = true := by decide +kernel
def b_X11_set_94 : List IE := [(.iload_n 3, 1, 0, 0, 3, 0)]
theorem k_X11_set_94 : ckI mX11_set 11 94 b_X11_set_94 95 = true := by decide +kernel
theorem t_X11_set_0 {rc rs : Nat} {Q : Option AV → AH → Prop} {h : AH} {x1 x2 : Int} (hL : LayL h) (hv : ((0 ≤ x2 → ((x1 ≠ 0 → ((x1 ≠ 1 → ((x1 ≠ 2 → Q (some (vi (-2))) h) ∧ (x1 = 2 → ((9999 < x2 → Q (some (vi (-2))) h) ∧ (x2 ≤ 9999 → Q (some (vi (iH h 0 11))) (sI h 0 11 x2)))))) ∧ (x1 = 1 → ((9 < x2 → Q (some (vi (-2))) h) ∧ (x2 ≤ 9 → Q (some (vi (iH h 16 1))) (sI h 16 1 x2)))))) ∧ (x1 = 0 → ((6 ≤ x2 → Q (some (vi (-2))) h) ∧ (x2 < 6 → Q (some (vi (iH h 16 0))) (sI h 16 0 x2)))))) ∧ (x2 < 0 → Q (some (vi (-2))) h))) : wp mX11_set 0 rc rs Q 0 [some (vr 0), some (vi x1), some (vi x2), none] [] h :=
  (show wp mX11_set 0 rc rs Q 0 [some (vr 0), some (vi x1), some (vi x2), none] [] h from xIf k_X11_set_0 (And.intro (fun c1 => have v3 := hv.1 c1; (show wp mX11_set 0 rc rs Q 7 [some (vr 0), some (vi x1), some (vi x2), none] [] h from xIf k_X11_set_7 (And.intro (fun c5 => have v7 := v3.1 c5; (show wp mX11_set 0 rc rs Q 36 [some (vr 0), some (vi x1), some (vi x2), none] [] h from xIc k_X11_set_36 (And.intro (fun c9 => have v11 := v7.1 c9; (show wp mX11_set 0 rc rs Q 66 [some (vr 0), some (vi x1), some (vi x2), none] [] h from xIc k_X11_set_66 (And.intro (fun c13 => have v15 := v11.1 c13; (show wp mX11_set 0 rc rs Q 91 [some (vr 0), some (vi x1), some (vi x2), none] [] h from xI k_X11_set_91 (And.intro rfl (And.intro rfl v15)))) (fun c14 => have v16 := v11.2 (Decidable.not_not.mp c14); (show wp mX11_set 0 rc rs Q 71 [some (vr 0), some (vi x1), some (vi x2), none] [] h from xIc k_X11_set_71 (And.intro (fun c17 => have v19 := v16.1 c17; (show wp mX11_set 0 rc rs Q 91 [some (vr 0), some (vi x1), some (vi x2), none] [] h from xI k_X11_set_91 (And.intro rfl (And.intro rfl v19)))) (fun c18 => have v20 := v16.2 (Int.not_lt.mp c18); (show wp mX11_set 0 rc rs Q 78 [some (vr 0), some (vi x1), some (vi x2), none] [] h from xGo k_X11_set_78 (And.intro (ll_0 hL) (And.intro rfl (And.intro (ll_0 hL) (show wp mX11_set 0 rc rs Q 94 [some (vr 0), some (vi x1), some (vi x2), some (vi (iH h 0 11))] [] (sI h 0 11 x2) from xI k_X11_set_94 (And.intro rfl v20))))))))))))) (fun c10 => have v12 := v7.2 (Decidable.not_not.mp c10); (show wp mX11_set 0 rc rs Q 41 [some (vr 0), some (vi x1), some (vi x2), none] [] h from xIc k_X11_set_41 (And.intro (fun c21 => have v23 := v12.1 c21; (show wp mX11_set 0 rc rs Q 66 [some (vr 0), some (vi x1), some (vi x2), none] [] h from xIc k_X11_set_66 (And.intro (fun _ => (show wp mX11_set 0 rc rs Q 91 [some (vr 0), some (vi x1), some (vi x2), none] [] h from xI k_X11_set_91 (And.intro rfl (And.intro rfl v23)))) (fun c => absurd (fun e : x1 = 2 => absurd (Eq.trans (Eq.symm (show x1 = 1 from (Decidable.not_not.mp c10))) e) (by decide)) c)))) (fun c22 => have v24 := v12.2 (Int.not_lt.mp c22); (show wp mX11_set 0 rc rs Q 47 [some (vr 0), some (vi x1), some (vi x2), none] [] h from xGo k_X11_set_47 (And.intro (ll_0 hL) (Exists.intro 16 (And.intro (lg_0_9 hL) (And.intro (ll_16 hL) (And.intro rfl (And.intro (ll_0 hL) (Exists.intro 16 (And.intro (lg_0_9 hL) (And.intro (ll_16 hL) (show wp mX11_set 0 rc rs Q 94 [some (vr 0), some (vi x1), some (vi x2), some (vi (iH h 16 1))] [] (sI h 16 1 x2) from xI k_X11_set_94 (And.intro rfl v24))))))))))))))))))) (fun c6 => have v8 := v3.2 (Decidable.not_not.mp c6); (show wp mX11_set 0 rc rs Q 11 [some (vr 0), some (vi x1), some (vi x2), none] [] h from xIc k_X11_set_11 (And.intro (fun c25 => have v27 := v8.1 c25; (show wp mX11_set 0 rc rs Q 36 [some (vr 0), some (vi x1), some (vi x2), none] [] h from xIc k_X11_set_36 (And.intro (fun _ => (show wp mX11_set 0 rc rs Q 66 [some (vr 0), some (vi x1), some (vi x2), none] [] h from xIc k_X11_set_66 (And.intro (fun _ => (show wp mX11_set 0 rc rs Q 91 [some (vr 0), some (vi x1), some (vi x2), none] [] h from xI k_X11_set_91 (And.intro rfl (And.intro rfl v27)))) (fun c => absurd (fun e : x1 = 2 => absurd (Eq.trans (Eq.symm (show x1 = 0 from (Decidable.not_not.mp c6))) e) (by decide)) c)))) (fun c => absurd (fun e : x1 = 1 => absurd (Eq.trans (Eq.symm (show x1 = 0 from (Decidable.not_not.mp c6))) e) (by decide)) c)))) (fun c26 => have v28 := v8.2 (Int.not_le.mp c26); (show wp mX11_set 0 rc rs Q 17 [some (vr 0), some (vi x1), some (vi x2), none] [] h from xGo k_X11_set_17 (And.intro (ll_0 hL) (Exists.intro 16 (And.intro (lg_0_9 hL) (And.intro (ll_16 hL) (And.intro rfl (And.intro (ll_0 hL) (Exists.intro 16 (And.intro (lg_0_9 hL) (And.intro (ll_16 hL) (show wp mX11_set 0 rc rs Q 94 [some (vr 0), some (vi x1), some (vi x2), some (vi (iH h 16 0))] [] (sI h 16 0 x2) from xI k_X11_set_94 (And.intro rfl v28))))))))))))))))))) (fun c2 => have v4 := hv.2 (Int.not_le.mp c2); (show wp mX11_set 0 rc rs Q 4 [some (vr 0), some (vi x1), some (vi x2), none] [] h from xI k_X11_set_4 (And.intro rfl v4)))))
theorem e_X11_set {mc ms : Nat} {Q : Option AV → AH → Prop} {h : AH} {x1 x2 : Int} (hL : LayL h) (hv : ((0 ≤ x2 → ((x1 ≠ 0 → ((x1 ≠ 1 → ((x1 ≠ 2 → Q (some (vi (-2))) h) ∧ (x1 = 2 → ((9999 < x2 → Q (some (vi (-2))) h) ∧ (x2 ≤ 9999 → Q (some (vi (iH h 0 11))) (sI h 0 11 x2)))))) ∧ (x1 = 1 → ((9 < x2 → Q (some (vi (-2))) h) ∧ (x2 ≤ 9 → Q (some (vi (iH h 16 1))) (sI h 16 1 x2)))))) ∧ (x1 = 0 → ((6 ≤ x2 → Q (some (vi (-2))) h) ∧ (x2 < 6 → Q (some (vi (iH h 16 0))) (sI h 16 0 x2)))))) ∧ (x2 < 0 → Q (some (vi (-2))) h))) : Ct 0 mc ms mX11_set [vr 0, vi x1, vi x2] h Q := Ct.of (by decide +kernel) (Nat.le_of_ble_eq_true rfl) (t_X11_set_0 hL hv)
def b_X11_leave_0 : List IE := [(.aload_n 0, 1, 0, 0, 0, 0), (.getfield 52, 3, 0, 11, 10, 1), (.getfield 251, 3, 0, 3, 0, 0)]
theorem k_X11_leave_0 : ckIf mX11_leave 11 0 b_X11_leave_0 7 1 6 13 10 = true := by decide +kernel
def b_X11_leave_10 : List IE := [(.bipush (-3), 2, (-3), 0, 0, 0)]
theorem k_X11_leave_10 : ckI mX11_leave 11 10 b_X11_leave_10 12 = true := by decide +kernel
def b_X11_leave_13 : List IE := [(.aload_n 0, 1, 0, 0, 0, 0), (.getfield 52, 3, 0, 11, 10, 1), (.iconst 0, 1, 0, 0, 0, 0), (.putfield 251, 3, 0, 3, 0, 2), (.iconst 1, 1, 1, 0, 0, 0)]
theorem k_X11_leave_13 : ckI mX11_leave 11 13 b_X11_leave_13 22 = true := by decide +kernel
theorem t_X11_leave_0 {rc rs : Nat} {Q : Option AV → AH → Prop} {h : AH}  (hL : LayL h) (hv : (((iH h 17 0) ≠ 0 → Q (some (vi 1)) (sI h 17 0 0)) ∧ ((iH h 17 0) = 0 → Q (some (vi (-3))) h))) : wp mX11_leave 0 rc rs Q 0 [some (vr 0)] [] h :=
  (show wp mX11_leave 0 rc rs Q 0 [some (vr 0)] [] h from xIf k_X11_leave_0 (And.intro (ll_0 hL) (Exists.intro 17 (And.intro (lg_0_10 hL) (And.intro (ll_17 hL) (And.intro (fun c1 => have v3 := hv.1 c1; (show wp mX11_leave 0 rc rs Q 13 [some (vr 0)] [] h from xI k_X11_leave_13 (And.intro (ll_0 hL) (Exists.intro 17 (And.intro (lg_0_10 hL) (And.intro (ll_17 hL) (And.intro (Or.inl rfl) (And.intro rfl v3)))))))) (fun c2 => have v4 := hv.2 (Decidable.not_not.mp c2); (show wp mX11_leave 0 rc rs Q 10 [some (vr 0)] [] h from xI k_X11_leave_10 (And.intro rfl v4)))))))))
theorem e_X11_leave {mc ms : Nat} {Q : Option AV → AH → Prop} {h : AH}  (hL : LayL h) (hv : (((iH h 17 0) ≠ 0 → Q (some (vi 1)) (sI h 17 0 0)) ∧ ((iH h 17 0) = 0 → Q (some (vi (-3))) h))) : Ct 0 mc ms mX11_leave [vr 0] h Q := Ct.of (by decide +kernel) (Nat.le_of_ble_eq_true rfl) (t_X11_leave_0 hL hv)
def kL (h g : AH) : Prop := (iH h 21 0 = iH g 89 46 ∧ 0 ≤ iH g 89 46) ∧ (iH h 21 2 = min (iH g 89 47) 8 ∧ 0 ≤ iH g 89 47) ∧ ∀ k : Nat, k < 8 → (k : Int) < iH g 89 47 → iH h 22 k = iH g 1181 (iH g 89 47 - 1 - k).toNat
def kSe (h g : AH) : Prop := iH h 0 8 = iH g 89 5 ∧ 0 ≤ iH g 89 5 ∧ iH g 89 5 ≤ 520
theorem nowOf {h g : AH} {da sa : Nat → Nat} (hc : cRd h g da sa) : m_now g := ⟨hc.2.2.2.1, fun s hs => by
  obtain ⟨x, e1, e2, e3, ⟨m1, _⟩, e5⟩ := now_seg hc (s := s) (by omega)
  rw [Int.toNat_natCast] at e1
  rw [e1]
  exact m1.1.1⟩
theorem l_count {h g : AH} {da sa : Nat → Nat} (hL : LayL h) {w : Int} (hk : kHd h g da sa) (hI : kI g) (hs : kSe h g) (hb : cBuf h g da) (hq : iH h 0 13 = iH g 89 30) (ht : cTape h g) (hm : iH h 17 0 = iH g 89 24) (hl : kL h g) : Ct 3 0 0 mX11_count [vr 0, vi w] h (QI fun x h' => x = a_count g w ∧ h' = h) := by
  obtain ⟨hc, hv, hf⟩ := hk
  have hn : iH h 5 2 = iH g 89 13 := hc.2.2.1
  have h8 := hc.2.2.2.1
  have hb1 := hb.1
  have hb2 := hb.2.1
  have hlv : -1000 ≤ m_liveIn g 0 (iH g 89 13) ∧ m_liveIn g 0 (iH g 89 13) ≤ 1000 := by
    have := m_liveIn_bd (h := g) (m_rng_all (nowOf hc))
    omega
  obtain ⟨⟨l1, l2⟩, ⟨l3, l4⟩, l5⟩ := hl
  refine e_X11_count (g := g) (da := da) (sa := sa) hL ?_
  rw [hn, hb1, Int.sub_zero]
  refine ⟨fun c0 => ⟨⟨rfl, hc, by omega, by omega, by omega⟩, by omega, _, rfl, ?_, rfl⟩, fun c0 => ⟨fun c1 => ⟨_, rfl, ?_, rfl⟩, fun c1 => ⟨fun c2 => ⟨_, rfl, ?_, rfl⟩, fun c2 => ⟨fun c3 => ⟨⟨⟨hc, hv, hf⟩, hI, hs.2⟩, _, rfl, ?_, rfl⟩, fun c3 => ⟨fun c4 => ⟨_, rfl, ?_, rfl⟩, fun c4 => ⟨fun c5 => ⟨hf, _, rfl, ?_, rfl⟩, fun c5 => ⟨fun c6 => ⟨_, rfl, ?_, rfl⟩, fun c6 => ⟨fun c7 => ⟨_, rfl, ?_, rfl⟩, fun c7 => ⟨fun c8 => ⟨fun d => ⟨_, rfl, ?_, rfl⟩, fun d => ⟨_, rfl, ?_, rfl⟩⟩, fun c8 => ⟨fun c9 => ⟨_, rfl, ?_, rfl⟩, fun c9 => ⟨fun c10 => ⟨_, rfl, ?_, rfl⟩, fun c10 => ⟨fun c18 => ⟨_, rfl, ?_, rfl⟩, fun c18 => ⟨by omega, by omega, _, rfl, ?_, rfl⟩⟩⟩⟩⟩⟩⟩⟩⟩⟩⟩⟩⟩
  · unfold a_count; rw [if_pos c0]; rfl
  · unfold a_count; rw [if_neg c0, if_pos c1]
  · unfold a_count; rw [if_neg c0, if_neg c1, if_pos c2]
  · unfold a_count; rw [if_neg c0, if_neg c1, if_neg c2, if_pos c3]
  · unfold a_count; rw [if_neg c0, if_neg c1, if_neg c2, if_neg c3, if_pos c4]; exact (hv 5 (by omega)).1
  · unfold a_count; rw [if_neg c0, if_neg c1, if_neg c2, if_neg c3, if_neg c4, if_pos c5]
  · unfold a_count; rw [if_neg c0, if_neg c1, if_neg c2, if_neg c3, if_neg c4, if_neg c5, if_pos c6]; exact hq
  · unfold a_count; rw [if_neg c0, if_neg c1, if_neg c2, if_neg c3, if_neg c4, if_neg c5, if_neg c6, if_pos c7]; exact ht.1
  · rw [hm] at d; unfold a_count; rw [if_neg c0, if_neg c1, if_neg c2, if_neg c3, if_neg c4, if_neg c5, if_neg c6, if_neg c7, if_pos c8, if_pos d]
  · rw [hm] at d; unfold a_count; rw [if_neg c0, if_neg c1, if_neg c2, if_neg c3, if_neg c4, if_neg c5, if_neg c6, if_neg c7, if_pos c8, if_neg d]
  · unfold a_count; rw [if_neg c0, if_neg c1, if_neg c2, if_neg c3, if_neg c4, if_neg c5, if_neg c6, if_neg c7, if_neg c8, if_pos c9]; exact l1
  · unfold a_count; rw [if_neg c0, if_neg c1, if_neg c2, if_neg c3, if_neg c4, if_neg c5, if_neg c6, if_neg c7, if_neg c8, if_neg c9, if_neg (show ¬ (10 ≤ w ∧ w ≤ 17) by omega)]
  · unfold a_count; rw [if_neg c0, if_neg c1, if_neg c2, if_neg c3, if_neg c4, if_neg c5, if_neg c6, if_neg c7, if_neg c8, if_neg c9, if_neg (show ¬ (10 ≤ w ∧ w ≤ 17) by omega)]
  · unfold a_count; rw [if_neg c0, if_neg c1, if_neg c2, if_neg c3, if_neg c4, if_neg c5, if_neg c6, if_neg c7, if_neg c8, if_neg c9, if_pos (show 10 ≤ w ∧ w ≤ 17 by omega)]
    by_cases e : iH g 89 47 ≤ w - 10
    · rw [if_pos e, if_neg (show ¬ (0 ≤ w - 10 ∧ w - 10 < iH h 21 2) by omega)]
    · rw [if_neg e, if_pos (show 0 ≤ w - 10 ∧ w - 10 < iH h 21 2 by omega), l5 (w - 10).toNat (by omega) (by omega)]
      congr 1
      omega
def kPo (h g : AH) : Prop := cPol h g ∧ iH h 0 11 = iH g 89 23 ∧ 0 ≤ iH g 89 23 ∧ iH g 89 23 ≤ 9999
def r_set (h g : AH) (w v x : Int) (h' g' : AH) : Prop := p_set g w v x g' ∧ kPo h' g' ∧ ((h' = sI h 16 0 v ∧ g' = sI g 89 21 v) ∨ (h' = sI h 16 1 v ∧ g' = sI g 89 22 v) ∨ (h' = sI h 0 11 v ∧ g' = sI g 89 23 v) ∨ (h' = h ∧ g' = g))
theorem l_set {h g : AH} (hL : LayL h) {w v : Int} (hp : kPo h g) : Ct 0 0 0 mX11_set [vr 0, vi w, vi v] h (QI fun x h' => ∃ g', r_set h g w v x h' g') := by
  obtain ⟨⟨q1, q2, q3, q4⟩, q5, q6⟩ := hp
  have bad : ¬ ((w = 0 ∧ 0 ≤ v ∧ v ≤ 5) ∨ (w = 1 ∧ 0 ≤ v ∧ v ≤ 9) ∨ (w = 2 ∧ 0 ≤ v ∧ v ≤ 9999)) → QI (fun x h' => ∃ g', r_set h g w v x h' g') (some (vi (-2))) h := fun u => ⟨_, rfl, g, Or.inr (Or.inr (Or.inr ⟨u, rfl, rfl⟩)), ⟨⟨q1, q2, q3, q4⟩, q5, q6⟩, Or.inr (Or.inr (Or.inr ⟨rfl, rfl⟩))⟩
  refine e_X11_set hL ⟨fun c => ⟨fun c1 => ⟨fun c2 => ⟨fun c3 => bad (by omega), fun c3 => ⟨fun c4 => bad (by omega), fun c4 => ⟨_, rfl, sI g 89 23 v, Or.inr (Or.inr (Or.inl ⟨c3, c, c4, q5, rfl⟩)), ⟨⟨q1, q2, q3, q4⟩, ?_⟩, Or.inr (Or.inr (Or.inl ⟨rfl, rfl⟩))⟩⟩⟩, fun c2 => ⟨fun c4 => bad (by omega), fun c4 => ⟨_, rfl, sI g 89 22 v, Or.inr (Or.inl ⟨c2, c, c4, q3, rfl⟩), ⟨⟨q1, q2, ?_⟩, q5, q6⟩, Or.inr (Or.inl ⟨rfl, rfl⟩)⟩⟩⟩, fun c1 => ⟨fun c4 => bad (by omega), fun c4 => ⟨_, rfl, sI g 89 21 v, Or.inl ⟨c1, c, by omega, q1, rfl⟩, ⟨⟨?_, ?_, q3, q4⟩, q5, q6⟩, Or.inl ⟨rfl, rfl⟩⟩⟩⟩, fun c => bad (by omega)⟩
  · rw [rI_same, rI_same]; exact ⟨rfl, c, c4⟩
  · rw [rI_same, rI_same]; exact ⟨rfl, c, c4⟩
  · rw [rI_same, rI_same]
  · rw [rI_same]; exact ⟨c, by omega⟩
theorem l_leave {h g : AH} (hL : LayL h) (hm : iH h 17 0 = iH g 89 24) : Ct 0 0 0 mX11_leave [vr 0] h (QI fun x h' => (iH g 89 24 ≠ 0 ∧ x = 1 ∧ h' = sI h 17 0 0) ∨ (iH g 89 24 = 0 ∧ x = -3 ∧ h' = h)) := by
  refine e_X11_leave hL ?_
  rw [hm]
  exact ⟨fun c => ⟨_, rfl, Or.inl ⟨c, rfl, rfl⟩⟩, fun c => ⟨_, rfl, Or.inr ⟨c, rfl, rfl⟩⟩⟩
def b_X11_feed_0 : List IE := [(.iload_n 1, 1, 0, 0, 1, 0), (.iconst 1, 1, 1, 0, 0, 0)]
theorem k_X11_feed_0 : ckIc mX11_feed 11 0 b_X11_feed_0 2 2 8 10 5 = true := by decide +kernel
def b_X11_feed_5 : List IE := [(.iload_n 1, 1, 0, 0, 1, 0), (.iconst 5, 1, 5, 0, 0, 0)]
theorem k_X11_feed_5 : ckIc mX11_feed 11 5 b_X11_feed_5 7 5 6 13 10 = true := by decide +kernel
def b_X11_feed_10 : List IE := [(.bipush (-2), 2, (-2), 0, 0, 0)]
theorem k_X11_feed_10 : ckI mX11_feed 11 10 b_X11_feed_10 12 = true := by decide +kernel
def b_X11_feed_13 : List IE := [(.iload_n 2, 1, 0, 0, 2, 0)]
theorem k_X11_feed_13 : ckB mX11_feed 11 13 b_X11_feed_13 14 = true := by decide +kernel
def b_X11_feed_17 : List IE := []
theorem k_X11_feed_17 : ckIf mX11_feed 11 17 b_X11_feed_17 17 0 34 51 20 = true := by decide +kernel
def b_X11_feed_20 : List IE := [(.iload_n 3, 1, 0, 0, 3, 0)]
theorem k_X11_feed_20 : ckB mX11_feed 11 20 b_X11_feed_20 21 = true := by decide +kernel
def b_X11_feed_24 : List IE := []
theorem k_X11_feed_24 : ckIf mX11_feed 11 24 b_X11_feed_24 24 0 27 51 27 = true := by decide +kernel
def b_X11_feed_27 : List IE := [(.iload 4, 2, 0, 0, 4, 0)]
theorem k_X11_feed_27 : ckB mX11_feed 11 27 b_X11_feed_27 29 = true := by decide +kernel
def b_X11_feed_32 : List IE := []
theorem k_X11_feed_32 : ckIf mX11_feed 11 32 b_X11_feed_32 32 0 19 51 35 = true := by decide +kernel
def b_X11_feed_35 : List IE := [(.iload 5, 2, 0, 0, 5, 0)]
theorem k_X11_feed_35 : ckB mX11_feed 11 35 b_X11_feed_35 37 = true := by decide +kernel
def b_X11_feed_40 : List IE := []
theorem k_X11_feed_40 : ckIf mX11_feed 11 40 b_X11_feed_40 40 0 11 51 43 = true := by decide +kernel
def b_X11_feed_43 : List IE := [(.iload 6, 2, 0, 0, 6, 0)]
theorem k_X11_feed_43 : ckB mX11_feed 11 43 b_X11_feed_43 45 = true := by decide +kernel
def b_X11_feed_48 : List IE := []
theorem k_X11_feed_48 : ckIf mX11_feed 11 48 b_X11_feed_48 48 1 6 54 51 = true := by decide +kernel
def b_X11_feed_51 : List IE := [(.bipush (-2), 2, (-2), 0, 0, 0)]
theorem k_X11_feed_51 : ckI mX11_feed 11 51 b_X11_feed_51 53 = true := by decide +kernel
def b_X11_feed_54 : List IE := [(.aload_n 0, 1, 0, 0, 0, 0), (.getfield 10, 3, 0, 11, 0, 1), (.getfield 112, 3, 0, 10, 1, 0), (.iload_n 1, 1, 0, 0, 1, 0), (.iadd, 1, 0, 0, 0, 0), (.bipush 64, 2, 64, 0, 0, 0)]
theorem k_X11_feed_54 : ckIc mX11_feed 11 54 b_X11_feed_54 65 5 6 71 68 = true := by decide +kernel
def b_X11_feed_68 : List IE := [(.bipush (-4), 2, (-4), 0, 0, 0)]
theorem k_X11_feed_68 : ckI mX11_feed 11 68 b_X11_feed_68 70 = true := by decide +kernel
def b_X11_feed_71 : List IE := [(.aload_n 0, 1, 0, 0, 0, 0), (.getfield 10, 3, 0, 11, 0, 1), (.iload_n 2, 1, 0, 0, 2, 0)]
theorem k_X11_feed_71 : ckB mX11_feed 11 71 b_X11_feed_71 76 = true := by decide +kernel
def b_X11_feed_79 : List IE := [(.iload_n 1, 1, 0, 0, 1, 0), (.iconst 1, 1, 1, 0, 0, 0)]
theorem k_X11_feed_79 : ckIc mX11_feed 11 79 b_X11_feed_79 81 5 11 92 84 = true := by decide +kernel
def b_X11_feed_84 : List IE := [(.aload_n 0, 1, 0, 0, 0, 0), (.getfield 10, 3, 0, 11, 0, 1), (.iload_n 3, 1, 0, 0, 3, 0)]
theorem k_X11_feed_84 : ckB mX11_feed 11 84 b_X11_feed_84 89 = true := by decide +kernel
def b_X11_feed_92 : List IE := [(.iload_n 1, 1, 0, 0, 1, 0), (.iconst 2, 1, 2, 0, 0, 0)]
theorem k_X11_feed_92 : ckIc mX11_feed 11 92 b_X11_feed_92 94 5 12 106 97 = true := by decide +kernel
def b_X11_feed_97 : List IE := [(.aload_n 0, 1, 0, 0, 0, 0), (.getfield 10, 3, 0, 11, 0, 1), (.iload 4, 2, 0, 0, 4, 0)]
theorem k_X11_feed_97 : ckB mX11_feed 11 97 b_X11_feed_97 103 = true := by decide +kernel
def b_X11_feed_106 : List IE := [(.iload_n 1, 1, 0, 0, 1, 0), (.iconst 3, 1, 3, 0, 0, 0)]
theorem k_X11_feed_106 : ckIc mX11_feed 11 106 b_X11_feed_106 108 5 12 120 111 = true := by decide +kernel
def b_X11_feed_111 : List IE := [(.aload_n 0, 1, 0, 0, 0, 0), (.getfield 10, 3, 0, 11, 0, 1), (.iload 5, 2, 0, 0, 5, 0)]
theorem k_X11_feed_111 : ckB mX11_feed 11 111 b_X11_feed_111 117 = true := by decide +kernel
def b_X11_feed_120 : List IE := [(.iload_n 1, 1, 0, 0, 1, 0), (.iconst 4, 1, 4, 0, 0, 0)]
theorem k_X11_feed_120 : ckIc mX11_feed 11 120 b_X11_feed_120 122 5 12 134 125 = true := by decide +kernel
def b_X11_feed_125 : List IE := [(.aload_n 0, 1, 0, 0, 0, 0), (.getfield 10, 3, 0, 11, 0, 1), (.iload 6, 2, 0, 0, 6, 0)]
theorem k_X11_feed_125 : ckB mX11_feed 11 125 b_X11_feed_125 131 = true := by decide +kernel
def b_X11_feed_134 : List IE := [(.aload_n 0, 1, 0, 0, 0, 0), (.getfield 10, 3, 0, 11, 0, 1), (.getfield 112, 3, 0, 10, 1, 0)]
theorem k_X11_feed_134 : ckI mX11_feed 11 134 b_X11_feed_134 141 = true := by decide +kernel
theorem s_X11_feed_14 : cS mX11_feed 14 mX11_isByte 108 1 := ⟨by decide +kernel, ⟨ml_X11_isByte, li_RX11_108, st_X11_isByte⟩, by decide +kernel⟩
theorem s_X11_feed_21 : cS mX11_feed 21 mX11_isByte 108 1 := ⟨by decide +kernel, ⟨ml_X11_isByte, li_RX11_108, st_X11_isByte⟩, by decide +kernel⟩
theorem s_X11_feed_29 : cS mX11_feed 29 mX11_isByte 108 1 := ⟨by decide +kernel, ⟨ml_X11_isByte, li_RX11_108, st_X11_isByte⟩, by decide +kernel⟩
theorem s_X11_feed_37 : cS mX11_feed 37 mX11_isByte 108 1 := ⟨by decide +kernel, ⟨ml_X11_isByte, li_RX11_108, st_X11_isByte⟩, by decide +kernel⟩
theorem s_X11_feed_45 : cS mX11_feed 45 mX11_isByte 108 1 := ⟨by decide +kernel, ⟨ml_X11_isByte, li_RX11_108, st_X11_isByte⟩, by decide +kernel⟩
theorem s_X11_feed_76 : cV mX11_feed 76 mX10_append 115 1 10 := ⟨by decide +kernel, ⟨ml_X10_append, li_RX11_115, im_X10_append, se_X10_append⟩, ⟨by decide +kernel, by decide +kernel⟩, by decide +kernel⟩
theorem s_X11_feed_89 : cV mX11_feed 89 mX10_append 115 1 10 := ⟨by decide +kernel, ⟨ml_X10_append, li_RX11_115, im_X10_append, se_X10_append⟩, ⟨by decide +kernel, by decide +kernel⟩, by decide +kernel⟩
theorem s_X11_feed_103 : cV mX11_feed 103 mX10_append 115 1 10 := ⟨by decide +kernel, ⟨ml_X10_append, li_RX11_115, im_X10_append, se_X10_append⟩, ⟨by decide +kernel, by decide +kernel⟩, by decide +kernel⟩
theorem s_X11_feed_117 : cV mX11_feed 117 mX10_append 115 1 10 := ⟨by decide +kernel, ⟨ml_X10_append, li_RX11_115, im_X10_append, se_X10_append⟩, ⟨by decide +kernel, by decide +kernel⟩, by decide +kernel⟩
theorem s_X11_feed_131 : cV mX11_feed 131 mX10_append 115 1 10 := ⟨by decide +kernel, ⟨ml_X10_append, li_RX11_115, im_X10_append, se_X10_append⟩, ⟨by decide +kernel, by decide +kernel⟩, by decide +kernel⟩
theorem t_X11_feed_0 {rc rs : Nat} {Q : Option AV → AH → Prop} {h : AH} {x1 x2 x3 x4 x5 x6 : Int} (hL : LayL h) (hv : ((x1 < 1 → Q (some (vi (-2))) h) ∧ (1 ≤ x1 → ((x1 ≤ 5 → ((¬ (0 ≤ x2 ∧ x2 ≤ 255) → Q (some (vi (-2))) h) ∧ ((0 ≤ x2 ∧ x2 ≤ 255) → ((¬ (0 ≤ x3 ∧ x3 ≤ 255) → Q (some (vi (-2))) h) ∧ ((0 ≤ x3 ∧ x3 ≤ 255) → ((¬ (0 ≤ x4 ∧ x4 ≤ 255) → Q (some (vi (-2))) h) ∧ ((0 ≤ x4 ∧ x4 ≤ 255) → ((¬ (0 ≤ x5 ∧ x5 ≤ 255) → Q (some (vi (-2))) h) ∧ ((0 ≤ x5 ∧ x5 ≤ 255) → (((0 ≤ x6 ∧ x6 ≤ 255) → (-2147483648 ≤ (iH h 1 1 + x1) ∧ (iH h 1 1 + x1) < 2147483648) ∧ (((iH h 1 1 + x1) ≤ 64 → (0 ≤ iH h 1 1 ∧ iH h 1 1 < 64) ∧ LayL (sI (sI h 2 (iH h 1 1).toNat x2) 1 1 (iH h 1 1 + 1)) ∧ wp mX11_feed 1 rc rs Q 79 [some (vr 0), some (vi x1), none, some (vi x3), some (vi x4), some (vi x5), some (vi x6)] [] (sI (sI h 2 (iH h 1 1).toNat x2) 1 1 (iH h 1 1 + 1))) ∧ (64 < (iH h 1 1 + x1) → Q (some (vi (-4))) h))) ∧ (¬ (0 ≤ x6 ∧ x6 ≤ 255) → Q (some (vi (-2))) h))))))))))) ∧ (5 < x1 → Q (some (vi (-2))) h))))) : wp mX11_feed 1 rc rs Q 0 [some (vr 0), some (vi x1), some (vi x2), some (vi x3), some (vi x4), some (vi x5), some (vi x6)] [] h :=
  (show wp mX11_feed 1 rc rs Q 0 [some (vr 0), some (vi x1), some (vi x2), some (vi x3), some (vi x4), some (vi x5), some (vi x6)] [] h from xIc k_X11_feed_0 (And.intro (fun c1 => have v3 := hv.1 c1; (show wp mX11_feed 1 rc rs Q 10 [some (vr 0), some (vi x1), some (vi x2), some (vi x3), some (vi x4), some (vi x5), some (vi x6)] [] h from xI k_X11_feed_10 (And.intro rfl v3))) (fun c2 => have v4 := hv.2 (Int.not_lt.mp c2); (show wp mX11_feed 1 rc rs Q 5 [some (vr 0), some (vi x1), some (vi x2), some (vi x3), some (vi x4), some (vi x5), some (vi x6)] [] h from xIc k_X11_feed_5 (And.intro (fun c5 => have v7 := v4.1 c5; (show wp mX11_feed 1 rc rs Q 13 [some (vr 0), some (vi x1), some (vi x2), some (vi x3), some (vi x4), some (vi x5), some (vi x6)] [] h from xcS k_X11_feed_13 s_X11_feed_14 ((Exists.intro [vi x2] (Exists.intro [] (And.intro (And.intro rfl (And.intro rfl (Nat.le_of_ble_eq_true rfl))) (Exists.intro 0 (Exists.intro 0 (Exists.intro 0 (Exists.intro _ (And.intro l_isByte (And.intro (And.intro (by decide) (And.intro (Nat.zero_le _) (Nat.zero_le _))) (eQP (show wp mX11_feed 1 rc rs Q 17 [some (vr 0), some (vi x1), some (vi x2), some (vi x3), some (vi x4), some (vi x5), some (vi x6)] [vi (b01 (0 ≤ x2 ∧ x2 ≤ 255))] h from xIf k_X11_feed_17 (And.intro (fun c9 => have v11 := v7.1 (b01_n.mp c9); (show wp mX11_feed 1 rc rs Q 51 [some (vr 0), some (vi x1), some (vi x2), some (vi x3), some (vi x4), some (vi x5), some (vi x6)] [] h from xI k_X11_feed_51 (And.intro rfl v11))) (fun c10 => have v12 := v7.2 (b01_p.mp c10); (show wp mX11_feed 1 rc rs Q 20 [some (vr 0), some (vi x1), some (vi x2), some (vi x3), some (vi x4), some (vi x5), some (vi x6)] [] h from xcS k_X11_feed_20 s_X11_feed_21 ((Exists.intro [vi x3] (Exists.intro [] (And.intro (And.intro rfl (And.intro rfl (Nat.le_of_ble_eq_true rfl))) (Exists.intro 0 (Exists.intro 0 (Exists.intro 0 (Exists.intro _ (And.intro l_isByte (And.intro (And.intro (by decide) (And.intro (Nat.zero_le _) (Nat.zero_le _))) (eQP (show wp mX11_feed 1 rc rs Q 24 [some (vr 0), some (vi x1), some (vi x2), some (vi x3), some (vi x4), some (vi x5), some (vi x6)] [vi (b01 (0 ≤ x3 ∧ x3 ≤ 255))] h from xIf k_X11_feed_24 (And.intro (fun c13 => have v15 := v12.1 (b01_n.mp c13); (show wp mX11_feed 1 rc rs Q 51 [some (vr 0), some (vi x1), some (vi x2), some (vi x3), some (vi x4), some (vi x5), some (vi x6)] [] h from xI k_X11_feed_51 (And.intro rfl v15))) (fun c14 => have v16 := v12.2 (b01_p.mp c14); (show wp mX11_feed 1 rc rs Q 27 [some (vr 0), some (vi x1), some (vi x2), some (vi x3), some (vi x4), some (vi x5), some (vi x6)] [] h from xcS k_X11_feed_27 s_X11_feed_29 ((Exists.intro [vi x4] (Exists.intro [] (And.intro (And.intro rfl (And.intro rfl (Nat.le_of_ble_eq_true rfl))) (Exists.intro 0 (Exists.intro 0 (Exists.intro 0 (Exists.intro _ (And.intro l_isByte (And.intro (And.intro (by decide) (And.intro (Nat.zero_le _) (Nat.zero_le _))) (eQP (show wp mX11_feed 1 rc rs Q 32 [some (vr 0), some (vi x1), some (vi x2), some (vi x3), some (vi x4), some (vi x5), some (vi x6)] [vi (b01 (0 ≤ x4 ∧ x4 ≤ 255))] h from xIf k_X11_feed_32 (And.intro (fun c17 => have v19 := v16.1 (b01_n.mp c17); (show wp mX11_feed 1 rc rs Q 51 [some (vr 0), some (vi x1), some (vi x2), some (vi x3), some (vi x4), some (vi x5), some (vi x6)] [] h from xI k_X11_feed_51 (And.intro rfl v19))) (fun c18 => have v20 := v16.2 (b01_p.mp c18); (show wp mX11_feed 1 rc rs Q 35 [some (vr 0), some (vi x1), some (vi x2), some (vi x3), some (vi x4), some (vi x5), some (vi x6)] [] h from xcS k_X11_feed_35 s_X11_feed_37 ((Exists.intro [vi x5] (Exists.intro [] (And.intro (And.intro rfl (And.intro rfl (Nat.le_of_ble_eq_true rfl))) (Exists.intro 0 (Exists.intro 0 (Exists.intro 0 (Exists.intro _ (And.intro l_isByte (And.intro (And.intro (by decide) (And.intro (Nat.zero_le _) (Nat.zero_le _))) (eQP (show wp mX11_feed 1 rc rs Q 40 [some (vr 0), some (vi x1), some (vi x2), some (vi x3), some (vi x4), some (vi x5), some (vi x6)] [vi (b01 (0 ≤ x5 ∧ x5 ≤ 255))] h from xIf k_X11_feed_40 (And.intro (fun c21 => have v23 := v20.1 (b01_n.mp c21); (show wp mX11_feed 1 rc rs Q 51 [some (vr 0), some (vi x1), some (vi x2), some (vi x3), some (vi x4), some (vi x5), some (vi x6)] [] h from xI k_X11_feed_51 (And.intro rfl v23))) (fun c22 => have v24 := v20.2 (b01_p.mp c22); (show wp mX11_feed 1 rc rs Q 43 [some (vr 0), some (vi x1), some (vi x2), some (vi x3), some (vi x4), some (vi x5), some (vi x6)] [] h from xcS k_X11_feed_43 s_X11_feed_45 ((Exists.intro [vi x6] (Exists.intro [] (And.intro (And.intro rfl (And.intro rfl (Nat.le_of_ble_eq_true rfl))) (Exists.intro 0 (Exists.intro 0 (Exists.intro 0 (Exists.intro _ (And.intro l_isByte (And.intro (And.intro (by decide) (And.intro (Nat.zero_le _) (Nat.zero_le _))) (eQP (show wp mX11_feed 1 rc rs Q 48 [some (vr 0), some (vi x1), some (vi x2), some (vi x3), some (vi x4), some (vi x5), some (vi x6)] [vi (b01 (0 ≤ x6 ∧ x6 ≤ 255))] h from xIf k_X11_feed_48 (And.intro (fun c25 => have v27 := v24.1 (b01_p.mp c25); (show wp mX11_feed 1 rc rs Q 54 [some (vr 0), some (vi x1), some (vi x2), some (vi x3), some (vi x4), some (vi x5), some (vi x6)] [] h from xIc k_X11_feed_54 (And.intro (ll_0 hL) (Exists.intro 1 (And.intro (lg_0_0 hL) (And.intro (ll_1 hL) (have c29 := v27.1; have v37 := v27.2; (And.intro c29 (And.intro (fun c30 => have v32 := v37.1 c30; (show wp mX11_feed 1 rc rs Q 71 [some (vr 0), some (vi x1), some (vi x2), some (vi x3), some (vi x4), some (vi x5), some (vi x6)] [] h from xcV k_X11_feed_71 s_X11_feed_76 (And.intro (ll_0 hL) (Exists.intro 1 (And.intro (lg_0_0 hL) (have c34 := v32.1; have v35 := v32.2; (Exists.intro [vi x2] (Exists.intro 1 (Exists.intro [] (And.intro (And.intro rfl (And.intro rfl (Nat.le_of_ble_eq_true rfl))) (And.intro (ll_1 hL) (Exists.intro 0 (Exists.intro 0 (Exists.intro 0 (Exists.intro _ (And.intro (l_append (h := h) hL c34) (And.intro (And.intro (by decide) (And.intro (Nat.zero_le _) (Nat.zero_le _))) (eQPV (have hL := v35.1; have v36 := v35.2; (w_fg [true, true, false, true, true, true, true] v36)))))))))))))))))))) (fun c31 => have v33 := v37.2 (Int.not_le.mp c31); (show wp mX11_feed 1 rc rs Q 68 [some (vr 0), some (vi x1), some (vi x2), some (vi x3), some (vi x4), some (vi x5), some (vi x6)] [] h from xI k_X11_feed_68 (And.intro rfl v33)))))))))))) (fun c26 => have v28 := v24.2 (b01_nn.mp c26); (show wp mX11_feed 1 rc rs Q 51 [some (vr 0), some (vi x1), some (vi x2), some (vi x3), some (vi x4), some (vi x5), some (vi x6)] [] h from xI k_X11_feed_51 (And.intro rfl v28)))))))))))))))))))))))))))))))))))))))))))))))))))))))))))))))))))))))))))))) (fun c6 => have v8 := v4.2 (Int.not_le.mp c6); (show wp mX11_feed 1 rc rs Q 10 [some (vr 0), some (vi x1), some (vi x2), some (vi x3), some (vi x4), some (vi x5), some (vi x6)] [] h from xI k_X11_feed_10 (And.intro rfl v8))))))))
theorem e_X11_feed {mc ms : Nat} {Q : Option AV → AH → Prop} {h : AH} {x1 x2 x3 x4 x5 x6 : Int} (hL : LayL h) (hv : ((x1 < 1 → Q (some (vi (-2))) h) ∧ (1 ≤ x1 → ((x1 ≤ 5 → ((¬ (0 ≤ x2 ∧ x2 ≤ 255) → Q (some (vi (-2))) h) ∧ ((0 ≤ x2 ∧ x2 ≤ 255) → ((¬ (0 ≤ x3 ∧ x3 ≤ 255) → Q (some (vi (-2))) h) ∧ ((0 ≤ x3 ∧ x3 ≤ 255) → ((¬ (0 ≤ x4 ∧ x4 ≤ 255) → Q (some (vi (-2))) h) ∧ ((0 ≤ x4 ∧ x4 ≤ 255) → ((¬ (0 ≤ x5 ∧ x5 ≤ 255) → Q (some (vi (-2))) h) ∧ ((0 ≤ x5 ∧ x5 ≤ 255) → (((0 ≤ x6 ∧ x6 ≤ 255) → (-2147483648 ≤ (iH h 1 1 + x1) ∧ (iH h 1 1 + x1) < 2147483648) ∧ (((iH h 1 1 + x1) ≤ 64 → (0 ≤ iH h 1 1 ∧ iH h 1 1 < 64) ∧ LayL (sI (sI h 2 (iH h 1 1).toNat x2) 1 1 (iH h 1 1 + 1)) ∧ wp mX11_feed 1 mc ms Q 79 [some (vr 0), some (vi x1), none, some (vi x3), some (vi x4), some (vi x5), some (vi x6)] [] (sI (sI h 2 (iH h 1 1).toNat x2) 1 1 (iH h 1 1 + 1))) ∧ (64 < (iH h 1 1 + x1) → Q (some (vi (-4))) h))) ∧ (¬ (0 ≤ x6 ∧ x6 ≤ 255) → Q (some (vi (-2))) h))))))))))) ∧ (5 < x1 → Q (some (vi (-2))) h))))) : Ct 1 mc ms mX11_feed [vr 0, vi x1, vi x2, vi x3, vi x4, vi x5, vi x6] h Q := Ct.of (by decide +kernel) (Nat.le_of_ble_eq_true rfl) (t_X11_feed_0 hL hv)
theorem t_X11_feed_79 {rc rs : Nat} {Q : Option AV → AH → Prop} {h : AH} {x1 x3 x4 x5 x6 : Int} (hL : LayL h) (hv : ((x1 ≤ 1 → wp mX11_feed 1 rc rs Q 92 [some (vr 0), some (vi x1), none, none, some (vi x4), some (vi x5), some (vi x6)] [] h) ∧ (1 < x1 → (0 ≤ iH h 1 1 ∧ iH h 1 1 < 64) ∧ LayL (sI (sI h 2 (iH h 1 1).toNat x3) 1 1 (iH h 1 1 + 1)) ∧ wp mX11_feed 1 rc rs Q 92 [some (vr 0), some (vi x1), none, none, some (vi x4), some (vi x5), some (vi x6)] [] (sI (sI h 2 (iH h 1 1).toNat x3) 1 1 (iH h 1 1 + 1))))) : wp mX11_feed 1 rc rs Q 79 [some (vr 0), some (vi x1), none, some (vi x3), some (vi x4), some (vi x5), some (vi x6)] [] h :=
  (show wp mX11_feed 1 rc rs Q 79 [some (vr 0), some (vi x1), none, some (vi x3), some (vi x4), some (vi x5), some (vi x6)] [] h from xIc k_X11_feed_79 (And.intro (fun c1 => have v3 := hv.1 c1; (w_fg [true, true, false, false, true, true, true] v3)) (fun c2 => have v4 := hv.2 (Int.not_le.mp c2); (show wp mX11_feed 1 rc rs Q 84 [some (vr 0), some (vi x1), none, some (vi x3), some (vi x4), some (vi x5), some (vi x6)] [] h from xcV k_X11_feed_84 s_X11_feed_89 (And.intro (ll_0 hL) (Exists.intro 1 (And.intro (lg_0_0 hL) (have c5 := v4.1; have v6 := v4.2; (Exists.intro [vi x3] (Exists.intro 1 (Exists.intro [] (And.intro (And.intro rfl (And.intro rfl (Nat.le_of_ble_eq_true rfl))) (And.intro (ll_1 hL) (Exists.intro 0 (Exists.intro 0 (Exists.intro 0 (Exists.intro _ (And.intro (l_append (h := h) hL c5) (And.intro (And.intro (by decide) (And.intro (Nat.zero_le _) (Nat.zero_le _))) (eQPV (have hL := v6.1; have v7 := v6.2; (w_fg [true, true, false, false, true, true, true] v7))))))))))))))))))))))
theorem t_X11_feed_92 {rc rs : Nat} {Q : Option AV → AH → Prop} {h : AH} {x1 x4 x5 x6 : Int} (hL : LayL h) (hv : ((x1 ≤ 2 → wp mX11_feed 1 rc rs Q 106 [some (vr 0), some (vi x1), none, none, none, some (vi x5), some (vi x6)] [] h) ∧ (2 < x1 → (0 ≤ iH h 1 1 ∧ iH h 1 1 < 64) ∧ LayL (sI (sI h 2 (iH h 1 1).toNat x4) 1 1 (iH h 1 1 + 1)) ∧ wp mX11_feed 1 rc rs Q 106 [some (vr 0), some (vi x1), none, none, none, some (vi x5), some (vi x6)] [] (sI (sI h 2 (iH h 1 1).toNat x4) 1 1 (iH h 1 1 + 1))))) : wp mX11_feed 1 rc rs Q 92 [some (vr 0), some (vi x1), none, none, some (vi x4), some (vi x5), some (vi x6)] [] h :=
  (show wp mX11_feed 1 rc rs Q 92 [some (vr 0), some (vi x1), none, none, some (vi x4), some (vi x5), some (vi x6)] [] h from xIc k_X11_feed_92 (And.intro (fun c1 => have v3 := hv.1 c1; (w_fg [true, true, false, false, false, true, true] v3)) (fun c2 => have v4 := hv.2 (Int.not_le.mp c2); (show wp mX11_feed 1 rc rs Q 97 [some (vr 0), some (vi x1), none, none, some (vi x4), some (vi x5), some (vi x6)] [] h from xcV k_X11_feed_97 s_X11_feed_103 (And.intro (ll_0 hL) (Exists.intro 1 (And.intro (lg_0_0 hL) (have c5 := v4.1; have v6 := v4.2; (Exists.intro [vi x4] (Exists.intro 1 (Exists.intro [] (And.intro (And.intro rfl (And.intro rfl (Nat.le_of_ble_eq_true rfl))) (And.intro (ll_1 hL) (Exists.intro 0 (Exists.intro 0 (Exists.intro 0 (Exists.intro _ (And.intro (l_append (h := h) hL c5) (And.intro (And.intro (by decide) (And.intro (Nat.zero_le _) (Nat.zero_le _))) (eQPV (have hL := v6.1; have v7 := v6.2; (w_fg [true, true, false, false, false, true, true] v7))))))))))))))))))))))
theorem t_X11_feed_106 {rc rs : Nat} {Q : Option AV → AH → Prop} {h : AH} {x1 x5 x6 : Int} (hL : LayL h) (hv : ((x1 ≤ 3 → wp mX11_feed 1 rc rs Q 120 [some (vr 0), some (vi x1), none, none, none, none, some (vi x6)] [] h) ∧ (3 < x1 → (0 ≤ iH h 1 1 ∧ iH h 1 1 < 64) ∧ LayL (sI (sI h 2 (iH h 1 1).toNat x5) 1 1 (iH h 1 1 + 1)) ∧ wp mX11_feed 1 rc rs Q 120 [some (vr 0), some (vi x1), none, none, none, none, some (vi x6)] [] (sI (sI h 2 (iH h 1 1).toNat x5) 1 1 (iH h 1 1 + 1))))) : wp mX11_feed 1 rc rs Q 106 [some (vr 0), some (vi x1), none, none, none, some (vi x5), some (vi x6)] [] h :=
  (show wp mX11_feed 1 rc rs Q 106 [some (vr 0), some (vi x1), none, none, none, some (vi x5), some (vi x6)] [] h from xIc k_X11_feed_106 (And.intro (fun c1 => have v3 := hv.1 c1; (w_fg [true, true, false, false, false, false, true] v3)) (fun c2 => have v4 := hv.2 (Int.not_le.mp c2); (show wp mX11_feed 1 rc rs Q 111 [some (vr 0), some (vi x1), none, none, none, some (vi x5), some (vi x6)] [] h from xcV k_X11_feed_111 s_X11_feed_117 (And.intro (ll_0 hL) (Exists.intro 1 (And.intro (lg_0_0 hL) (have c5 := v4.1; have v6 := v4.2; (Exists.intro [vi x5] (Exists.intro 1 (Exists.intro [] (And.intro (And.intro rfl (And.intro rfl (Nat.le_of_ble_eq_true rfl))) (And.intro (ll_1 hL) (Exists.intro 0 (Exists.intro 0 (Exists.intro 0 (Exists.intro _ (And.intro (l_append (h := h) hL c5) (And.intro (And.intro (by decide) (And.intro (Nat.zero_le _) (Nat.zero_le _))) (eQPV (have hL := v6.1; have v7 := v6.2; (w_fg [true, true, false, false, false, false, true] v7))))))))))))))))))))))
theorem t_X11_feed_120 {rc rs : Nat} {Q : Option AV → AH → Prop} {h : AH} {x1 x6 : Int} (hL : LayL h) (hv : ((x1 ≤ 4 → wp mX11_feed 1 rc rs Q 134 [some (vr 0), none, none, none, none, none, none] [] h) ∧ (4 < x1 → (0 ≤ iH h 1 1 ∧ iH h 1 1 < 64) ∧ LayL (sI (sI h 2 (iH h 1 1).toNat x6) 1 1 (iH h 1 1 + 1)) ∧ wp mX11_feed 1 rc rs Q 134 [some (vr 0), none, none, none, none, none, none] [] (sI (sI h 2 (iH h 1 1).toNat x6) 1 1 (iH h 1 1 + 1))))) : wp mX11_feed 1 rc rs Q 120 [some (vr 0), some (vi x1), none, none, none, none, some (vi x6)] [] h :=
  (show wp mX11_feed 1 rc rs Q 120 [some (vr 0), some (vi x1), none, none, none, none, some (vi x6)] [] h from xIc k_X11_feed_120 (And.intro (fun c1 => have v3 := hv.1 c1; (w_fg [true, false, false, false, false, false, false] v3)) (fun c2 => have v4 := hv.2 (Int.not_le.mp c2); (show wp mX11_feed 1 rc rs Q 125 [some (vr 0), some (vi x1), none, none, none, none, some (vi x6)] [] h from xcV k_X11_feed_125 s_X11_feed_131 (And.intro (ll_0 hL) (Exists.intro 1 (And.intro (lg_0_0 hL) (have c5 := v4.1; have v6 := v4.2; (Exists.intro [vi x6] (Exists.intro 1 (Exists.intro [] (And.intro (And.intro rfl (And.intro rfl (Nat.le_of_ble_eq_true rfl))) (And.intro (ll_1 hL) (Exists.intro 0 (Exists.intro 0 (Exists.intro 0 (Exists.intro _ (And.intro (l_append (h := h) hL c5) (And.intro (And.intro (by decide) (And.intro (Nat.zero_le _) (Nat.zero_le _))) (eQPV (have hL := v6.1; have v7 := v6.2; (w_fg [true, false, false, false, false, false, false] v7))))))))))))))))))))))
theorem t_X11_feed_134 {rc rs : Nat} {Q : Option AV → AH → Prop} {h : AH}  (hL : LayL h) (hv : Q (some (vi (iH h 1 1))) h) : wp mX11_feed 1 rc rs Q 134 [some (vr 0), none, none, none, none, none, none] [] h :=
  (show wp mX11_feed 1 rc rs Q 134 [some (vr 0), none, none, none, none, none, none] [] h from xI k_X11_feed_134 (And.intro (ll_0 hL) (Exists.intro 1 (And.intro (lg_0_0 hL) (And.intro (ll_1 hL) (And.intro rfl hv))))))
def fT (h : AH) (s : Nat) (a b c d e : Int) (n k : Nat) : Int := if s ≤ k ∧ k < s + n then m_byt a b c d e (k - s) else iH h 2 k
def fedL (h : AH) (s : Nat) (a b c d e : Int) (n : Nat) : AH := sI (sW h 2 (fT h s a b c d e n)) 1 1 ((s : Int) + n)
theorem fedL_s {h : AH} {s n : Nat} {a b c d e v : Int} (hv : m_byt a b c d e n = v) : sI (sI (fedL h s a b c d e n) 2 (s + n) v) 1 1 ((s : Int) + (n : Int) + 1) = fedL h s a b c d e (n + 1) := by
  unfold fedL
  rw [sI_sI_ne (a := 1) (b := 2) (by decide), sI_sW (g' := fT h s a b c d e (n + 1)) (fun j => ?_), sI_sI]
  · rw [show (s : Int) + (n : Int) + 1 = (s : Int) + ((n + 1 : Nat) : Int) by omega]
  · unfold fT
    by_cases e1 : j = s + n
    · subst e1
      rw [if_pos (by omega), if_pos rfl, ← hv, show s + n - s = n by omega]
    · rw [if_neg e1]
      by_cases e2 : s ≤ j ∧ j < s + n
      · rw [if_pos (by omega), if_pos e2]
      · rw [if_neg (by omega), if_neg e2]
theorem fedL_r {h : AH} {s n : Nat} {a b c d e : Int} : iH (fedL h s a b c d e n) 1 1 = (s : Int) + n := rI_same
theorem fedL_L {h : AH} {s n : Nat} {a b c d e : Int} (hL : LayL h) : LayL (fedL h s a b c d e n) := hL
def r_feed (h g : AH) (n a b c d e x : Int) (h' g' : AH) : Prop := p_feed g n a b c d e x g' ∧ cTape h' g' ∧ ((h' = h ∧ g' = g) ∨ (m_fedOK n a b c d e ∧ h' = fedL h (iH g 89 18).toNat a b c d e n.toNat ∧ g' = m_fed g n a b c d e))
theorem l_feed {h g : AH} (hL : LayL h) {n a b c d e : Int} (hp : cTape h g) : Ct 1 0 0 mX11_feed [vr 0, vi n, vi a, vi b, vi c, vi d, vi e] h (QI fun x h' => ∃ g', r_feed h g n a b c d e x h' g') := by
  obtain ⟨t1, t2, t3⟩ := hp
  have bad : ¬ m_fedOK n a b c d e → QI (fun x h' => ∃ g', r_feed h g n a b c d e x h' g') (some (vi (-2))) h := fun q => ⟨_, rfl, g, Or.inl ⟨q, rfl, rfl⟩, ⟨t1, t2, t3⟩, Or.inl ⟨rfl, rfl⟩⟩
  obtain ⟨s, hs⟩ := Int.eq_ofNat_of_zero_le t2.1
  have e0 : iH h 1 1 = (s : Int) := by rw [t1, hs]
  refine e_X11_feed hL ⟨fun c0 => bad fun q => by have := q.1; omega, fun c0 => ⟨fun c0' => ⟨fun c1 => bad fun q => c1 q.2.1, fun c1 => ⟨fun c2 => bad fun q => c2 q.2.2.1, fun c2 => ⟨fun c3 => bad fun q => c3 q.2.2.2.1, fun c3 => ⟨fun c4 => bad fun q => c4 q.2.2.2.2.1, fun c4 => ⟨fun c5 => ?_, fun c5 => bad fun q => c5 q.2.2.2.2.2⟩⟩⟩⟩⟩, fun c0' => bad fun q => by have := q.1; omega⟩⟩
  have ok : m_fedOK n a b c d e := ⟨⟨c0, c0'⟩, c1, c2, c3, c4, c5⟩
  refine ⟨by omega, fun c6 => ⟨by omega, ?_⟩, fun c6 => ⟨_, rfl, g, Or.inr (Or.inl ⟨ok, by omega, rfl, rfl⟩), ⟨t1, t2, t3⟩, Or.inl ⟨rfl, rfl⟩⟩⟩
  have z : h = fedL h s a b c d e 0 := by
    unfold fedL
    rw [sW_id (fun k => by unfold fT; rw [if_neg (by omega)])]
    rw [sI_W]
    exact (sW_id fun k => by
      by_cases q : k = 1
      · subst q; rw [if_pos rfl, e0]; rfl
      · rw [if_neg q]).symm
  have st : ∀ (j : Nat) (v : Int), m_byt a b c d e j = v → (j : Int) < n → (0 ≤ iH (fedL h s a b c d e j) 1 1 ∧ iH (fedL h s a b c d e j) 1 1 < 64) ∧ sI (sI (fedL h s a b c d e j) 2 (iH (fedL h s a b c d e j) 1 1).toNat v) 1 1 (iH (fedL h s a b c d e j) 1 1 + 1) = fedL h s a b c d e (j + 1) := fun j v hv hj => by
    rw [fedL_r, show ((s : Int) + (j : Int)).toNat = s + j by omega]
    exact ⟨by omega, fedL_s hv⟩
  have fin : (QI fun x h' => ∃ g', r_feed h g n a b c d e x h' g') (some (vi (iH (fedL h s a b c d e n.toNat) 1 1))) (fedL h s a b c d e n.toNat) := by
    refine ⟨_, rfl, m_fed g n a b c d e, Or.inr (Or.inr ⟨ok, by omega, by rw [fedL_r]; omega, rfl⟩), ⟨?_, ?_, fun k hk => ?_⟩, Or.inr ⟨ok, by rw [hs]; rfl, rfl⟩⟩
    · rw [fedL_r]; unfold m_fed; rw [rI_same]; omega
    · unfold m_fed; rw [rI_same]; omega
    · unfold d_n m_fed at hk
      rw [rI_same] at hk
      unfold fedL m_fed
      rw [rI_ne (by decide), rW_same, rI_ne (by decide), rW_same]
      unfold fT m_fedT
      rw [hs, Int.toNat_natCast]
      by_cases q : s ≤ k ∧ k < s + n.toNat
      · rw [if_pos q, if_pos q]
      · rw [if_neg q, if_neg q]
        exact t3 k (by unfold d_n; omega)
  have f5 : ∀ j : Nat, j = n.toNat → wp mX11_feed 1 0 0 (QI fun x h' => ∃ g', r_feed h g n a b c d e x h' g') 134 [some (vr 0), none, none, none, none, none, none] [] (fedL h s a b c d e j) := fun j hj => by
    subst hj
    exact t_X11_feed_134 (fedL_L hL) fin
  have f4 : ∀ j : Nat, j = min n.toNat 4 → wp mX11_feed 1 0 0 (QI fun x h' => ∃ g', r_feed h g n a b c d e x h' g') 120 [some (vr 0), some (vi n), none, none, none, none, some (vi e)] [] (fedL h s a b c d e j) := fun j hj => by
    refine t_X11_feed_120 (fedL_L hL) ⟨fun q => f5 j (by omega), fun q => ?_⟩
    obtain ⟨u1, u2⟩ := st j e (by rw [show j = 4 by omega]; rfl) (by omega)
    rw [u2]
    exact ⟨u1, fedL_L hL, f5 _ (by omega)⟩
  have f3 : ∀ j : Nat, j = min n.toNat 3 → wp mX11_feed 1 0 0 (QI fun x h' => ∃ g', r_feed h g n a b c d e x h' g') 106 [some (vr 0), some (vi n), none, none, none, some (vi d), some (vi e)] [] (fedL h s a b c d e j) := fun j hj => by
    refine t_X11_feed_106 (fedL_L hL) ⟨fun q => f4 j (by omega), fun q => ?_⟩
    obtain ⟨u1, u2⟩ := st j d (by rw [show j = 3 by omega]; rfl) (by omega)
    rw [u2]
    exact ⟨u1, fedL_L hL, f4 _ (by omega)⟩
  have f2 : ∀ j : Nat, j = min n.toNat 2 → wp mX11_feed 1 0 0 (QI fun x h' => ∃ g', r_feed h g n a b c d e x h' g') 92 [some (vr 0), some (vi n), none, none, some (vi c), some (vi d), some (vi e)] [] (fedL h s a b c d e j) := fun j hj => by
    refine t_X11_feed_92 (fedL_L hL) ⟨fun q => f3 j (by omega), fun q => ?_⟩
    obtain ⟨u1, u2⟩ := st j c (by rw [show j = 2 by omega]; rfl) (by omega)
    rw [u2]
    exact ⟨u1, fedL_L hL, f3 _ (by omega)⟩
  have f1 : wp mX11_feed 1 0 0 (QI fun x h' => ∃ g', r_feed h g n a b c d e x h' g') 79 [some (vr 0), some (vi n), none, some (vi b), some (vi c), some (vi d), some (vi e)] [] (fedL h s a b c d e 1) := by
    refine t_X11_feed_79 (fedL_L hL) ⟨fun q => f2 1 (by omega), fun q => ?_⟩
    obtain ⟨u1, u2⟩ := st 1 b rfl (by omega)
    rw [u2]
    exact ⟨u1, fedL_L hL, f2 _ (by omega)⟩
  obtain ⟨u1, u2⟩ := st 0 a rfl (by omega)
  rw [← z] at u2
  rw [u2]
  exact ⟨fedL_L hL, f1⟩
