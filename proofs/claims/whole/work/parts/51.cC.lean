/-! THE CLASS: THE POLICY, AND WHERE A KEY IS -/
def cPol (h g : AH) : Prop := iH h 16 0 = iH g 89 21 ∧ (0 ≤ iH g 89 21 ∧ iH g 89 21 ≤ 5) ∧ iH h 16 1 = iH g 89 22 ∧ (0 ≤ iH g 89 22 ∧ iH g 89 22 ≤ 9)
def b_X4_width_0 : List IE := [(.aload_n 0, 1, 0, 0, 0, 0), (.getfield 9, 3, 0, 4, 0, 0)]
theorem k_X4_width_0 : ckTs mX4_width 4 0 b_X4_width_0 4 41 1 5 #[36, 41, 36, 36, 38] 36 45 [(1, 40), (2, 45), (3, 40), (4, 40), (5, 42)] = true := by decide +kernel
def b_X4_width_40 : List IE := [(.iconst 2, 1, 2, 0, 0, 0)]
theorem k_X4_width_40 : ckI mX4_width 4 40 b_X4_width_40 41 = true := by decide +kernel
def b_X4_width_42 : List IE := [(.bipush 9, 2, 9, 0, 0, 0)]
theorem k_X4_width_42 : ckI mX4_width 4 42 b_X4_width_42 44 = true := by decide +kernel
def b_X4_width_45 : List IE := [(.iconst 3, 1, 3, 0, 0, 0)]
theorem k_X4_width_45 : ckI mX4_width 4 45 b_X4_width_45 46 = true := by decide +kernel
theorem t_X4_width_0 {rc rs : Nat} {Q : Option AV → AH → Prop} {h : AH}  (hL : LayL h) (hv : (((iH h 16 0) = 1 → Q (some (vi 2)) h) ∧ ((iH h 16 0) ≠ 1 → (((iH h 16 0) = 2 → Q (some (vi 3)) h) ∧ ((iH h 16 0) ≠ 2 → (((iH h 16 0) = 3 → Q (some (vi 2)) h) ∧ ((iH h 16 0) ≠ 3 → (((iH h 16 0) = 4 → Q (some (vi 2)) h) ∧ ((iH h 16 0) ≠ 4 → (((iH h 16 0) = 5 → Q (some (vi 9)) h) ∧ ((iH h 16 0) ≠ 5 → Q (some (vi 3)) h))))))))))) : wp mX4_width 0 rc rs Q 0 [some (vr 16)] [] h :=
  (show wp mX4_width 0 rc rs Q 0 [some (vr 16)] [] h from xTs k_X4_width_0 (And.intro (ll_16 hL) (And.intro (fun c17 => have v19 := hv.1 c17; (show wp mX4_width 0 rc rs Q 40 [some (vr 16)] [] h from xI k_X4_width_40 (And.intro rfl v19))) (fun c18 => have v20 := hv.2 c18; (And.intro (fun c13 => have v15 := v20.1 c13; (show wp mX4_width 0 rc rs Q 45 [some (vr 16)] [] h from xI k_X4_width_45 (And.intro rfl v15))) (fun c14 => have v16 := v20.2 c14; (And.intro (fun c9 => have v11 := v16.1 c9; (show wp mX4_width 0 rc rs Q 40 [some (vr 16)] [] h from xI k_X4_width_40 (And.intro rfl v11))) (fun c10 => have v12 := v16.2 c10; (And.intro (fun c5 => have v7 := v12.1 c5; (show wp mX4_width 0 rc rs Q 40 [some (vr 16)] [] h from xI k_X4_width_40 (And.intro rfl v7))) (fun c6 => have v8 := v12.2 c6; (And.intro (fun c1 => have v3 := v8.1 c1; (show wp mX4_width 0 rc rs Q 42 [some (vr 16)] [] h from xI k_X4_width_42 (And.intro rfl v3))) (fun c2 => have v4 := v8.2 c2; (show wp mX4_width 0 rc rs Q 45 [some (vr 16)] [] h from xI k_X4_width_45 (And.intro rfl v4))))))))))))))
theorem e_X4_width {mc ms : Nat} {Q : Option AV → AH → Prop} {h : AH}  (hL : LayL h) (hv : (((iH h 16 0) = 1 → Q (some (vi 2)) h) ∧ ((iH h 16 0) ≠ 1 → (((iH h 16 0) = 2 → Q (some (vi 3)) h) ∧ ((iH h 16 0) ≠ 2 → (((iH h 16 0) = 3 → Q (some (vi 2)) h) ∧ ((iH h 16 0) ≠ 3 → (((iH h 16 0) = 4 → Q (some (vi 2)) h) ∧ ((iH h 16 0) ≠ 4 → (((iH h 16 0) = 5 → Q (some (vi 9)) h) ∧ ((iH h 16 0) ≠ 5 → Q (some (vi 3)) h))))))))))) : Ct 0 mc ms mX4_width [vr 16] h Q := Ct.of (by decide +kernel) (Nat.le_of_ble_eq_true rfl) (t_X4_width_0 hL hv)
def b_X4_sizeOf_0 : List IE := [(.aload_n 0, 1, 0, 0, 0, 0), (.getfield 9, 3, 0, 4, 0, 0)]
theorem k_X4_sizeOf_0 : ckLs mX4_sizeOf 4 0 b_X4_sizeOf_0 4 49 #[(2, 28), (4, 34)] 28 53 [(2, 32), (4, 38)] = true := by decide +kernel
def b_X4_sizeOf_32 : List IE := [(.aload_n 1, 1, 0, 0, 1, 0), (.iload_n 2, 1, 0, 0, 2, 0)]
theorem k_X4_sizeOf_32 : ckB mX4_sizeOf 4 32 b_X4_sizeOf_32 34 = true := by decide +kernel
def b_X4_sizeOf_37 : List IE := []
theorem k_X4_sizeOf_37 : ckI mX4_sizeOf 4 37 b_X4_sizeOf_37 37 = true := by decide +kernel
def b_X4_sizeOf_38 : List IE := [(.iconst 0, 1, 0, 0, 0, 0), (.aload_n 1, 1, 0, 0, 1, 0), (.iload_n 2, 1, 0, 0, 2, 0)]
theorem k_X4_sizeOf_38 : ckB mX4_sizeOf 4 38 b_X4_sizeOf_38 41 = true := by decide +kernel
def b_X4_sizeOf_44 : List IE := [(.aload_n 0, 1, 0, 0, 0, 0), (.getfield 25, 3, 0, 4, 1, 0), (.isub, 1, 0, 0, 0, 0)]
theorem k_X4_sizeOf_44 : ckB mX4_sizeOf 4 44 b_X4_sizeOf_44 49 = true := by decide +kernel
def b_X4_sizeOf_52 : List IE := []
theorem k_X4_sizeOf_52 : ckI mX4_sizeOf 4 52 b_X4_sizeOf_52 52 = true := by decide +kernel
def b_X4_sizeOf_53 : List IE := [(.aload_n 1, 1, 0, 0, 1, 0), (.getfield 34, 3, 0, 9, 0, 1), (.iload_n 2, 1, 0, 0, 2, 0), (.aaload, 1, 0, 0, 0, 0), (.getfield 38, 3, 0, 7, 1, 1), (.arraylength, 1, 0, 0, 0, 0)]
theorem k_X4_sizeOf_53 : ckI mX4_sizeOf 4 53 b_X4_sizeOf_53 63 = true := by decide +kernel
theorem s_X4_sizeOf_34 : cV mX4_sizeOf 34 mX9_liveIn 19 1 9 := ⟨by decide +kernel, ⟨ml_X9_liveIn, li_RX4_19, im_X9_liveIn, se_X9_liveIn⟩, ⟨by decide +kernel, by decide +kernel⟩, by decide +kernel⟩
theorem s_X4_sizeOf_41 : cV mX4_sizeOf 41 mX9_liveIn 19 1 9 := ⟨by decide +kernel, ⟨ml_X9_liveIn, li_RX4_19, im_X9_liveIn, se_X9_liveIn⟩, ⟨by decide +kernel, by decide +kernel⟩, by decide +kernel⟩
theorem s_X4_sizeOf_49 : cMx mX4_sizeOf 49 28 Lib.Math.max.name Lib.Math.max.code 2 := ⟨by decide +kernel, gt_ok (List.mem_of_getElem? (i := 610) (by decide +kernel)) (by decide +kernel), gt_ok (List.mem_of_getElem? (i := 508) (by decide +kernel)) (by decide +kernel), gt_ok (List.mem_of_getElem? (i := 103) (by decide +kernel)) (by decide +kernel), gt_ok (List.mem_of_getElem? (i := 509) (by decide +kernel)) (by decide +kernel)⟩
theorem t_X4_sizeOf_0 {rc rs : Nat} {Q : Option AV → AH → Prop} {h : AH} {sa : Nat → Nat} {da : Nat → Nat} {g : AH} {a1 : Nat} {x2 : Int} (hL : LayL h) (hA1 : iSt a1) (hv : (((iH h 16 0) = 2 → (a1 = 5 ∧ cRd h g da sa ∧ 0 ≤ x2 ∧ x2 < iH g 89 13) ∧ Q (some (vi (m_live g (iH g 1155 (x2).toNat)))) h) ∧ ((iH h 16 0) ≠ 2 → (((iH h 16 0) = 4 → (a1 = 5 ∧ cRd h g da sa ∧ 0 ≤ x2 ∧ x2 < iH g 89 13) ∧ (-2147483648 ≤ ((m_live g (iH g 1155 (x2).toNat)) - iH h 16 1) ∧ ((m_live g (iH g 1155 (x2).toNat)) - iH h 16 1) < 2147483648) ∧ Q (some (vi (max 0 ((m_live g (iH g 1155 (x2).toNat)) - iH h 16 1)))) h) ∧ ((iH h 16 0) ≠ 4 → (0 ≤ x2 ∧ x2 < 8) ∧ (∃ q2 n3 r4 : Nat, (rH h (a1 + 1) x2.toNat = some q2 ∧ iSg h q2 n3 r4) ∧ Q (some (vi (n3 : Int))) h)))))) : wp mX4_sizeOf 2 rc rs Q 0 [some (vr 16), some (vr a1), some (vi x2)] [] h :=
  (show wp mX4_sizeOf 2 rc rs Q 0 [some (vr 16), some (vr a1), some (vi x2)] [] h from xLs k_X4_sizeOf_0 (And.intro (ll_16 hL) (And.intro (fun c21 => have v23 := hv.1 c21; (show wp mX4_sizeOf 2 rc rs Q 32 [some (vr 16), some (vr a1), some (vi x2)] [] h from xcV k_X4_sizeOf_32 s_X4_sizeOf_34 (have c18 := v23.1; have v19 := v23.2; (Exists.intro [vi x2] (Exists.intro a1 (Exists.intro [] (And.intro (And.intro rfl (And.intro rfl (Nat.le_of_ble_eq_true rfl))) (And.intro (st_o hL hA1) (Exists.intro 1 (Exists.intro 0 (Exists.intro 0 (Exists.intro _ (And.intro (l_liveIn (h := h) hL c18) (And.intro (And.intro (by decide) (And.intro (Nat.zero_le _) (Nat.zero_le _))) (eQP (show wp mX4_sizeOf 2 rc rs Q 37 [some (vr 16), some (vr a1), some (vi x2)] [vi (m_live g (iH g 1155 (x2).toNat))] h from xI k_X4_sizeOf_37 (And.intro rfl v19))))))))))))))))) (fun c22 => have v24 := hv.2 c22; (And.intro (fun c14 => have v16 := v24.1 c14; (show wp mX4_sizeOf 2 rc rs Q 38 [some (vr 16), some (vr a1), some (vi x2)] [] h from xcV k_X4_sizeOf_38 s_X4_sizeOf_41 (have c11 := v16.1; have v12 := v16.2; (Exists.intro [vi x2] (Exists.intro a1 (Exists.intro [vi 0] (And.intro (And.intro rfl (And.intro rfl (Nat.le_of_ble_eq_true rfl))) (And.intro (st_o hL hA1) (Exists.intro 1 (Exists.intro 0 (Exists.intro 0 (Exists.intro _ (And.intro (l_liveIn (h := h) hL c11) (And.intro (And.intro (by decide) (And.intro (Nat.zero_le _) (Nat.zero_le _))) (eQP (show wp mX4_sizeOf 2 rc rs Q 44 [some (vr 16), some (vr a1), some (vi x2)] [vi (m_live g (iH g 1155 (x2).toNat)), vi 0] h from xMax k_X4_sizeOf_44 s_X4_sizeOf_49 (And.intro (ll_16 hL) (have c9 := v12.1; have v10 := v12.2; (And.intro c9 (And.intro (And.intro (Nat.le_of_ble_eq_true rfl) (Nat.le_of_ble_eq_true rfl)) (show wp mX4_sizeOf 2 rc rs Q 52 [some (vr 16), some (vr a1), some (vi x2)] [vi (max 0 ((m_live g (iH g 1155 (x2).toNat)) - iH h 16 1))] h from xI k_X4_sizeOf_52 (And.intro rfl v10)))))))))))))))))))))) (fun c15 => have v17 := v24.2 c15; (show wp mX4_sizeOf 2 rc rs Q 53 [some (vr 16), some (vr a1), some (vi x2)] [] h from xI k_X4_sizeOf_53 (And.intro (st_o hL hA1) (Exists.intro (a1 + 1) (And.intro (st_r0 hL hA1) (have c1 := v17.1; have v8 := v17.2; (And.intro (sdQ (st_a0 hL hA1) c1) (Exists.elim v8 (fun q2 v6_0 => (Exists.elim v6_0 (fun n3 v6_1 => (Exists.elim v6_1 (fun r4 v6 => have c5 := v6.1; have v7 := v6.2; (Exists.intro _ (And.intro c5.1 (And.intro (sg_o c5.2) (Exists.intro (q2 - 1) (And.intro (sg_r1 c5.2) (And.intro (sdL (sg_a1 c5.2) (And.intro (by decide) (And.intro (by decide) (sg_n c5.2)))) (len_r (sg_a1 c5.2) (And.intro rfl v7))))))))))))))))))))))))))
theorem e_X4_sizeOf {mc ms : Nat} {Q : Option AV → AH → Prop} {h : AH} {sa : Nat → Nat} {da : Nat → Nat} {g : AH} {a1 : Nat} {x2 : Int} (hL : LayL h) (hA1 : iSt a1) (hv : (((iH h 16 0) = 2 → (a1 = 5 ∧ cRd h g da sa ∧ 0 ≤ x2 ∧ x2 < iH g 89 13) ∧ Q (some (vi (m_live g (iH g 1155 (x2).toNat)))) h) ∧ ((iH h 16 0) ≠ 2 → (((iH h 16 0) = 4 → (a1 = 5 ∧ cRd h g da sa ∧ 0 ≤ x2 ∧ x2 < iH g 89 13) ∧ (-2147483648 ≤ ((m_live g (iH g 1155 (x2).toNat)) - iH h 16 1) ∧ ((m_live g (iH g 1155 (x2).toNat)) - iH h 16 1) < 2147483648) ∧ Q (some (vi (max 0 ((m_live g (iH g 1155 (x2).toNat)) - iH h 16 1)))) h) ∧ ((iH h 16 0) ≠ 4 → (0 ≤ x2 ∧ x2 < 8) ∧ (∃ q2 n3 r4 : Nat, (rH h (a1 + 1) x2.toNat = some q2 ∧ iSg h q2 n3 r4) ∧ Q (some (vi (n3 : Int))) h)))))) : Ct 2 mc ms mX4_sizeOf [vr 16, vr a1, vi x2] h Q := Ct.of (by decide +kernel) (Nat.le_of_ble_eq_true rfl) (t_X4_sizeOf_0 hL hA1 hv)
def b_X4_isUnder_0 : List IE := [(.aload_n 0, 1, 0, 0, 0, 0), (.getfield 9, 3, 0, 4, 0, 0), (.istore_n 2, 1, 0, 0, 2, 0), (.iconst 0, 1, 0, 0, 0, 0), (.istore_n 3, 1, 0, 0, 3, 0)]
theorem k_X4_isUnder_0 : ckB mX4_isUnder 4 0 b_X4_isUnder_0 7 = true := by decide +kernel
def b_X4_isUnder_7 : List IE := [(.iload_n 3, 1, 0, 0, 3, 0), (.bipush 6, 2, 6, 0, 0, 0)]
theorem k_X4_isUnder_7 : ckIc mX4_isUnder 4 7 b_X4_isUnder_7 10 3 27 37 13 = true := by decide +kernel
def b_X4_isUnder_13 : List IE := [(.iload_n 2, 1, 0, 0, 2, 0), (.iconst (-1), 1, (-1), 0, 0, 0)]
theorem k_X4_isUnder_13 : ckIc mX4_isUnder 4 13 b_X4_isUnder_13 15 0 22 37 18 = true := by decide +kernel
def b_X4_isUnder_18 : List IE := [(.iload_n 2, 1, 0, 0, 2, 0), (.iload_n 1, 1, 0, 0, 1, 0)]
theorem k_X4_isUnder_18 : ckIc mX4_isUnder 4 18 b_X4_isUnder_18 20 1 5 25 23 = true := by decide +kernel
def b_X4_isUnder_23 : List IE := [(.iconst 1, 1, 1, 0, 0, 0)]
theorem k_X4_isUnder_23 : ckZ mX4_isUnder 4 23 b_X4_isUnder_23 24 = true := by decide +kernel
def b_X4_isUnder_25 : List IE := []
theorem k_X4_isUnder_25 : ckGsUNDER mX4_isUnder 4 25 b_X4_isUnder_25 25 15 2 30 = true := by decide +kernel
def b_X4_isUnder_30 : List IE := [(.istore_n 2, 1, 0, 0, 2, 0), (.iinc 3 1, 3, 1, 0, 3, 0)]
theorem k_X4_isUnder_30 : ckGo mX4_isUnder 4 30 b_X4_isUnder_30 34 (-27) 7 = true := by decide +kernel
def b_X4_isUnder_37 : List IE := [(.iconst 0, 1, 0, 0, 0, 0)]
theorem k_X4_isUnder_37 : ckZ mX4_isUnder 4 37 b_X4_isUnder_37 38 = true := by decide +kernel
theorem t_X4_isUnder_0 {rc rs : Nat} {Q : Option AV → AH → Prop} {h : AH} {x1 : Int} (hL : LayL h) (hv : wp mX4_isUnder 0 rc rs Q 7 [none, some (vi x1), some (vi (iH h 16 0)), some (vi 0)] [] h) : wp mX4_isUnder 0 rc rs Q 0 [some (vr 16), some (vi x1), none, none] [] h :=
  (show wp mX4_isUnder 0 rc rs Q 0 [some (vr 16), some (vi x1), none, none] [] h from xB k_X4_isUnder_0 (And.intro (ll_16 hL) (And.intro rfl (And.intro rfl (w_fg [false, true, true, true] hv)))))
theorem e_X4_isUnder {mc ms : Nat} {Q : Option AV → AH → Prop} {h : AH} {x1 : Int} (hL : LayL h) (hv : wp mX4_isUnder 0 mc ms Q 7 [none, some (vi x1), some (vi (iH h 16 0)), some (vi 0)] [] h) : Ct 0 mc ms mX4_isUnder [vr 16, vi x1] h Q := Ct.of (by decide +kernel) (Nat.le_of_ble_eq_true rfl) (t_X4_isUnder_0 hL hv)
theorem t_X4_isUnder_7 {rc rs : Nat} {Q : Option AV → AH → Prop} {h : AH} {x1 x2 x3 : Int} (hL : LayL h) (hv : ((6 ≤ x3 → Q (some (vi 0)) h) ∧ (x3 < 6 → ((x2 = (-1) → Q (some (vi 0)) h) ∧ (x2 ≠ (-1) → ((x2 ≠ x1 → (0 ≤ x2 ∧ x2 < 6) ∧ (-2147483648 ≤ (x3 + 1) ∧ (x3 + 1) < 2147483648) ∧ wp mX4_isUnder 0 rc rs Q 7 [none, some (vi x1), some (vi (undrI x2)), some (vi (x3 + 1))] [] h) ∧ (x2 = x1 → Q (some (vi 1)) h))))))) : wp mX4_isUnder 0 rc rs Q 7 [none, some (vi x1), some (vi x2), some (vi x3)] [] h :=
  (show wp mX4_isUnder 0 rc rs Q 7 [none, some (vi x1), some (vi x2), some (vi x3)] [] h from xIc k_X4_isUnder_7 (And.intro (fun c1 => have v3 := hv.1 c1; (show wp mX4_isUnder 0 rc rs Q 37 [none, some (vi x1), some (vi x2), some (vi x3)] [] h from xZ k_X4_isUnder_37 (And.intro rfl (And.intro (Or.inl rfl) v3)))) (fun c2 => have v4 := hv.2 (Int.not_le.mp c2); (show wp mX4_isUnder 0 rc rs Q 13 [none, some (vi x1), some (vi x2), some (vi x3)] [] h from xIc k_X4_isUnder_13 (And.intro (fun c5 => have v7 := v4.1 c5; (show wp mX4_isUnder 0 rc rs Q 37 [none, some (vi x1), some (vi x2), some (vi x3)] [] h from xZ k_X4_isUnder_37 (And.intro rfl (And.intro (Or.inl rfl) v7)))) (fun c6 => have v8 := v4.2 c6; (show wp mX4_isUnder 0 rc rs Q 18 [none, some (vi x1), some (vi x2), some (vi x3)] [] h from xIc k_X4_isUnder_18 (And.intro (fun c9 => have v11 := v8.1 c9; (show wp mX4_isUnder 0 rc rs Q 25 [none, some (vi x1), some (vi x2), some (vi x3)] [] h from xGsUNDER k_X4_isUnder_25 (have c15 := v11.1; have v16 := v11.2; Exists.intro _ (And.intro rfl (And.intro c15 (show wp mX4_isUnder 0 rc rs Q 30 [none, some (vi x1), some (vi x2), some (vi x3)] [vi (undrI x2)] h from xGo k_X4_isUnder_30 (And.intro rfl (have c13 := v16.1; have v14 := v16.2; (And.intro c13 (And.intro rfl v14)))))))))) (fun c10 => have v12 := v8.2 (Decidable.not_not.mp c10); (show wp mX4_isUnder 0 rc rs Q 23 [none, some (vi x1), some (vi x2), some (vi x3)] [] h from xZ k_X4_isUnder_23 (And.intro rfl (And.intro (Or.inr rfl) v12))))))))))))
theorem l_width {h g : AH} (hL : LayL h) (hp : cPol h g) : Ct 0 0 0 mX4_width [vr 16] h (QI fun x h' => x = m_width g ∧ h' = h) := by
  obtain ⟨e, hb, -⟩ := hp
  refine e_X4_width hL ?_
  rw [e]
  unfold m_width
  refine ⟨fun c => ⟨_, rfl, ?_, rfl⟩, fun c => ⟨fun c2 => ⟨_, rfl, ?_, rfl⟩, fun c2 => ⟨fun c3 => ⟨_, rfl, ?_, rfl⟩, fun c3 => ⟨fun c4 => ⟨_, rfl, ?_, rfl⟩, fun c4 => ⟨fun c5 => ⟨_, rfl, ?_, rfl⟩, fun c5 => ⟨_, rfl, ?_, rfl⟩⟩⟩⟩⟩⟩ <;>
  · (repeat' split) <;> first | rfl | omega
theorem l_sizeOf {h g : AH} {da sa : Nat → Nat} (hL : LayL h) {a : Nat} {s : Int} (hp : a = 5 ∧ cPol h g ∧ cRd h g da sa ∧ 0 ≤ s ∧ s < iH g 89 13) : Ct 2 0 0 mX4_sizeOf [vr 16, vr a, vi s] h (QI fun x h' => x = m_size g s ∧ h' = h) := by
  obtain ⟨rfl, ⟨e, hb, e2, hb2⟩, hc, hs⟩ := hp
  obtain ⟨h8, x, ex, h1, h2, h3, h4, -⟩ := cRd_s hc hs
  obtain ⟨r, hS, -⟩ := h2.2.2.2.1
  have hl := h4.2.1
  rw [Int.toNat_natCast] at hl
  have hb3 := (pc_now hc hs).2
  refine e_X4_sizeOf (da := da) (sa := sa) (g := g) hL (Or.inl rfl) ?_
  rw [e, e2]
  unfold m_size
  refine ⟨fun c => ⟨⟨rfl, hc, hs⟩, _, rfl, (if_pos c).symm, rfl⟩, fun c => ⟨fun c2 => ⟨⟨rfl, hc, hs⟩, by omega, _, rfl, by rw [if_neg c, if_pos c2], rfl⟩, fun c2 => ⟨h8, _, _, r, ⟨h1, hS⟩, _, rfl, ?_, rfl⟩⟩⟩
  rw [if_neg c, if_neg c2, ex, Int.toNat_natCast]; omega
theorem m_sz_of {h g : AH} {da sa : Nat → Nat} (hq : cPol h g) (hc : cRd h g da sa) {s : Int} (hs : 0 ≤ s ∧ s < iH g 89 13) : m_sz g s := by
  obtain ⟨h8, x, ex, h1, h2, h3, h4, -⟩ := cRd_s hc hs
  exact ⟨h8, by rw [ex]; exact h4, hq.2.2.2⟩
theorem l_isUnder {h g : AH} (hL : LayL h) {k : Int} (hp : cPol h g ∧ 0 ≤ k ∧ k ≤ 5) : Ct 0 0 0 mX4_isUnder [vr 16, vi k] h (QI fun x h' => x = b01 (k = 0 ∨ k = iH g 89 21 ∨ (k = 1 ∧ iH g 89 21 = 3) ∨ (k = 2 ∧ iH g 89 21 = 4)) ∧ h' = h) := by
  obtain ⟨⟨e, hb, -⟩, hk⟩ := hp
  have u : undrI 0 = -1 ∧ undrI 1 = 0 ∧ undrI 2 = 0 ∧ undrI 3 = 1 ∧ undrI 4 = 2 ∧ undrI 5 = 0 := by decide +kernel
  refine e_X4_isUnder hL ?_
  rw [e]
  generalize iH g 89 21 = p at *
  generalize hR : (k = 0 ∨ k = p ∨ (k = 1 ∧ p = 3) ∨ (k = 2 ∧ p = 4)) = R
  have y : R → (QI fun x h' => x = b01 R ∧ h' = h) (some (vi 1)) h := fun q => ⟨_, rfl, (b01_t q).symm, rfl⟩
  have n : ¬ R → (QI fun x h' => x = b01 R ∧ h' = h) (some (vi 0)) h := fun q => ⟨_, rfl, (b01_f q).symm, rfl⟩
  have aE : ∀ i : Int, 0 ≤ i ∧ i < 4 → ¬ R → wp mX4_isUnder 0 0 0 (QI fun x h' => x = b01 R ∧ h' = h) 7 [none, some (vi k), some (vi (-1)), some (vi i)] [] h := fun i hi q => t_X4_isUnder_7 hL ⟨fun _ => n q, fun _ => ⟨fun _ => n q, fun c => absurd rfl c⟩⟩
  have a0 : ∀ i : Int, 0 ≤ i ∧ i < 3 → (k ≠ 0 → ¬ R) → (k = 0 → R) → wp mX4_isUnder 0 0 0 (QI fun x h' => x = b01 R ∧ h' = h) 7 [none, some (vi k), some (vi 0), some (vi i)] [] h := fun i hi q1 q2 => t_X4_isUnder_7 hL ⟨fun c => absurd c (by omega), fun _ => ⟨fun c => absurd c (by omega), fun _ => ⟨fun c => ⟨by omega, by omega, by rw [u.1]; exact aE _ (by omega) (q1 (by omega))⟩, fun c => y (q2 c.symm)⟩⟩⟩
  have a1 : ∀ i v : Int, 0 ≤ i ∧ i < 2 → (v = 1 ∨ v = 2) → undrI v = 0 → (k = v → R) → (k ≠ v → (k ≠ 0 → ¬ R) ∧ (k = 0 → R)) → wp mX4_isUnder 0 0 0 (QI fun x h' => x = b01 R ∧ h' = h) 7 [none, some (vi k), some (vi v), some (vi i)] [] h := fun i v hi hv hu q1 q2 => t_X4_isUnder_7 hL ⟨fun c => absurd c (by omega), fun _ => ⟨fun c => absurd c (by omega), fun _ => ⟨fun c => ⟨by omega, by omega, by rw [hu]; exact a0 _ (by omega) (q2 (by omega)).1 (q2 (by omega)).2⟩, fun c => y (q1 c.symm)⟩⟩⟩
  rcases (show p = 0 ∨ p = 1 ∨ p = 2 ∨ p = 3 ∨ p = 4 ∨ p = 5 by omega) with rfl | rfl | rfl | rfl | rfl | rfl
  · exact a0 0 (by omega) (fun c => by rw [← hR]; omega) (fun c => by rw [← hR]; omega)
  · exact a1 0 1 (by omega) (by omega) u.2.1 (fun c => by rw [← hR]; omega) (fun c => ⟨fun c2 => by rw [← hR]; omega, fun c2 => by rw [← hR]; omega⟩)
  · exact a1 0 2 (by omega) (by omega) u.2.2.1 (fun c => by rw [← hR]; omega) (fun c => ⟨fun c2 => by rw [← hR]; omega, fun c2 => by rw [← hR]; omega⟩)
  · exact t_X4_isUnder_7 hL ⟨fun c => absurd c (by omega), fun _ => ⟨fun c => absurd c (by omega), fun _ => ⟨fun c => ⟨by omega, by omega, by rw [u.2.2.2.1]; exact a1 _ 1 (by omega) (by omega) u.2.1 (fun c => by rw [← hR]; omega) (fun c => ⟨fun c2 => by rw [← hR]; omega, fun c2 => by rw [← hR]; omega⟩)⟩, fun c => y (by rw [← hR]; omega)⟩⟩⟩
  · exact t_X4_isUnder_7 hL ⟨fun c => absurd c (by omega), fun _ => ⟨fun c => absurd c (by omega), fun _ => ⟨fun c => ⟨by omega, by omega, by rw [u.2.2.2.2.1]; exact a1 _ 2 (by omega) (by omega) u.2.2.1 (fun c => by rw [← hR]; omega) (fun c => ⟨fun c2 => by rw [← hR]; omega, fun c2 => by rw [← hR]; omega⟩)⟩, fun c => y (by rw [← hR]; omega)⟩⟩⟩
  · exact t_X4_isUnder_7 hL ⟨fun c => absurd c (by omega), fun _ => ⟨fun c => absurd c (by omega), fun _ => ⟨fun c => ⟨by omega, by omega, by rw [u.2.2.2.2.2]; exact a0 _ (by omega) (fun c => by rw [← hR]; omega) (fun c => by rw [← hR]; omega)⟩, fun c => y (by rw [← hR]; omega)⟩⟩⟩
def b_X4_tierOf_0 : List IE := [(.aload_n 0, 1, 0, 0, 0, 0), (.aload_n 1, 1, 0, 0, 1, 0), (.iload_n 2, 1, 0, 0, 2, 0)]
theorem k_X4_tierOf_0 : ckB mX4_tierOf 4 0 b_X4_tierOf_0 3 = true := by decide +kernel
def b_X4_tierOf_6 : List IE := [(.istore_n 3, 1, 0, 0, 3, 0), (.iload_n 3, 1, 0, 0, 3, 0), (.iconst 2, 1, 2, 0, 0, 0)]
theorem k_X4_tierOf_6 : ckIc mX4_tierOf 4 6 b_X4_tierOf_6 9 4 5 14 12 = true := by decide +kernel
def b_X4_tierOf_12 : List IE := [(.iconst 0, 1, 0, 0, 0, 0)]
theorem k_X4_tierOf_12 : ckI mX4_tierOf 4 12 b_X4_tierOf_12 13 = true := by decide +kernel
def b_X4_tierOf_14 : List IE := [(.iload_n 3, 1, 0, 0, 3, 0), (.bipush 6, 2, 6, 0, 0, 0)]
theorem k_X4_tierOf_14 : ckIc mX4_tierOf 4 14 b_X4_tierOf_14 17 4 5 22 20 = true := by decide +kernel
def b_X4_tierOf_20 : List IE := [(.iconst 1, 1, 1, 0, 0, 0)]
theorem k_X4_tierOf_20 : ckI mX4_tierOf 4 20 b_X4_tierOf_20 21 = true := by decide +kernel
def b_X4_tierOf_22 : List IE := [(.iload_n 3, 1, 0, 0, 3, 0), (.bipush 14, 2, 14, 0, 0, 0)]
theorem k_X4_tierOf_22 : ckIc mX4_tierOf 4 22 b_X4_tierOf_22 25 4 7 32 28 = true := by decide +kernel
def b_X4_tierOf_28 : List IE := [(.iconst 2, 1, 2, 0, 0, 0)]
theorem k_X4_tierOf_28 : ckGo mX4_tierOf 4 28 b_X4_tierOf_28 29 4 33 = true := by decide +kernel
def b_X4_tierOf_32 : List IE := [(.iconst 3, 1, 3, 0, 0, 0)]
theorem k_X4_tierOf_32 : ckI mX4_tierOf 4 32 b_X4_tierOf_32 33 = true := by decide +kernel
def b_X4_tierOf_33 : List IE := []
theorem k_X4_tierOf_33 : ckI mX4_tierOf 4 33 b_X4_tierOf_33 33 = true := by decide +kernel
theorem s_X4_tierOf_3 : cV mX4_tierOf 3 mX4_sizeOf 44 2 4 := ⟨by decide +kernel, ⟨ml_X4_sizeOf, li_RX4_44, im_X4_sizeOf, se_X4_sizeOf⟩, ⟨by decide +kernel, by decide +kernel⟩, by decide +kernel⟩
theorem t_X4_tierOf_0 {rc rs : Nat} {Q : Option AV → AH → Prop} {h : AH} {sa : Nat → Nat} {da : Nat → Nat} {g : AH} {a1 : Nat} {x2 : Int} (hL : LayL h) (hA1 : iSt a1) (hv : (a1 = 5 ∧ cPol h g ∧ cRd h g da sa ∧ 0 ≤ x2 ∧ x2 < iH g 89 13) ∧ ((2 < (m_size g x2) → ((6 < (m_size g x2) → ((14 < (m_size g x2) → Q (some (vi 3)) h) ∧ ((m_size g x2) ≤ 14 → Q (some (vi 2)) h))) ∧ ((m_size g x2) ≤ 6 → Q (some (vi 1)) h))) ∧ ((m_size g x2) ≤ 2 → Q (some (vi 0)) h))) : wp mX4_tierOf 3 rc rs Q 0 [some (vr 16), some (vr a1), some (vi x2), none] [] h :=
  (show wp mX4_tierOf 3 rc rs Q 0 [some (vr 16), some (vr a1), some (vi x2), none] [] h from xcV k_X4_tierOf_0 s_X4_tierOf_3 (have c13 := hv.1; have v14 := hv.2; (Exists.intro [vr a1, vi x2] (Exists.intro 16 (Exists.intro [] (And.intro (And.intro rfl (And.intro rfl (Nat.le_of_ble_eq_true rfl))) (And.intro (ll_16 hL) (Exists.intro 2 (Exists.intro 0 (Exists.intro 0 (Exists.intro _ (And.intro (l_sizeOf (h := h) hL c13) (And.intro (And.intro (by decide) (And.intro (Nat.zero_le _) (Nat.zero_le _))) (eQP (show wp mX4_tierOf 3 rc rs Q 6 [some (vr 16), some (vr a1), some (vi x2), none] [vi (m_size g x2)] h from xIc k_X4_tierOf_6 (And.intro rfl (And.intro (fun c1 => have v3 := v14.1 c1; (show wp mX4_tierOf 3 rc rs Q 14 [some (vr 16), some (vr a1), some (vi x2), some (vi (m_size g x2))] [] h from xIc k_X4_tierOf_14 (And.intro (fun c5 => have v7 := v3.1 c5; (show wp mX4_tierOf 3 rc rs Q 22 [some (vr 16), some (vr a1), some (vi x2), some (vi (m_size g x2))] [] h from xIc k_X4_tierOf_22 (And.intro (fun c9 => have v11 := v7.1 c9; (show wp mX4_tierOf 3 rc rs Q 32 [some (vr 16), some (vr a1), some (vi x2), some (vi (m_size g x2))] [] h from xI k_X4_tierOf_32 (And.intro rfl v11))) (fun c10 => have v12 := v7.2 (Int.not_lt.mp c10); (show wp mX4_tierOf 3 rc rs Q 28 [some (vr 16), some (vr a1), some (vi x2), some (vi (m_size g x2))] [] h from xGo k_X4_tierOf_28 (show wp mX4_tierOf 3 rc rs Q 33 [some (vr 16), some (vr a1), some (vi x2), some (vi (m_size g x2))] [vi 2] h from xI k_X4_tierOf_33 (And.intro rfl v12))))))) (fun c6 => have v8 := v3.2 (Int.not_lt.mp c6); (show wp mX4_tierOf 3 rc rs Q 20 [some (vr 16), some (vr a1), some (vi x2), some (vi (m_size g x2))] [] h from xI k_X4_tierOf_20 (And.intro rfl v8)))))) (fun c2 => have v4 := v14.2 (Int.not_lt.mp c2); (show wp mX4_tierOf 3 rc rs Q 12 [some (vr 16), some (vr a1), some (vi x2), some (vi (m_size g x2))] [] h from xI k_X4_tierOf_12 (And.intro rfl v4))))))))))))))))))))
theorem e_X4_tierOf {mc ms : Nat} {Q : Option AV → AH → Prop} {h : AH} {sa : Nat → Nat} {da : Nat → Nat} {g : AH} {a1 : Nat} {x2 : Int} (hL : LayL h) (hA1 : iSt a1) (hv : (a1 = 5 ∧ cPol h g ∧ cRd h g da sa ∧ 0 ≤ x2 ∧ x2 < iH g 89 13) ∧ ((2 < (m_size g x2) → ((6 < (m_size g x2) → ((14 < (m_size g x2) → Q (some (vi 3)) h) ∧ ((m_size g x2) ≤ 14 → Q (some (vi 2)) h))) ∧ ((m_size g x2) ≤ 6 → Q (some (vi 1)) h))) ∧ ((m_size g x2) ≤ 2 → Q (some (vi 0)) h))) : Ct 3 mc ms mX4_tierOf [vr 16, vr a1, vi x2] h Q := Ct.of (by decide +kernel) (Nat.le_of_ble_eq_true rfl) (t_X4_tierOf_0 hL hA1 hv)
def b_X4_hasDropped_0 : List IE := [(.iload_n 2, 1, 0, 0, 2, 0), (.istore_n 3, 1, 0, 0, 3, 0)]
theorem k_X4_hasDropped_0 : ckB mX4_hasDropped 4 0 b_X4_hasDropped_0 2 = true := by decide +kernel
def b_X4_hasDropped_2 : List IE := [(.iload_n 3, 1, 0, 0, 3, 0), (.iload_n 2, 1, 0, 0, 2, 0), (.aload_n 0, 1, 0, 0, 0, 0)]
theorem k_X4_hasDropped_2 : ckB mX4_hasDropped 4 2 b_X4_hasDropped_2 5 = true := by decide +kernel
def b_X4_hasDropped_8 : List IE := [(.iadd, 1, 0, 0, 0, 0)]
theorem k_X4_hasDropped_8 : ckIc mX4_hasDropped 4 8 b_X4_hasDropped_8 9 3 22 31 12 = true := by decide +kernel
def b_X4_hasDropped_12 : List IE := [(.aload_n 1, 1, 0, 0, 1, 0), (.getfield 71, 3, 0, 9, 1, 1), (.iload_n 3, 1, 0, 0, 3, 0), (.laload, 1, 0, 0, 0, 0), (.lconst 0, 1, 0, 0, 0, 0), (.lcmp, 1, 0, 0, 0, 0)]
theorem k_X4_hasDropped_12 : ckIf mX4_hasDropped 4 12 b_X4_hasDropped_12 20 0 5 25 23 = true := by decide +kernel
def b_X4_hasDropped_23 : List IE := [(.iconst 1, 1, 1, 0, 0, 0)]
theorem k_X4_hasDropped_23 : ckZ mX4_hasDropped 4 23 b_X4_hasDropped_23 24 = true := by decide +kernel
def b_X4_hasDropped_25 : List IE := [(.iinc 3 1, 3, 1, 0, 3, 0)]
theorem k_X4_hasDropped_25 : ckGo mX4_hasDropped 4 25 b_X4_hasDropped_25 28 (-26) 2 = true := by decide +kernel
def b_X4_hasDropped_31 : List IE := [(.iconst 0, 1, 0, 0, 0, 0)]
theorem k_X4_hasDropped_31 : ckZ mX4_hasDropped 4 31 b_X4_hasDropped_31 32 = true := by decide +kernel
theorem s_X4_hasDropped_5 : cV mX4_hasDropped 5 mX4_width 48 0 4 := ⟨by decide +kernel, ⟨ml_X4_width, li_RX4_48, im_X4_width, se_X4_width⟩, ⟨by decide +kernel, by decide +kernel⟩, by decide +kernel⟩
theorem t_X4_hasDropped_0 {rc rs : Nat} {Q : Option AV → AH → Prop} {h : AH} {a1 : Nat} {x2 : Int} (hL : LayL h) (hA1 : iSt a1) (hv : wp mX4_hasDropped 1 rc rs Q 2 [some (vr 16), some (vr a1), some (vi x2), some (vi x2)] [] h) : wp mX4_hasDropped 1 rc rs Q 0 [some (vr 16), some (vr a1), some (vi x2), none] [] h :=
  (show wp mX4_hasDropped 1 rc rs Q 0 [some (vr 16), some (vr a1), some (vi x2), none] [] h from xB k_X4_hasDropped_0 (And.intro rfl hv))
theorem e_X4_hasDropped {mc ms : Nat} {Q : Option AV → AH → Prop} {h : AH} {a1 : Nat} {x2 : Int} (hL : LayL h) (hA1 : iSt a1) (hv : wp mX4_hasDropped 1 mc ms Q 2 [some (vr 16), some (vr a1), some (vi x2), some (vi x2)] [] h) : Ct 1 mc ms mX4_hasDropped [vr 16, vr a1, vi x2] h Q := Ct.of (by decide +kernel) (Nat.le_of_ble_eq_true rfl) (t_X4_hasDropped_0 hL hA1 hv)
theorem t_X4_hasDropped_2 {rc rs : Nat} {Q : Option AV → AH → Prop} {h : AH} {g : AH} {a1 : Nat} {x2 x3 : Int} (hL : LayL h) (hA1 : iSt a1) (hv : (cPol h g) ∧ (-2147483648 ≤ (x2 + (m_width g)) ∧ (x2 + (m_width g)) < 2147483648) ∧ (((x2 + (m_width g)) ≤ x3 → Q (some (vi 0)) h) ∧ (x3 < (x2 + (m_width g)) → (0 ≤ x3 ∧ x3 < 8) ∧ (((lcI (jH h (a1 + 2) x3.toNat) 0) = 0 → (-2147483648 ≤ (x3 + 1) ∧ (x3 + 1) < 2147483648) ∧ wp mX4_hasDropped 1 rc rs Q 2 [some (vr 16), some (vr a1), some (vi x2), some (vi (x3 + 1))] [] h) ∧ ((lcI (jH h (a1 + 2) x3.toNat) 0) ≠ 0 → Q (some (vi 1)) h))))) : wp mX4_hasDropped 1 rc rs Q 2 [some (vr 16), some (vr a1), some (vi x2), some (vi x3)] [] h :=
  (show wp mX4_hasDropped 1 rc rs Q 2 [some (vr 16), some (vr a1), some (vi x2), some (vi x3)] [] h from xcV k_X4_hasDropped_2 s_X4_hasDropped_5 (have c15 := hv.1; have v16 := hv.2; (Exists.intro [] (Exists.intro 16 (Exists.intro [vi x2, vi x3] (And.intro (And.intro rfl (And.intro rfl (Nat.le_of_ble_eq_true rfl))) (And.intro (ll_16 hL) (Exists.intro 0 (Exists.intro 0 (Exists.intro 0 (Exists.intro _ (And.intro (l_width (h := h) hL c15) (And.intro (And.intro (by decide) (And.intro (Nat.zero_le _) (Nat.zero_le _))) (eQP (show wp mX4_hasDropped 1 rc rs Q 8 [some (vr 16), some (vr a1), some (vi x2), some (vi x3)] [vi (m_width g), vi x2, vi x3] h from xIc k_X4_hasDropped_8 (have c1 := v16.1; have v14 := v16.2; (And.intro c1 (And.intro (fun c2 => have v4 := v14.1 c2; (show wp mX4_hasDropped 1 rc rs Q 31 [some (vr 16), some (vr a1), some (vi x2), some (vi x3)] [] h from xZ k_X4_hasDropped_31 (And.intro rfl (And.intro (Or.inl rfl) v4)))) (fun c3 => have v5 := v14.2 (Int.not_le.mp c3); (show wp mX4_hasDropped 1 rc rs Q 12 [some (vr 16), some (vr a1), some (vi x2), some (vi x3)] [] h from xIf k_X4_hasDropped_12 (And.intro (st_o hL hA1) (Exists.intro (a1 + 2) (And.intro (st_r1 hL hA1) (have c6 := v5.1; have v13 := v5.2; (And.intro (sdJ (st_a1 hL hA1) c6) (And.intro (fun c7 => have v9 := v13.1 c7; (show wp mX4_hasDropped 1 rc rs Q 25 [some (vr 16), some (vr a1), some (vi x2), some (vi x3)] [] h from xGo k_X4_hasDropped_25 (have c11 := v9.1; have v12 := v9.2; (And.intro c11 (And.intro rfl v12))))) (fun c8 => have v10 := v13.2 c8; (show wp mX4_hasDropped 1 rc rs Q 23 [some (vr 16), some (vr a1), some (vi x2), some (vi x3)] [] h from xZ k_X4_hasDropped_23 (And.intro rfl (And.intro (Or.inr rfl) v10))))))))))))))))))))))))))))))
def b_X4_areSmallTogether_0 : List IE := [(.iconst 0, 1, 0, 0, 0, 0), (.istore_n 3, 1, 0, 0, 3, 0), (.iload_n 2, 1, 0, 0, 2, 0), (.istore 4, 2, 0, 0, 4, 0)]
theorem k_X4_areSmallTogether_0 : ckB mX4_areSmallTogether 4 0 b_X4_areSmallTogether_0 5 = true := by decide +kernel
def b_X4_areSmallTogether_5 : List IE := [(.iload 4, 2, 0, 0, 4, 0), (.iload_n 2, 1, 0, 0, 2, 0), (.aload_n 0, 1, 0, 0, 0, 0)]
theorem k_X4_areSmallTogether_5 : ckB mX4_areSmallTogether 4 5 b_X4_areSmallTogether_5 9 = true := by decide +kernel
def b_X4_areSmallTogether_12 : List IE := [(.iadd, 1, 0, 0, 0, 0)]
theorem k_X4_areSmallTogether_12 : ckIc mX4_areSmallTogether 4 12 b_X4_areSmallTogether_12 13 3 19 32 16 = true := by decide +kernel
def b_X4_areSmallTogether_16 : List IE := [(.iload_n 3, 1, 0, 0, 3, 0), (.aload_n 0, 1, 0, 0, 0, 0), (.aload_n 1, 1, 0, 0, 1, 0), (.iload 4, 2, 0, 0, 4, 0)]
theorem k_X4_areSmallTogether_16 : ckB mX4_areSmallTogether 4 16 b_X4_areSmallTogether_16 21 = true := by decide +kernel
def b_X4_areSmallTogether_24 : List IE := [(.iadd, 1, 0, 0, 0, 0), (.istore_n 3, 1, 0, 0, 3, 0), (.iinc 4 1, 3, 1, 0, 4, 0)]
theorem k_X4_areSmallTogether_24 : ckGo mX4_areSmallTogether 4 24 b_X4_areSmallTogether_24 29 (-24) 5 = true := by decide +kernel
def b_X4_areSmallTogether_32 : List IE := [(.iload_n 3, 1, 0, 0, 3, 0), (.aload_n 0, 1, 0, 0, 0, 0), (.getfield 25, 3, 0, 4, 1, 0)]
theorem k_X4_areSmallTogether_32 : ckIc mX4_areSmallTogether 4 32 b_X4_areSmallTogether_32 37 4 7 44 40 = true := by decide +kernel
def b_X4_areSmallTogether_40 : List IE := [(.iconst 1, 1, 1, 0, 0, 0)]
theorem k_X4_areSmallTogether_40 : ckGo mX4_areSmallTogether 4 40 b_X4_areSmallTogether_40 41 4 45 = true := by decide +kernel
def b_X4_areSmallTogether_44 : List IE := [(.iconst 0, 1, 0, 0, 0, 0)]
theorem k_X4_areSmallTogether_44 : ckZ mX4_areSmallTogether 4 44 b_X4_areSmallTogether_44 45 = true := by decide +kernel
def b_X4_areSmallTogether_45 : List IE := []
theorem k_X4_areSmallTogether_45 : ckZ mX4_areSmallTogether 4 45 b_X4_areSmallTogether_45 45 = true := by decide +kernel
theorem s_X4_areSmallTogether_9 : cV mX4_areSmallTogether 9 mX4_width 48 0 4 := ⟨by decide +kernel, ⟨ml_X4_width, li_RX4_48, im_X4_width, se_X4_width⟩, ⟨by decide +kernel, by decide +kernel⟩, by decide +kernel⟩
theorem s_X4_areSmallTogether_21 : cV mX4_areSmallTogether 21 mX4_sizeOf 44 2 4 := ⟨by decide +kernel, ⟨ml_X4_sizeOf, li_RX4_44, im_X4_sizeOf, se_X4_sizeOf⟩, ⟨by decide +kernel, by decide +kernel⟩, by decide +kernel⟩
theorem t_X4_areSmallTogether_0 {rc rs : Nat} {Q : Option AV → AH → Prop} {h : AH} {a1 : Nat} {x2 : Int} (hL : LayL h) (hA1 : iSt a1) (hv : wp mX4_areSmallTogether 3 rc rs Q 5 [some (vr 16), some (vr a1), some (vi x2), some (vi 0), some (vi x2)] [] h) : wp mX4_areSmallTogether 3 rc rs Q 0 [some (vr 16), some (vr a1), some (vi x2), none, none] [] h :=
  (show wp mX4_areSmallTogether 3 rc rs Q 0 [some (vr 16), some (vr a1), some (vi x2), none, none] [] h from xB k_X4_areSmallTogether_0 (And.intro rfl (And.intro rfl hv)))
theorem e_X4_areSmallTogether {mc ms : Nat} {Q : Option AV → AH → Prop} {h : AH} {a1 : Nat} {x2 : Int} (hL : LayL h) (hA1 : iSt a1) (hv : wp mX4_areSmallTogether 3 mc ms Q 5 [some (vr 16), some (vr a1), some (vi x2), some (vi 0), some (vi x2)] [] h) : Ct 3 mc ms mX4_areSmallTogether [vr 16, vr a1, vi x2] h Q := Ct.of (by decide +kernel) (Nat.le_of_ble_eq_true rfl) (t_X4_areSmallTogether_0 hL hA1 hv)
theorem t_X4_areSmallTogether_5 {rc rs : Nat} {Q : Option AV → AH → Prop} {h : AH} {sa : Nat → Nat} {da : Nat → Nat} {g : AH} {a1 : Nat} {x2 x3 x4 : Int} (hL : LayL h) (hA1 : iSt a1) (hv : (cPol h g) ∧ (-2147483648 ≤ (x2 + (m_width g)) ∧ (x2 + (m_width g)) < 2147483648) ∧ (((x2 + (m_width g)) ≤ x4 → (((iH h 16 1) < x3 → Q (some (vi 0)) h) ∧ (x3 ≤ (iH h 16 1) → Q (some (vi 1)) h))) ∧ (x4 < (x2 + (m_width g)) → (a1 = 5 ∧ cPol h g ∧ cRd h g da sa ∧ 0 ≤ x4 ∧ x4 < iH g 89 13) ∧ (-2147483648 ≤ (x3 + (m_size g x4)) ∧ (x3 + (m_size g x4)) < 2147483648) ∧ (-2147483648 ≤ (x4 + 1) ∧ (x4 + 1) < 2147483648) ∧ wp mX4_areSmallTogether 3 rc rs Q 5 [some (vr 16), some (vr a1), some (vi x2), some (vi (x3 + (m_size g x4))), some (vi (x4 + 1))] [] h))) : wp mX4_areSmallTogether 3 rc rs Q 5 [some (vr 16), some (vr a1), some (vi x2), some (vi x3), some (vi x4)] [] h :=
  (show wp mX4_areSmallTogether 3 rc rs Q 5 [some (vr 16), some (vr a1), some (vi x2), some (vi x3), some (vi x4)] [] h from xcV k_X4_areSmallTogether_5 s_X4_areSmallTogether_9 (have c18 := hv.1; have v19 := hv.2; (Exists.intro [] (Exists.intro 16 (Exists.intro [vi x2, vi x4] (And.intro (And.intro rfl (And.intro rfl (Nat.le_of_ble_eq_true rfl))) (And.intro (ll_16 hL) (Exists.intro 0 (Exists.intro 0 (Exists.intro 0 (Exists.intro _ (And.intro (l_width (h := h) hL c18) (And.intro (And.intro (by decide) (And.intro (Nat.zero_le _) (Nat.zero_le _))) (eQP (show wp mX4_areSmallTogether 3 rc rs Q 12 [some (vr 16), some (vr a1), some (vi x2), some (vi x3), some (vi x4)] [vi (m_width g), vi x2, vi x4] h from xIc k_X4_areSmallTogether_12 (have c1 := v19.1; have v17 := v19.2; (And.intro c1 (And.intro (fun c2 => have v4 := v17.1 c2; (show wp mX4_areSmallTogether 3 rc rs Q 32 [some (vr 16), some (vr a1), some (vi x2), some (vi x3), some (vi x4)] [] h from xIc k_X4_areSmallTogether_32 (And.intro (ll_16 hL) (And.intro (fun c6 => have v8 := v4.1 c6; (show wp mX4_areSmallTogether 3 rc rs Q 44 [some (vr 16), some (vr a1), some (vi x2), some (vi x3), some (vi x4)] [] h from xZ k_X4_areSmallTogether_44 (And.intro rfl (And.intro (Or.inl rfl) v8)))) (fun c7 => have v9 := v4.2 (Int.not_lt.mp c7); (show wp mX4_areSmallTogether 3 rc rs Q 40 [some (vr 16), some (vr a1), some (vi x2), some (vi x3), some (vi x4)] [] h from xGo k_X4_areSmallTogether_40 (show wp mX4_areSmallTogether 3 rc rs Q 45 [some (vr 16), some (vr a1), some (vi x2), some (vi x3), some (vi x4)] [vi 1] h from xZ k_X4_areSmallTogether_45 (And.intro rfl (And.intro (Or.inr rfl) v9))))))))) (fun c3 => have v5 := v17.2 (Int.not_le.mp c3); (show wp mX4_areSmallTogether 3 rc rs Q 16 [some (vr 16), some (vr a1), some (vi x2), some (vi x3), some (vi x4)] [] h from xcV k_X4_areSmallTogether_16 s_X4_areSmallTogether_21 (have c14 := v5.1; have v15 := v5.2; (Exists.intro [vr a1, vi x4] (Exists.intro 16 (Exists.intro [vi x3] (And.intro (And.intro rfl (And.intro rfl (Nat.le_of_ble_eq_true rfl))) (And.intro (ll_16 hL) (Exists.intro 2 (Exists.intro 0 (Exists.intro 0 (Exists.intro _ (And.intro (l_sizeOf (h := h) hL c14) (And.intro (And.intro (by decide) (And.intro (Nat.zero_le _) (Nat.zero_le _))) (eQP (show wp mX4_areSmallTogether 3 rc rs Q 24 [some (vr 16), some (vr a1), some (vi x2), some (vi x3), some (vi x4)] [vi (m_size g x4), vi x3] h from xGo k_X4_areSmallTogether_24 (have c10 := v15.1; have v13 := v15.2; (And.intro c10 (And.intro rfl (have c11 := v13.1; have v12 := v13.2; (And.intro c11 (And.intro rfl v12))))))))))))))))))))))))))))))))))))))))
theorem l_tierOf {h g : AH} {da sa : Nat → Nat} (hL : LayL h) {a : Nat} {s : Int} (hp : a = 5 ∧ cPol h g ∧ cRd h g da sa ∧ 0 ≤ s ∧ s < iH g 89 13) : Ct 3 0 0 mX4_tierOf [vr 16, vr a, vi s] h (QI fun x h' => x = m_tier g s ∧ h' = h) := by
  refine e_X4_tierOf hL (Or.inl hp.1) ⟨hp, ?_⟩
  unfold m_tier
  refine ⟨fun c => ⟨fun c2 => ⟨fun c3 => ⟨_, rfl, ?_, rfl⟩, fun c3 => ⟨_, rfl, ?_, rfl⟩⟩, fun c2 => ⟨_, rfl, ?_, rfl⟩⟩, fun c => ⟨_, rfl, ?_, rfl⟩⟩ <;>
  · (repeat' split) <;> first | rfl | omega
theorem l_hasDropped {h g : AH} {da sa : Nat → Nat} (hL : LayL h) {a : Nat} {f : Int} (hp : a = 5 ∧ cPol h g ∧ cRd h g da sa ∧ 0 ≤ f ∧ f + m_width g ≤ iH g 89 13) : Ct 1 0 0 mX4_hasDropped [vr 16, vr a, vi f] h (QI fun x h' => x = b01 (m_drp g f (m_width g).toNat) ∧ h' = h) := by
  obtain ⟨rfl, hq, hc, h0, h1⟩ := hp
  have hw := m_width_bd g
  have h8 := hc.2.2.2.1
  have key : ∀ i : Nat, (i : Int) < m_width g → ((∀ k : Nat, k < 64 → ¬ bt (jH h 7 (f + (i : Int)).toNat) k) ↔ ¬ m_live g (iH g 1155 (f + (i : Int)).toNat) < iH g 615 (iH g 1155 (f + (i : Int)).toNat).toNat) := by
    intro i hi
    have hs : 0 ≤ f + (i : Int) ∧ f + (i : Int) < iH g 89 13 := by omega
    obtain ⟨e1, -, -⟩ := pc_now hc hs
    have hb := cnt_bd (bt (jH h 7 (f + (i : Int)).toNat)) 64
    have e2 : pcL (jH h 7 (f + (i : Int)).toNat) = cnt (bt (jH h 7 (f + (i : Int)).toNat)) 64 := rfl
    constructor
    · intro q
      have : cnt (bt (jH h 7 (f + (i : Int)).toNat)) 64 = 0 := cnt_cut (n := 0) (by omega) (fun k _ hk => q k hk)
      omega
    · intro q k hk w
      have h3 : ∀ n : Nat, k < n → 1 ≤ cnt (bt (jH h 7 (f + (i : Int)).toNat)) n := by
        intro n
        induction n with
        | zero => intro c; omega
        | succ n ih =>
          intro c
          by_cases e : k = n
          · subst e; have := cnt_bd (bt (jH h 7 (f + (i : Int)).toNat)) k; rw [cnt_s w]; omega
          · have := ih (by omega)
            by_cases c2 : bt (jH h 7 (f + (i : Int)).toNat) n
            · rw [cnt_s c2]; omega
            · rw [cnt_n c2]; omega
      have := h3 64 hk
      omega
  have main : ∀ i : Nat, (∀ j : Nat, j < i → ¬ m_live g (iH g 1155 (f + (j : Int)).toNat) < iH g 615 (iH g 1155 (f + (j : Int)).toNat).toNat) → (i : Int) ≤ m_width g → wp mX4_hasDropped 1 0 0 (QI fun x h' => x = b01 (m_drp g f (m_width g).toNat) ∧ h' = h) 2 [some (vr 16), some (vr 5), some (vi f), some (vi (f + (i : Int)))] [] h := by
    refine dn (m_width g).toNat (fun i hi q1 q2 => ?_) (fun i hi ih q1 q2 => ?_)
    · exact t_X4_hasDropped_2 (g := g) hL (Or.inl rfl) ⟨hq, by omega, fun _ => ⟨_, rfl, (b01_f (fun ⟨j, hj, w⟩ => q1 j (by omega) w)).symm, rfl⟩, fun c => absurd c (by omega)⟩
    · have ki := key i (by omega)
      refine t_X4_hasDropped_2 (g := g) hL (Or.inl rfl) ⟨hq, by omega, fun c => absurd c (by omega), fun c => ⟨by omega, fun c2 => ⟨by omega, ?_⟩, fun c2 => ⟨_, rfl, (b01_t ⟨i, by omega, ?_⟩).symm, rfl⟩⟩⟩
      · rw [show f + (i : Int) + 1 = f + ((i + 1 : Nat) : Int) by omega]
        refine ih (fun j hj => ?_) (by omega)
        by_cases e : j = i
        · subst e; exact ki.mp (lc_n0.mp c2)
        · exact q1 j (by omega)
      · exact Decidable.not_not.mp fun q => c2 (lc_n0.mpr (ki.mpr q))
  have := main 0 (fun j hj => absurd hj (Nat.not_lt_zero _)) (by omega)
  rw [show f + ((0 : Nat) : Int) = f by omega] at this
  exact e_X4_hasDropped hL (Or.inl rfl) this
theorem l_areSmallTogether {h g : AH} {da sa : Nat → Nat} (hL : LayL h) {a : Nat} {f : Int} (hp : a = 5 ∧ cPol h g ∧ cRd h g da sa ∧ 0 ≤ f ∧ f + m_width g ≤ iH g 89 13) : Ct 3 0 0 mX4_areSmallTogether [vr 16, vr a, vi f] h (QI fun x h' => x = b01 (m_szs g f (m_width g).toNat ≤ iH g 89 22) ∧ h' = h) := by
  obtain ⟨rfl, hq, hc, h0, h1⟩ := hp
  have hw := m_width_bd g
  have h8 := hc.2.2.2.1
  have e0 : f = f + ((0 : Nat) : Int) := by omega
  have main := up (P := fun i => wp mX4_areSmallTogether 3 0 0 (QI fun x h' => x = b01 (m_szs g f (m_width g).toNat ≤ iH g 89 22) ∧ h' = h) 5 [some (vr 16), some (vr 5), some (vi f), some (vi (m_szs g f i)), some (vi (f + (i : Int)))] [] h) (m_width g).toNat ?_ ?_
  · rw [← e0] at main
    exact e_X4_areSmallTogether hL (Or.inl rfl) main
  · refine t_X4_areSmallTogether_5 (g := g) (da := da) (sa := sa) hL (Or.inl rfl) ⟨hq, by omega, fun _ => ?_, fun c => absurd c (by omega)⟩
    rw [hq.2.2.1]
    exact ⟨fun c => ⟨_, rfl, (b01_f (by omega)).symm, rfl⟩, fun c => ⟨_, rfl, (b01_t c).symm, rfl⟩⟩
  · intro i hi ih
    have hz := m_size_bd (m_sz_of hq hc (s := f + (i : Int)) (by omega))
    have hb := sumN_bd (fun i => m_size g (f + (i : Int))) 64 (by omega) i (fun j hj => m_size_bd (m_sz_of hq hc (s := f + (j : Int)) (by omega)))
    have hb' : 0 ≤ m_szs g f i ∧ m_szs g f i ≤ (i : Int) * 64 := hb
    refine t_X4_areSmallTogether_5 (g := g) (da := da) (sa := sa) hL (Or.inl rfl) ⟨hq, by omega, fun c => absurd c (by omega), fun c => ⟨⟨rfl, hq, hc, by omega, by omega⟩, by omega, by omega, ?_⟩⟩
    rw [show f + (i : Int) + 1 = f + ((i + 1 : Nat) : Int) by omega]
    exact ih
def b_X4_areOfOneTier_0 : List IE := [(.aload_n 0, 1, 0, 0, 0, 0), (.aload_n 1, 1, 0, 0, 1, 0), (.iload_n 2, 1, 0, 0, 2, 0)]
theorem k_X4_areOfOneTier_0 : ckB mX4_areOfOneTier 4 0 b_X4_areOfOneTier_0 3 = true := by decide +kernel
def b_X4_areOfOneTier_6 : List IE := [(.istore_n 3, 1, 0, 0, 3, 0), (.iload_n 2, 1, 0, 0, 2, 0), (.iconst 1, 1, 1, 0, 0, 0), (.iadd, 1, 0, 0, 0, 0), (.istore 4, 2, 0, 0, 4, 0)]
theorem k_X4_areOfOneTier_6 : ckB mX4_areOfOneTier 4 6 b_X4_areOfOneTier_6 12 = true := by decide +kernel
def b_X4_areOfOneTier_12 : List IE := [(.iload 4, 2, 0, 0, 4, 0), (.iload_n 2, 1, 0, 0, 2, 0), (.aload_n 0, 1, 0, 0, 0, 0)]
theorem k_X4_areOfOneTier_12 : ckB mX4_areOfOneTier 4 12 b_X4_areOfOneTier_12 16 = true := by decide +kernel
def b_X4_areOfOneTier_19 : List IE := [(.iadd, 1, 0, 0, 0, 0)]
theorem k_X4_areOfOneTier_19 : ckIc mX4_areOfOneTier 4 19 b_X4_areOfOneTier_19 20 3 22 42 23 = true := by decide +kernel
def b_X4_areOfOneTier_23 : List IE := [(.aload_n 0, 1, 0, 0, 0, 0), (.aload_n 1, 1, 0, 0, 1, 0), (.iload 4, 2, 0, 0, 4, 0)]
theorem k_X4_areOfOneTier_23 : ckB mX4_areOfOneTier 4 23 b_X4_areOfOneTier_23 27 = true := by decide +kernel
def b_X4_areOfOneTier_30 : List IE := [(.iload_n 3, 1, 0, 0, 3, 0)]
theorem k_X4_areOfOneTier_30 : ckIc mX4_areOfOneTier 4 30 b_X4_areOfOneTier_30 31 0 5 36 34 = true := by decide +kernel
def b_X4_areOfOneTier_34 : List IE := [(.iconst 0, 1, 0, 0, 0, 0)]
theorem k_X4_areOfOneTier_34 : ckZ mX4_areOfOneTier 4 34 b_X4_areOfOneTier_34 35 = true := by decide +kernel
def b_X4_areOfOneTier_36 : List IE := [(.iinc 4 1, 3, 1, 0, 4, 0)]
theorem k_X4_areOfOneTier_36 : ckGo mX4_areOfOneTier 4 36 b_X4_areOfOneTier_36 39 (-27) 12 = true := by decide +kernel
def b_X4_areOfOneTier_42 : List IE := [(.iload_n 3, 1, 0, 0, 3, 0), (.iconst 3, 1, 3, 0, 0, 0)]
theorem k_X4_areOfOneTier_42 : ckIc mX4_areOfOneTier 4 42 b_X4_areOfOneTier_42 44 3 7 51 47 = true := by decide +kernel
def b_X4_areOfOneTier_47 : List IE := [(.iconst 1, 1, 1, 0, 0, 0)]
theorem k_X4_areOfOneTier_47 : ckGo mX4_areOfOneTier 4 47 b_X4_areOfOneTier_47 48 4 52 = true := by decide +kernel
def b_X4_areOfOneTier_51 : List IE := [(.iconst 0, 1, 0, 0, 0, 0)]
theorem k_X4_areOfOneTier_51 : ckZ mX4_areOfOneTier 4 51 b_X4_areOfOneTier_51 52 = true := by decide +kernel
def b_X4_areOfOneTier_52 : List IE := []
theorem k_X4_areOfOneTier_52 : ckZ mX4_areOfOneTier 4 52 b_X4_areOfOneTier_52 52 = true := by decide +kernel
theorem s_X4_areOfOneTier_3 : cV mX4_areOfOneTier 3 mX4_tierOf 55 2 4 := ⟨by decide +kernel, ⟨ml_X4_tierOf, li_RX4_55, im_X4_tierOf, se_X4_tierOf⟩, ⟨by decide +kernel, by decide +kernel⟩, by decide +kernel⟩
theorem s_X4_areOfOneTier_16 : cV mX4_areOfOneTier 16 mX4_width 48 0 4 := ⟨by decide +kernel, ⟨ml_X4_width, li_RX4_48, im_X4_width, se_X4_width⟩, ⟨by decide +kernel, by decide +kernel⟩, by decide +kernel⟩
theorem s_X4_areOfOneTier_27 : cV mX4_areOfOneTier 27 mX4_tierOf 55 2 4 := ⟨by decide +kernel, ⟨ml_X4_tierOf, li_RX4_55, im_X4_tierOf, se_X4_tierOf⟩, ⟨by decide +kernel, by decide +kernel⟩, by decide +kernel⟩
theorem t_X4_areOfOneTier_0 {rc rs : Nat} {Q : Option AV → AH → Prop} {h : AH} {sa : Nat → Nat} {da : Nat → Nat} {g : AH} {a1 : Nat} {x2 : Int} (hL : LayL h) (hA1 : iSt a1) (hv : (a1 = 5 ∧ cPol h g ∧ cRd h g da sa ∧ 0 ≤ x2 ∧ x2 < iH g 89 13) ∧ (-2147483648 ≤ (x2 + 1) ∧ (x2 + 1) < 2147483648) ∧ wp mX4_areOfOneTier 4 rc rs Q 12 [some (vr 16), some (vr a1), some (vi x2), some (vi (m_tier g x2)), some (vi (x2 + 1))] [] h) : wp mX4_areOfOneTier 4 rc rs Q 0 [some (vr 16), some (vr a1), some (vi x2), none, none] [] h :=
  (show wp mX4_areOfOneTier 4 rc rs Q 0 [some (vr 16), some (vr a1), some (vi x2), none, none] [] h from xcV k_X4_areOfOneTier_0 s_X4_areOfOneTier_3 (have c3 := hv.1; have v4 := hv.2; (Exists.intro [vr a1, vi x2] (Exists.intro 16 (Exists.intro [] (And.intro (And.intro rfl (And.intro rfl (Nat.le_of_ble_eq_true rfl))) (And.intro (ll_16 hL) (Exists.intro 3 (Exists.intro 0 (Exists.intro 0 (Exists.intro _ (And.intro (l_tierOf (h := h) hL c3) (And.intro (And.intro (by decide) (And.intro (Nat.zero_le _) (Nat.zero_le _))) (eQP (show wp mX4_areOfOneTier 4 rc rs Q 6 [some (vr 16), some (vr a1), some (vi x2), none, none] [vi (m_tier g x2)] h from xB k_X4_areOfOneTier_6 (And.intro rfl (have c1 := v4.1; have v2 := v4.2; (And.intro c1 (And.intro rfl v2)))))))))))))))))))
theorem e_X4_areOfOneTier {mc ms : Nat} {Q : Option AV → AH → Prop} {h : AH} {sa : Nat → Nat} {da : Nat → Nat} {g : AH} {a1 : Nat} {x2 : Int} (hL : LayL h) (hA1 : iSt a1) (hv : (a1 = 5 ∧ cPol h g ∧ cRd h g da sa ∧ 0 ≤ x2 ∧ x2 < iH g 89 13) ∧ (-2147483648 ≤ (x2 + 1) ∧ (x2 + 1) < 2147483648) ∧ wp mX4_areOfOneTier 4 mc ms Q 12 [some (vr 16), some (vr a1), some (vi x2), some (vi (m_tier g x2)), some (vi (x2 + 1))] [] h) : Ct 4 mc ms mX4_areOfOneTier [vr 16, vr a1, vi x2] h Q := Ct.of (by decide +kernel) (Nat.le_of_ble_eq_true rfl) (t_X4_areOfOneTier_0 hL hA1 hv)
theorem t_X4_areOfOneTier_12 {rc rs : Nat} {Q : Option AV → AH → Prop} {h : AH} {sa : Nat → Nat} {da : Nat → Nat} {g : AH} {a1 : Nat} {x2 x3 x4 : Int} (hL : LayL h) (hA1 : iSt a1) (hv : (cPol h g) ∧ (-2147483648 ≤ (x2 + (m_width g)) ∧ (x2 + (m_width g)) < 2147483648) ∧ (((x2 + (m_width g)) ≤ x4 → ((3 ≤ x3 → Q (some (vi 0)) h) ∧ (x3 < 3 → Q (some (vi 1)) h))) ∧ (x4 < (x2 + (m_width g)) → (a1 = 5 ∧ cPol h g ∧ cRd h g da sa ∧ 0 ≤ x4 ∧ x4 < iH g 89 13) ∧ (((m_tier g x4) = x3 → (-2147483648 ≤ (x4 + 1) ∧ (x4 + 1) < 2147483648) ∧ wp mX4_areOfOneTier 4 rc rs Q 12 [some (vr 16), some (vr a1), some (vi x2), some (vi x3), some (vi (x4 + 1))] [] h) ∧ ((m_tier g x4) ≠ x3 → Q (some (vi 0)) h))))) : wp mX4_areOfOneTier 4 rc rs Q 12 [some (vr 16), some (vr a1), some (vi x2), some (vi x3), some (vi x4)] [] h :=
  (show wp mX4_areOfOneTier 4 rc rs Q 12 [some (vr 16), some (vr a1), some (vi x2), some (vi x3), some (vi x4)] [] h from xcV k_X4_areOfOneTier_12 s_X4_areOfOneTier_16 (have c20 := hv.1; have v21 := hv.2; (Exists.intro [] (Exists.intro 16 (Exists.intro [vi x2, vi x4] (And.intro (And.intro rfl (And.intro rfl (Nat.le_of_ble_eq_true rfl))) (And.intro (ll_16 hL) (Exists.intro 0 (Exists.intro 0 (Exists.intro 0 (Exists.intro _ (And.intro (l_width (h := h) hL c20) (And.intro (And.intro (by decide) (And.intro (Nat.zero_le _) (Nat.zero_le _))) (eQP (show wp mX4_areOfOneTier 4 rc rs Q 19 [some (vr 16), some (vr a1), some (vi x2), some (vi x3), some (vi x4)] [vi (m_width g), vi x2, vi x4] h from xIc k_X4_areOfOneTier_19 (have c1 := v21.1; have v19 := v21.2; (And.intro c1 (And.intro (fun c2 => have v4 := v19.1 c2; (show wp mX4_areOfOneTier 4 rc rs Q 42 [some (vr 16), some (vr a1), some (vi x2), some (vi x3), some (vi x4)] [] h from xIc k_X4_areOfOneTier_42 (And.intro (fun c6 => have v8 := v4.1 c6; (show wp mX4_areOfOneTier 4 rc rs Q 51 [some (vr 16), some (vr a1), some (vi x2), some (vi x3), some (vi x4)] [] h from xZ k_X4_areOfOneTier_51 (And.intro rfl (And.intro (Or.inl rfl) v8)))) (fun c7 => have v9 := v4.2 (Int.not_le.mp c7); (show wp mX4_areOfOneTier 4 rc rs Q 47 [some (vr 16), some (vr a1), some (vi x2), some (vi x3), some (vi x4)] [] h from xGo k_X4_areOfOneTier_47 (show wp mX4_areOfOneTier 4 rc rs Q 52 [some (vr 16), some (vr a1), some (vi x2), some (vi x3), some (vi x4)] [vi 1] h from xZ k_X4_areOfOneTier_52 (And.intro rfl (And.intro (Or.inr rfl) v9)))))))) (fun c3 => have v5 := v19.2 (Int.not_le.mp c3); (show wp mX4_areOfOneTier 4 rc rs Q 23 [some (vr 16), some (vr a1), some (vi x2), some (vi x3), some (vi x4)] [] h from xcV k_X4_areOfOneTier_23 s_X4_areOfOneTier_27 (have c16 := v5.1; have v17 := v5.2; (Exists.intro [vr a1, vi x4] (Exists.intro 16 (Exists.intro [] (And.intro (And.intro rfl (And.intro rfl (Nat.le_of_ble_eq_true rfl))) (And.intro (ll_16 hL) (Exists.intro 3 (Exists.intro 0 (Exists.intro 0 (Exists.intro _ (And.intro (l_tierOf (h := h) hL c16) (And.intro (And.intro (by decide) (And.intro (Nat.zero_le _) (Nat.zero_le _))) (eQP (show wp mX4_areOfOneTier 4 rc rs Q 30 [some (vr 16), some (vr a1), some (vi x2), some (vi x3), some (vi x4)] [vi (m_tier g x4)] h from xIc k_X4_areOfOneTier_30 (And.intro (fun c10 => have v12 := v17.1 c10; (show wp mX4_areOfOneTier 4 rc rs Q 36 [some (vr 16), some (vr a1), some (vi x2), some (vi x3), some (vi x4)] [] h from xGo k_X4_areOfOneTier_36 (have c14 := v12.1; have v15 := v12.2; (And.intro c14 (And.intro rfl v15))))) (fun c11 => have v13 := v17.2 c11; (show wp mX4_areOfOneTier 4 rc rs Q 34 [some (vr 16), some (vr a1), some (vi x2), some (vi x3), some (vi x4)] [] h from xZ k_X4_areOfOneTier_34 (And.intro rfl (And.intro (Or.inl rfl) v13)))))))))))))))))))))))))))))))))))))))
theorem l_areOfOneTier {h g : AH} {da sa : Nat → Nat} (hL : LayL h) {a : Nat} {f : Int} (hp : a = 5 ∧ cPol h g ∧ cRd h g da sa ∧ 0 ≤ f ∧ f + m_width g ≤ iH g 89 13) : Ct 4 0 0 mX4_areOfOneTier [vr 16, vr a, vi f] h (QI fun x h' => x = b01 (m_alike g f (m_width g).toNat) ∧ h' = h) := by
  obtain ⟨rfl, hq, hc, h0, h1⟩ := hp
  have hw := m_width_bd g
  have h8 := hc.2.2.2.1
  have main : ∀ i : Nat, (∀ j : Nat, j < i → m_tier g (f + (j : Int)) = m_tier g f) → (i : Int) ≤ m_width g → wp mX4_areOfOneTier 4 0 0 (QI fun x h' => x = b01 (m_alike g f (m_width g).toNat) ∧ h' = h) 12 [some (vr 16), some (vr 5), some (vi f), some (vi (m_tier g f)), some (vi (f + (i : Int)))] [] h := by
    refine dn (m_width g).toNat (fun i hi q1 q2 => ?_) (fun i hi ih q1 q2 => ?_)
    · exact t_X4_areOfOneTier_12 (g := g) (da := da) (sa := sa) hL (Or.inl rfl) ⟨hq, by omega, fun _ => ⟨fun c => ⟨_, rfl, (b01_f (fun w => by have := w.1; omega)).symm, rfl⟩, fun c => ⟨_, rfl, (b01_t ⟨c, fun j hj => q1 j (by omega)⟩).symm, rfl⟩⟩, fun c => absurd c (by omega)⟩
    · refine t_X4_areOfOneTier_12 (g := g) (da := da) (sa := sa) hL (Or.inl rfl) ⟨hq, by omega, fun c => absurd c (by omega), fun c => ⟨⟨rfl, hq, hc, by omega, by omega⟩, fun c2 => ⟨by omega, ?_⟩, fun c2 => ⟨_, rfl, (b01_f (fun w => c2 (w.2 i (by omega)))).symm, rfl⟩⟩⟩
      rw [show f + (i : Int) + 1 = f + ((i + 1 : Nat) : Int) by omega]
      refine ih (fun j hj => ?_) (by omega)
      by_cases e : j = i
      · subst e; exact c2
      · exact q1 j (by omega)
  refine e_X4_areOfOneTier hL (Or.inl rfl) ⟨⟨rfl, hq, hc, by omega, by omega⟩, by omega, ?_⟩
  have := main 1 (fun j hj => by rw [show j = 0 by omega]; congr 1; omega) (by omega)
  exact this
def b_X4_isFit_0 : List IE := [(.aload_n 0, 1, 0, 0, 0, 0), (.getfield 9, 3, 0, 4, 0, 0)]
theorem k_X4_isFit_0 : ckLs mX4_isFit 4 0 b_X4_isFit_0 4 76 #[(3, 28), (4, 52)] 28 80 [(3, 32), (4, 56)] = true := by decide +kernel
def b_X4_isFit_32 : List IE := [(.aload_n 0, 1, 0, 0, 0, 0), (.aload_n 1, 1, 0, 0, 1, 0), (.iload_n 2, 1, 0, 0, 2, 0)]
theorem k_X4_isFit_32 : ckB mX4_isFit 4 32 b_X4_isFit_32 35 = true := by decide +kernel
def b_X4_isFit_38 : List IE := []
theorem k_X4_isFit_38 : ckIf mX4_isFit 4 38 b_X4_isFit_38 38 1 12 50 41 = true := by decide +kernel
def b_X4_isFit_41 : List IE := [(.aload_n 0, 1, 0, 0, 0, 0), (.aload_n 1, 1, 0, 0, 1, 0), (.iload_n 2, 1, 0, 0, 2, 0)]
theorem k_X4_isFit_41 : ckB mX4_isFit 4 41 b_X4_isFit_41 44 = true := by decide +kernel
def b_X4_isFit_47 : List IE := []
theorem k_X4_isFit_47 : ckIf mX4_isFit 4 47 b_X4_isFit_47 47 0 7 54 50 = true := by decide +kernel
def b_X4_isFit_50 : List IE := [(.iconst 1, 1, 1, 0, 0, 0)]
theorem k_X4_isFit_50 : ckGo mX4_isFit 4 50 b_X4_isFit_50 51 4 55 = true := by decide +kernel
def b_X4_isFit_54 : List IE := [(.iconst 0, 1, 0, 0, 0, 0)]
theorem k_X4_isFit_54 : ckZ mX4_isFit 4 54 b_X4_isFit_54 55 = true := by decide +kernel
def b_X4_isFit_55 : List IE := []
theorem k_X4_isFit_55 : ckZ mX4_isFit 4 55 b_X4_isFit_55 55 = true := by decide +kernel
def b_X4_isFit_56 : List IE := [(.aload_n 0, 1, 0, 0, 0, 0), (.aload_n 1, 1, 0, 0, 1, 0), (.iload_n 2, 1, 0, 0, 2, 0)]
theorem k_X4_isFit_56 : ckB mX4_isFit 4 56 b_X4_isFit_56 59 = true := by decide +kernel
def b_X4_isFit_62 : List IE := []
theorem k_X4_isFit_62 : ckIf mX4_isFit 4 62 b_X4_isFit_62 62 0 16 78 65 = true := by decide +kernel
def b_X4_isFit_65 : List IE := [(.aload_n 0, 1, 0, 0, 0, 0), (.aload_n 1, 1, 0, 0, 1, 0), (.iload_n 2, 1, 0, 0, 2, 0)]
theorem k_X4_isFit_65 : ckB mX4_isFit 4 65 b_X4_isFit_65 68 = true := by decide +kernel
def b_X4_isFit_71 : List IE := []
theorem k_X4_isFit_71 : ckIf mX4_isFit 4 71 b_X4_isFit_71 71 0 7 78 74 = true := by decide +kernel
def b_X4_isFit_74 : List IE := [(.iconst 1, 1, 1, 0, 0, 0)]
theorem k_X4_isFit_74 : ckGo mX4_isFit 4 74 b_X4_isFit_74 75 4 79 = true := by decide +kernel
def b_X4_isFit_78 : List IE := [(.iconst 0, 1, 0, 0, 0, 0)]
theorem k_X4_isFit_78 : ckZ mX4_isFit 4 78 b_X4_isFit_78 79 = true := by decide +kernel
def b_X4_isFit_79 : List IE := []
theorem k_X4_isFit_79 : ckZ mX4_isFit 4 79 b_X4_isFit_79 79 = true := by decide +kernel
def b_X4_isFit_80 : List IE := [(.aload_n 0, 1, 0, 0, 0, 0), (.aload_n 1, 1, 0, 0, 1, 0), (.iload_n 2, 1, 0, 0, 2, 0)]
theorem k_X4_isFit_80 : ckB mX4_isFit 4 80 b_X4_isFit_80 83 = true := by decide +kernel
def b_X4_isFit_86 : List IE := []
theorem k_X4_isFit_86 : ckZ mX4_isFit 4 86 b_X4_isFit_86 86 = true := by decide +kernel
theorem s_X4_isFit_35 : cV mX4_isFit 35 mX4_areOfOneTier 62 2 4 := ⟨by decide +kernel, ⟨ml_X4_areOfOneTier, li_RX4_62, im_X4_areOfOneTier, se_X4_areOfOneTier⟩, ⟨by decide +kernel, by decide +kernel⟩, by decide +kernel⟩
theorem s_X4_isFit_44 : cV mX4_isFit 44 mX4_areSmallTogether 65 2 4 := ⟨by decide +kernel, ⟨ml_X4_areSmallTogether, li_RX4_65, im_X4_areSmallTogether, se_X4_areSmallTogether⟩, ⟨by decide +kernel, by decide +kernel⟩, by decide +kernel⟩
theorem s_X4_isFit_59 : cV mX4_isFit 59 mX4_areOfOneTier 62 2 4 := ⟨by decide +kernel, ⟨ml_X4_areOfOneTier, li_RX4_62, im_X4_areOfOneTier, se_X4_areOfOneTier⟩, ⟨by decide +kernel, by decide +kernel⟩, by decide +kernel⟩
theorem s_X4_isFit_68 : cV mX4_isFit 68 mX4_hasDropped 68 2 4 := ⟨by decide +kernel, ⟨ml_X4_hasDropped, li_RX4_68, im_X4_hasDropped, se_X4_hasDropped⟩, ⟨by decide +kernel, by decide +kernel⟩, by decide +kernel⟩
theorem s_X4_isFit_83 : cV mX4_isFit 83 mX4_areOfOneTier 62 2 4 := ⟨by decide +kernel, ⟨ml_X4_areOfOneTier, li_RX4_62, im_X4_areOfOneTier, se_X4_areOfOneTier⟩, ⟨by decide +kernel, by decide +kernel⟩, by decide +kernel⟩
theorem t_X4_isFit_0 {rc rs : Nat} {Q : Option AV → AH → Prop} {h : AH} {sa : Nat → Nat} {da : Nat → Nat} {g : AH} {a1 : Nat} {x2 : Int} (hL : LayL h) (hA1 : iSt a1) (hv : (((iH h 16 0) = 3 → (a1 = 5 ∧ cPol h g ∧ cRd h g da sa ∧ 0 ≤ x2 ∧ x2 + m_width g ≤ iH g 89 13) ∧ (((m_alike g x2 (m_width g).toNat) → Q (some (vi 1)) h) ∧ (¬ (m_alike g x2 (m_width g).toNat) → (a1 = 5 ∧ cPol h g ∧ cRd h g da sa ∧ 0 ≤ x2 ∧ x2 + m_width g ≤ iH g 89 13) ∧ ((¬ (m_szs g x2 (m_width g).toNat ≤ iH g 89 22) → Q (some (vi 0)) h) ∧ ((m_szs g x2 (m_width g).toNat ≤ iH g 89 22) → Q (some (vi 1)) h))))) ∧ ((iH h 16 0) ≠ 3 → (((iH h 16 0) = 4 → (a1 = 5 ∧ cPol h g ∧ cRd h g da sa ∧ 0 ≤ x2 ∧ x2 + m_width g ≤ iH g 89 13) ∧ ((¬ (m_alike g x2 (m_width g).toNat) → Q (some (vi 0)) h) ∧ ((m_alike g x2 (m_width g).toNat) → (a1 = 5 ∧ cPol h g ∧ cRd h g da sa ∧ 0 ≤ x2 ∧ x2 + m_width g ≤ iH g 89 13) ∧ ((¬ (m_drp g x2 (m_width g).toNat) → Q (some (vi 0)) h) ∧ ((m_drp g x2 (m_width g).toNat) → Q (some (vi 1)) h))))) ∧ ((iH h 16 0) ≠ 4 → (a1 = 5 ∧ cPol h g ∧ cRd h g da sa ∧ 0 ≤ x2 ∧ x2 + m_width g ≤ iH g 89 13) ∧ Q (some (vi (b01 (m_alike g x2 (m_width g).toNat)))) h))))) : wp mX4_isFit 5 rc rs Q 0 [some (vr 16), some (vr a1), some (vi x2)] [] h :=
  (show wp mX4_isFit 5 rc rs Q 0 [some (vr 16), some (vr a1), some (vi x2)] [] h from xLs k_X4_isFit_0 (And.intro (ll_16 hL) (And.intro (fun c36 => have v38 := hv.1 c36; (show wp mX4_isFit 5 rc rs Q 32 [some (vr 16), some (vr a1), some (vi x2)] [] h from xcV k_X4_isFit_32 s_X4_isFit_35 (have c33 := v38.1; have v34 := v38.2; (Exists.intro [vr a1, vi x2] (Exists.intro 16 (Exists.intro [] (And.intro (And.intro rfl (And.intro rfl (Nat.le_of_ble_eq_true rfl))) (And.intro (ll_16 hL) (Exists.intro 4 (Exists.intro 0 (Exists.intro 0 (Exists.intro _ (And.intro (l_areOfOneTier (h := h) hL c33) (And.intro (And.intro (by decide) (And.intro (Nat.zero_le _) (Nat.zero_le _))) (eQP (show wp mX4_isFit 5 rc rs Q 38 [some (vr 16), some (vr a1), some (vi x2)] [vi (b01 (m_alike g x2 (m_width g).toNat))] h from xIf k_X4_isFit_38 (And.intro (fun c22 => have v24 := v34.1 (b01_p.mp c22); (show wp mX4_isFit 5 rc rs Q 50 [some (vr 16), some (vr a1), some (vi x2)] [] h from xGo k_X4_isFit_50 (show wp mX4_isFit 5 rc rs Q 55 [some (vr 16), some (vr a1), some (vi x2)] [vi 1] h from xZ k_X4_isFit_55 (And.intro rfl (And.intro (Or.inr rfl) v24))))) (fun c23 => have v25 := v34.2 (b01_nn.mp c23); (show wp mX4_isFit 5 rc rs Q 41 [some (vr 16), some (vr a1), some (vi x2)] [] h from xcV k_X4_isFit_41 s_X4_isFit_44 (have c30 := v25.1; have v31 := v25.2; (Exists.intro [vr a1, vi x2] (Exists.intro 16 (Exists.intro [] (And.intro (And.intro rfl (And.intro rfl (Nat.le_of_ble_eq_true rfl))) (And.intro (ll_16 hL) (Exists.intro 3 (Exists.intro 0 (Exists.intro 0 (Exists.intro _ (And.intro (l_areSmallTogether (h := h) hL c30) (And.intro (And.intro (by decide) (And.intro (Nat.zero_le _) (Nat.zero_le _))) (eQP (show wp mX4_isFit 5 rc rs Q 47 [some (vr 16), some (vr a1), some (vi x2)] [vi (b01 (m_szs g x2 (m_width g).toNat ≤ iH g 89 22))] h from xIf k_X4_isFit_47 (And.intro (fun c26 => have v28 := v31.1 (b01_n.mp c26); (show wp mX4_isFit 5 rc rs Q 54 [some (vr 16), some (vr a1), some (vi x2)] [] h from xZ k_X4_isFit_54 (And.intro rfl (And.intro (Or.inl rfl) v28)))) (fun c27 => have v29 := v31.2 (b01_p.mp c27); (show wp mX4_isFit 5 rc rs Q 50 [some (vr 16), some (vr a1), some (vi x2)] [] h from xGo k_X4_isFit_50 (show wp mX4_isFit 5 rc rs Q 55 [some (vr 16), some (vr a1), some (vi x2)] [vi 1] h from xZ k_X4_isFit_55 (And.intro rfl (And.intro (Or.inr rfl) v29))))))))))))))))))))))))))))))))))))))) (fun c37 => have v39 := hv.2 c37; (And.intro (fun c18 => have v20 := v39.1 c18; (show wp mX4_isFit 5 rc rs Q 56 [some (vr 16), some (vr a1), some (vi x2)] [] h from xcV k_X4_isFit_56 s_X4_isFit_59 (have c15 := v20.1; have v16 := v20.2; (Exists.intro [vr a1, vi x2] (Exists.intro 16 (Exists.intro [] (And.intro (And.intro rfl (And.intro rfl (Nat.le_of_ble_eq_true rfl))) (And.intro (ll_16 hL) (Exists.intro 4 (Exists.intro 0 (Exists.intro 0 (Exists.intro _ (And.intro (l_areOfOneTier (h := h) hL c15) (And.intro (And.intro (by decide) (And.intro (Nat.zero_le _) (Nat.zero_le _))) (eQP (show wp mX4_isFit 5 rc rs Q 62 [some (vr 16), some (vr a1), some (vi x2)] [vi (b01 (m_alike g x2 (m_width g).toNat))] h from xIf k_X4_isFit_62 (And.intro (fun c4 => have v6 := v16.1 (b01_n.mp c4); (show wp mX4_isFit 5 rc rs Q 78 [some (vr 16), some (vr a1), some (vi x2)] [] h from xZ k_X4_isFit_78 (And.intro rfl (And.intro (Or.inl rfl) v6)))) (fun c5 => have v7 := v16.2 (b01_p.mp c5); (show wp mX4_isFit 5 rc rs Q 65 [some (vr 16), some (vr a1), some (vi x2)] [] h from xcV k_X4_isFit_65 s_X4_isFit_68 (have c12 := v7.1; have v13 := v7.2; (Exists.intro [vr a1, vi x2] (Exists.intro 16 (Exists.intro [] (And.intro (And.intro rfl (And.intro rfl (Nat.le_of_ble_eq_true rfl))) (And.intro (ll_16 hL) (Exists.intro 1 (Exists.intro 0 (Exists.intro 0 (Exists.intro _ (And.intro (l_hasDropped (h := h) hL c12) (And.intro (And.intro (by decide) (And.intro (Nat.zero_le _) (Nat.zero_le _))) (eQP (show wp mX4_isFit 5 rc rs Q 71 [some (vr 16), some (vr a1), some (vi x2)] [vi (b01 (m_drp g x2 (m_width g).toNat))] h from xIf k_X4_isFit_71 (And.intro (fun c8 => have v10 := v13.1 (b01_n.mp c8); (show wp mX4_isFit 5 rc rs Q 78 [some (vr 16), some (vr a1), some (vi x2)] [] h from xZ k_X4_isFit_78 (And.intro rfl (And.intro (Or.inl rfl) v10)))) (fun c9 => have v11 := v13.2 (b01_p.mp c9); (show wp mX4_isFit 5 rc rs Q 74 [some (vr 16), some (vr a1), some (vi x2)] [] h from xGo k_X4_isFit_74 (show wp mX4_isFit 5 rc rs Q 79 [some (vr 16), some (vr a1), some (vi x2)] [vi 1] h from xZ k_X4_isFit_79 (And.intro rfl (And.intro (Or.inr rfl) v11))))))))))))))))))))))))))))))))))))))) (fun c19 => have v21 := v39.2 c19; (show wp mX4_isFit 5 rc rs Q 80 [some (vr 16), some (vr a1), some (vi x2)] [] h from xcV k_X4_isFit_80 s_X4_isFit_83 (have c1 := v21.1; have v2 := v21.2; (Exists.intro [vr a1, vi x2] (Exists.intro 16 (Exists.intro [] (And.intro (And.intro rfl (And.intro rfl (Nat.le_of_ble_eq_true rfl))) (And.intro (ll_16 hL) (Exists.intro 4 (Exists.intro 0 (Exists.intro 0 (Exists.intro _ (And.intro (l_areOfOneTier (h := h) hL c1) (And.intro (And.intro (by decide) (And.intro (Nat.zero_le _) (Nat.zero_le _))) (eQP (show wp mX4_isFit 5 rc rs Q 86 [some (vr 16), some (vr a1), some (vi x2)] [vi (b01 (m_alike g x2 (m_width g).toNat))] h from xZ k_X4_isFit_86 (And.intro rfl (And.intro (b01_01 _) v2)))))))))))))))))))))))
theorem e_X4_isFit {mc ms : Nat} {Q : Option AV → AH → Prop} {h : AH} {sa : Nat → Nat} {da : Nat → Nat} {g : AH} {a1 : Nat} {x2 : Int} (hL : LayL h) (hA1 : iSt a1) (hv : (((iH h 16 0) = 3 → (a1 = 5 ∧ cPol h g ∧ cRd h g da sa ∧ 0 ≤ x2 ∧ x2 + m_width g ≤ iH g 89 13) ∧ (((m_alike g x2 (m_width g).toNat) → Q (some (vi 1)) h) ∧ (¬ (m_alike g x2 (m_width g).toNat) → (a1 = 5 ∧ cPol h g ∧ cRd h g da sa ∧ 0 ≤ x2 ∧ x2 + m_width g ≤ iH g 89 13) ∧ ((¬ (m_szs g x2 (m_width g).toNat ≤ iH g 89 22) → Q (some (vi 0)) h) ∧ ((m_szs g x2 (m_width g).toNat ≤ iH g 89 22) → Q (some (vi 1)) h))))) ∧ ((iH h 16 0) ≠ 3 → (((iH h 16 0) = 4 → (a1 = 5 ∧ cPol h g ∧ cRd h g da sa ∧ 0 ≤ x2 ∧ x2 + m_width g ≤ iH g 89 13) ∧ ((¬ (m_alike g x2 (m_width g).toNat) → Q (some (vi 0)) h) ∧ ((m_alike g x2 (m_width g).toNat) → (a1 = 5 ∧ cPol h g ∧ cRd h g da sa ∧ 0 ≤ x2 ∧ x2 + m_width g ≤ iH g 89 13) ∧ ((¬ (m_drp g x2 (m_width g).toNat) → Q (some (vi 0)) h) ∧ ((m_drp g x2 (m_width g).toNat) → Q (some (vi 1)) h))))) ∧ ((iH h 16 0) ≠ 4 → (a1 = 5 ∧ cPol h g ∧ cRd h g da sa ∧ 0 ≤ x2 ∧ x2 + m_width g ≤ iH g 89 13) ∧ Q (some (vi (b01 (m_alike g x2 (m_width g).toNat)))) h))))) : Ct 5 mc ms mX4_isFit [vr 16, vr a1, vi x2] h Q := Ct.of (by decide +kernel) (Nat.le_of_ble_eq_true rfl) (t_X4_isFit_0 hL hA1 hv)
theorem l_isFit {h g : AH} {da sa : Nat → Nat} (hL : LayL h) {a : Nat} {f : Int} (hp : a = 5 ∧ cPol h g ∧ cRd h g da sa ∧ 0 ≤ f ∧ f + m_width g ≤ iH g 89 13) : Ct 5 0 0 mX4_isFit [vr 16, vr a, vi f] h (QI fun x h' => x = b01 (m_fits g f (m_width g)) ∧ h' = h) := by
  have hq := hp.2.1
  have e := hq.1
  refine e_X4_isFit (g := g) (da := da) (sa := sa) hL (Or.inl hp.1) ?_
  rw [e]
  unfold m_fits
  refine ⟨fun c => ⟨hp, fun c2 => ⟨_, rfl, (b01_t (Or.inl ⟨c, Or.inl c2⟩)).symm, rfl⟩, fun c2 => ⟨hp, fun c3 => ⟨_, rfl, (b01_f ?_).symm, rfl⟩, fun c3 => ⟨_, rfl, (b01_t (Or.inl ⟨c, Or.inr c3⟩)).symm, rfl⟩⟩⟩, fun c => ⟨fun c2 => ⟨hp, fun c3 => ⟨_, rfl, (b01_f ?_).symm, rfl⟩, fun c3 => ⟨hp, fun c4 => ⟨_, rfl, (b01_f ?_).symm, rfl⟩, fun c4 => ⟨_, rfl, (b01_t (Or.inr ⟨c, c3, Or.inr c4⟩)).symm, rfl⟩⟩⟩, fun c2 => ⟨hp, _, rfl, ?_, rfl⟩⟩⟩
  · rintro (⟨-, q | q⟩ | ⟨q, -⟩)
    · exact c2 q
    · exact c3 q
    · exact q c
  · rintro (⟨q, -⟩ | ⟨-, q, -⟩)
    · exact c q
    · exact c3 q
  · rintro (⟨q, -⟩ | ⟨-, -, q | q⟩)
    · exact c q
    · exact q c2
    · exact c4 q
  · congr 1
    exact propext ⟨fun q => Or.inr ⟨c, q, Or.inl c2⟩, fun q => by
      rcases q with ⟨q, -⟩ | ⟨-, q, -⟩
      · exact absurd q c
      · exact q⟩
def b_X4_choose_0 : List IE := [(.iconst (-1), 1, (-1), 0, 0, 0), (.istore_n 2, 1, 0, 0, 2, 0), (.iconst 4, 1, 4, 0, 0, 0), (.istore_n 3, 1, 0, 0, 3, 0), (.iconst 0, 1, 0, 0, 0, 0), (.istore 4, 2, 0, 0, 4, 0)]
theorem k_X4_choose_0 : ckB mX4_choose 4 0 b_X4_choose_0 7 = true := by decide +kernel
def b_X4_choose_7 : List IE := [(.iload 4, 2, 0, 0, 4, 0), (.aload_n 0, 1, 0, 0, 0, 0)]
theorem k_X4_choose_7 : ckB mX4_choose 4 7 b_X4_choose_7 10 = true := by decide +kernel
def b_X4_choose_13 : List IE := [(.iadd, 1, 0, 0, 0, 0), (.aload_n 1, 1, 0, 0, 1, 0), (.getfield 52, 3, 0, 9, 2, 0)]
theorem k_X4_choose_13 : ckIc mX4_choose 4 13 b_X4_choose_13 18 4 40 58 21 = true := by decide +kernel
def b_X4_choose_21 : List IE := [(.aload_n 0, 1, 0, 0, 0, 0), (.aload_n 1, 1, 0, 0, 1, 0), (.iload 4, 2, 0, 0, 4, 0)]
theorem k_X4_choose_21 : ckB mX4_choose 4 21 b_X4_choose_21 25 = true := by decide +kernel
def b_X4_choose_28 : List IE := [(.istore 5, 2, 0, 0, 5, 0), (.iload 5, 2, 0, 0, 5, 0), (.iload_n 3, 1, 0, 0, 3, 0)]
theorem k_X4_choose_28 : ckIc mX4_choose 4 28 b_X4_choose_28 33 3 19 52 36 = true := by decide +kernel
def b_X4_choose_36 : List IE := [(.aload_n 0, 1, 0, 0, 0, 0), (.aload_n 1, 1, 0, 0, 1, 0), (.iload 4, 2, 0, 0, 4, 0)]
theorem k_X4_choose_36 : ckB mX4_choose 4 36 b_X4_choose_36 40 = true := by decide +kernel
def b_X4_choose_43 : List IE := []
theorem k_X4_choose_43 : ckIf mX4_choose 4 43 b_X4_choose_43 43 0 9 52 46 = true := by decide +kernel
def b_X4_choose_46 : List IE := [(.iload 4, 2, 0, 0, 4, 0), (.istore_n 2, 1, 0, 0, 2, 0), (.iload 5, 2, 0, 0, 5, 0), (.istore_n 3, 1, 0, 0, 3, 0), (.iinc 4 1, 3, 1, 0, 4, 0)]
theorem k_X4_choose_46 : ckGo mX4_choose 4 46 b_X4_choose_46 55 (-48) 7 = true := by decide +kernel
def b_X4_choose_52 : List IE := [(.iinc 4 1, 3, 1, 0, 4, 0)]
theorem k_X4_choose_52 : ckGo mX4_choose 4 52 b_X4_choose_52 55 (-48) 7 = true := by decide +kernel
def b_X4_choose_58 : List IE := [(.iload_n 2, 1, 0, 0, 2, 0)]
theorem k_X4_choose_58 : ckI mX4_choose 4 58 b_X4_choose_58 59 = true := by decide +kernel
theorem s_X4_choose_10 : cV mX4_choose 10 mX4_width 48 0 4 := ⟨by decide +kernel, ⟨ml_X4_width, li_RX4_48, im_X4_width, se_X4_width⟩, ⟨by decide +kernel, by decide +kernel⟩, by decide +kernel⟩
theorem s_X4_choose_25 : cV mX4_choose 25 mX4_tierOf 55 2 4 := ⟨by decide +kernel, ⟨ml_X4_tierOf, li_RX4_55, im_X4_tierOf, se_X4_tierOf⟩, ⟨by decide +kernel, by decide +kernel⟩, by decide +kernel⟩
theorem s_X4_choose_40 : cV mX4_choose 40 mX4_isFit 58 2 4 := ⟨by decide +kernel, ⟨ml_X4_isFit, li_RX4_58, im_X4_isFit, se_X4_isFit⟩, ⟨by decide +kernel, by decide +kernel⟩, by decide +kernel⟩
theorem t_X4_choose_0 {rc rs : Nat} {Q : Option AV → AH → Prop} {h : AH} {a1 : Nat} (hL : LayL h) (hA1 : iSt a1) (hv : wp mX4_choose 6 rc rs Q 7 [some (vr 16), some (vr a1), some (vi (-1)), some (vi 4), some (vi 0), none] [] h) : wp mX4_choose 6 rc rs Q 0 [some (vr 16), some (vr a1), none, none, none, none] [] h :=
  (show wp mX4_choose 6 rc rs Q 0 [some (vr 16), some (vr a1), none, none, none, none] [] h from xB k_X4_choose_0 (And.intro rfl (And.intro rfl (And.intro rfl hv))))
theorem e_X4_choose {mc ms : Nat} {Q : Option AV → AH → Prop} {h : AH} {a1 : Nat} (hL : LayL h) (hA1 : iSt a1) (hv : wp mX4_choose 6 mc ms Q 7 [some (vr 16), some (vr a1), some (vi (-1)), some (vi 4), some (vi 0), none] [] h) : Ct 6 mc ms mX4_choose [vr 16, vr a1] h Q := Ct.of (by decide +kernel) (Nat.le_of_ble_eq_true rfl) (t_X4_choose_0 hL hA1 hv)
theorem t_X4_choose_7 {rc rs : Nat} {Q : Option AV → AH → Prop} {h : AH} {sa : Nat → Nat} {da : Nat → Nat} {g : AH} {a1 : Nat} {x2 x3 x4 : Int} (hL : LayL h) (hA1 : iSt a1) (hv : (cPol h g) ∧ (-2147483648 ≤ (x4 + (m_width g)) ∧ (x4 + (m_width g)) < 2147483648) ∧ (((iH h a1 2) < (x4 + (m_width g)) → Q (some (vi x2)) h) ∧ ((x4 + (m_width g)) ≤ (iH h a1 2) → (a1 = 5 ∧ cPol h g ∧ cRd h g da sa ∧ 0 ≤ x4 ∧ x4 < iH g 89 13) ∧ ((x3 ≤ (m_tier g x4) → (-2147483648 ≤ (x4 + 1) ∧ (x4 + 1) < 2147483648) ∧ wp mX4_choose 6 rc rs Q 7 [some (vr 16), some (vr a1), some (vi x2), some (vi x3), some (vi (x4 + 1)), none] [] h) ∧ ((m_tier g x4) < x3 → (a1 = 5 ∧ cPol h g ∧ cRd h g da sa ∧ 0 ≤ x4 ∧ x4 + m_width g ≤ iH g 89 13) ∧ ((¬ (m_fits g x4 (m_width g)) → (-2147483648 ≤ (x4 + 1) ∧ (x4 + 1) < 2147483648) ∧ wp mX4_choose 6 rc rs Q 7 [some (vr 16), some (vr a1), some (vi x2), some (vi x3), some (vi (x4 + 1)), none] [] h) ∧ ((m_fits g x4 (m_width g)) → (-2147483648 ≤ (x4 + 1) ∧ (x4 + 1) < 2147483648) ∧ wp mX4_choose 6 rc rs Q 7 [some (vr 16), some (vr a1), some (vi x4), some (vi (m_tier g x4)), some (vi (x4 + 1)), none] [] h))))))) : wp mX4_choose 6 rc rs Q 7 [some (vr 16), some (vr a1), some (vi x2), some (vi x3), some (vi x4), none] [] h :=
  (show wp mX4_choose 6 rc rs Q 7 [some (vr 16), some (vr a1), some (vi x2), some (vi x3), some (vi x4), none] [] h from xcV k_X4_choose_7 s_X4_choose_10 (have c27 := hv.1; have v28 := hv.2; (Exists.intro [] (Exists.intro 16 (Exists.intro [vi x4] (And.intro (And.intro rfl (And.intro rfl (Nat.le_of_ble_eq_true rfl))) (And.intro (ll_16 hL) (Exists.intro 0 (Exists.intro 0 (Exists.intro 0 (Exists.intro _ (And.intro (l_width (h := h) hL c27) (And.intro (And.intro (by decide) (And.intro (Nat.zero_le _) (Nat.zero_le _))) (eQP (show wp mX4_choose 6 rc rs Q 13 [some (vr 16), some (vr a1), some (vi x2), some (vi x3), some (vi x4), none] [vi (m_width g), vi x4] h from xIc k_X4_choose_13 (have c1 := v28.1; have v26 := v28.2; (And.intro c1 (And.intro (st_o hL hA1) (And.intro (fun c2 => have v4 := v26.1 c2; (show wp mX4_choose 6 rc rs Q 58 [some (vr 16), some (vr a1), some (vi x2), some (vi x3), some (vi x4), none] [] h from xI k_X4_choose_58 (And.intro rfl v4))) (fun c3 => have v5 := v26.2 (Int.not_lt.mp c3); (show wp mX4_choose 6 rc rs Q 21 [some (vr 16), some (vr a1), some (vi x2), some (vi x3), some (vi x4), none] [] h from xcV k_X4_choose_21 s_X4_choose_25 (have c23 := v5.1; have v24 := v5.2; (Exists.intro [vr a1, vi x4] (Exists.intro 16 (Exists.intro [] (And.intro (And.intro rfl (And.intro rfl (Nat.le_of_ble_eq_true rfl))) (And.intro (ll_16 hL) (Exists.intro 3 (Exists.intro 0 (Exists.intro 0 (Exists.intro _ (And.intro (l_tierOf (h := h) hL c23) (And.intro (And.intro (by decide) (And.intro (Nat.zero_le _) (Nat.zero_le _))) (eQP (show wp mX4_choose 6 rc rs Q 28 [some (vr 16), some (vr a1), some (vi x2), some (vi x3), some (vi x4), none] [vi (m_tier g x4)] h from xIc k_X4_choose_28 (And.intro rfl (And.intro (fun c6 => have v8 := v24.1 c6; (show wp mX4_choose 6 rc rs Q 52 [some (vr 16), some (vr a1), some (vi x2), some (vi x3), some (vi x4), some (vi (m_tier g x4))] [] h from xGo k_X4_choose_52 (have c10 := v8.1; have v11 := v8.2; (And.intro c10 (And.intro rfl (w_fg [true, true, true, true, true, false] v11)))))) (fun c7 => have v9 := v24.2 (Int.not_le.mp c7); (show wp mX4_choose 6 rc rs Q 36 [some (vr 16), some (vr a1), some (vi x2), some (vi x3), some (vi x4), some (vi (m_tier g x4))] [] h from xcV k_X4_choose_36 s_X4_choose_40 (have c20 := v9.1; have v21 := v9.2; (Exists.intro [vr a1, vi x4] (Exists.intro 16 (Exists.intro [] (And.intro (And.intro rfl (And.intro rfl (Nat.le_of_ble_eq_true rfl))) (And.intro (ll_16 hL) (Exists.intro 5 (Exists.intro 0 (Exists.intro 0 (Exists.intro _ (And.intro (l_isFit (h := h) hL c20) (And.intro (And.intro (by decide) (And.intro (Nat.zero_le _) (Nat.zero_le _))) (eQP (show wp mX4_choose 6 rc rs Q 43 [some (vr 16), some (vr a1), some (vi x2), some (vi x3), some (vi x4), some (vi (m_tier g x4))] [vi (b01 (m_fits g x4 (m_width g)))] h from xIf k_X4_choose_43 (And.intro (fun c12 => have v14 := v21.1 (b01_n.mp c12); (show wp mX4_choose 6 rc rs Q 52 [some (vr 16), some (vr a1), some (vi x2), some (vi x3), some (vi x4), some (vi (m_tier g x4))] [] h from xGo k_X4_choose_52 (have c16 := v14.1; have v17 := v14.2; (And.intro c16 (And.intro rfl (w_fg [true, true, true, true, true, false] v17)))))) (fun c13 => have v15 := v21.2 (b01_p.mp c13); (show wp mX4_choose 6 rc rs Q 46 [some (vr 16), some (vr a1), some (vi x2), some (vi x3), some (vi x4), some (vi (m_tier g x4))] [] h from xGo k_X4_choose_46 (And.intro rfl (And.intro rfl (have c18 := v15.1; have v19 := v15.2; (And.intro c18 (And.intro rfl (w_fg [true, true, true, true, true, false] v19))))))))))))))))))))))))))))))))))))))))))))))))))))))))))))))
def b_X11_placeInBuffer_0 : List IE := [(.iconst 0, 1, 0, 0, 0, 0), (.istore_n 2, 1, 0, 0, 2, 0)]
theorem k_X11_placeInBuffer_0 : ckB mX11_placeInBuffer 11 0 b_X11_placeInBuffer_0 2 = true := by decide +kernel
def b_X11_placeInBuffer_2 : List IE := [(.iload_n 2, 1, 0, 0, 2, 0), (.aload_n 0, 1, 0, 0, 0, 0), (.getfield 122, 3, 0, 11, 2, 0)]
theorem k_X11_placeInBuffer_2 : ckIc mX11_placeInBuffer 11 2 b_X11_placeInBuffer_2 7 3 24 31 10 = true := by decide +kernel
def b_X11_placeInBuffer_10 : List IE := [(.aload_n 0, 1, 0, 0, 0, 0), (.getfield 18, 3, 0, 11, 1, 1), (.iload_n 2, 1, 0, 0, 2, 0), (.aaload, 1, 0, 0, 0, 0), (.getfield 179, 3, 0, 0, 0, 0), (.iload_n 1, 1, 0, 0, 1, 0)]
theorem k_X11_placeInBuffer_10 : ckIc mX11_placeInBuffer 11 10 b_X11_placeInBuffer_10 20 1 5 25 23 = true := by decide +kernel
def b_X11_placeInBuffer_23 : List IE := [(.iload_n 2, 1, 0, 0, 2, 0)]
theorem k_X11_placeInBuffer_23 : ckI mX11_placeInBuffer 11 23 b_X11_placeInBuffer_23 24 = true := by decide +kernel
def b_X11_placeInBuffer_25 : List IE := [(.iinc 2 1, 3, 1, 0, 2, 0)]
theorem k_X11_placeInBuffer_25 : ckGo mX11_placeInBuffer 11 25 b_X11_placeInBuffer_25 28 (-26) 2 = true := by decide +kernel
def b_X11_placeInBuffer_31 : List IE := [(.iconst (-1), 1, (-1), 0, 0, 0)]
theorem k_X11_placeInBuffer_31 : ckI mX11_placeInBuffer 11 31 b_X11_placeInBuffer_31 32 = true := by decide +kernel
theorem t_X11_placeInBuffer_0 {rc rs : Nat} {Q : Option AV → AH → Prop} {h : AH} {x1 : Int} (hL : LayL h) (hv : wp mX11_placeInBuffer 0 rc rs Q 2 [some (vr 0), some (vi x1), some (vi 0)] [] h) : wp mX11_placeInBuffer 0 rc rs Q 0 [some (vr 0), some (vi x1), none] [] h :=
  (show wp mX11_placeInBuffer 0 rc rs Q 0 [some (vr 0), some (vi x1), none] [] h from xB k_X11_placeInBuffer_0 (And.intro rfl hv))
theorem e_X11_placeInBuffer {mc ms : Nat} {Q : Option AV → AH → Prop} {h : AH} {x1 : Int} (hL : LayL h) (hv : wp mX11_placeInBuffer 0 mc ms Q 2 [some (vr 0), some (vi x1), some (vi 0)] [] h) : Ct 0 mc ms mX11_placeInBuffer [vr 0, vi x1] h Q := Ct.of (by decide +kernel) (Nat.le_of_ble_eq_true rfl) (t_X11_placeInBuffer_0 hL hv)
theorem t_X11_placeInBuffer_2 {rc rs : Nat} {Q : Option AV → AH → Prop} {h : AH} {x1 x2 : Int} (hL : LayL h) (hv : (((iH h 0 2) ≤ x2 → Q (some (vi (-1))) h) ∧ (x2 < (iH h 0 2) → (0 ≤ x2 ∧ x2 < 4) ∧ (∃ q6 n7 : Nat, (rH h 4 x2.toNat = some q6 ∧ iD h q6 n7) ∧ (((iH h q6 0) ≠ x1 → (-2147483648 ≤ (x2 + 1) ∧ (x2 + 1) < 2147483648) ∧ wp mX11_placeInBuffer 0 rc rs Q 2 [some (vr 0), some (vi x1), some (vi (x2 + 1))] [] h) ∧ ((iH h q6 0) = x1 → Q (some (vi x2)) h)))))) : wp mX11_placeInBuffer 0 rc rs Q 2 [some (vr 0), some (vi x1), some (vi x2)] [] h :=
  (show wp mX11_placeInBuffer 0 rc rs Q 2 [some (vr 0), some (vi x1), some (vi x2)] [] h from xIc k_X11_placeInBuffer_2 (And.intro (ll_0 hL) (And.intro (fun c1 => have v3 := hv.1 c1; (show wp mX11_placeInBuffer 0 rc rs Q 31 [some (vr 0), some (vi x1), some (vi x2)] [] h from xI k_X11_placeInBuffer_31 (And.intro rfl v3))) (fun c2 => have v4 := hv.2 (Int.not_le.mp c2); (show wp mX11_placeInBuffer 0 rc rs Q 10 [some (vr 0), some (vi x1), some (vi x2)] [] h from xIc k_X11_placeInBuffer_10 (And.intro (ll_0 hL) (Exists.intro 4 (And.intro (lg_0_1 hL) (have c5 := v4.1; have v18 := v4.2; (And.intro (sdQ (ll_4 hL) c5) (Exists.elim v18 (fun q6 v16_0 => (Exists.elim v16_0 (fun n7 v16 => have c9 := v16.1; have v17 := v16.2; (Exists.intro _ (And.intro c9.1 (And.intro (dc_o c9.2) (And.intro (fun c10 => have v12 := v17.1 c10; (show wp mX11_placeInBuffer 0 rc rs Q 25 [some (vr 0), some (vi x1), some (vi x2)] [] h from xGo k_X11_placeInBuffer_25 (have c14 := v12.1; have v15 := v12.2; (And.intro c14 (And.intro rfl v15))))) (fun c11 => have v13 := v17.2 (Decidable.not_not.mp c11); (show wp mX11_placeInBuffer 0 rc rs Q 23 [some (vr 0), some (vi x1), some (vi x2)] [] h from xI k_X11_placeInBuffer_23 (And.intro rfl v13)))))))))))))))))))))
def b_X11_placeInSegments_0 : List IE := [(.iconst 0, 1, 0, 0, 0, 0), (.istore_n 2, 1, 0, 0, 2, 0)]
theorem k_X11_placeInSegments_0 : ckB mX11_placeInSegments 11 0 b_X11_placeInSegments_0 2 = true := by decide +kernel
def b_X11_placeInSegments_2 : List IE := [(.iload_n 2, 1, 0, 0, 2, 0), (.aload_n 0, 1, 0, 0, 0, 0), (.getfield 25, 3, 0, 11, 3, 1), (.getfield 153, 3, 0, 9, 2, 0)]
theorem k_X11_placeInSegments_2 : ckIc mX11_placeInSegments 11 2 b_X11_placeInSegments_2 10 3 70 80 13 = true := by decide +kernel
def b_X11_placeInSegments_13 : List IE := [(.aload_n 0, 1, 0, 0, 0, 0), (.getfield 25, 3, 0, 11, 3, 1), (.getfield 182, 3, 0, 9, 0, 1), (.iload_n 2, 1, 0, 0, 2, 0), (.aaload, 1, 0, 0, 0, 0), (.getfield 186, 3, 0, 7, 1, 1), (.astore_n 3, 1, 0, 0, 3, 0), (.iconst 0, 1, 0, 0, 0, 0), (.istore 4, 2, 0, 0, 4, 0)]
theorem k_X11_placeInSegments_13 : ckB mX11_placeInSegments 11 13 b_X11_placeInSegments_13 29 = true := by decide +kernel
def b_X11_placeInSegments_29 : List IE := [(.iload 4, 2, 0, 0, 4, 0), (.aload_n 3, 1, 0, 0, 3, 0), (.arraylength, 1, 0, 0, 0, 0)]
theorem k_X11_placeInSegments_29 : ckIc mX11_placeInSegments 11 29 b_X11_placeInSegments_29 33 3 41 74 36 = true := by decide +kernel
def b_X11_placeInSegments_36 : List IE := [(.aload_n 3, 1, 0, 0, 3, 0), (.iload 4, 2, 0, 0, 4, 0), (.aaload, 1, 0, 0, 0, 0), (.getfield 179, 3, 0, 0, 0, 0), (.iload_n 1, 1, 0, 0, 1, 0)]
theorem k_X11_placeInSegments_36 : ckIc mX11_placeInSegments 11 36 b_X11_placeInSegments_36 44 1 24 68 47 = true := by decide +kernel
def b_X11_placeInSegments_47 : List IE := [(.aload_n 0, 1, 0, 0, 0, 0), (.getfield 25, 3, 0, 11, 3, 1), (.iload_n 2, 1, 0, 0, 2, 0), (.iload 4, 2, 0, 0, 4, 0)]
theorem k_X11_placeInSegments_47 : ckB mX11_placeInSegments 11 47 b_X11_placeInSegments_47 54 = true := by decide +kernel
def b_X11_placeInSegments_57 : List IE := []
theorem k_X11_placeInSegments_57 : ckIf mX11_placeInSegments 11 57 b_X11_placeInSegments_57 57 1 11 68 60 = true := by decide +kernel
def b_X11_placeInSegments_60 : List IE := [(.bipush 100, 2, 100, 0, 0, 0), (.iload_n 2, 1, 0, 0, 2, 0), (.imul, 1, 0, 0, 0, 0), (.iload 4, 2, 0, 0, 4, 0), (.iadd, 1, 0, 0, 0, 0)]
theorem k_X11_placeInSegments_60 : ckI mX11_placeInSegments 11 60 b_X11_placeInSegments_60 67 = true := by decide +kernel
def b_X11_placeInSegments_68 : List IE := [(.iinc 4 1, 3, 1, 0, 4, 0)]
theorem k_X11_placeInSegments_68 : ckGo mX11_placeInSegments 11 68 b_X11_placeInSegments_68 71 (-42) 29 = true := by decide +kernel
def b_X11_placeInSegments_74 : List IE := [(.iinc 2 1, 3, 1, 0, 2, 0)]
theorem k_X11_placeInSegments_74 : ckGo mX11_placeInSegments 11 74 b_X11_placeInSegments_74 77 (-75) 2 = true := by decide +kernel
def b_X11_placeInSegments_80 : List IE := [(.iconst (-1), 1, (-1), 0, 0, 0)]
theorem k_X11_placeInSegments_80 : ckI mX11_placeInSegments 11 80 b_X11_placeInSegments_80 81 = true := by decide +kernel
theorem s_X11_placeInSegments_54 : cV mX11_placeInSegments 54 mX9_isDropped 189 2 9 := ⟨by decide +kernel, ⟨ml_X9_isDropped, li_RX11_189, im_X9_isDropped, se_X9_isDropped⟩, ⟨by decide +kernel, by decide +kernel⟩, by decide +kernel⟩
theorem t_X11_placeInSegments_0 {rc rs : Nat} {Q : Option AV → AH → Prop} {h : AH} {x1 : Int} (hL : LayL h) (hv : wp mX11_placeInSegments 1 rc rs Q 2 [some (vr 0), some (vi x1), some (vi 0), none, none] [] h) : wp mX11_placeInSegments 1 rc rs Q 0 [some (vr 0), some (vi x1), none, none, none] [] h :=
  (show wp mX11_placeInSegments 1 rc rs Q 0 [some (vr 0), some (vi x1), none, none, none] [] h from xB k_X11_placeInSegments_0 (And.intro rfl hv))
theorem e_X11_placeInSegments {mc ms : Nat} {Q : Option AV → AH → Prop} {h : AH} {x1 : Int} (hL : LayL h) (hv : wp mX11_placeInSegments 1 mc ms Q 2 [some (vr 0), some (vi x1), some (vi 0), none, none] [] h) : Ct 1 mc ms mX11_placeInSegments [vr 0, vi x1] h Q := Ct.of (by decide +kernel) (Nat.le_of_ble_eq_true rfl) (t_X11_placeInSegments_0 hL hv)
theorem t_X11_placeInSegments_2 {rc rs : Nat} {Q : Option AV → AH → Prop} {h : AH} {x1 x2 : Int} (hL : LayL h) (hv : (((iH h 5 2) ≤ x2 → Q (some (vi (-1))) h) ∧ (x2 < (iH h 5 2) → (0 ≤ x2 ∧ x2 < 8) ∧ (∃ q6 n7 r8 : Nat, (rH h 6 x2.toNat = some q6 ∧ iSg h q6 n7 r8) ∧ wp mX11_placeInSegments 1 rc rs Q 29 [some (vr 0), some (vi x1), some (vi x2), some (vr (q6 - 1)), some (vi 0)] [] h)))) : wp mX11_placeInSegments 1 rc rs Q 2 [some (vr 0), some (vi x1), some (vi x2), none, none] [] h :=
  (show wp mX11_placeInSegments 1 rc rs Q 2 [some (vr 0), some (vi x1), some (vi x2), none, none] [] h from xIc k_X11_placeInSegments_2 (And.intro (ll_0 hL) (Exists.intro 5 (And.intro (lg_0_3 hL) (And.intro (ll_5 hL) (And.intro (fun c1 => have v3 := hv.1 c1; (show wp mX11_placeInSegments 1 rc rs Q 80 [some (vr 0), some (vi x1), some (vi x2), none, none] [] h from xI k_X11_placeInSegments_80 (And.intro rfl v3))) (fun c2 => have v4 := hv.2 (Int.not_le.mp c2); (show wp mX11_placeInSegments 1 rc rs Q 13 [some (vr 0), some (vi x1), some (vi x2), none, none] [] h from xB k_X11_placeInSegments_13 (And.intro (ll_0 hL) (Exists.intro 5 (And.intro (lg_0_3 hL) (And.intro (ll_5 hL) (Exists.intro 6 (And.intro (lg_5_0 hL) (have c5 := v4.1; have v12 := v4.2; (And.intro (sdQ (ll_6 hL) c5) (Exists.elim v12 (fun q6 v10_0 => (Exists.elim v10_0 (fun n7 v10_1 => (Exists.elim v10_1 (fun r8 v10 => have c9 := v10.1; have v11 := v10.2; (Exists.intro _ (And.intro c9.1 (And.intro (sg_o c9.2) (Exists.intro (q6 - 1) (And.intro (sg_r1 c9.2) (And.intro rfl (And.intro rfl v11)))))))))))))))))))))))))))))
theorem t_X11_placeInSegments_29 {rc rs : Nat} {Q : Option AV → AH → Prop} {h : AH} {x1 x2 x4 : Int} {a3 n3 : Nat} (hL : LayL h) (hA3 : a3 < nH h ∧ kH h a3 = (16, n3)) (hv : (n3 < 2147483648) ∧ (((n3 : Int) ≤ x4 → (-2147483648 ≤ (x2 + 1) ∧ (x2 + 1) < 2147483648) ∧ wp mX11_placeInSegments 1 rc rs Q 2 [some (vr 0), some (vi x1), some (vi (x2 + 1)), none, none] [] h) ∧ (x4 < (n3 : Int) → (0 ≤ x4 ∧ x4 < n3) ∧ (∃ q9 n10 : Nat, (rH h a3 x4.toNat = some q9 ∧ iD h q9 n10) ∧ (((iH h q9 0) ≠ x1 → (-2147483648 ≤ (x4 + 1) ∧ (x4 + 1) < 2147483648) ∧ wp mX11_placeInSegments 1 rc rs Q 29 [some (vr 0), some (vi x1), some (vi x2), some (vr a3), some (vi (x4 + 1))] [] h) ∧ ((iH h q9 0) = x1 → (iSt 5 ∧ (0 ≤ x2 ∧ x2 < 8) ∧ (0 ≤ x4 ∧ x4 < 64)) ∧ (((bt (jH h (5 + 2) (x2).toNat) (x4).toNat) → (-2147483648 ≤ (x4 + 1) ∧ (x4 + 1) < 2147483648) ∧ wp mX11_placeInSegments 1 rc rs Q 29 [some (vr 0), some (vi x1), some (vi x2), some (vr a3), some (vi (x4 + 1))] [] h) ∧ (¬ (bt (jH h (5 + 2) (x2).toNat) (x4).toNat) → (-2147483648 ≤ (100 * x2) ∧ (100 * x2) < 2147483648) ∧ (-2147483648 ≤ ((100 * x2) + x4) ∧ ((100 * x2) + x4) < 2147483648) ∧ Q (some (vi ((100 * x2) + x4))) h)))))))) : wp mX11_placeInSegments 1 rc rs Q 29 [some (vr 0), some (vi x1), some (vi x2), some (vr a3), some (vi x4)] [] h :=
  (show wp mX11_placeInSegments 1 rc rs Q 29 [some (vr 0), some (vi x1), some (vi x2), some (vr a3), some (vi x4)] [] h from xIc k_X11_placeInSegments_29 (have c1 := hv.1; have v35 := hv.2; (And.intro (sdL hA3 (And.intro (by decide) (And.intro (by decide) c1))) (len_r hA3 (And.intro (fun c2 => have v4 := v35.1 c2; (show wp mX11_placeInSegments 1 rc rs Q 74 [some (vr 0), some (vi x1), some (vi x2), some (vr a3), some (vi x4)] [] h from xGo k_X11_placeInSegments_74 (have c6 := v4.1; have v7 := v4.2; (And.intro c6 (And.intro rfl (w_fg [true, true, true, false, false] v7)))))) (fun c3 => have v5 := v35.2 (Int.not_le.mp c3); (show wp mX11_placeInSegments 1 rc rs Q 36 [some (vr 0), some (vi x1), some (vi x2), some (vr a3), some (vi x4)] [] h from xIc k_X11_placeInSegments_36 (have c8 := v5.1; have v34 := v5.2; (And.intro (sdQ hA3 c8) (Exists.elim v34 (fun q9 v32_0 => (Exists.elim v32_0 (fun n10 v32 => have c12 := v32.1; have v33 := v32.2; (Exists.intro _ (And.intro c12.1 (And.intro (dc_o c12.2) (And.intro (fun c13 => have v15 := v33.1 c13; (show wp mX11_placeInSegments 1 rc rs Q 68 [some (vr 0), some (vi x1), some (vi x2), some (vr a3), some (vi x4)] [] h from xGo k_X11_placeInSegments_68 (have c17 := v15.1; have v18 := v15.2; (And.intro c17 (And.intro rfl v18))))) (fun c14 => have v16 := v33.2 (Decidable.not_not.mp c14); (show wp mX11_placeInSegments 1 rc rs Q 47 [some (vr 0), some (vi x1), some (vi x2), some (vr a3), some (vi x4)] [] h from xcV k_X11_placeInSegments_47 s_X11_placeInSegments_54 (And.intro (ll_0 hL) (Exists.intro 5 (And.intro (lg_0_3 hL) (have c29 := v16.1; have v30 := v16.2; (Exists.intro [vi x2, vi x4] (Exists.intro 5 (Exists.intro [] (And.intro (And.intro rfl (And.intro rfl (Nat.le_of_ble_eq_true rfl))) (And.intro (ll_5 hL) (Exists.intro 0 (Exists.intro 0 (Exists.intro 0 (Exists.intro _ (And.intro (l_isDropped (h := h) hL c29) (And.intro (And.intro (by decide) (And.intro (Nat.zero_le _) (Nat.zero_le _))) (eQP (show wp mX11_placeInSegments 1 rc rs Q 57 [some (vr 0), some (vi x1), some (vi x2), some (vr a3), some (vi x4)] [vi (b01 (bt (jH h (5 + 2) (x2).toNat) (x4).toNat))] h from xIf k_X11_placeInSegments_57 (And.intro (fun c19 => have v21 := v30.1 (b01_p.mp c19); (show wp mX11_placeInSegments 1 rc rs Q 68 [some (vr 0), some (vi x1), some (vi x2), some (vr a3), some (vi x4)] [] h from xGo k_X11_placeInSegments_68 (have c23 := v21.1; have v24 := v21.2; (And.intro c23 (And.intro rfl v24))))) (fun c20 => have v22 := v30.2 (b01_nn.mp c20); (show wp mX11_placeInSegments 1 rc rs Q 60 [some (vr 0), some (vi x1), some (vi x2), some (vr a3), some (vi x4)] [] h from xI k_X11_placeInSegments_60 (have c25 := v22.1; have v28 := v22.2; (And.intro c25 (have c26 := v28.1; have v27 := v28.2; (And.intro c26 (And.intro rfl v27))))))))))))))))))))))))))))))))))))))))))))
def m_bt (g : AH) (b : Int) (t : Int) : Prop := (b = -1 ∧ t = 4) ∨ (b ≠ -1 ∧ t = m_tier g b)
theorem l_choose {h g : AH} {da sa : Nat → Nat} (hL : LayL h) {a : Nat} (hp : a = 5 ∧ cPol h g ∧ cRd h g da sa) : Ct 6 0 0 mX4_choose [vr 16, vr a] h (QI fun x h' => x = m_ch g ∧ h' = h) := by
  obtain ⟨rfl, hq, hc⟩ := hp
  have hw := m_width_bd g
  have hn := hc.2.2.1
  have h8 := hc.2.2.2.1
  have main : ∀ s : Nat, (s : Int) ≤ (iH g 89 13 - m_width g + 1).toNat → ∀ t : Int, m_bt g (m_chs g s) t → wp mX4_choose 6 0 0 (QI fun x h' => x = m_ch g ∧ h' = h) 7 [some (vr 16), some (vr 5), some (vi (m_chs g s)), some (vi t), some (vi s), none] [] h := by
    refine dn (iH g 89 13 - m_width g + 1).toNat (fun s hs q1 t q2 => ?_) (fun s hs ih q1 t q2 => ?_)
    · have e : s = (iH g 89 13 - m_width g + 1).toNat := by omega
      refine t_X4_choose_7 (g := g) (da := da) (sa := sa) hL (Or.inl rfl) ⟨hq, by omega, fun _ => ⟨_, rfl, by rw [e]; rfl, rfl⟩, fun c => absurd c ?_⟩
      rw [show iH h 5 2 = iH g 89 13 from hn]; omega
    · have hp2 : (5 : Nat) = 5 ∧ cPol h g ∧ cRd h g da sa ∧ 0 ≤ (s : Int) ∧ (s : Int) + m_width g ≤ iH g 89 13 := ⟨rfl, hq, hc, by omega, by omega⟩
      have ht := m_tier_bd g s
      have e : m_chs g (s + 1) = @ite _ (m_fits g s (m_width g) ∧ (m_chs g s = -1 ∨ m_tier g s < m_tier g (m_chs g s))) (Classical.propDecidable _) (s : Int) (m_chs g s) := rfl
      have no : ¬ (m_fits g s (m_width g) ∧ (m_chs g s = -1 ∨ m_tier g s < m_tier g (m_chs g s))) → wp mX4_choose 6 0 0 (QI fun x h' => x = m_ch g ∧ h' = h) 7 [some (vr 16), some (vr 5), some (vi (m_chs g s)), some (vi t), some (vi ((s : Int) + 1)), none] [] h := fun q => by
        rw [if_neg q] at e
        have := ih (by omega) t (by rw [e]; exact q2)
        rw [e] at this; exact this
      refine t_X4_choose_7 (g := g) (da := da) (sa := sa) hL (Or.inl rfl) ⟨hq, by omega, fun c => absurd c ?_, fun c => ⟨⟨rfl, hq, hc, by omega, by omega⟩, fun c2 => ⟨by omega, no ?_⟩, fun c2 => ⟨hp2, fun c3 => ⟨by omega, no (fun w => c3 w.1)⟩, fun c3 => ⟨by omega, ?_⟩⟩⟩⟩
      · rw [show iH h 5 2 = iH g 89 13 from hn]; omega
      · rintro ⟨-, w⟩
        rcases q2 with ⟨q2, q3⟩ | ⟨q2, q3⟩ <;> omega
      · have yes : m_fits g s (m_width g) ∧ (m_chs g s = -1 ∨ m_tier g s < m_tier g (m_chs g s)) := ⟨c3, by rcases q2 with ⟨q2, q3⟩ | ⟨q2, q3⟩ <;> omega⟩
        rw [if_pos yes] at e
        have := ih (by omega) (m_tier g s) (by rw [e]; exact Or.inr ⟨by omega, rfl⟩)
        rw [e] at this; exact this
  exact e_X4_choose hL (Or.inl rfl) (main 0 (by omega) 4 (Or.inl ⟨rfl, rfl⟩))
/-- the buffer -/
def cBuf (h g : AH) (da : Nat → Nat) : Prop := iH h 0 2 = iH g 89 15 ∧ (0 ≤ iH g 89 15 ∧ iH g 89 15 ≤ 4) ∧ ∀ k : Nat, (k : Int) < iH g 89 15 → (0 ≤ iH g 1156 k ∧ iH g 1156 k < iH g 89 0) ∧ rH h 4 k = some (da (iH g 1156 k).toNat)
theorem l_placeInBuffer {h g : AH} {da : Nat → Nat} (hL : LayL h) {key : Int} (hp : cDocs h g da ∧ cBuf h g da) : Ct 0 0 0 mX11_placeInBuffer [vr 0, vi key] h (QI fun x h' => x = m_bp g key ∧ h' = h) := by
  obtain ⟨hd, e, hb, hk⟩ := hp
  have main : ∀ i : Nat, (∀ j : Nat, j < i → ¬ m_bufP g key j) → (i : Int) ≤ iH g 89 15 → wp mX11_placeInBuffer 0 0 0 (QI fun x h' => x = m_bp g key ∧ h' = h) 2 [some (vr 0), some (vi key), some (vi i)] [] h := by
    refine dn (iH g 89 15).toNat (fun i hi q1 q2 => ?_) (fun i hi ih q1 q2 => ?_)
    · exact t_X11_placeInBuffer_2 hL ⟨fun _ => ⟨_, rfl, (fst_no (fun j hj => q1 j (by omega))).symm, rfl⟩, fun c => absurd c (by omega)⟩
    · obtain ⟨⟨k1, k2⟩, k3⟩ := hk i (by omega)
      obtain ⟨d, ed⟩ := Int.eq_ofNat_of_zero_le k1
      rw [ed] at k2 k3
      rw [Int.toNat_natCast] at k3
      obtain ⟨d1, d2, d3, d4⟩ := hd d k2
      refine t_X11_placeInBuffer_2 hL ⟨fun c => absurd c (by omega), fun c => ⟨by omega, _, _, ⟨k3, d2⟩, ?_⟩⟩
      rw [d3]
      have eP : m_bufP g key i ↔ iH g 90 d = key := by unfold m_bufP; rw [ed, Int.toNat_natCast]
      refine ⟨fun c2 => ⟨by omega, ih (fun j hj => ?_) (by omega)⟩, fun c2 => ⟨_, rfl, (fst_at (by omega) q1 (eP.mpr c2)).symm, rfl⟩⟩
      by_cases e3 : j = i
      · subst e3; rw [eP]; exact c2
      · exact q1 j (by omega)
  exact e_X11_placeInBuffer hL (main 0 (fun j hj => absurd hj (Nat.not_lt_zero _)) hb.1)
theorem l_placeInSegments {h g : AH} {da sa : Nat → Nat} (hL : LayL h) {key : Int} (hc : cRd h g da sa) : Ct 1 0 0 mX11_placeInSegments [vr 0, vi key] h (QI fun x h' => x = m_sp g key ∧ h' = h) := by
  have hn := hc.2.2.1
  have h8 := hc.2.2.2.1
  have main : ∀ i : Nat, (∀ j : Nat, j < i → ¬ m_sp1 g key j ≠ -1) → (i : Int) ≤ iH g 89 13 → wp mX11_placeInSegments 1 0 0 (QI fun x h' => x = m_sp g key ∧ h' = h) 2 [some (vr 0), some (vi key), some (vi i), none, none] [] h := by
    refine dn (iH g 89 13).toNat (fun i hi q1 q2 => ?_) (fun i hi ih q1 q2 => ?_)
    · have e : m_sps g key = -1 := fst_no (fun j hj => q1 j (by omega))
      exact t_X11_placeInSegments_2 hL ⟨fun _ => ⟨_, rfl, (if_pos e).symm, rfl⟩, fun c => absurd c (by omega)⟩
    · obtain ⟨-, x, ex, x1, x2, x3, x4, x5⟩ := cRd_s hc (s := i) (by omega)
      rw [Int.toNat_natCast] at ex x1
      obtain ⟨r, hS, -⟩ := x2.2.2.2.1
      have hl := x4.2.1
      rw [Int.toNat_natCast] at hl
      have inner : ∀ k : Nat, (∀ j : Nat, j < k → ¬ m_spP g key (iH g 1155 i) j) → (k : Int) ≤ iH g 615 x → wp mX11_placeInSegments 1 0 0 (QI fun x h' => x = m_sp g key ∧ h' = h) 29 [some (vr 0), some (vi key), some (vi i), some (vr (sa x - 1)), some (vi k)] [] h := by
        refine dn (iH g 615 x).toNat (fun k hk w1 w2 => ?_) (fun k hk jh w1 w2 => ?_)
        · refine t_X11_placeInSegments_29 hL (sg_a1 hS) ⟨by omega, fun _ => ⟨by omega, ih (fun j hj => ?_) (by omega)⟩, fun c => absurd c (by omega)⟩
          by_cases e3 : j = i
          · subst e3
            have : m_sp1 g key j = -1 := fst_no (fun j hj => w1 j (by rw [ex, Int.toNat_natCast] at hj; omega))
            exact fun q => q this
          · exact q1 j (by omega)
        · obtain ⟨m1, m2⟩ := x2.2.2.2.2 k (by omega)
          have m3 := x4.2.2 k (by rw [Int.toNat_natCast]; omega)
          rw [Int.toNat_natCast] at m3
          obtain ⟨d, ed⟩ := Int.eq_ofNat_of_zero_le m3.1
          rw [ed] at m1 m2
          rw [Int.toNat_natCast] at m1
          obtain ⟨d1, d2, d3, d4⟩ := hc.1 d m2
          have eP : m_spP g key (iH g 1155 i) k ↔ iH g 90 d = key ∧ iH g 613 d = 0 := by unfold m_spP; rw [ex, Int.toNat_natCast, ed, Int.toNat_natCast]
          have eB : bt (jH h 7 (i : Int).toNat) (k : Int).toNat ↔ ¬ iH g 613 d = 0 := by
            rw [Int.toNat_natCast, Int.toNat_natCast]
            have := x3 k
            rw [Int.toNat_natCast] at this
            rw [this]
            unfold nDr
            rw [ex, Int.toNat_natCast, ed, Int.toNat_natCast]
            exact ⟨fun q => q.2, fun q => ⟨by omega, q⟩⟩
          have nx : ¬ m_spP g key (iH g 1155 i) k → wp mX11_placeInSegments 1 0 0 (QI fun x h' => x = m_sp g key ∧ h' = h) 29 [some (vr 0), some (vi key), some (vi i), some (vr (sa x - 1)), some (vi ((k : Int) + 1))] [] h := fun q => by
            refine jh (fun j hj => ?_) (by omega)
            by_cases e3 : j = k
            · subst e3; exact q
            · exact w1 j (by omega)
          refine t_X11_placeInSegments_29 hL (sg_a1 hS) ⟨by omega, fun c => absurd c (by omega), fun c => ⟨by omega, _, _, ⟨m1, d2⟩, ?_⟩⟩
          rw [d3]
          refine ⟨fun c2 => ⟨by omega, nx (fun q => c2 (eP.mp q).1)⟩, fun c2 => ⟨⟨Or.inl rfl, by omega, by omega⟩, fun c3 => ⟨by omega, nx (fun q => eB.mp c3 (eP.mp q).2)⟩, fun c3 => ⟨by omega, by omega, _, rfl, ?_, rfl⟩⟩⟩
          have hP : m_spP g key (iH g 1155 i) k := eP.mpr ⟨c2, Classical.byContradiction fun q => c3 (eB.mpr q)⟩
          have f1 : m_sp1 g key i = k := by
            refine fst_at ?_ w1 hP
            rw [ex, Int.toNat_natCast]; omega
          have f2 : m_sps g key = i := fst_at (p := fun s => m_sp1 g key s ≠ -1) (by omega) q1 (by show m_sp1 g key i ≠ -1; omega)
          unfold m_sp
          rw [f2, if_neg (by omega), Int.toNat_natCast, f1]
      exact t_X11_placeInSegments_2 hL ⟨fun c => absurd c (by omega), fun c => ⟨by omega, _, _, r, ⟨by rw [Int.toNat_natCast]; exact x1, hS⟩, inner 0 (fun j hj => absurd hj (Nat.not_lt_zero _)) hl.1⟩⟩
  exact e_X11_placeInSegments hL (main 0 (fun j hj => absurd hj (Nat.not_lt_zero _)) hc.2.2.2.1.1)
