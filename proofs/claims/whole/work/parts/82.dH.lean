/-! THE INDEX: LOOK -/
def b_X11_look_0 : List IE := [(.aload_n 0, 1, 0, 0, 0, 0), (.iload_n 1, 1, 0, 0, 1, 0)]
theorem k_X11_look_0 : ckB mX11_look 11 0 b_X11_look_0 2 = true := by decide +kernel
def b_X11_look_5 : List IE := []
theorem k_X11_look_5 : ckIf mX11_look 11 5 b_X11_look_5 5 0 10 15 8 = true := by decide +kernel
def b_X11_look_8 : List IE := [(.iload_n 2, 1, 0, 0, 2, 0)]
theorem k_X11_look_8 : ckB mX11_look 11 8 b_X11_look_8 9 = true := by decide +kernel
def b_X11_look_12 : List IE := []
theorem k_X11_look_12 : ckIf mX11_look 11 12 b_X11_look_12 12 1 6 18 15 = true := by decide +kernel
def b_X11_look_15 : List IE := [(.bipush (-2), 2, (-2), 0, 0, 0)]
theorem k_X11_look_15 : ckI mX11_look 11 15 b_X11_look_15 17 = true := by decide +kernel
def b_X11_look_18 : List IE := [(.aload_n 0, 1, 0, 0, 0, 0), (.getfield 78, 3, 0, 11, 15, 1)]
theorem k_X11_look_18 : ckB mX11_look 11 18 b_X11_look_18 22 = true := by decide +kernel
def b_X11_look_25 : List IE := [(.istore_n 3, 1, 0, 0, 3, 0), (.aload_n 0, 1, 0, 0, 0, 0), (.iload_n 1, 1, 0, 0, 1, 0)]
theorem k_X11_look_25 : ckB mX11_look 11 25 b_X11_look_25 28 = true := by decide +kernel
def b_X11_look_31 : List IE := []
theorem k_X11_look_31 : ckIf mX11_look 11 31 b_X11_look_31 31 0 8 39 34 = true := by decide +kernel
def b_X11_look_34 : List IE := [(.bipush (-6), 2, (-6), 0, 0, 0)]
theorem k_X11_look_34 : ckGo mX11_look 11 34 b_X11_look_34 36 18 54 = true := by decide +kernel
def b_X11_look_39 : List IE := [(.aload_n 0, 1, 0, 0, 0, 0), (.aload_n 0, 1, 0, 0, 0, 0), (.getfield 62, 3, 0, 11, 12, 1), (.iload_n 1, 1, 0, 0, 1, 0), (.aaload, 1, 0, 0, 0, 0), (.aload_n 0, 1, 0, 0, 0, 0), (.getfield 25, 3, 0, 11, 3, 1), (.iload_n 2, 1, 0, 0, 2, 0)]
theorem k_X11_look_39 : ckB mX11_look 11 39 b_X11_look_39 51 = true := by decide +kernel
def b_X11_look_54 : List IE := [(.istore 4, 2, 0, 0, 4, 0), (.aload_n 0, 1, 0, 0, 0, 0), (.getfield 78, 3, 0, 11, 15, 1), (.iload_n 3, 1, 0, 0, 3, 0)]
theorem k_X11_look_54 : ckB mX11_look 11 54 b_X11_look_54 61 = true := by decide +kernel
def b_X11_look_64 : List IE := [(.iload 4, 2, 0, 0, 4, 0)]
theorem k_X11_look_64 : ckI mX11_look 11 64 b_X11_look_64 66 = true := by decide +kernel
theorem s_X11_look_2 : cV mX11_look 2 mX11_isQuery 146 1 11 := ⟨by decide +kernel, ⟨ml_X11_isQuery, li_RX11_146, im_X11_isQuery, se_X11_isQuery⟩, ⟨by decide +kernel, by decide +kernel⟩, by decide +kernel⟩
theorem s_X11_look_9 : cS mX11_look 9 mX1_isAnswer 298 1 := ⟨by decide +kernel, ⟨ml_X1_isAnswer, li_RX11_298, st_X1_isAnswer⟩, by decide +kernel⟩
theorem s_X11_look_22 : cV mX11_look 22 mX2_start 305 0 2 := ⟨by decide +kernel, ⟨ml_X2_start, li_RX11_305, im_X2_start, se_X2_start⟩, ⟨by decide +kernel, by decide +kernel⟩, by decide +kernel⟩
theorem s_X11_look_28 : cV mX11_look 28 mX11_isDear 307 1 11 := ⟨by decide +kernel, ⟨ml_X11_isDear, li_RX11_307, im_X11_isDear, se_X11_isDear⟩, ⟨by decide +kernel, by decide +kernel⟩, by decide +kernel⟩
theorem s_X11_look_51 : cV mX11_look 51 mX11_answer 301 3 11 := ⟨by decide +kernel, ⟨ml_X11_answer, li_RX11_301, im_X11_answer, se_X11_answer⟩, ⟨by decide +kernel, by decide +kernel⟩, by decide +kernel⟩
theorem s_X11_look_61 : cV mX11_look 61 mX2_end 310 1 2 := ⟨by decide +kernel, ⟨ml_X2_end, li_RX11_310, im_X2_end, se_X2_end⟩, ⟨by decide +kernel, by decide +kernel⟩, by decide +kernel⟩
theorem t_X11_look_0 {rc rs : Nat} {Q : Option AV → AH → Prop} {h : AH} {sa : Nat → Nat} {da : Nat → Nat} {g : AH} {x1 x2 : Int} (hL : LayL h) (hv : ((¬ (0 ≤ x1 ∧ x1 < iH h 0 13) → Q (some (vi (-2))) h) ∧ ((0 ≤ x1 ∧ x1 < iH h 0 13) → ((((0 ≤ x2 ∧ x2 ≤ 2) ∨ (10 ≤ x2 ∧ x2 ≤ 73) ∨ (100 ≤ x2 ∧ x2 ≤ 163)) → (0 ≤ iH h 21 0 ∧ iH h 21 0 ≤ 100000) ∧ LayL (sI h 21 0 (iH h 21 0 + 1)) ∧ (cRd (sI h 21 0 (iH h 21 0 + 1)) g da sa ∧ kPo (sI h 21 0 (iH h 21 0 + 1)) g ∧ (0 ≤ x1 ∧ x1 < 6) ∧ cQry (sI h 21 0 (iH h 21 0 + 1)) g (45 + 6 * (x1).toNat) x1) ∧ ((¬ (iH g 89 23 < v_cost g x1 (iH g 89 13).toNat (nRow g)) → (0 ≤ x1 ∧ x1 < 6) ∧ (∃ P16 : Int → AH → Prop, Ct 6 0 0 mX11_answer [vr 0, vr (45 + 6 * x1.toNat), vr 5, vi x2] (sI h 21 0 (iH h 21 0 + 1)) (QI P16) ∧ ∀ (r15 : Int) (h14 : AH), (-2147483648 ≤ r15 ∧ r15 < 2147483648) → P16 r15 h14 → LayL h14 ∧ (0 ≤ iH h14 21 2 ∧ iH h14 21 2 ≤ 8) ∧ LayL (l_ended h14 (iH h 21 0 + 1)) ∧ Q (some (vi r15)) (l_ended h14 (iH h 21 0 + 1)))) ∧ ((iH g 89 23 < v_cost g x1 (iH g 89 13).toNat (nRow g)) → (0 ≤ iH (sI h 21 0 (iH h 21 0 + 1)) 21 2 ∧ iH (sI h 21 0 (iH h 21 0 + 1)) 21 2 ≤ 8) ∧ LayL (l_ended (sI h 21 0 (iH h 21 0 + 1)) (iH h 21 0 + 1)) ∧ Q (some (vi (-6))) (l_ended (sI h 21 0 (iH h 21 0 + 1)) (iH h 21 0 + 1))))) ∧ (¬ ((0 ≤ x2 ∧ x2 ≤ 2) ∨ (10 ≤ x2 ∧ x2 ≤ 73) ∨ (100 ≤ x2 ∧ x2 ≤ 163)) → Q (some (vi (-2))) h))))) : wp mX11_look 7 rc rs Q 0 [some (vr 0), some (vi x1), some (vi x2), none, none] [] h :=
  (show wp mX11_look 7 rc rs Q 0 [some (vr 0), some (vi x1), some (vi x2), none, none] [] h from xcV k_X11_look_0 s_X11_look_2 ((Exists.intro [vi x1] (Exists.intro 0 (Exists.intro [] (And.intro (And.intro rfl (And.intro rfl (Nat.le_of_ble_eq_true rfl))) (And.intro (ll_0 hL) (Exists.intro 0 (Exists.intro 0 (Exists.intro 0 (Exists.intro _ (And.intro (l_isQuery (h := h) hL) (And.intro (And.intro (by decide) (And.intro (Nat.zero_le _) (Nat.zero_le _))) (eQP (show wp mX11_look 7 rc rs Q 5 [some (vr 0), some (vi x1), some (vi x2), none, none] [vi (b01 (0 ≤ x1 ∧ x1 < iH h 0 13))] h from xIf k_X11_look_5 (And.intro (fun c1 => have v3 := hv.1 (b01_n.mp c1); (show wp mX11_look 7 rc rs Q 15 [some (vr 0), some (vi x1), some (vi x2), none, none] [] h from xI k_X11_look_15 (And.intro rfl v3))) (fun c2 => have v4 := hv.2 (b01_p.mp c2); (show wp mX11_look 7 rc rs Q 8 [some (vr 0), some (vi x1), some (vi x2), none, none] [] h from xcS k_X11_look_8 s_X11_look_9 ((Exists.intro [vi x2] (Exists.intro [] (And.intro (And.intro rfl (And.intro rfl (Nat.le_of_ble_eq_true rfl))) (Exists.intro 0 (Exists.intro 0 (Exists.intro 0 (Exists.intro _ (And.intro l_isAnswer (And.intro (And.intro (by decide) (And.intro (Nat.zero_le _) (Nat.zero_le _))) (eQP (show wp mX11_look 7 rc rs Q 12 [some (vr 0), some (vi x1), some (vi x2), none, none] [vi (b01 ((0 ≤ x2 ∧ x2 ≤ 2) ∨ (10 ≤ x2 ∧ x2 ≤ 73) ∨ (100 ≤ x2 ∧ x2 ≤ 163)))] h from xIf k_X11_look_12 (And.intro (fun c5 => have v7 := v4.1 (b01_p.mp c5); (show wp mX11_look 7 rc rs Q 18 [some (vr 0), some (vi x1), some (vi x2), none, none] [] h from xcV k_X11_look_18 s_X11_look_22 (And.intro (ll_0 hL) (Exists.intro 21 (And.intro (lg_0_15 hL) (have c31 := v7.1; have v32 := v7.2; (Exists.intro [] (Exists.intro 21 (Exists.intro [] (And.intro (And.intro rfl (And.intro rfl (Nat.le_of_ble_eq_true rfl))) (And.intro (ll_21 hL) (Exists.intro 0 (Exists.intro 0 (Exists.intro 0 (Exists.intro _ (And.intro (l_start (h := h) hL c31) (And.intro (And.intro (by decide) (And.intro (Nat.zero_le _) (Nat.zero_le _))) (eQP (have hL := v32.1; have v33 := v32.2; (show wp mX11_look 7 rc rs Q 25 [some (vr 0), some (vi x1), some (vi x2), none, none] [vi (iH h 21 0 + 1)] (sI h 21 0 (iH h 21 0 + 1)) from xcV k_X11_look_25 s_X11_look_28 (And.intro rfl (have c28 := v33.1; have v29 := v33.2; (Exists.intro [vi x1] (Exists.intro 0 (Exists.intro [] (And.intro (And.intro rfl (And.intro rfl (Nat.le_of_ble_eq_true rfl))) (And.intro (ll_0 hL) (Exists.intro 6 (Exists.intro 0 (Exists.intro 0 (Exists.intro _ (And.intro (l_isDear (h := (sI h 21 0 (iH h 21 0 + 1))) hL c28) (And.intro (And.intro (by decide) (And.intro (Nat.zero_le _) (Nat.zero_le _))) (eQP (show wp mX11_look 7 rc rs Q 31 [some (vr 0), some (vi x1), some (vi x2), some (vi (iH h 21 0 + 1)), none] [vi (b01 (iH g 89 23 < v_cost g x1 (iH g 89 13).toNat (nRow g)))] (sI h 21 0 (iH h 21 0 + 1)) from xIf k_X11_look_31 (And.intro (fun c9 => have v11 := v29.1 (b01_n.mp c9); (show wp mX11_look 7 rc rs Q 39 [some (vr 0), some (vi x1), some (vi x2), some (vi (iH h 21 0 + 1)), none] [] (sI h 21 0 (iH h 21 0 + 1)) from xcV k_X11_look_39 s_X11_look_51 (And.intro (ll_0 hL) (Exists.intro 19 (And.intro (lg_0_12 hL) (have c13 := v11.1; have v24 := v11.2; (And.intro (sdQ (ll_19 hL) c13) (Exists.intro (45 + 6 * x1.toNat) (And.intro (tb_qy hL (tnl c13)) (And.intro (ll_0 hL) (Exists.intro 5 (And.intro (lg_0_3 hL) (Exists.elim v24 (fun P16 v20 => (Exists.intro [vr (45 + 6 * x1.toNat), vr 5, vi x2] (Exists.intro 0 (Exists.intro [] (And.intro (And.intro rfl (And.intro rfl (Nat.le_of_ble_eq_true rfl))) (And.intro (ll_0 hL) (Exists.intro 6 (Exists.intro 0 (Exists.intro 0 (Exists.intro (QI P16) (And.intro v20.1 (And.intro (And.intro (by decide) (And.intro (Nat.zero_le _) (Nat.zero_le _))) (eQI (fun r15 h14 q23 e22 => have v21 := v20.2 r15 h14 q23 e22; have hL := v21.1; have v21 := v21.2; (show wp mX11_look 7 rc rs Q 54 [some (vr 0), some (vi x1), some (vi x2), some (vi (iH h 21 0 + 1)), none] [vi r15] h14 from xcV k_X11_look_54 s_X11_look_61 (And.intro rfl (And.intro (ll_0 hL) (Exists.intro 21 (And.intro (lg_0_15 hL) (have c17 := v21.1; have v18 := v21.2; (Exists.intro [vi (iH h 21 0 + 1)] (Exists.intro 21 (Exists.intro [] (And.intro (And.intro rfl (And.intro rfl (Nat.le_of_ble_eq_true rfl))) (And.intro (ll_21 hL) (Exists.intro 1 (Exists.intro 0 (Exists.intro 0 (Exists.intro _ (And.intro (l_end (h := h14) hL c17) (And.intro (And.intro (by decide) (And.intro (Nat.zero_le _) (Nat.zero_le _))) (eQPV (have hL := v18.1; have v19 := v18.2; (show wp mX11_look 7 rc rs Q 64 [some (vr 0), some (vi x1), some (vi x2), some (vi (iH h 21 0 + 1)), some (vi r15)] [] (l_ended h14 (iH h 21 0 + 1)) from xI k_X11_look_64 (And.intro rfl v19)))))))))))))))))))))))))))))))))))))))))))))))) (fun c10 => have v12 := v29.2 (b01_p.mp c10); (show wp mX11_look 7 rc rs Q 34 [some (vr 0), some (vi x1), some (vi x2), some (vi (iH h 21 0 + 1)), none] [] (sI h 21 0 (iH h 21 0 + 1)) from xGo k_X11_look_34 (show wp mX11_look 7 rc rs Q 54 [some (vr 0), some (vi x1), some (vi x2), some (vi (iH h 21 0 + 1)), none] [vi (-6)] (sI h 21 0 (iH h 21 0 + 1)) from xcV k_X11_look_54 s_X11_look_61 (And.intro rfl (And.intro (ll_0 hL) (Exists.intro 21 (And.intro (lg_0_15 hL) (have c25 := v12.1; have v26 := v12.2; (Exists.intro [vi (iH h 21 0 + 1)] (Exists.intro 21 (Exists.intro [] (And.intro (And.intro rfl (And.intro rfl (Nat.le_of_ble_eq_true rfl))) (And.intro (ll_21 hL) (Exists.intro 1 (Exists.intro 0 (Exists.intro 0 (Exists.intro _ (And.intro (l_end (h := (sI h 21 0 (iH h 21 0 + 1))) hL c25) (And.intro (And.intro (by decide) (And.intro (Nat.zero_le _) (Nat.zero_le _))) (eQPV (have hL := v26.1; have v27 := v26.2; (show wp mX11_look 7 rc rs Q 64 [some (vr 0), some (vi x1), some (vi x2), some (vi (iH h 21 0 + 1)), some (vi (-6))] [] (l_ended (sI h 21 0 (iH h 21 0 + 1)) (iH h 21 0 + 1)) from xI k_X11_look_64 (And.intro rfl v27))))))))))))))))))))))))))))))))))))))))))))))))))))))))))) (fun c6 => have v8 := v4.2 (b01_nn.mp c6); (show wp mX11_look 7 rc rs Q 15 [some (vr 0), some (vi x1), some (vi x2), none, none] [] h from xI k_X11_look_15 (And.intro rfl v8))))))))))))))))))))))))))))))))))
theorem e_X11_look {mc ms : Nat} {Q : Option AV → AH → Prop} {h : AH} {sa : Nat → Nat} {da : Nat → Nat} {g : AH} {x1 x2 : Int} (hL : LayL h) (hv : ((¬ (0 ≤ x1 ∧ x1 < iH h 0 13) → Q (some (vi (-2))) h) ∧ ((0 ≤ x1 ∧ x1 < iH h 0 13) → ((((0 ≤ x2 ∧ x2 ≤ 2) ∨ (10 ≤ x2 ∧ x2 ≤ 73) ∨ (100 ≤ x2 ∧ x2 ≤ 163)) → (0 ≤ iH h 21 0 ∧ iH h 21 0 ≤ 100000) ∧ LayL (sI h 21 0 (iH h 21 0 + 1)) ∧ (cRd (sI h 21 0 (iH h 21 0 + 1)) g da sa ∧ kPo (sI h 21 0 (iH h 21 0 + 1)) g ∧ (0 ≤ x1 ∧ x1 < 6) ∧ cQry (sI h 21 0 (iH h 21 0 + 1)) g (45 + 6 * (x1).toNat) x1) ∧ ((¬ (iH g 89 23 < v_cost g x1 (iH g 89 13).toNat (nRow g)) → (0 ≤ x1 ∧ x1 < 6) ∧ (∃ P16 : Int → AH → Prop, Ct 6 0 0 mX11_answer [vr 0, vr (45 + 6 * x1.toNat), vr 5, vi x2] (sI h 21 0 (iH h 21 0 + 1)) (QI P16) ∧ ∀ (r15 : Int) (h14 : AH), (-2147483648 ≤ r15 ∧ r15 < 2147483648) → P16 r15 h14 → LayL h14 ∧ (0 ≤ iH h14 21 2 ∧ iH h14 21 2 ≤ 8) ∧ LayL (l_ended h14 (iH h 21 0 + 1)) ∧ Q (some (vi r15)) (l_ended h14 (iH h 21 0 + 1)))) ∧ ((iH g 89 23 < v_cost g x1 (iH g 89 13).toNat (nRow g)) → (0 ≤ iH (sI h 21 0 (iH h 21 0 + 1)) 21 2 ∧ iH (sI h 21 0 (iH h 21 0 + 1)) 21 2 ≤ 8) ∧ LayL (l_ended (sI h 21 0 (iH h 21 0 + 1)) (iH h 21 0 + 1)) ∧ Q (some (vi (-6))) (l_ended (sI h 21 0 (iH h 21 0 + 1)) (iH h 21 0 + 1))))) ∧ (¬ ((0 ≤ x2 ∧ x2 ≤ 2) ∨ (10 ≤ x2 ∧ x2 ≤ 73) ∨ (100 ≤ x2 ∧ x2 ≤ 163)) → Q (some (vi (-2))) h))))) : Ct 7 mc ms mX11_look [vr 0, vi x1, vi x2] h Q := Ct.of (by decide +kernel) (Nat.le_of_ble_eq_true rfl) (t_X11_look_0 hL hv)
section
variable {h h' g g' : AH} {da sa : Nat → Nat}
theorem kL_X (e : agX scL h h') (hl : kL h g) : kL h' g := by
  have e1 := (e.2.2.2 21 (by unfold scL; omega)).1
  have e2 := (e.2.2.2 22 (by unfold scL; omega)).1
  obtain ⟨l1, l2, l3⟩ := hl
  exact ⟨by rw [e1]; exact l1, by rw [e1]; exact l2, fun k h1 h2 => by rw [e2]; exact l3 k h1 h2⟩
theorem kL_g (e1 : iH g' 89 46 = iH g 89 46) (e2 : iH g' 89 47 = iH g 89 47) (e3 : ∀ k, iH g' 1181 k = iH g 1181 k) (hl : kL h g) : kL h g' := by
  obtain ⟨l1, l2, l3⟩ := hl
  exact ⟨by rw [e1]; exact l1, by rw [e2]; exact l2, fun k h1 h2 => by rw [e2] at h2 ⊢; rw [e3]; exact l3 k h1 h2⟩
theorem kL_start (hl : kL h g) : kL (sI h 21 0 (iH h 21 0 + 1)) (sI g 89 46 (iH g 89 46 + 1)) := by
  obtain ⟨⟨l1, l1'⟩, l2, l3⟩ := hl
  refine ⟨⟨by rw [rI_same, rI_same, l1], by rw [rI_same]; omega⟩, by rw [rI_nk (by decide), rI_nk (by decide)]; exact l2, fun k h1 h2 => ?_⟩
  rw [rI_nk (by decide)] at h2
  rw [rI_ne (by decide), rI_nk (by decide), rI_ne (by decide)]
  exact l3 k h1 h2
theorem kL_end {k : Int} (hl : kL h g) : kL (l_ended h k) (m_shutL g k) := by
  obtain ⟨l1, ⟨l2, l2'⟩, l3⟩ := hl
  unfold l_ended m_shutL
  have eg : iH (sI (sI g 1181 (iH g 89 47).toNat k) 89 47 (iH g 89 47 + 1)) 89 47 = iH g 89 47 + 1 := rI_same
  refine ⟨by rw [rW_ne (by decide), rI_nk (by decide), rI_nk (by decide), rI_ne (by decide)]; exact l1, ⟨by rw [rW_ne (by decide), rI_same, eg]; omega, by rw [eg]; omega⟩, fun j h1 h2 => ?_⟩
  rw [eg] at h2 ⊢
  rw [rW_same, rI_ne (by decide), rI_if]
  unfold l_log
  by_cases e : j = 0
  · subst e
    rw [if_pos rfl, if_pos (by omega)]
  · rw [if_neg e, if_pos (by omega), if_neg (by omega), l3 (j - 1) (by omega) (by omega)]
    congr 1
    omega
theorem agX_st {v : Int} : agX scK h (sI h 21 0 v) := ⟨rfl, fun _ => rfl, fun _ _ => rfl, fun x hx => ⟨fun k => rI_ne (by unfold scK at hx; omega), fun _ => rfl⟩⟩
theorem agX_en {v : Int} : agX scK h (l_ended h v) := ⟨rfl, fun _ => rfl, fun _ _ => rfl, fun x hx => ⟨fun k => by
  unfold l_ended
  rw [rW_ne (by unfold scK at hx; omega), rI_ne (by unfold scK at hx; omega)], fun _ => rfl⟩⟩
theorem cost_6 {q : Int} (hp : kSta h g da sa) : v_cost (m_lay g 6) q (iH (m_lay g 6) 89 13).toNat (nRow (m_lay g 6)) = m_cost (m_lay g 6) 6 q := by
  have e1 : v_cost (m_lay g 6) q (iH (m_lay g 6) 1138 6).toNat (tRow (m_lay g 6) 6) = m_cost (m_lay g 6) 6 q := v_cost_t (t := 6)
  rw [← e1, (now_6 hp).2.2, rL (by decide) (by decide) (by decide) (by decide)]
  unfold v_cost
  have h8 := hp.1.1.2.2.2.1
  refine sumN_cg fun s hs => ?_
  have e2 : tRow (m_lay g 6) 6 s = nRow (m_lay g 6) s := by
    unfold nRow
    rw [rL (by decide) (by decide) (by decide) (by decide)]
    exact lay_R (t := 6) (by omega) (by omega)
  rw [e2]
theorem lay_71 {t : Int} {k : Nat} : iH (m_lay g t) 89 k = iH g 89 k := rL (by decide) (by decide) (by omega) (by omega)
theorem lay_log {t : Int} {k : Nat} (ht : 0 ≤ t ∧ t < 7) : iH (m_lay g t) 1181 k = iH g 1181 k := rL (by decide) (by decide) (by omega) (by omega)
end
theorem l_look {h g : AH} {da sa : Nat → Nat} (hL : LayL h) {q w : Int} (hp : kSta h g da sa) (hq : kQ h g) (hpo : kPo h g) (hl : kL h g) (hb : iH g 89 46 ≤ 100000) : Ct 7 0 0 mX11_look [vr 0, vi q, vi w] h (QI fun x h' => LayL h' ∧ agX scK h h' ∧ ∃ g', p_look g q w x g' ∧ kL h' g' ∧ (g' = g ∨ g' = m_lay (m_lk1 g) 6)) := by
  have hp1 : kSta (sI h 21 0 (iH h 21 0 + 1)) (m_lay g 6) da sa := kSta_X agX_st (kSta_6 hp)
  have hq1 := kQ_X (agX_st (v := iH h 21 0 + 1)) (kQ_6 hq)
  have hpo1 := kPo_X (agX_st (v := iH h 21 0 + 1)) (kPo_6 hpo)
  obtain ⟨n1, n2, n3⟩ := now_6 (kSta_X (agX_st (v := iH h 21 0 + 1)) hp)
  have eL : iH (m_lay g 6) 89 23 = iH g 89 23 := lay_71
  have eQ : iH (m_lay g 6) 89 30 = iH g 89 30 := lay_71
  refine e_X11_look (g := m_lay g 6) (da := da) (sa := sa) hL ?_
  rw [hq.1]
  refine ⟨fun c => ⟨_, rfl, hL, agX_rf, g, Or.inl ⟨Or.inl (by omega), rfl, rfl⟩, hl, Or.inl rfl⟩, fun c => ⟨fun c2 => ?_, fun c2 => ⟨_, rfl, hL, agX_rf, g, Or.inl ⟨Or.inr c2, rfl, rfl⟩, hl, Or.inl rfl⟩⟩⟩
  have c6 := hq.2.1
  have hqq := hq1.2.2 q.toNat (by omega)
  rw [Int.toNat_of_nonneg c.1] at hqq
  have e21 : iH h 21 0 = iH g 89 46 := hl.1.1
  have fin : ∀ h1, agX scL (sI h 21 0 (iH h 21 0 + 1)) h1 → kL (l_ended h1 (iH h 21 0 + 1)) (m_lay (m_lk1 g) 6) := fun h1 e => by
    refine kL_g (g := m_lk1 g) lay_71 lay_71 (fun k => lay_log (by omega)) ?_
    unfold m_lk1
    rw [← e21]
    refine kL_end (kL_X e ?_)
    rw [e21, ← e21]
    exact e21 ▸ kL_start hl
  have bd : ∀ h1, agX scL (sI h 21 0 (iH h 21 0 + 1)) h1 → 0 ≤ iH h1 21 2 ∧ iH h1 21 2 ≤ 8 := fun h1 e => by
    rw [(e.2.2.2 21 (by unfold scL; omega)).1, rI_nk (by decide), hl.2.1.1]
    have := hl.2.1.2
    omega
  refine ⟨by have := hl.1.2; omega, by exact hL, ⟨hp1.1.1, hpo1, by omega, hqq⟩, ?_⟩
  rw [cost_6 hp, eL]
  refine ⟨fun c3 => ⟨by omega, _, l_answer (by exact hL) (ti_qy (by omega)) (Or.inl rfl) hqq hp1.1.1.1 hp1.1.1.2.1 n1 n2 c2, fun x h1 _ hx => ?_⟩, fun c3 => ?_⟩
  · obtain ⟨rfl, x2, x3⟩ := hx
    have ag : agX scL (sI h 21 0 (iH h 21 0 + 1)) h1 := by
      rcases x3 with rfl | x3
      · exact agX_rf
      · exact sr_X (Or.inl rfl) (ti_qy (by omega)) x3
    refine ⟨x2, bd h1 ag, agX_L agX_en x2, _, rfl, agX_L agX_en x2, agX_tr (agX_tr agX_st (scL_K ag)) agX_en, m_lay (m_lk1 g) 6, Or.inr ⟨⟨by omega, c2⟩, ?_, Or.inl rfl⟩, fin h1 ag, Or.inr rfl⟩
    unfold a_look
    rw [if_neg c3]
    exact v_ans_t (t := 6)
  · refine ⟨bd _ agX_rf, agX_L agX_en (by exact hL), _, rfl, agX_L agX_en (by exact hL), agX_tr agX_st agX_en, m_lay (m_lk1 g) 6, Or.inr ⟨⟨by omega, c2⟩, ?_, Or.inl rfl⟩, fin _ agX_rf, Or.inr rfl⟩
    unfold a_look
    rw [if_pos c3]
