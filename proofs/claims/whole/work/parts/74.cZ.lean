/-! THE INDEX: WRITE, OPEN, SHUT, COMMIT -/
def kSta (h g : AH) (da sa : Nat → Nat) : Prop := kHd h g da sa ∧ rI g ∧ kU g
theorem agSs_rf {g : AH} : agSs g g := ⟨Int.le_refl _, fun _ _ => ⟨rfl, rfl, fun _ => rfl⟩⟩
section
variable {h h' g : AH} {da sa : Nat → Nat}
theorem cStd_fr {a : Nat} {n : Int} {row : Nat → Int} {dr : Nat → Nat → Prop} (hn : iH h' a 2 = iH h a 2) (hr : ∀ k, rH h' (a + 1) k = rH h (a + 1) k) (hj : ∀ k, jH h' (a + 2) k = jH h (a + 2) k) (hs : cStd h g sa a n row dr) : cStd h' g sa a n row dr :=
  cStd_mv agSs_rf (fun _ _ => rfl) rfl (fun _ _ => rfl) (fun _ _ _ _ => Iff.rfl) hn hr hj hs
theorem cRd_fr (ag : agD h h') (hn : iH h' 5 2 = iH h 5 2) (hr : ∀ k, rH h' 6 k = rH h 6 k) (hj : ∀ k, jH h' 7 k = jH h 7 k) (hc : cRd h g da sa) : cRd h' g da sa := ⟨cDocs_ag ag hc.1, cSegs_ag ag hc.2.1, cStd_fr hn hr hj hc.2.2⟩
/-- the class's stands stay -/
def agSt (h h' : AH) : Prop := ∀ c : Nat, iSt c → (∀ k, iH h' c k = iH h c k) ∧ (∀ k, rH h' (c + 1) k = rH h (c + 1) k) ∧ ∀ k, jH h' (c + 2) k = jH h (c + 2) k
theorem kHd_fr (ag : agD h h') (e : agSt h h') (hk : kHd h g da sa) : kHd h' g da sa := by
  obtain ⟨hc, hv, f1, f2, f3, f4⟩ := hk
  have e5 := e 5 (Or.inl rfl)
  have e11 := e 11 (iSt_av (t := 5) (by omega))
  refine ⟨cRd_fr ag (e5.1 2) e5.2.1 e5.2.2 hc, fun t ht => ?_, fun t ht => ?_, by rw [e5.1]; exact f2, by rw [e11.1]; exact f3, f4⟩
  · have et := e _ (iSt_av ht)
    exact cStd_fr (et.1 2) et.2.1 et.2.2 (hv t ht)
  · rw [(e _ (iSt_av (t := t) (by omega))).1]; exact f1 t ht
end
theorem lay_cRd {h g : AH} {da sa : Nat → Nat} {t : Nat} {n : Int} {R : Nat → Option Nat} {J : Nat → Int64} (ht : t < 5) (hc : cRd h g da sa) : cRd (hLay h t n R J) g da sa := by
  have hst := iSt_av (t := t) (by omega)
  have h73 := iSt_1173 hst
  have n5 : 5 ≠ avT t := by unfold avT; (repeat' split) <;> omega
  have ap := iSt_ap hst (Or.inl rfl : iSt 5) (fun q => n5 q.symm)
  refine cRd_fr (h := h) (h' := hLay h t n R J) (agD_rf rfl (fun _ => rfl) fun x hx => ⟨fun k => ?_, fun k => ?_⟩) ?_ (fun k => ?_) (fun k => ?_) hc
  · unfold hLay; rw [rI_ne (by omega), st_io (by omega)]
  · show rH (hSt h (avT t) n R J) x k = _
    exact st_Ro (by omega)
  · unfold hLay; rw [rI_ne n5, st_io n5]
  · show rH (hSt h (avT t) n R J) 6 k = _
    exact st_Ro (by omega)
  · show jH (hSt h (avT t) n R J) 7 k = _
    exact st_Jo (by omega)
def b_X11_write_0 : List IE := [(.aload_n 0, 1, 0, 0, 0, 0), (.getfield 29, 3, 0, 11, 4, 1), (.aload_n 0, 1, 0, 0, 0, 0), (.getfield 25, 3, 0, 11, 3, 1)]
theorem k_X11_write_0 : ckB mX11_write 11 0 b_X11_write_0 8 = true := by decide +kernel
def b_X11_write_11 : List IE := [(.aload_n 0, 1, 0, 0, 0, 0), (.getfield 29, 3, 0, 11, 4, 1), (.iconst 1, 1, 1, 0, 0, 0), (.putfield 102, 3, 0, 9, 3, 2), (.aload_n 0, 1, 0, 0, 0, 0), (.getfield 29, 3, 0, 11, 4, 1), (.getfield 153, 3, 0, 9, 2, 0)]
theorem k_X11_write_11 : ckI mX11_write 11 11 b_X11_write_11 26 = true := by decide +kernel
theorem s_X11_write_8 : cV mX11_write 8 mX9_become 281 1 9 := ⟨by decide +kernel, ⟨ml_X9_become, li_RX11_281, im_X9_become, se_X9_become⟩, ⟨by decide +kernel, by decide +kernel⟩, by decide +kernel⟩
theorem t_X11_write_0 {rc rs : Nat} {Q : Option AV → AH → Prop} {h : AH}  (hL : LayL h) (hv : (∃ P3 : AH → Prop, Ct 0 0 0 mX9_become [vr 8, vr 5] h (QV P3) ∧ ∀ h1 : AH, P3 h1 → LayL h1 ∧ Q (some (vi (iH h1 8 2))) (sI h1 8 3 1))) : wp mX11_write 1 rc rs Q 0 [some (vr 0)] [] h :=
  (show wp mX11_write 1 rc rs Q 0 [some (vr 0)] [] h from xcV k_X11_write_0 s_X11_write_8 (And.intro (ll_0 hL) (Exists.intro 8 (And.intro (lg_0_4 hL) (And.intro (ll_0 hL) (Exists.intro 5 (And.intro (lg_0_3 hL) (Exists.elim hv (fun P3 v4 => (Exists.intro [vr 5] (Exists.intro 8 (Exists.intro [] (And.intro (And.intro rfl (And.intro rfl (Nat.le_of_ble_eq_true rfl))) (And.intro (ll_8 hL) (Exists.intro 0 (Exists.intro 0 (Exists.intro 0 (Exists.intro (QV P3) (And.intro v4.1 (And.intro (And.intro (by decide) (And.intro (Nat.zero_le _) (Nat.zero_le _))) (eQV (fun h1 e6 => have v5 := v4.2 h1 e6; have hL := v5.1; have v5 := v5.2; (show wp mX11_write 1 rc rs Q 11 [some (vr 0)] [] h1 from xI k_X11_write_11 (And.intro (ll_0 hL) (Exists.intro 8 (And.intro (lg_0_4 hL) (And.intro (ll_8 hL) (And.intro (Or.inr rfl) (And.intro (ll_0 hL) (Exists.intro 8 (And.intro (lg_0_4 hL) (And.intro (ll_8 hL) (And.intro rfl v5)))))))))))))))))))))))))))))))))
theorem e_X11_write {mc ms : Nat} {Q : Option AV → AH → Prop} {h : AH}  (hL : LayL h) (hv : (∃ P3 : AH → Prop, Ct 0 0 0 mX9_become [vr 8, vr 5] h (QV P3) ∧ ∀ h1 : AH, P3 h1 → LayL h1 ∧ Q (some (vi (iH h1 8 2))) (sI h1 8 3 1))) : Ct 1 mc ms mX11_write [vr 0] h Q := Ct.of (by decide +kernel) (Nat.le_of_ble_eq_true rfl) (t_X11_write_0 hL hv)
def b_X11_open_0 : List IE := [(.iload_n 1, 1, 0, 0, 1, 0)]
theorem k_X11_open_0 : ckB mX11_open 11 0 b_X11_open_0 1 = true := by decide +kernel
def b_X11_open_4 : List IE := []
theorem k_X11_open_4 : ckIf mX11_open 11 4 b_X11_open_4 4 1 6 10 7 = true := by decide +kernel
def b_X11_open_7 : List IE := [(.bipush (-2), 2, (-2), 0, 0, 0)]
theorem k_X11_open_7 : ckI mX11_open 11 7 b_X11_open_7 9 = true := by decide +kernel
def b_X11_open_10 : List IE := [(.aload_n 0, 1, 0, 0, 0, 0), (.getfield 35, 3, 0, 11, 6, 1), (.iload_n 1, 1, 0, 0, 1, 0), (.aaload, 1, 0, 0, 0, 0), (.getfield 102, 3, 0, 9, 3, 0)]
theorem k_X11_open_10 : ckIf mX11_open 11 10 b_X11_open_10 19 0 6 25 22 = true := by decide +kernel
def b_X11_open_22 : List IE := [(.bipush (-3), 2, (-3), 0, 0, 0)]
theorem k_X11_open_22 : ckI mX11_open 11 22 b_X11_open_22 24 = true := by decide +kernel
def b_X11_open_25 : List IE := [(.aload_n 0, 1, 0, 0, 0, 0), (.getfield 35, 3, 0, 11, 6, 1), (.iload_n 1, 1, 0, 0, 1, 0), (.aaload, 1, 0, 0, 0, 0), (.aload_n 0, 1, 0, 0, 0, 0), (.getfield 25, 3, 0, 11, 3, 1)]
theorem k_X11_open_25 : ckB mX11_open 11 25 b_X11_open_25 35 = true := by decide +kernel
def b_X11_open_38 : List IE := [(.aload_n 0, 1, 0, 0, 0, 0), (.getfield 35, 3, 0, 11, 6, 1), (.iload_n 1, 1, 0, 0, 1, 0), (.aaload, 1, 0, 0, 0, 0), (.iconst 1, 1, 1, 0, 0, 0), (.putfield 102, 3, 0, 9, 3, 2), (.aload_n 0, 1, 0, 0, 0, 0), (.getfield 25, 3, 0, 11, 3, 1), (.iconst 0, 1, 0, 0, 0, 0), (.aload_n 0, 1, 0, 0, 0, 0), (.getfield 25, 3, 0, 11, 3, 1), (.getfield 153, 3, 0, 9, 2, 0)]
theorem k_X11_open_38 : ckB mX11_open 11 38 b_X11_open_38 60 = true := by decide +kernel
def b_X11_open_63 : List IE := []
theorem k_X11_open_63 : ckI mX11_open 11 63 b_X11_open_63 63 = true := by decide +kernel
theorem s_X11_open_1 : cS mX11_open 1 mX11_isView 292 1 := ⟨by decide +kernel, ⟨ml_X11_isView, li_RX11_292, st_X11_isView⟩, by decide +kernel⟩
theorem s_X11_open_35 : cV mX11_open 35 mX9_become 281 1 9 := ⟨by decide +kernel, ⟨ml_X9_become, li_RX11_281, im_X9_become, se_X9_become⟩, ⟨by decide +kernel, by decide +kernel⟩, by decide +kernel⟩
theorem s_X11_open_60 : cV mX11_open 60 mX9_liveBetween 247 2 9 := ⟨by decide +kernel, ⟨ml_X9_liveBetween, li_RX11_247, im_X9_liveBetween, se_X9_liveBetween⟩, ⟨by decide +kernel, by decide +kernel⟩, by decide +kernel⟩
theorem t_X11_open_0 {rc rs : Nat} {Q : Option AV → AH → Prop} {h : AH} {sa : Nat → Nat} {da : Nat → Nat} {g : AH} {x1 : Int} (hL : LayL h) (hv : (((0 ≤ x1 ∧ x1 ≤ 3) → (0 ≤ x1 ∧ x1 < 4) ∧ (((iH h (33 + 3 * x1.toNat) 3) = 0 → (∃ P13 : AH → Prop, Ct 0 0 0 mX9_become [vr (33 + 3 * x1.toNat), vr 5] h (QV P13) ∧ ∀ h11 : AH, P13 h11 → LayL h11 ∧ (5 = 5 ∧ cRd (sI h11 (33 + 3 * x1.toNat) 3 1) g da sa ∧ 0 ≤ (0 : Int) ∧ (0 : Int) ≤ (iH (sI h11 (33 + 3 * x1.toNat) 3 1) 5 2) ∧ (iH (sI h11 (33 + 3 * x1.toNat) 3 1) 5 2) ≤ iH g 89 13) ∧ Q (some (vi (m_liveIn g (0 : Int) ((iH (sI h11 (33 + 3 * x1.toNat) 3 1) 5 2) - (0 : Int))))) (sI h11 (33 + 3 * x1.toNat) 3 1))) ∧ ((iH h (33 + 3 * x1.toNat) 3) ≠ 0 → Q (some (vi (-3))) h))) ∧ (¬ (0 ≤ x1 ∧ x1 ≤ 3) → Q (some (vi (-2))) h))) : wp mX11_open 3 rc rs Q 0 [some (vr 0), some (vi x1)] [] h :=
  (show wp mX11_open 3 rc rs Q 0 [some (vr 0), some (vi x1)] [] h from xcS k_X11_open_0 s_X11_open_1 ((Exists.intro [vi x1] (Exists.intro [] (And.intro (And.intro rfl (And.intro rfl (Nat.le_of_ble_eq_true rfl))) (Exists.intro 0 (Exists.intro 0 (Exists.intro 0 (Exists.intro _ (And.intro l_isView (And.intro (And.intro (by decide) (And.intro (Nat.zero_le _) (Nat.zero_le _))) (eQP (show wp mX11_open 3 rc rs Q 4 [some (vr 0), some (vi x1)] [vi (b01 (0 ≤ x1 ∧ x1 ≤ 3))] h from xIf k_X11_open_4 (And.intro (fun c1 => have v3 := hv.1 (b01_p.mp c1); (show wp mX11_open 3 rc rs Q 10 [some (vr 0), some (vi x1)] [] h from xIf k_X11_open_10 (And.intro (ll_0 hL) (Exists.intro 14 (And.intro (lg_0_6 hL) (have c5 := v3.1; have v22 := v3.2; (And.intro (sdQ (ll_14 hL) c5) (Exists.intro (33 + 3 * x1.toNat) (And.intro (tb_vw hL (tnl c5)) (And.intro (st_o hL (ti_vw (tnl c5))) (And.intro (fun c6 => have v8 := v22.1 c6; (show wp mX11_open 3 rc rs Q 25 [some (vr 0), some (vi x1)] [] h from xcV k_X11_open_25 s_X11_open_35 (And.intro (ll_0 hL) (Exists.intro 14 (And.intro (lg_0_6 hL) (And.intro (sdQ (ll_14 hL) c5) (Exists.intro (33 + 3 * x1.toNat) (And.intro (tb_vw hL (tnl c5)) (And.intro (ll_0 hL) (Exists.intro 5 (And.intro (lg_0_3 hL) (Exists.elim v8 (fun P13 v18 => (Exists.intro [vr 5] (Exists.intro (33 + 3 * x1.toNat) (Exists.intro [] (And.intro (And.intro rfl (And.intro rfl (Nat.le_of_ble_eq_true rfl))) (And.intro (st_o hL (ti_vw (tnl c5))) (Exists.intro 0 (Exists.intro 0 (Exists.intro 0 (Exists.intro (QV P13) (And.intro v18.1 (And.intro (And.intro (by decide) (And.intro (Nat.zero_le _) (Nat.zero_le _))) (eQV (fun h11 e20 => have v19 := v18.2 h11 e20; have hL := v19.1; have v19 := v19.2; (show wp mX11_open 3 rc rs Q 38 [some (vr 0), some (vi x1)] [] h11 from xcV k_X11_open_38 s_X11_open_60 (And.intro (ll_0 hL) (Exists.intro 14 (And.intro (lg_0_6 hL) (And.intro (sdQ (ll_14 hL) c5) (Exists.intro (33 + 3 * x1.toNat) (And.intro (tb_vw hL (tnl c5)) (And.intro (st_o hL (ti_vw (tnl c5))) (And.intro (Or.inr rfl) (And.intro (ll_0 hL) (Exists.intro 5 (And.intro (lg_0_3 hL) (And.intro (ll_0 hL) (Exists.intro 5 (And.intro (lg_0_3 hL) (And.intro (ll_5 hL) (have c15 := v19.1; have v16 := v19.2; (Exists.intro [vi 0, vi (iH (sI h11 (33 + 3 * x1.toNat) 3 1) 5 2)] (Exists.intro 5 (Exists.intro [] (And.intro (And.intro rfl (And.intro rfl (Nat.le_of_ble_eq_true rfl))) (And.intro (ll_5 hL) (Exists.intro 2 (Exists.intro 0 (Exists.intro 0 (Exists.intro _ (And.intro (l_liveBetween (h := (sI h11 (33 + 3 * x1.toNat) 3 1)) hL c15) (And.intro (And.intro (by decide) (And.intro (Nat.zero_le _) (Nat.zero_le _))) (eQP (show wp mX11_open 3 rc rs Q 63 [some (vr 0), some (vi x1)] [vi (m_liveIn g (0 : Int) ((iH (sI h11 (33 + 3 * x1.toNat) 3 1) 5 2) - (0 : Int)))] (sI h11 (33 + 3 * x1.toNat) 3 1) from xI k_X11_open_63 (And.intro rfl v16))))))))))))))))))))))))))))))))))))))))))))))))))))))))) (fun c7 => have v9 := v22.2 c7; (show wp mX11_open 3 rc rs Q 22 [some (vr 0), some (vi x1)] [] h from xI k_X11_open_22 (And.intro rfl v9)))))))))))))) (fun c2 => have v4 := hv.2 (b01_nn.mp c2); (show wp mX11_open 3 rc rs Q 7 [some (vr 0), some (vi x1)] [] h from xI k_X11_open_7 (And.intro rfl v4)))))))))))))))))
theorem e_X11_open {mc ms : Nat} {Q : Option AV → AH → Prop} {h : AH} {sa : Nat → Nat} {da : Nat → Nat} {g : AH} {x1 : Int} (hL : LayL h) (hv : (((0 ≤ x1 ∧ x1 ≤ 3) → (0 ≤ x1 ∧ x1 < 4) ∧ (((iH h (33 + 3 * x1.toNat) 3) = 0 → (∃ P13 : AH → Prop, Ct 0 0 0 mX9_become [vr (33 + 3 * x1.toNat), vr 5] h (QV P13) ∧ ∀ h11 : AH, P13 h11 → LayL h11 ∧ (5 = 5 ∧ cRd (sI h11 (33 + 3 * x1.toNat) 3 1) g da sa ∧ 0 ≤ (0 : Int) ∧ (0 : Int) ≤ (iH (sI h11 (33 + 3 * x1.toNat) 3 1) 5 2) ∧ (iH (sI h11 (33 + 3 * x1.toNat) 3 1) 5 2) ≤ iH g 89 13) ∧ Q (some (vi (m_liveIn g (0 : Int) ((iH (sI h11 (33 + 3 * x1.toNat) 3 1) 5 2) - (0 : Int))))) (sI h11 (33 + 3 * x1.toNat) 3 1))) ∧ ((iH h (33 + 3 * x1.toNat) 3) ≠ 0 → Q (some (vi (-3))) h))) ∧ (¬ (0 ≤ x1 ∧ x1 ≤ 3) → Q (some (vi (-2))) h))) : Ct 3 mc ms mX11_open [vr 0, vi x1] h Q := Ct.of (by decide +kernel) (Nat.le_of_ble_eq_true rfl) (t_X11_open_0 hL hv)
def b_X11_shut_0 : List IE := [(.iload_n 1, 1, 0, 0, 1, 0)]
theorem k_X11_shut_0 : ckB mX11_shut 11 0 b_X11_shut_0 1 = true := by decide +kernel
def b_X11_shut_4 : List IE := []
theorem k_X11_shut_4 : ckIf mX11_shut 11 4 b_X11_shut_4 4 1 6 10 7 = true := by decide +kernel
def b_X11_shut_7 : List IE := [(.bipush (-2), 2, (-2), 0, 0, 0)]
theorem k_X11_shut_7 : ckI mX11_shut 11 7 b_X11_shut_7 9 = true := by decide +kernel
def b_X11_shut_10 : List IE := [(.aload_n 0, 1, 0, 0, 0, 0), (.getfield 35, 3, 0, 11, 6, 1), (.iload_n 1, 1, 0, 0, 1, 0), (.aaload, 1, 0, 0, 0, 0), (.getfield 102, 3, 0, 9, 3, 0)]
theorem k_X11_shut_10 : ckIf mX11_shut 11 10 b_X11_shut_10 19 1 6 25 22 = true := by decide +kernel
def b_X11_shut_22 : List IE := [(.bipush (-3), 2, (-3), 0, 0, 0)]
theorem k_X11_shut_22 : ckI mX11_shut 11 22 b_X11_shut_22 24 = true := by decide +kernel
def b_X11_shut_25 : List IE := [(.aload_n 0, 1, 0, 0, 0, 0), (.getfield 35, 3, 0, 11, 6, 1), (.iload_n 1, 1, 0, 0, 1, 0), (.aaload, 1, 0, 0, 0, 0), (.iconst 0, 1, 0, 0, 0, 0), (.putfield 102, 3, 0, 9, 3, 2), (.aload_n 0, 1, 0, 0, 0, 0)]
theorem k_X11_shut_25 : ckB mX11_shut 11 25 b_X11_shut_25 36 = true := by decide +kernel
def b_X11_shut_39 : List IE := []
theorem k_X11_shut_39 : ckI mX11_shut 11 39 b_X11_shut_39 39 = true := by decide +kernel
theorem s_X11_shut_1 : cS mX11_shut 1 mX11_isView 292 1 := ⟨by decide +kernel, ⟨ml_X11_isView, li_RX11_292, st_X11_isView⟩, by decide +kernel⟩
theorem s_X11_shut_36 : cV mX11_shut 36 mX11_heldSegments 295 0 11 := ⟨by decide +kernel, ⟨ml_X11_heldSegments, li_RX11_295, im_X11_heldSegments, se_X11_heldSegments⟩, ⟨by decide +kernel, by decide +kernel⟩, by decide +kernel⟩
theorem t_X11_shut_0 {rc rs : Nat} {Q : Option AV → AH → Prop} {h : AH} {sa : Nat → Nat} {da : Nat → Nat} {g : AH} {x1 : Int} (hL : LayL h) (hv : (((0 ≤ x1 ∧ x1 ≤ 3) → (0 ≤ x1 ∧ x1 < 4) ∧ (((iH h (33 + 3 * x1.toNat) 3) ≠ 0 → (kHd (sI h (33 + 3 * x1.toNat) 3 0) g da sa ∧ kI g ∧ 0 ≤ iH g 89 5 ∧ iH g 89 5 ≤ 520) ∧ Q (some (vi (m_hs g))) (sI h (33 + 3 * x1.toNat) 3 0)) ∧ ((iH h (33 + 3 * x1.toNat) 3) = 0 → Q (some (vi (-3))) h))) ∧ (¬ (0 ≤ x1 ∧ x1 ≤ 3) → Q (some (vi (-2))) h))) : wp mX11_shut 3 rc rs Q 0 [some (vr 0), some (vi x1)] [] h :=
  (show wp mX11_shut 3 rc rs Q 0 [some (vr 0), some (vi x1)] [] h from xcS k_X11_shut_0 s_X11_shut_1 ((Exists.intro [vi x1] (Exists.intro [] (And.intro (And.intro rfl (And.intro rfl (Nat.le_of_ble_eq_true rfl))) (Exists.intro 0 (Exists.intro 0 (Exists.intro 0 (Exists.intro _ (And.intro l_isView (And.intro (And.intro (by decide) (And.intro (Nat.zero_le _) (Nat.zero_le _))) (eQP (show wp mX11_shut 3 rc rs Q 4 [some (vr 0), some (vi x1)] [vi (b01 (0 ≤ x1 ∧ x1 ≤ 3))] h from xIf k_X11_shut_4 (And.intro (fun c1 => have v3 := hv.1 (b01_p.mp c1); (show wp mX11_shut 3 rc rs Q 10 [some (vr 0), some (vi x1)] [] h from xIf k_X11_shut_10 (And.intro (ll_0 hL) (Exists.intro 14 (And.intro (lg_0_6 hL) (have c5 := v3.1; have v14 := v3.2; (And.intro (sdQ (ll_14 hL) c5) (Exists.intro (33 + 3 * x1.toNat) (And.intro (tb_vw hL (tnl c5)) (And.intro (st_o hL (ti_vw (tnl c5))) (And.intro (fun c6 => have v8 := v14.1 c6; (show wp mX11_shut 3 rc rs Q 25 [some (vr 0), some (vi x1)] [] h from xcV k_X11_shut_25 s_X11_shut_36 (And.intro (ll_0 hL) (Exists.intro 14 (And.intro (lg_0_6 hL) (And.intro (sdQ (ll_14 hL) c5) (Exists.intro (33 + 3 * x1.toNat) (And.intro (tb_vw hL (tnl c5)) (And.intro (st_o hL (ti_vw (tnl c5))) (And.intro (Or.inl rfl) (have c11 := v8.1; have v12 := v8.2; (Exists.intro [] (Exists.intro 0 (Exists.intro [] (And.intro (And.intro rfl (And.intro rfl (Nat.le_of_ble_eq_true rfl))) (And.intro (ll_0 hL) (Exists.intro 2 (Exists.intro 0 (Exists.intro 0 (Exists.intro _ (And.intro (l_held (h := (sI h (33 + 3 * x1.toNat) 3 0)) hL c11) (And.intro (And.intro (by decide) (And.intro (Nat.zero_le _) (Nat.zero_le _))) (eQP (show wp mX11_shut 3 rc rs Q 39 [some (vr 0), some (vi x1)] [vi (m_hs g)] (sI h (33 + 3 * x1.toNat) 3 0) from xI k_X11_shut_39 (And.intro rfl v12))))))))))))))))))))))))) (fun c7 => have v9 := v14.2 (Decidable.not_not.mp c7); (show wp mX11_shut 3 rc rs Q 22 [some (vr 0), some (vi x1)] [] h from xI k_X11_shut_22 (And.intro rfl v9)))))))))))))) (fun c2 => have v4 := hv.2 (b01_nn.mp c2); (show wp mX11_shut 3 rc rs Q 7 [some (vr 0), some (vi x1)] [] h from xI k_X11_shut_7 (And.intro rfl v4)))))))))))))))))
theorem e_X11_shut {mc ms : Nat} {Q : Option AV → AH → Prop} {h : AH} {sa : Nat → Nat} {da : Nat → Nat} {g : AH} {x1 : Int} (hL : LayL h) (hv : (((0 ≤ x1 ∧ x1 ≤ 3) → (0 ≤ x1 ∧ x1 < 4) ∧ (((iH h (33 + 3 * x1.toNat) 3) ≠ 0 → (kHd (sI h (33 + 3 * x1.toNat) 3 0) g da sa ∧ kI g ∧ 0 ≤ iH g 89 5 ∧ iH g 89 5 ≤ 520) ∧ Q (some (vi (m_hs g))) (sI h (33 + 3 * x1.toNat) 3 0)) ∧ ((iH h (33 + 3 * x1.toNat) 3) = 0 → Q (some (vi (-3))) h))) ∧ (¬ (0 ≤ x1 ∧ x1 ≤ 3) → Q (some (vi (-2))) h))) : Ct 3 mc ms mX11_shut [vr 0, vi x1] h Q := Ct.of (by decide +kernel) (Nat.le_of_ble_eq_true rfl) (t_X11_shut_0 hL hv)
def b_X11_commit_0 : List IE := [(.aload_n 0, 1, 0, 0, 0, 0), (.getfield 29, 3, 0, 11, 4, 1), (.getfield 102, 3, 0, 9, 3, 0)]
theorem k_X11_commit_0 : ckIf mX11_commit 11 0 b_X11_commit_0 7 1 6 13 10 = true := by decide +kernel
def b_X11_commit_10 : List IE := [(.bipush (-3), 2, (-3), 0, 0, 0)]
theorem k_X11_commit_10 : ckI mX11_commit 11 10 b_X11_commit_10 12 = true := by decide +kernel
def b_X11_commit_13 : List IE := [(.aload_n 0, 1, 0, 0, 0, 0), (.getfield 32, 3, 0, 11, 5, 1), (.aload_n 0, 1, 0, 0, 0, 0), (.getfield 29, 3, 0, 11, 4, 1)]
theorem k_X11_commit_13 : ckB mX11_commit 11 13 b_X11_commit_13 21 = true := by decide +kernel
def b_X11_commit_24 : List IE := [(.aload_n 0, 1, 0, 0, 0, 0), (.getfield 29, 3, 0, 11, 4, 1), (.iconst 0, 1, 0, 0, 0, 0), (.putfield 102, 3, 0, 9, 3, 2), (.aload_n 0, 1, 0, 0, 0, 0), (.getfield 32, 3, 0, 11, 5, 1), (.getfield 153, 3, 0, 9, 2, 0)]
theorem k_X11_commit_24 : ckI mX11_commit 11 24 b_X11_commit_24 39 = true := by decide +kernel
theorem s_X11_commit_21 : cV mX11_commit 21 mX9_become 281 1 9 := ⟨by decide +kernel, ⟨ml_X9_become, li_RX11_281, im_X9_become, se_X9_become⟩, ⟨by decide +kernel, by decide +kernel⟩, by decide +kernel⟩
theorem t_X11_commit_0 {rc rs : Nat} {Q : Option AV → AH → Prop} {h : AH}  (hL : LayL h) (hv : (((iH h 8 3) ≠ 0 → (∃ P7 : AH → Prop, Ct 0 0 0 mX9_become [vr 11, vr 8] h (QV P7) ∧ ∀ h5 : AH, P7 h5 → LayL h5 ∧ Q (some (vi (iH h5 11 2))) (sI h5 8 3 0))) ∧ ((iH h 8 3) = 0 → Q (some (vi (-3))) h))) : wp mX11_commit 1 rc rs Q 0 [some (vr 0)] [] h :=
  (show wp mX11_commit 1 rc rs Q 0 [some (vr 0)] [] h from xIf k_X11_commit_0 (And.intro (ll_0 hL) (Exists.intro 8 (And.intro (lg_0_4 hL) (And.intro (ll_8 hL) (And.intro (fun c1 => have v3 := hv.1 c1; (show wp mX11_commit 1 rc rs Q 13 [some (vr 0)] [] h from xcV k_X11_commit_13 s_X11_commit_21 (And.intro (ll_0 hL) (Exists.intro 11 (And.intro (lg_0_5 hL) (And.intro (ll_0 hL) (Exists.intro 8 (And.intro (lg_0_4 hL) (Exists.elim v3 (fun P7 v8 => (Exists.intro [vr 8] (Exists.intro 11 (Exists.intro [] (And.intro (And.intro rfl (And.intro rfl (Nat.le_of_ble_eq_true rfl))) (And.intro (ll_11 hL) (Exists.intro 0 (Exists.intro 0 (Exists.intro 0 (Exists.intro (QV P7) (And.intro v8.1 (And.intro (And.intro (by decide) (And.intro (Nat.zero_le _) (Nat.zero_le _))) (eQV (fun h5 e10 => have v9 := v8.2 h5 e10; have hL := v9.1; have v9 := v9.2; (show wp mX11_commit 1 rc rs Q 24 [some (vr 0)] [] h5 from xI k_X11_commit_24 (And.intro (ll_0 hL) (Exists.intro 8 (And.intro (lg_0_4 hL) (And.intro (ll_8 hL) (And.intro (Or.inl rfl) (And.intro (ll_0 hL) (Exists.intro 11 (And.intro (lg_0_5 hL) (And.intro (ll_11 hL) (And.intro rfl v9)))))))))))))))))))))))))))))))))) (fun c2 => have v4 := hv.2 (Decidable.not_not.mp c2); (show wp mX11_commit 1 rc rs Q 10 [some (vr 0)] [] h from xI k_X11_commit_10 (And.intro rfl v4)))))))))
theorem e_X11_commit {mc ms : Nat} {Q : Option AV → AH → Prop} {h : AH}  (hL : LayL h) (hv : (((iH h 8 3) ≠ 0 → (∃ P7 : AH → Prop, Ct 0 0 0 mX9_become [vr 11, vr 8] h (QV P7) ∧ ∀ h5 : AH, P7 h5 → LayL h5 ∧ Q (some (vi (iH h5 11 2))) (sI h5 8 3 0))) ∧ ((iH h 8 3) = 0 → Q (some (vi (-3))) h))) : Ct 1 mc ms mX11_commit [vr 0] h Q := Ct.of (by decide +kernel) (Nat.le_of_ble_eq_true rfl) (t_X11_commit_0 hL hv)
theorem l_write {h g : AH} {da sa : Nat → Nat} (hL : LayL h) (hp : kSta h g da sa) : Ct 1 0 0 mX11_write [vr 0] h (QI fun x h' => x = iH g 89 13 ∧ (∃ R J, h' = hLay h 4 (iH h 5 2) R J) ∧ LayL h' ∧ kSta h' (m_lay g 4) da sa) := by
  obtain ⟨hk, hr, hU⟩ := hp
  refine e_X11_write hL ⟨_, l_become hL (iSt_av (t := 4) (by omega)) (Or.inl rfl) (by decide) hk.1.2.1 hk.1.2.2, fun h1 hh => ?_⟩
  obtain ⟨R, J, rfl, hm⟩ := hh
  have hL1 : LayL (hSt h 8 (iH h 5 2) R J) := LayL_hSt (iSt_av (t := 4) (by omega)) hL
  refine ⟨hL1, _, rfl, ?_, ⟨R, J, rfl⟩, hL1, lay_kHd (t := 4) (by omega) hk hm, lay_rI (t := 4) (by omega) hk hr hU⟩
  rw [st_n]
  exact hk.1.2.2.1
theorem l_open {h g : AH} {da sa : Nat → Nat} (hL : LayL h) {v : Int} (hp : kSta h g da sa) : Ct 3 0 0 mX11_open [vr 0, vi v] h (QI fun x h' => ∃ g', p_open g v x g' ∧ LayL h' ∧ kSta h' g' da sa ∧ ((h' = h ∧ g' = g) ∨ ∃ t : Nat, t < 4 ∧ (∃ R J, h' = hLay h t (iH h 5 2) R J) ∧ g' = m_lay g t)) := by
  obtain ⟨hk, hr, hU⟩ := hp
  refine e_X11_open (g := g) (da := da) (sa := sa) hL ⟨fun c => ⟨by omega, ?_⟩, fun c => ⟨_, rfl, g, Or.inl ⟨c, rfl, rfl⟩, hL, ⟨hk, hr, hU⟩, Or.inl ⟨rfl, rfl⟩⟩⟩
  obtain ⟨t, rfl⟩ := Int.eq_ofNat_of_zero_le c.1
  rw [Int.toNat_natCast, ← avT_v (by omega), (hk.2.2.1 t (by omega)).1]
  refine ⟨fun c2 => ⟨_, l_become hL (iSt_av (t := t) (by omega)) (Or.inl rfl) (by unfold avT; (repeat' split) <;> omega) hk.1.2.1 hk.1.2.2, fun h1 hh => ?_⟩, fun c2 => ⟨_, rfl, g, Or.inr (Or.inl ⟨c, by rw [Int.toNat_natCast]; exact c2, rfl, rfl⟩), hL, ⟨hk, hr, hU⟩, Or.inl ⟨rfl, rfl⟩⟩⟩
  obtain ⟨R, J, rfl, hm⟩ := hh
  have hL1 : LayL (hSt h (avT t) (iH h 5 2) R J) := LayL_hSt (iSt_av (t := t) (by omega)) hL
  have hc2 := lay_cRd (n := iH h 5 2) (R := R) (J := J) (t := t) (by omega) hk.1
  have e5 : iH (sI (hSt h (avT t) (iH h 5 2) R J) (avT t) 3 1) 5 2 = iH g 89 13 := hc2.2.2.1
  have h8 := hk.1.2.2.2.1
  rw [e5]
  refine ⟨hL1, ⟨rfl, hc2, by omega, by omega, by omega⟩, _, rfl, m_lay g t, Or.inr (Or.inr ⟨c, by rw [Int.toNat_natCast]; exact c2, by rw [Int.sub_zero], rfl⟩), hL1, ⟨lay_kHd (by omega) hk hm, lay_rI (by omega) hk hr hU⟩, Or.inr ⟨t, by omega, ⟨R, J, rfl⟩, rfl⟩⟩
/-- the reference's stands stay, but who is there -/
def agN (g g' : AH) : Prop := agDS g g' ∧ (∀ k, iH g' 613 k = iH g 613 k) ∧ (iH g' 89 13 = iH g 89 13 ∧ ∀ k, iH g' 1155 k = iH g 1155 k) ∧ ∀ t : Nat, t < 6 → iH g' 1138 t = iH g 1138 t ∧ (∀ k, iH g' (1140 + t) k = iH g (1140 + t) k) ∧ ∀ k, iH g' (1148 + t) k = iH g (1148 + t) k
section
variable {g g' : AH}
theorem N_off (e : agN g g') {t : Nat} (ht : t < 6) {s : Nat} : m_offT g' t s = m_offT g t s := by
  unfold m_offT
  rw [Int.toNat_natCast]
  exact sumN_cg fun i _ => by rw [(e.2.2.2 t ht).2.1, e.1.2 615 _ (by decide) (by decide) (by decide)]
theorem N_nDr (e : agN g g') {s k : Nat} (hb : 0 ≤ nRow g s ∧ nRow g s < 520) : nDr g' s k ↔ nDr g s k := by
  unfold nRow at hb
  unfold nDr
  rw [e.2.1, e.2.2.1.2, e.1.2 (617 + _) _ (by omega) (by omega) (by omega)]
theorem N_tDr (e : agN g g') {t : Nat} (ht : t < 6) (s k : Nat) : tDr g' t s k ↔ tDr g t s k := by
  unfold tDr
  rw [N_off e ht, (e.2.2.2 t ht).2.2]
theorem kHd_N {h : AH} {da sa : Nat → Nat} (e : agN g g') (hf : kF h g') (hk : kHd h g da sa) : kHd h g' da sa := by
  obtain ⟨⟨hd, hs, hn⟩, hv, -⟩ := hk
  have s520 := segs_520 hs
  have eD := agDS_D e.1 (docs_520 hd)
  have eS := agDS_S e.1 s520
  refine ⟨⟨cDocs_mv eD e.1.1.1 (fun _ _ => rfl) hd, cSegs_mv eD eS e.1.1.2 (fun _ _ => rfl) (fun _ _ => rfl) hs, ?_⟩, fun t ht => ?_, hf⟩
  · refine cStd_mv eS (fun _ _ => rfl) e.2.2.1.1 (fun s _ => e.2.2.1.2 s) (fun s k hs1 _ => ?_) rfl (fun _ => rfl) (fun _ => rfl) hn
    have q := (hn.2.2 s hs1).1
    exact N_nDr e (by omega)
  · obtain ⟨t1, t2, t3⟩ := e.2.2.2 t ht
    exact cStd_mv eS (fun _ _ => rfl) t1 (fun s _ => t2 s) (fun s k _ _ => N_tDr e ht s k) rfl (fun _ => rfl) (fun _ => rfl) (hv t ht)
theorem N_cnt (e : agN g g') {j : Nat} (hj : j < 7) : cntH g' j = cntH g j ∧ ∀ s, rowH g' j s = rowH g j s := by
  by_cases e0 : j = 0
  · subst e0
    exact ⟨e.2.2.1.1, e.2.2.1.2⟩
  · obtain ⟨t1, t2, -⟩ := e.2.2.2 _ (hld_av e0 hj).2
    refine ⟨?_, fun s => ?_⟩
    · unfold cntH; rw [if_neg e0, if_neg e0]; exact t1
    · unfold rowH; rw [if_neg e0, if_neg e0]; exact t2 s
theorem rI_N {h : AH} {da sa : Nat → Nat} (e : agN g g') (hk : kHd h g da sa) (hr : rI g) (hU : kU g) : rI g' ∧ kU g' := by
  obtain ⟨r1, r2, r3, r4⟩ := hr
  obtain ⟨i1, i2⟩ := iu_from e.1 (fun j hj s hs => by have := row_bd hk hj hs; omega) (fun j hj => ⟨j, hj, by rw [(N_cnt e hj).1]; exact Int.le_refl _, fun s _ => (N_cnt e hj).2 s⟩) r1 hU
  refine ⟨⟨i1, ?_, fun t ht => ⟨?_, fun k hk1 => ?_⟩, fun d hd => by rw [e.2.1]; exact r4 d hd⟩, i2⟩
  · have : m_held g' = m_held g := by
      unfold m_held
      rw [e.2.2.1.1]
      exact sumN_cg fun s _ => by rw [e.2.2.1.2, e.1.2 615 _ (by decide) (by decide) (by decide)]
    rw [this]; exact r2
  · rw [N_off e ht, (e.2.2.2 t ht).1]; exact (r3 t ht).1
  · rw [(e.2.2.2 t ht).2.2]; exact (r3 t ht).2 k hk1
theorem lay6_N : agN g (m_lay g 6) := by
  have e : m_lay g 6 = m_lay g ((6 : Nat) : Int) := rfl
  rw [e]
  exact ⟨lay_DS (by omega), fun k => lay_x (by omega) (by omega) (by omega) (by omega), ⟨lay_x (by omega) (by omega) (by omega) (by omega), fun k => lay_x (by omega) (by omega) (by omega) (by omega)⟩, fun t ht => ⟨lay_x (by omega) (by omega) (Or.inr (by omega)) (Or.inr (by omega)), fun k => lay_x (by omega) (by omega) (by omega) (by omega), fun k => lay_x (by omega) (by omega) (by omega) (by omega)⟩⟩
theorem lay6_F {h : AH} (hf : kF h g) : kF h (m_lay g 6) := by
  obtain ⟨f1, f2, f3, f4⟩ := hf
  have e : ∀ t, t < 6 → iH (m_lay g 6) 1137 t = iH g 1137 t ∧ iH (m_lay g 6) 1138 t = iH g 1138 t := fun t ht => ⟨(lay6_t ht).1, (lay6_t ht).2.1⟩
  exact ⟨fun t ht => by rw [(e t (by omega)).1]; exact f1 t ht, f2, f3, by rw [(e 5 (by omega)).1, (e 5 (by omega)).2]; exact f4⟩
theorem kSta_6 {h : AH} {da sa : Nat → Nat} (hp : kSta h g da sa) : kSta h (m_lay g 6) da sa := by
  obtain ⟨hk, hr, hU⟩ := hp
  exact ⟨kHd_N lay6_N (lay6_F hk.2.2) hk, rI_N lay6_N hk hr hU⟩
end
theorem isT_N {g : AH} {v : Nat} {u : Int} : agN g (sI g 1137 v u) := ⟨⟨⟨rI_ne (by decide), rI_ne (by decide)⟩, fun x k _ h2 _ => rI_ne (by omega)⟩, fun k => rI_ne (by decide), ⟨rI_ne (by decide), fun k => rI_ne (by decide)⟩, fun t ht => ⟨rI_ne (by decide), fun k => rI_ne (by omega), fun k => rI_ne (by omega)⟩⟩
theorem agSt_3 {h : AH} {t : Nat} {u : Int} (ht : t < 6) : agD h (sI h (avT t) 3 u) := by
  have := iSt_1173 (iSt_av ht)
  exact agD_rf rfl (fun _ => rfl) fun x hx => ⟨fun k => rI_ne (by omega), fun _ => rfl⟩
theorem shut_kSta {h g : AH} {da sa : Nat → Nat} {t : Nat} (ht : t < 5) (hp : kSta h g da sa) : kSta (sI h (avT t) 3 0) (sI g 1137 t 0) da sa := by
  obtain ⟨hk, hr, hU⟩ := hp
  obtain ⟨⟨hd, hs, hn⟩, hv, f1, f2, f3, f4⟩ := hk
  have n5 : 5 ≠ avT t := by unfold avT; (repeat' split) <;> omega
  have n11 : 11 ≠ avT t := by unfold avT; (repeat' split) <;> omega
  have ag := agSt_3 (h := h) (u := 0) (t := t) (by omega)
  have k2 : ∀ c, iH (sI h (avT t) 3 0) c 2 = iH h c 2 := fun c => by
    by_cases e : c = avT t
    · subst e; exact rI_nk (by decide)
    · exact rI_ne e
  have hk1 : kHd h g da sa := ⟨⟨hd, hs, hn⟩, hv, f1, f2, f3, f4⟩
  have c1 : cRd (sI h (avT t) 3 0) g da sa := cRd_fr ag (k2 5) (fun _ => rfl) (fun _ => rfl) ⟨hd, hs, hn⟩
  have hf : kF (sI h (avT t) 3 0) (sI g 1137 t 0) := by
    refine ⟨fun u hu => ?_, by rw [rI_ne n5]; exact f2, by rw [rI_ne n11]; exact f3, ?_⟩
    · by_cases e : u = t
      · subst e; rw [rI_same, rI_same]; exact ⟨rfl, Or.inl rfl⟩
      · have ne : avT u ≠ avT t := by unfold avT; (repeat' split) <;> omega
        rw [rI_ne ne, rI_nk e]; exact f1 u hu
    · rw [rI_nk (by omega), rI_ne (by decide)]; exact f4
  refine ⟨?_, rI_N isT_N hk1 hr hU⟩
  have s520 := segs_520 hs
  have eN := isT_N (g := g) (v := t) (u := 0)
  have eD := agDS_D eN.1 (docs_520 hd)
  have eS := agDS_S eN.1 s520
  refine ⟨⟨cDocs_mv eD eN.1.1.1 (fun _ _ => rfl) c1.1, cSegs_mv eD eS eN.1.1.2 (fun _ _ => rfl) (fun _ _ => rfl) c1.2.1, ?_⟩, fun u hu => ?_, hf⟩
  · refine cStd_mv eS (fun _ _ => rfl) eN.2.2.1.1 (fun s _ => eN.2.2.1.2 s) (fun s k hs1 _ => ?_) (k2 5) (fun _ => rfl) (fun _ => rfl) hn
    have q := (hn.2.2 s hs1).1
    exact N_nDr eN (by omega)
  · obtain ⟨t1, t2, t3⟩ := eN.2.2.2 u hu
    exact cStd_mv eS (fun _ _ => rfl) t1 (fun s _ => t2 s) (fun s k _ _ => N_tDr eN hu s k) (k2 _) (fun _ => rfl) (fun _ => rfl) (hv u hu)
theorem l_shut {h g : AH} {da sa : Nat → Nat} (hL : LayL h) {v : Int} (hp : kSta h g da sa) (hse : 0 ≤ iH g 89 5) : Ct 3 0 0 mX11_shut [vr 0, vi v] h (QI fun x h' => ∃ g', p_shut g v x g' ∧ LayL h' ∧ kSta h' g' da sa ∧ ((h' = h ∧ g' = g) ∨ ∃ t : Nat, t < 4 ∧ h' = sI h (avT t) 3 0 ∧ g' = m_lay (sI g 1137 t 0) 6)) := by
  by_cases c : 0 ≤ v ∧ v ≤ 3
  · obtain ⟨t, rfl⟩ := Int.eq_ofNat_of_zero_le c.1
    have k1 := shut_kSta (t := t) (by omega) hp
    have s520 := segs_520 hp.1.1.2.1
    refine e_X11_shut (g := sI g 1137 t 0) (da := da) (sa := sa) hL ⟨fun _ => ⟨by omega, ?_⟩, fun q => absurd c q⟩
    rw [Int.toNat_natCast, ← avT_v (by omega), (hp.1.2.2.1 t (by omega)).1]
    refine ⟨fun c2 => ⟨⟨k1.1, k1.2.1.1, by rw [rI_ne (by decide)]; omega⟩, _, rfl, _, Or.inr (Or.inr ⟨c, by rw [Int.toNat_natCast]; exact c2, by rw [Int.toNat_natCast], rfl⟩), hL, ?_, Or.inr ⟨t, by omega, rfl, by rw [Int.toNat_natCast]⟩⟩, fun c2 => ⟨_, rfl, g, Or.inr (Or.inl ⟨c, by rw [Int.toNat_natCast]; exact c2, rfl, rfl⟩), hL, hp, Or.inl ⟨rfl, rfl⟩⟩⟩
    rw [Int.toNat_natCast]
    exact kSta_6 k1
  · exact e_X11_shut (g := g) (da := da) (sa := sa) hL ⟨fun q => absurd q c, fun _ => ⟨_, rfl, g, Or.inl ⟨c, rfl, rfl⟩, hL, hp, Or.inl ⟨rfl, rfl⟩⟩⟩
/-! what is written is handed on to the commit -/
section
variable {g : AH}
def m_cmt (g : AH) : AH := sI (m_hand g 4 5) 1137 4 0
theorem cmt_x {x k : Nat} (h1 : x ≠ 1140 + 5) (h2 : x ≠ 1148 + 5) (h3 : x ≠ 1137 ∨ (k ≠ 5 ∧ k ≠ 4)) (h4 : x ≠ 1138 ∨ k ≠ 5) : iH (m_cmt g) x k = iH g x k := by
  unfold m_cmt m_hand
  have a1 : ∀ (h : AH) (v : Int) (i : Nat), (x ≠ 1137 ∨ k ≠ i) → iH (sI h 1137 i v) x k = iH h x k := fun h v i q => by
    by_cases e : x = 1137
    · subst e; exact rI_nk (q.elim (fun u => absurd rfl u) id)
    · exact rI_ne e
  have a2 : ∀ (h : AH) (v : Int), iH (sI h 1138 5 v) x k = iH h x k := fun h v => by
    by_cases e : x = 1138
    · subst e; exact rI_nk (h4.elim (fun u => absurd rfl u) id)
    · exact rI_ne e
  rw [a1 _ _ _ (h3.elim Or.inl fun q => Or.inr q.2), cp_ne h2, cp_ne h1, a2, a1 _ _ _ (h3.elim Or.inl fun q => Or.inr q.1)]
theorem cmt_C : iH (m_cmt g) 1138 5 = iH g 1138 4 ∧ iH (m_cmt g) 1137 5 = 1 ∧ iH (m_cmt g) 1137 4 = 0 := by
  unfold m_cmt m_hand
  refine ⟨?_, ?_, rI_same⟩
  · rw [rI_ne (by decide), cp_ne (by decide), cp_ne (by decide), rI_same]
  · rw [rI_nk (by decide), cp_ne (by decide), cp_ne (by decide), rI_ne (by decide), rI_same]
theorem cmt_R {s : Nat} (hs : s < 8) : iH (m_cmt g) (1140 + 5) s = iH g (1140 + 4) s := by
  unfold m_cmt m_hand
  rw [rI_ne (by decide), cp_ne (by decide)]
  unfold cpI
  rw [rW_same, if_pos (by omega), rI_ne (by decide), rI_ne (by decide), show 0 + (s - 0) = s by omega]
theorem cmt_W {s : Nat} (hs : s < 64) : iH (m_cmt g) (1148 + 5) s = iH g (1148 + 4) s := by
  unfold m_cmt m_hand
  rw [rI_ne (by decide)]
  unfold cpI
  rw [rW_same, if_pos (by omega), rW_ne (by decide), rI_ne (by decide), rI_ne (by decide), show 0 + (s - 0) = s by omega]
theorem cmt_DS : agDS g (m_cmt g) := ⟨⟨cmt_x (by decide) (by decide) (Or.inl (by decide)) (Or.inl (by decide)), cmt_x (by decide) (by decide) (Or.inl (by decide)) (Or.inl (by decide))⟩, fun x k _ h2 _ => cmt_x (by omega) (by omega) (Or.inl (by omega)) (Or.inl (by omega))⟩
theorem cmt_off5 {s : Nat} (hs : s ≤ 8) : m_offT (m_cmt g) 5 s = m_offT g 4 s := by
  unfold m_offT
  refine sumN_cg fun i hi => ?_
  rw [show (5 : Int).toNat = 5 from rfl, show (4 : Int).toNat = 4 from rfl, cmt_R (by omega), cmt_x (by decide) (by decide) (Or.inl (by decide)) (Or.inl (by decide))]
theorem cmt_off {t s : Nat} (ht : t < 5) : m_offT (m_cmt g) t s = m_offT g t s := by
  unfold m_offT
  refine sumN_cg fun i hi => ?_
  rw [Int.toNat_natCast, cmt_x (x := 1140 + t) (by omega) (by omega) (Or.inl (by omega)) (Or.inl (by omega)), cmt_x (by decide) (by decide) (Or.inl (by decide)) (Or.inl (by decide))]
end
/-- places in a stand's row of dropped ones are below 64 -/
theorem off_bd {h g : AH} {da sa : Nat → Nat} (hk : kHd h g da sa) (hr : rI g) {t : Nat} (ht : t < 6) {s k : Nat} (hs : (s : Int) < iH g 1138 t) (hkk : (k : Int) < iH g 615 (tRow g t s).toNat) : (m_offT g t s).toNat + k < 64 := by
  obtain ⟨hc, hv, -⟩ := hk
  have h64 := (hr.2.2.1 t ht).1
  have nn : ∀ i : Nat, (i : Int) < iH g 1138 t → 0 ≤ iH g 615 (tRow g t i).toNat := fun i hi => by
    have q := ((hv t ht).2.2 i hi).1
    have := (hc.2.1 (tRow g t i).toNat (by omega)).1.1.1.2.1.1
    rw [Int.toNat_natCast] at this
    exact this
  have mo : ∀ n : Nat, (n : Int) ≤ iH g 1138 t → s < n → 0 ≤ m_offT g t s ∧ m_offT g t s + iH g 615 (tRow g t s).toNat ≤ m_offT g t n := by
    intro n
    induction n with
    | zero => intro _ q; omega
    | succ n ih =>
      intro h1 h2
      have e : m_offT g t (n + 1) = m_offT g t n + iH g 615 (iH g (1140 + (t : Int).toNat) n).toNat := rfl
      rw [Int.toNat_natCast] at e
      by_cases q : s = n
      · subst q
        have p0 : 0 ≤ m_offT g t s := by
          have : ∀ m : Nat, m ≤ s → 0 ≤ m_offT g t m := by
            intro m
            induction m with
            | zero => intro _; exact Int.le_refl _
            | succ m ihm =>
              intro hm
              have e2 : m_offT g t (m + 1) = m_offT g t m + iH g 615 (iH g (1140 + (t : Int).toNat) m).toNat := rfl
              rw [Int.toNat_natCast] at e2
              have := ihm (by omega)
              have : 0 ≤ iH g 615 (iH g (1140 + t) m).toNat := nn m (by omega)
              omega
          exact this s (Nat.le_refl _)
        exact ⟨p0, by rw [e]; exact Int.le_refl _⟩
      · have := ih (by omega) (by omega)
        have : 0 ≤ iH g 615 (iH g (1140 + t) n).toNat := nn n (by omega)
        omega
  have := mo (iH g 1138 t).toNat (by omega) (by omega)
  omega
theorem cmt_kSta {h g : AH} {da sa : Nat → Nat} {R : Nat → Option Nat} {J : Nat → Int64} (hp : kSta h g da sa) (hm : ∀ k : Nat, (k : Int) < iH h 8 2 → R k = rH h 9 k ∧ J k = jH h 10 k) : kSta (sI (hSt h 11 (iH h 8 2) R J) 8 3 0) (m_cmt g) da sa := by
  obtain ⟨hk, hr, hU⟩ := hp
  have ob := fun {s k : Nat} hs hkk => off_bd hk hr (t := 4) (by omega) (s := s) (k := k) hs hkk
  have rb := fun (j : Nat) (hj : j < 7) (s : Nat) hs => row_bd hk hj (s := s) hs
  obtain ⟨⟨hd, hs, hn⟩, hv, f1, f2, f3, f4⟩ := hk
  have s520 := segs_520 hs
  have eD := agDS_D (cmt_DS (g := g)) (docs_520 hd)
  have eS := agDS_S (cmt_DS (g := g)) s520
  have c48 : 0 ≤ iH g 1138 4 ∧ iH g 1138 4 ≤ 8 := (hv 4 (by omega)).2.1
  obtain ⟨H, hH⟩ : ∃ H, H = sI (hSt h 11 (iH h 8 2) R J) 8 3 0 := ⟨_, rfl⟩
  rw [← hH]
  have ag : agD h H := agD_rf (by rw [hH]; rfl) (fun _ => by rw [hH]; rfl) fun x hx => ⟨fun k => by rw [hH, rI_ne (by omega), st_io (by omega)], fun k => by
    rw [hH]
    show rH (hSt h 11 (iH h 8 2) R J) x k = _
    exact st_Ro (by omega)⟩
  have i2 : ∀ c, c ≠ 11 → iH H c 2 = iH h c 2 := fun c hc => by
    rw [hH]
    by_cases e : c = 8
    · subst e; rw [rI_nk (by decide), st_io hc]
    · rw [rI_ne e, st_io hc]
  have i3 : ∀ c, c ≠ 8 → iH H c 3 = iH h c 3 := fun c hc => by
    rw [hH, rI_ne hc, st_ik (by decide)]
  have ro : ∀ c k, c ≠ 12 → rH H c k = rH h c k := fun c k hc => by
    rw [hH]
    show rH (hSt h 11 (iH h 8 2) R J) c k = _
    exact st_Ro hc
  have jo : ∀ c k, c ≠ 13 → jH H c k = jH h c k := fun c k hc => by
    rw [hH]
    show jH (hSt h 11 (iH h 8 2) R J) c k = _
    exact st_Jo hc
  have x1 : ∀ k, iH (m_cmt g) 613 k = iH g 613 k := fun k => cmt_x (by decide) (by decide) (Or.inl (by decide)) (Or.inl (by decide))
  have x2 : iH (m_cmt g) 89 13 = iH g 89 13 := cmt_x (by decide) (by decide) (Or.inl (by decide)) (Or.inl (by decide))
  have x3 : ∀ k, iH (m_cmt g) 1155 k = iH g 1155 k := fun k => cmt_x (by decide) (by decide) (Or.inl (by decide)) (Or.inl (by decide))
  have xt : ∀ t, t < 5 → iH (m_cmt g) 1138 t = iH g 1138 t ∧ (∀ k, iH (m_cmt g) (1140 + t) k = iH g (1140 + t) k) ∧ ∀ k, iH (m_cmt g) (1148 + t) k = iH g (1148 + t) k := fun t ht => ⟨cmt_x (by decide) (by decide) (Or.inl (by decide)) (Or.inr (by omega)), fun k => cmt_x (by omega) (by omega) (Or.inl (by omega)) (Or.inl (by omega)), fun k => cmt_x (by omega) (by omega) (Or.inl (by omega)) (Or.inl (by omega))⟩
  have hcR : cRd H (m_cmt g) da sa := by
    refine ⟨cDocs_mv eD cmt_DS.1.1 (fun _ _ => rfl) (cDocs_ag ag hd), cSegs_mv eD eS cmt_DS.1.2 (fun _ _ => rfl) (fun _ _ => rfl) (cSegs_ag ag hs), ?_⟩
    refine cStd_mv eS (fun _ _ => rfl) x2 (fun s _ => x3 s) (fun s k hs1 _ => ?_) (i2 5 (by decide)) (fun k => ro 6 k (by decide)) (fun k => jo 7 k (by decide)) hn
    have q : 0 ≤ iH g 1155 s ∧ iH g 1155 s < iH g 89 5 := (hn.2.2 s hs1).1
    unfold nDr
    rw [x1, x3, (cmt_DS (g := g)).2 (617 + _) _ (by omega) (by omega) (by omega)]
  have hvR : ∀ t : Nat, t < 6 → kV H (m_cmt g) sa t := by
    intro t ht
    by_cases e : t = 5
    · subst e
      have c1 := cStd_cp (a := 11) (R := R) (J := J) (b := 8) (hv 4 (by omega)) hm
      refine cStd_mv (h := hSt h 11 (iH h 8 2) R J) (row := tRow g 4) (dr := tDr g 4) eS (fun _ _ => rfl) cmt_C.1 (fun s hs1 => cmt_R (by omega)) (fun s k hs1 hk1 => ?_) ?_ (fun k => ?_) (fun k => ?_) c1
      · unfold tDr
        rw [show m_offT (m_cmt g) ((5 : Nat) : Int) s = m_offT g ((4 : Nat) : Int) s from cmt_off5 (by omega), cmt_W (ob hs1 hk1)]
      · rw [hH]; exact rI_ne (by decide)
      · rw [hH]; rfl
      · rw [hH]; rfl
    · obtain ⟨t1, t2, t3⟩ := xt t (by omega)
      have n11 : avT t ≠ 11 ∧ avT t + 1 ≠ 12 ∧ avT t + 2 ≠ 13 := by unfold avT; (repeat' split) <;> omega
      refine cStd_mv eS (fun _ _ => rfl) t1 (fun s _ => t2 s) (fun s k _ _ => ?_) (i2 _ n11.1) (fun k => ro _ k n11.2.1) (fun k => jo _ k n11.2.2) (hv t ht)
      unfold tDr
      rw [cmt_off (by omega), t3]
  refine ⟨⟨hcR, hvR, fun u hu => ?_, by rw [i3 5 (by decide)]; exact f2, by rw [i3 11 (by decide)]; exact f3, fun q => ?_⟩, ?_⟩
  · by_cases e : u = 4
    · subst e
      rw [cmt_C.2.2]
      exact ⟨by rw [hH]; exact rI_same, Or.inl rfl⟩
    · rw [i3 _ (by unfold avT; (repeat' split) <;> omega), cmt_x (by decide) (by decide) (Or.inr (by omega)) (Or.inl (by decide))]
      exact f1 u hu
  · rw [cmt_C.2.1] at q; omega
  · obtain ⟨r1, r2, r3, r4⟩ := hr
    obtain ⟨j1, j2⟩ := iu_from (cmt_DS (g := g)) (fun j hj s hs => by have := rb j hj s hs; omega) (fun j hj => by
      by_cases e0 : j = 0
      · subst e0
        refine ⟨0, hj, ?_, fun s _ => x3 s⟩
        show iH (m_cmt g) 89 13 ≤ iH g 89 13
        rw [x2]; exact Int.le_refl _
      · have e2 := (hld_av e0 hj).2
        have c1 : ∀ g, cntH g j = iH g 1138 (tH j) := fun g => if_neg e0
        have r1 : ∀ g s, rowH g j s = tRow g (tH j) s := fun g s => if_neg e0
        by_cases e : tH j = 5
        · refine ⟨2, by omega, ?_, fun s hs1 => ?_⟩
          · rw [c1, e, cmt_C.1]; exact Int.le_refl _
          · rw [c1, e, cmt_C.1] at hs1
            rw [r1, e]
            exact cmt_R (by omega)
        · obtain ⟨t1, t2, -⟩ := xt _ (show tH j < 5 by omega)
          exact ⟨j, hj, by rw [c1, c1, t1]; exact Int.le_refl _, fun s _ => by rw [r1, r1]; exact t2 s⟩) r1 hU
    refine ⟨⟨j1, ?_, fun t ht => ?_, fun d hd => by rw [x1]; exact r4 d hd⟩, j2⟩
    · have : m_held (m_cmt g) = m_held g := by
        unfold m_held
        rw [x2]
        exact sumN_cg fun s _ => by rw [x3, (cmt_DS (g := g)).2 615 _ (by decide) (by decide) (by decide)]
      rw [this]; exact r2
    · by_cases e : t = 5
      · subst e
        refine ⟨?_, fun k hk1 => ?_⟩
        · rw [cmt_C.1, show m_offT (m_cmt g) ((5 : Nat) : Int) (iH g 1138 4).toNat = m_offT g 4 (iH g 1138 4).toNat from cmt_off5 (by omega)]
          exact (r3 4 (by omega)).1
        · rw [cmt_W hk1]; exact (r3 4 (by omega)).2 k hk1
      · obtain ⟨t1, t2, t3⟩ := xt t (by omega)
        refine ⟨?_, fun k hk1 => ?_⟩
        · rw [cmt_off (by omega), t1]; exact (r3 t ht).1
        · rw [t3]; exact (r3 t ht).2 k hk1
theorem l_commit {h g : AH} {da sa : Nat → Nat} (hL : LayL h) (hp : kSta h g da sa) : Ct 1 0 0 mX11_commit [vr 0] h (QI fun x h' => LayL h' ∧ ((iH g 1137 4 = 0 ∧ x = -3 ∧ h' = h) ∨ (iH g 1137 4 ≠ 0 ∧ x = iH g 1138 4 ∧ (∃ n R J, h' = sI (hSt h 11 n R J) 8 3 0) ∧ kSta h' (m_cmt g) da sa))) := by
  have e3 : iH h 8 3 = iH g 1137 4 := (hp.1.2.2.1 4 (by omega)).1
  refine e_X11_commit hL ?_
  rw [e3]
  refine ⟨fun c => ⟨_, l_become hL (iSt_av (t := 5) (by omega)) (iSt_av (t := 4) (by omega)) (by decide) hp.1.1.2.1 (hp.1.2.1 4 (by omega)), fun h1 hh => ?_⟩, fun c => ⟨_, rfl, hL, Or.inl ⟨c, rfl, rfl⟩⟩⟩
  obtain ⟨R, J, rfl, hm⟩ := hh
  have hL1 : LayL (hSt h 11 (iH h 8 2) R J) := LayL_hSt (iSt_av (t := 5) (by omega)) hL
  refine ⟨hL1, _, rfl, hL1, Or.inr ⟨c, ?_, ⟨_, R, J, rfl⟩, cmt_kSta hp hm⟩⟩
  rw [st_n]
  exact (hp.1.2.1 4 (by omega)).1
