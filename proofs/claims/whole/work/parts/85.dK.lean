/-! THE INDEX: WHAT SHEETS TELL, AND FILM -/
def b_X11_firstOtherwise_0 : List IE := [(.aload_n 0, 1, 0, 0, 0, 0), (.getfield 91, 3, 0, 11, 17, 1), (.aload_n 0, 1, 0, 0, 0, 0), (.getfield 62, 3, 0, 11, 12, 1), (.iload_n 3, 1, 0, 0, 3, 0), (.aaload, 1, 0, 0, 0, 0), (.aload_n 0, 1, 0, 0, 0, 0), (.getfield 35, 3, 0, 11, 6, 1), (.iload_n 2, 1, 0, 0, 2, 0), (.aaload, 1, 0, 0, 0, 0)]
theorem k_X11_firstOtherwise_0 : ckB mX11_firstOtherwise 11 0 b_X11_firstOtherwise_0 16 = true := by decide +kernel
def b_X11_firstOtherwise_19 : List IE := [(.aload_n 0, 1, 0, 0, 0, 0), (.getfield 84, 3, 0, 11, 16, 1), (.iload_n 1, 1, 0, 0, 1, 0), (.aaload, 1, 0, 0, 0, 0), (.aload_n 0, 1, 0, 0, 0, 0), (.getfield 91, 3, 0, 11, 17, 1), (.getfield 345, 3, 0, 1, 0, 1), (.aload_n 0, 1, 0, 0, 0, 0), (.getfield 91, 3, 0, 11, 17, 1), (.getfield 161, 3, 0, 1, 3, 0)]
theorem k_X11_firstOtherwise_19 : ckB mX11_firstOtherwise 11 19 b_X11_firstOtherwise_19 39 = true := by decide +kernel
def b_X11_firstOtherwise_42 : List IE := []
theorem k_X11_firstOtherwise_42 : ckI mX11_firstOtherwise 11 42 b_X11_firstOtherwise_42 42 = true := by decide +kernel
theorem s_X11_firstOtherwise_16 : cV mX11_firstOtherwise 16 mX1_search 149 2 1 := ⟨by decide +kernel, ⟨ml_X1_search, li_RX11_149, im_X1_search, se_X1_search⟩, ⟨by decide +kernel, by decide +kernel⟩, by decide +kernel⟩
theorem s_X11_firstOtherwise_39 : cV mX11_firstOtherwise 39 mX8_firstOtherwise 369 2 8 := ⟨by decide +kernel, ⟨ml_X8_firstOtherwise, li_RX11_369, im_X8_firstOtherwise, se_X8_firstOtherwise⟩, ⟨by decide +kernel, by decide +kernel⟩, by decide +kernel⟩
theorem t_X11_firstOtherwise_0 {rc rs : Nat} {Q : Option AV → AH → Prop} {h : AH} {x1 x2 x3 : Int} (hL : LayL h) (hv : (0 ≤ x3 ∧ x3 < 6) ∧ (0 ≤ x2 ∧ x2 < 4) ∧ (∃ P5 : AH → Prop, Ct 4 0 0 mX1_search [vr 24, vr (45 + 6 * x3.toNat), vr (33 + 3 * x2.toNat)] h (QV P5) ∧ ∀ h3 : AH, P5 h3 → LayL h3 ∧ (0 ≤ x1 ∧ x1 < 4) ∧ (∃ P9 : Int → AH → Prop, Ct 1 0 0 mX8_firstOtherwise [vr (81 + 2 * x1.toNat), vr 25, vi (iH h3 24 3)] h3 (QI P9) ∧ ∀ (r8 : Int) (h7 : AH), (-2147483648 ≤ r8 ∧ r8 < 2147483648) → P9 r8 h7 → LayL h7 ∧ Q (some (vi r8)) h7))) : wp mX11_firstOtherwise 5 rc rs Q 0 [some (vr 0), some (vi x1), some (vi x2), some (vi x3)] [] h :=
  (show wp mX11_firstOtherwise 5 rc rs Q 0 [some (vr 0), some (vi x1), some (vi x2), some (vi x3)] [] h from xcV k_X11_firstOtherwise_0 s_X11_firstOtherwise_16 (And.intro (ll_0 hL) (Exists.intro 24 (And.intro (lg_0_17 hL) (And.intro (ll_0 hL) (Exists.intro 19 (And.intro (lg_0_12 hL) (have c1 := hv.1; have v20 := hv.2; (And.intro (sdQ (ll_19 hL) c1) (Exists.intro (45 + 6 * x3.toNat) (And.intro (tb_qy hL (tnl c1)) (And.intro (ll_0 hL) (Exists.intro 14 (And.intro (lg_0_6 hL) (have c2 := v20.1; have v19 := v20.2; (And.intro (sdQ (ll_14 hL) c2) (Exists.intro (33 + 3 * x2.toNat) (And.intro (tb_vw hL (tnl c2)) (Exists.elim v19 (fun P5 v15 => (Exists.intro [vr (45 + 6 * x3.toNat), vr (33 + 3 * x2.toNat)] (Exists.intro 24 (Exists.intro [] (And.intro (And.intro rfl (And.intro rfl (Nat.le_of_ble_eq_true rfl))) (And.intro (ll_24 hL) (Exists.intro 4 (Exists.intro 0 (Exists.intro 0 (Exists.intro (QV P5) (And.intro v15.1 (And.intro (And.intro (by decide) (And.intro (Nat.zero_le _) (Nat.zero_le _))) (eQV (fun h3 e17 => have v16 := v15.2 h3 e17; have hL := v16.1; have v16 := v16.2; (show wp mX11_firstOtherwise 5 rc rs Q 19 [some (vr 0), some (vi x1), some (vi x2), some (vi x3)] [] h3 from xcV k_X11_firstOtherwise_19 s_X11_firstOtherwise_39 (And.intro (ll_0 hL) (Exists.intro 23 (And.intro (lg_0_16 hL) (have c6 := v16.1; have v14 := v16.2; (And.intro (sdQ (ll_23 hL) c6) (Exists.intro (81 + 2 * x1.toNat) (And.intro (tb_sh hL (tnl c6)) (And.intro (ll_0 hL) (Exists.intro 24 (And.intro (lg_0_17 hL) (And.intro (ll_24 hL) (Exists.intro 25 (And.intro (lg_24_0 hL) (And.intro (ll_0 hL) (Exists.intro 24 (And.intro (lg_0_17 hL) (And.intro (ll_24 hL) (Exists.elim v14 (fun P9 v10 => (Exists.intro [vr 25, vi (iH h3 24 3)] (Exists.intro (81 + 2 * x1.toNat) (Exists.intro [] (And.intro (And.intro rfl (And.intro rfl (Nat.le_of_ble_eq_true rfl))) (And.intro (sh_o hL (ti_sh (tnl c6))) (Exists.intro 1 (Exists.intro 0 (Exists.intro 0 (Exists.intro (QI P9) (And.intro v10.1 (And.intro (And.intro (by decide) (And.intro (Nat.zero_le _) (Nat.zero_le _))) (eQI (fun r8 h7 q13 e12 => have v11 := v10.2 r8 h7 q13 e12; have hL := v11.1; have v11 := v11.2; (show wp mX11_firstOtherwise 5 rc rs Q 42 [some (vr 0), some (vi x1), some (vi x2), some (vi x3)] [vi r8] h7 from xI k_X11_firstOtherwise_42 (And.intro rfl v11))))))))))))))))))))))))))))))))))))))))))))))))))))))))))))))))))))
theorem e_X11_firstOtherwise {mc ms : Nat} {Q : Option AV → AH → Prop} {h : AH} {x1 x2 x3 : Int} (hL : LayL h) (hv : (0 ≤ x3 ∧ x3 < 6) ∧ (0 ≤ x2 ∧ x2 < 4) ∧ (∃ P5 : AH → Prop, Ct 4 0 0 mX1_search [vr 24, vr (45 + 6 * x3.toNat), vr (33 + 3 * x2.toNat)] h (QV P5) ∧ ∀ h3 : AH, P5 h3 → LayL h3 ∧ (0 ≤ x1 ∧ x1 < 4) ∧ (∃ P9 : Int → AH → Prop, Ct 1 0 0 mX8_firstOtherwise [vr (81 + 2 * x1.toNat), vr 25, vi (iH h3 24 3)] h3 (QI P9) ∧ ∀ (r8 : Int) (h7 : AH), (-2147483648 ≤ r8 ∧ r8 < 2147483648) → P9 r8 h7 → LayL h7 ∧ Q (some (vi r8)) h7))) : Ct 5 mc ms mX11_firstOtherwise [vr 0, vi x1, vi x2, vi x3] h Q := Ct.of (by decide +kernel) (Nat.le_of_ble_eq_true rfl) (t_X11_firstOtherwise_0 hL hv)
def b_X11_queriesToldBy_0 : List IE := [(.iconst 0, 1, 0, 0, 0, 0), (.istore_n 3, 1, 0, 0, 3, 0), (.iconst 0, 1, 0, 0, 0, 0), (.istore 4, 2, 0, 0, 4, 0)]
theorem k_X11_queriesToldBy_0 : ckB mX11_queriesToldBy 11 0 b_X11_queriesToldBy_0 5 = true := by decide +kernel
def b_X11_queriesToldBy_5 : List IE := [(.iload 4, 2, 0, 0, 4, 0), (.aload_n 0, 1, 0, 0, 0, 0), (.getfield 285, 3, 0, 11, 13, 0)]
theorem k_X11_queriesToldBy_5 : ckIc mX11_queriesToldBy 11 5 b_X11_queriesToldBy_5 11 3 28 39 14 = true := by decide +kernel
def b_X11_queriesToldBy_14 : List IE := [(.aload_n 0, 1, 0, 0, 0, 0), (.iload_n 1, 1, 0, 0, 1, 0), (.iload_n 2, 1, 0, 0, 2, 0), (.iload 4, 2, 0, 0, 4, 0)]
theorem k_X11_queriesToldBy_14 : ckB mX11_queriesToldBy 11 14 b_X11_queriesToldBy_14 19 = true := by decide +kernel
def b_X11_queriesToldBy_22 : List IE := [(.iconst (-1), 1, (-1), 0, 0, 0)]
theorem k_X11_queriesToldBy_22 : ckIc mX11_queriesToldBy 11 22 b_X11_queriesToldBy_22 23 1 10 33 26 = true := by decide +kernel
def b_X11_queriesToldBy_26 : List IE := [(.iload_n 3, 1, 0, 0, 3, 0), (.iconst 1, 1, 1, 0, 0, 0), (.iload 4, 2, 0, 0, 4, 0), (.ishl, 1, 0, 0, 0, 0), (.ior, 1, 0, 0, 0, 0), (.istore_n 3, 1, 0, 0, 3, 0), (.iinc 4 1, 3, 1, 0, 4, 0)]
theorem k_X11_queriesToldBy_26 : ckGo mX11_queriesToldBy 11 26 b_X11_queriesToldBy_26 36 (-31) 5 = true := by decide +kernel
def b_X11_queriesToldBy_33 : List IE := [(.iinc 4 1, 3, 1, 0, 4, 0)]
theorem k_X11_queriesToldBy_33 : ckGo mX11_queriesToldBy 11 33 b_X11_queriesToldBy_33 36 (-31) 5 = true := by decide +kernel
def b_X11_queriesToldBy_39 : List IE := [(.iload_n 3, 1, 0, 0, 3, 0)]
theorem k_X11_queriesToldBy_39 : ckI mX11_queriesToldBy 11 39 b_X11_queriesToldBy_39 40 = true := by decide +kernel
theorem s_X11_queriesToldBy_19 : cV mX11_queriesToldBy 19 mX11_firstOtherwise 329 3 11 := ⟨by decide +kernel, ⟨ml_X11_firstOtherwise, li_RX11_329, im_X11_firstOtherwise, se_X11_firstOtherwise⟩, ⟨by decide +kernel, by decide +kernel⟩, by decide +kernel⟩
theorem t_X11_queriesToldBy_0 {rc rs : Nat} {Q : Option AV → AH → Prop} {h : AH} {x1 x2 : Int} (hL : LayL h) (hv : wp mX11_queriesToldBy 6 rc rs Q 5 [some (vr 0), some (vi x1), some (vi x2), some (vi 0), some (vi 0)] [] h) : wp mX11_queriesToldBy 6 rc rs Q 0 [some (vr 0), some (vi x1), some (vi x2), none, none] [] h :=
  (show wp mX11_queriesToldBy 6 rc rs Q 0 [some (vr 0), some (vi x1), some (vi x2), none, none] [] h from xB k_X11_queriesToldBy_0 (And.intro rfl (And.intro rfl hv)))
theorem e_X11_queriesToldBy {mc ms : Nat} {Q : Option AV → AH → Prop} {h : AH} {x1 x2 : Int} (hL : LayL h) (hv : wp mX11_queriesToldBy 6 mc ms Q 5 [some (vr 0), some (vi x1), some (vi x2), some (vi 0), some (vi 0)] [] h) : Ct 6 mc ms mX11_queriesToldBy [vr 0, vi x1, vi x2] h Q := Ct.of (by decide +kernel) (Nat.le_of_ble_eq_true rfl) (t_X11_queriesToldBy_0 hL hv)
theorem t_X11_queriesToldBy_5 {rc rs : Nat} {Q : Option AV → AH → Prop} {h : AH} {x1 x2 x3 x4 : Int} (hL : LayL h) (hv : (((iH h 0 13) ≤ x4 → Q (some (vi x3)) h) ∧ (x4 < (iH h 0 13) → (∃ P7 : Int → AH → Prop, Ct 5 0 0 mX11_firstOtherwise [vr 0, vi x1, vi x2, vi x4] h (QI P7) ∧ ∀ (r6 : Int) (h5 : AH), (-2147483648 ≤ r6 ∧ r6 < 2147483648) → P7 r6 h5 → LayL h5 ∧ ((r6 ≠ (-1) → (-2147483648 ≤ (x4 + 1) ∧ (x4 + 1) < 2147483648) ∧ wp mX11_queriesToldBy 6 rc rs Q 5 [some (vr 0), some (vi x1), some (vi x2), some (vi x3), some (vi (x4 + 1))] [] h5) ∧ (r6 = (-1) → (-2147483648 ≤ (x4 + 1) ∧ (x4 + 1) < 2147483648) ∧ wp mX11_queriesToldBy 6 rc rs Q 5 [some (vr 0), some (vi x1), some (vi x2), some (vi (orI x3 (shlI 1 x4))), some (vi (x4 + 1))] [] h5)))))) : wp mX11_queriesToldBy 6 rc rs Q 5 [some (vr 0), some (vi x1), some (vi x2), some (vi x3), some (vi x4)] [] h :=
  (show wp mX11_queriesToldBy 6 rc rs Q 5 [some (vr 0), some (vi x1), some (vi x2), some (vi x3), some (vi x4)] [] h from xIc k_X11_queriesToldBy_5 (And.intro (ll_0 hL) (And.intro (fun c1 => have v3 := hv.1 c1; (show wp mX11_queriesToldBy 6 rc rs Q 39 [some (vr 0), some (vi x1), some (vi x2), some (vi x3), some (vi x4)] [] h from xI k_X11_queriesToldBy_39 (And.intro rfl v3))) (fun c2 => have v4 := hv.2 (Int.not_le.mp c2); (show wp mX11_queriesToldBy 6 rc rs Q 14 [some (vr 0), some (vi x1), some (vi x2), some (vi x3), some (vi x4)] [] h from xcV k_X11_queriesToldBy_14 s_X11_queriesToldBy_19 (Exists.elim v4 (fun P7 v16 => (Exists.intro [vi x1, vi x2, vi x4] (Exists.intro 0 (Exists.intro [] (And.intro (And.intro rfl (And.intro rfl (Nat.le_of_ble_eq_true rfl))) (And.intro (ll_0 hL) (Exists.intro 5 (Exists.intro 0 (Exists.intro 0 (Exists.intro (QI P7) (And.intro v16.1 (And.intro (And.intro (by decide) (And.intro (Nat.zero_le _) (Nat.zero_le _))) (eQI (fun r6 h5 q19 e18 => have v17 := v16.2 r6 h5 q19 e18; have hL := v17.1; have v17 := v17.2; (show wp mX11_queriesToldBy 6 rc rs Q 22 [some (vr 0), some (vi x1), some (vi x2), some (vi x3), some (vi x4)] [vi r6] h5 from xIc k_X11_queriesToldBy_22 (And.intro (fun c8 => have v10 := v17.1 c8; (show wp mX11_queriesToldBy 6 rc rs Q 33 [some (vr 0), some (vi x1), some (vi x2), some (vi x3), some (vi x4)] [] h5 from xGo k_X11_queriesToldBy_33 (have c12 := v10.1; have v13 := v10.2; (And.intro c12 (And.intro rfl v13))))) (fun c9 => have v11 := v17.2 (Decidable.not_not.mp c9); (show wp mX11_queriesToldBy 6 rc rs Q 26 [some (vr 0), some (vi x1), some (vi x2), some (vi x3), some (vi x4)] [] h5 from xGo k_X11_queriesToldBy_26 (And.intro rfl (have c14 := v11.1; have v15 := v11.2; (And.intro c14 (And.intro rfl v15))))))))))))))))))))))))))))
def b_X11_viewsToldBy_0 : List IE := [(.iconst 0, 1, 0, 0, 0, 0), (.istore_n 3, 1, 0, 0, 3, 0), (.iconst 0, 1, 0, 0, 0, 0), (.istore 4, 2, 0, 0, 4, 0)]
theorem k_X11_viewsToldBy_0 : ckB mX11_viewsToldBy 11 0 b_X11_viewsToldBy_0 5 = true := by decide +kernel
def b_X11_viewsToldBy_5 : List IE := [(.iload 4, 2, 0, 0, 4, 0), (.iconst 4, 1, 4, 0, 0, 0)]
theorem k_X11_viewsToldBy_5 : ckIc mX11_viewsToldBy 11 5 b_X11_viewsToldBy_5 8 3 41 49 11 = true := by decide +kernel
def b_X11_viewsToldBy_11 : List IE := [(.aload_n 0, 1, 0, 0, 0, 0), (.getfield 35, 3, 0, 11, 6, 1), (.iload 4, 2, 0, 0, 4, 0), (.aaload, 1, 0, 0, 0, 0), (.getfield 102, 3, 0, 9, 3, 0)]
theorem k_X11_viewsToldBy_11 : ckIf mX11_viewsToldBy 11 11 b_X11_viewsToldBy_11 21 0 22 43 24 = true := by decide +kernel
def b_X11_viewsToldBy_24 : List IE := [(.aload_n 0, 1, 0, 0, 0, 0), (.iload_n 1, 1, 0, 0, 1, 0), (.iload 4, 2, 0, 0, 4, 0), (.iload_n 2, 1, 0, 0, 2, 0)]
theorem k_X11_viewsToldBy_24 : ckB mX11_viewsToldBy 11 24 b_X11_viewsToldBy_24 29 = true := by decide +kernel
def b_X11_viewsToldBy_32 : List IE := [(.iconst (-1), 1, (-1), 0, 0, 0)]
theorem k_X11_viewsToldBy_32 : ckIc mX11_viewsToldBy 11 32 b_X11_viewsToldBy_32 33 1 10 43 36 = true := by decide +kernel
def b_X11_viewsToldBy_36 : List IE := [(.iload_n 3, 1, 0, 0, 3, 0), (.iconst 1, 1, 1, 0, 0, 0), (.iload 4, 2, 0, 0, 4, 0), (.ishl, 1, 0, 0, 0, 0), (.ior, 1, 0, 0, 0, 0), (.istore_n 3, 1, 0, 0, 3, 0), (.iinc 4 1, 3, 1, 0, 4, 0)]
theorem k_X11_viewsToldBy_36 : ckGo mX11_viewsToldBy 11 36 b_X11_viewsToldBy_36 46 (-41) 5 = true := by decide +kernel
def b_X11_viewsToldBy_43 : List IE := [(.iinc 4 1, 3, 1, 0, 4, 0)]
theorem k_X11_viewsToldBy_43 : ckGo mX11_viewsToldBy 11 43 b_X11_viewsToldBy_43 46 (-41) 5 = true := by decide +kernel
def b_X11_viewsToldBy_49 : List IE := [(.iload_n 3, 1, 0, 0, 3, 0)]
theorem k_X11_viewsToldBy_49 : ckI mX11_viewsToldBy 11 49 b_X11_viewsToldBy_49 50 = true := by decide +kernel
theorem s_X11_viewsToldBy_29 : cV mX11_viewsToldBy 29 mX11_firstOtherwise 329 3 11 := ⟨by decide +kernel, ⟨ml_X11_firstOtherwise, li_RX11_329, im_X11_firstOtherwise, se_X11_firstOtherwise⟩, ⟨by decide +kernel, by decide +kernel⟩, by decide +kernel⟩
theorem t_X11_viewsToldBy_0 {rc rs : Nat} {Q : Option AV → AH → Prop} {h : AH} {x1 x2 : Int} (hL : LayL h) (hv : wp mX11_viewsToldBy 6 rc rs Q 5 [some (vr 0), some (vi x1), some (vi x2), some (vi 0), some (vi 0)] [] h) : wp mX11_viewsToldBy 6 rc rs Q 0 [some (vr 0), some (vi x1), some (vi x2), none, none] [] h :=
  (show wp mX11_viewsToldBy 6 rc rs Q 0 [some (vr 0), some (vi x1), some (vi x2), none, none] [] h from xB k_X11_viewsToldBy_0 (And.intro rfl (And.intro rfl hv)))
theorem e_X11_viewsToldBy {mc ms : Nat} {Q : Option AV → AH → Prop} {h : AH} {x1 x2 : Int} (hL : LayL h) (hv : wp mX11_viewsToldBy 6 mc ms Q 5 [some (vr 0), some (vi x1), some (vi x2), some (vi 0), some (vi 0)] [] h) : Ct 6 mc ms mX11_viewsToldBy [vr 0, vi x1, vi x2] h Q := Ct.of (by decide +kernel) (Nat.le_of_ble_eq_true rfl) (t_X11_viewsToldBy_0 hL hv)
theorem t_X11_viewsToldBy_5 {rc rs : Nat} {Q : Option AV → AH → Prop} {h : AH} {x1 x2 x3 x4 : Int} (hL : LayL h) (hv : ((4 ≤ x4 → Q (some (vi x3)) h) ∧ (x4 < 4 → (0 ≤ x4 ∧ x4 < 4) ∧ (((iH h (33 + 3 * x4.toNat) 3) = 0 → (-2147483648 ≤ (x4 + 1) ∧ (x4 + 1) < 2147483648) ∧ wp mX11_viewsToldBy 6 rc rs Q 5 [some (vr 0), some (vi x1), some (vi x2), some (vi x3), some (vi (x4 + 1))] [] h) ∧ ((iH h (33 + 3 * x4.toNat) 3) ≠ 0 → (∃ P14 : Int → AH → Prop, Ct 5 0 0 mX11_firstOtherwise [vr 0, vi x1, vi x4, vi x2] h (QI P14) ∧ ∀ (r13 : Int) (h12 : AH), (-2147483648 ≤ r13 ∧ r13 < 2147483648) → P14 r13 h12 → LayL h12 ∧ ((r13 ≠ (-1) → (-2147483648 ≤ (x4 + 1) ∧ (x4 + 1) < 2147483648) ∧ wp mX11_viewsToldBy 6 rc rs Q 5 [some (vr 0), some (vi x1), some (vi x2), some (vi x3), some (vi (x4 + 1))] [] h12) ∧ (r13 = (-1) → (-2147483648 ≤ (x4 + 1) ∧ (x4 + 1) < 2147483648) ∧ wp mX11_viewsToldBy 6 rc rs Q 5 [some (vr 0), some (vi x1), some (vi x2), some (vi (orI x3 (shlI 1 x4))), some (vi (x4 + 1))] [] h12)))))))) : wp mX11_viewsToldBy 6 rc rs Q 5 [some (vr 0), some (vi x1), some (vi x2), some (vi x3), some (vi x4)] [] h :=
  (show wp mX11_viewsToldBy 6 rc rs Q 5 [some (vr 0), some (vi x1), some (vi x2), some (vi x3), some (vi x4)] [] h from xIc k_X11_viewsToldBy_5 (And.intro (fun c1 => have v3 := hv.1 c1; (show wp mX11_viewsToldBy 6 rc rs Q 49 [some (vr 0), some (vi x1), some (vi x2), some (vi x3), some (vi x4)] [] h from xI k_X11_viewsToldBy_49 (And.intro rfl v3))) (fun c2 => have v4 := hv.2 (Int.not_le.mp c2); (show wp mX11_viewsToldBy 6 rc rs Q 11 [some (vr 0), some (vi x1), some (vi x2), some (vi x3), some (vi x4)] [] h from xIf k_X11_viewsToldBy_11 (And.intro (ll_0 hL) (Exists.intro 14 (And.intro (lg_0_6 hL) (have c5 := v4.1; have v27 := v4.2; (And.intro (sdQ (ll_14 hL) c5) (Exists.intro (33 + 3 * x4.toNat) (And.intro (tb_vw hL (tnl c5)) (And.intro (st_o hL (ti_vw (tnl c5))) (And.intro (fun c6 => have v8 := v27.1 c6; (show wp mX11_viewsToldBy 6 rc rs Q 43 [some (vr 0), some (vi x1), some (vi x2), some (vi x3), some (vi x4)] [] h from xGo k_X11_viewsToldBy_43 (have c10 := v8.1; have v11 := v8.2; (And.intro c10 (And.intro rfl v11))))) (fun c7 => have v9 := v27.2 c7; (show wp mX11_viewsToldBy 6 rc rs Q 24 [some (vr 0), some (vi x1), some (vi x2), some (vi x3), some (vi x4)] [] h from xcV k_X11_viewsToldBy_24 s_X11_viewsToldBy_29 (Exists.elim v9 (fun P14 v23 => (Exists.intro [vi x1, vi x4, vi x2] (Exists.intro 0 (Exists.intro [] (And.intro (And.intro rfl (And.intro rfl (Nat.le_of_ble_eq_true rfl))) (And.intro (ll_0 hL) (Exists.intro 5 (Exists.intro 0 (Exists.intro 0 (Exists.intro (QI P14) (And.intro v23.1 (And.intro (And.intro (by decide) (And.intro (Nat.zero_le _) (Nat.zero_le _))) (eQI (fun r13 h12 q26 e25 => have v24 := v23.2 r13 h12 q26 e25; have hL := v24.1; have v24 := v24.2; (show wp mX11_viewsToldBy 6 rc rs Q 32 [some (vr 0), some (vi x1), some (vi x2), some (vi x3), some (vi x4)] [vi r13] h12 from xIc k_X11_viewsToldBy_32 (And.intro (fun c15 => have v17 := v24.1 c15; (show wp mX11_viewsToldBy 6 rc rs Q 43 [some (vr 0), some (vi x1), some (vi x2), some (vi x3), some (vi x4)] [] h12 from xGo k_X11_viewsToldBy_43 (have c19 := v17.1; have v20 := v17.2; (And.intro c19 (And.intro rfl v20))))) (fun c16 => have v18 := v24.2 (Decidable.not_not.mp c16); (show wp mX11_viewsToldBy 6 rc rs Q 36 [some (vr 0), some (vi x1), some (vi x2), some (vi x3), some (vi x4)] [] h12 from xGo k_X11_viewsToldBy_36 (And.intro rfl (have c21 := v18.1; have v22 := v18.2; (And.intro c21 (And.intro rfl v22))))))))))))))))))))))))))))))))))))))
def b_X11_tells_0 : List IE := [(.iload_n 1, 1, 0, 0, 1, 0)]
theorem k_X11_tells_0 : ckB mX11_tells 11 0 b_X11_tells_0 1 = true := by decide +kernel
def b_X11_tells_4 : List IE := []
theorem k_X11_tells_4 : ckIf mX11_tells 11 4 b_X11_tells_4 4 0 29 33 7 = true := by decide +kernel
def b_X11_tells_7 : List IE := [(.iload_n 2, 1, 0, 0, 2, 0)]
theorem k_X11_tells_7 : ckB mX11_tells 11 7 b_X11_tells_7 8 = true := by decide +kernel
def b_X11_tells_11 : List IE := []
theorem k_X11_tells_11 : ckIf mX11_tells 11 11 b_X11_tells_11 11 0 22 33 14 = true := by decide +kernel
def b_X11_tells_14 : List IE := [(.aload_n 0, 1, 0, 0, 0, 0), (.iload_n 3, 1, 0, 0, 3, 0)]
theorem k_X11_tells_14 : ckB mX11_tells 11 14 b_X11_tells_14 16 = true := by decide +kernel
def b_X11_tells_19 : List IE := []
theorem k_X11_tells_19 : ckIf mX11_tells 11 19 b_X11_tells_19 19 0 14 33 22 = true := by decide +kernel
def b_X11_tells_22 : List IE := [(.iload 4, 2, 0, 0, 4, 0)]
theorem k_X11_tells_22 : ckIf mX11_tells 11 22 b_X11_tells_22 24 2 9 33 27 = true := by decide +kernel
def b_X11_tells_27 : List IE := [(.iload 4, 2, 0, 0, 4, 0), (.iconst 2, 1, 2, 0, 0, 0)]
theorem k_X11_tells_27 : ckIc mX11_tells 11 27 b_X11_tells_27 30 5 6 36 33 = true := by decide +kernel
def b_X11_tells_33 : List IE := [(.bipush (-2), 2, (-2), 0, 0, 0)]
theorem k_X11_tells_33 : ckI mX11_tells 11 33 b_X11_tells_33 35 = true := by decide +kernel
def b_X11_tells_36 : List IE := [(.aload_n 0, 1, 0, 0, 0, 0), (.getfield 35, 3, 0, 11, 6, 1), (.iload_n 2, 1, 0, 0, 2, 0), (.aaload, 1, 0, 0, 0, 0), (.getfield 102, 3, 0, 9, 3, 0)]
theorem k_X11_tells_36 : ckIf mX11_tells 11 36 b_X11_tells_36 45 1 6 51 48 = true := by decide +kernel
def b_X11_tells_48 : List IE := [(.bipush (-3), 2, (-3), 0, 0, 0)]
theorem k_X11_tells_48 : ckI mX11_tells 11 48 b_X11_tells_48 50 = true := by decide +kernel
def b_X11_tells_51 : List IE := [(.aload_n 0, 1, 0, 0, 0, 0), (.getfield 84, 3, 0, 11, 16, 1), (.iload_n 1, 1, 0, 0, 1, 0), (.aaload, 1, 0, 0, 0, 0)]
theorem k_X11_tells_51 : ckB mX11_tells 11 51 b_X11_tells_51 57 = true := by decide +kernel
def b_X11_tells_60 : List IE := []
theorem k_X11_tells_60 : ckIf mX11_tells 11 60 b_X11_tells_60 60 0 6 66 63 = true := by decide +kernel
def b_X11_tells_63 : List IE := [(.bipush (-11), 2, (-11), 0, 0, 0)]
theorem k_X11_tells_63 : ckI mX11_tells 11 63 b_X11_tells_63 65 = true := by decide +kernel
def b_X11_tells_66 : List IE := [(.iload 4, 2, 0, 0, 4, 0)]
theorem k_X11_tells_66 : ckIf mX11_tells 11 66 b_X11_tells_66 68 1 11 79 71 = true := by decide +kernel
def b_X11_tells_71 : List IE := [(.aload_n 0, 1, 0, 0, 0, 0), (.iload_n 1, 1, 0, 0, 1, 0), (.iload_n 2, 1, 0, 0, 2, 0), (.iload_n 3, 1, 0, 0, 3, 0)]
theorem k_X11_tells_71 : ckB mX11_tells 11 71 b_X11_tells_71 75 = true := by decide +kernel
def b_X11_tells_78 : List IE := []
theorem k_X11_tells_78 : ckI mX11_tells 11 78 b_X11_tells_78 78 = true := by decide +kernel
def b_X11_tells_79 : List IE := [(.iload 4, 2, 0, 0, 4, 0), (.iconst 1, 1, 1, 0, 0, 0)]
theorem k_X11_tells_79 : ckIc mX11_tells 11 79 b_X11_tells_79 82 1 12 94 85 = true := by decide +kernel
def b_X11_tells_85 : List IE := [(.aload_n 0, 1, 0, 0, 0, 0), (.iload_n 1, 1, 0, 0, 1, 0), (.iload_n 2, 1, 0, 0, 2, 0)]
theorem k_X11_tells_85 : ckB mX11_tells 11 85 b_X11_tells_85 88 = true := by decide +kernel
def b_X11_tells_91 : List IE := []
theorem k_X11_tells_91 : ckGo mX11_tells 11 91 b_X11_tells_91 91 9 100 = true := by decide +kernel
def b_X11_tells_94 : List IE := [(.aload_n 0, 1, 0, 0, 0, 0), (.iload_n 1, 1, 0, 0, 1, 0), (.iload_n 3, 1, 0, 0, 3, 0)]
theorem k_X11_tells_94 : ckB mX11_tells 11 94 b_X11_tells_94 97 = true := by decide +kernel
def b_X11_tells_100 : List IE := []
theorem k_X11_tells_100 : ckI mX11_tells 11 100 b_X11_tells_100 100 = true := by decide +kernel
theorem s_X11_tells_1 : cS mX11_tells 1 mX11_isSheet 322 1 := ⟨by decide +kernel, ⟨ml_X11_isSheet, li_RX11_322, st_X11_isSheet⟩, by decide +kernel⟩
theorem s_X11_tells_8 : cS mX11_tells 8 mX11_isView 292 1 := ⟨by decide +kernel, ⟨ml_X11_isView, li_RX11_292, st_X11_isView⟩, by decide +kernel⟩
theorem s_X11_tells_16 : cV mX11_tells 16 mX11_isQuery 146 1 11 := ⟨by decide +kernel, ⟨ml_X11_isQuery, li_RX11_146, im_X11_isQuery, se_X11_isQuery⟩, ⟨by decide +kernel, by decide +kernel⟩, by decide +kernel⟩
theorem s_X11_tells_57 : cV mX11_tells 57 mX8_isMissing 325 0 8 := ⟨by decide +kernel, ⟨ml_X8_isMissing, li_RX11_325, im_X8_isMissing, se_X8_isMissing⟩, ⟨by decide +kernel, by decide +kernel⟩, by decide +kernel⟩
theorem s_X11_tells_75 : cV mX11_tells 75 mX11_firstOtherwise 329 3 11 := ⟨by decide +kernel, ⟨ml_X11_firstOtherwise, li_RX11_329, im_X11_firstOtherwise, se_X11_firstOtherwise⟩, ⟨by decide +kernel, by decide +kernel⟩, by decide +kernel⟩
theorem s_X11_tells_88 : cV mX11_tells 88 mX11_queriesToldBy 332 2 11 := ⟨by decide +kernel, ⟨ml_X11_queriesToldBy, li_RX11_332, im_X11_queriesToldBy, se_X11_queriesToldBy⟩, ⟨by decide +kernel, by decide +kernel⟩, by decide +kernel⟩
theorem s_X11_tells_97 : cV mX11_tells 97 mX11_viewsToldBy 335 2 11 := ⟨by decide +kernel, ⟨ml_X11_viewsToldBy, li_RX11_335, im_X11_viewsToldBy, se_X11_viewsToldBy⟩, ⟨by decide +kernel, by decide +kernel⟩, by decide +kernel⟩
theorem t_X11_tells_0 {rc rs : Nat} {Q : Option AV → AH → Prop} {h : AH} {x1 x2 x3 x4 : Int} (hL : LayL h) (hv : ((¬ (0 ≤ x1 ∧ x1 ≤ 3) → Q (some (vi (-2))) h) ∧ ((0 ≤ x1 ∧ x1 ≤ 3) → ((¬ (0 ≤ x2 ∧ x2 ≤ 3) → Q (some (vi (-2))) h) ∧ ((0 ≤ x2 ∧ x2 ≤ 3) → ((¬ (0 ≤ x3 ∧ x3 < iH h 0 13) → Q (some (vi (-2))) h) ∧ ((0 ≤ x3 ∧ x3 < iH h 0 13) → ((x4 < 0 → Q (some (vi (-2))) h) ∧ (0 ≤ x4 → ((x4 ≤ 2 → (0 ≤ x2 ∧ x2 < 4) ∧ (((iH h (33 + 3 * x2.toNat) 3) ≠ 0 → (0 ≤ x1 ∧ x1 < 4) ∧ (iSh (81 + 2 * x1.toNat)) ∧ ((¬ (iH h (81 + 2 * x1.toNat) 1 = -1) → ((x4 ≠ 0 → ((x4 ≠ 1 → (∃ P41 : Int → AH → Prop, Ct 6 0 0 mX11_viewsToldBy [vr 0, vi x1, vi x3] h (QI P41) ∧ ∀ (r40 : Int) (h39 : AH), (-2147483648 ≤ r40 ∧ r40 < 2147483648) → P41 r40 h39 → LayL h39 ∧ Q (some (vi r40)) h39)) ∧ (x4 = 1 → (∃ P48 : Int → AH → Prop, Ct 6 0 0 mX11_queriesToldBy [vr 0, vi x1, vi x2] h (QI P48) ∧ ∀ (r47 : Int) (h46 : AH), (-2147483648 ≤ r47 ∧ r47 < 2147483648) → P48 r47 h46 → LayL h46 ∧ Q (some (vi r47)) h46)))) ∧ (x4 = 0 → (∃ P55 : Int → AH → Prop, Ct 5 0 0 mX11_firstOtherwise [vr 0, vi x1, vi x2, vi x3] h (QI P55) ∧ ∀ (r54 : Int) (h53 : AH), (-2147483648 ≤ r54 ∧ r54 < 2147483648) → P55 r54 h53 → LayL h53 ∧ Q (some (vi r54)) h53)))) ∧ ((iH h (81 + 2 * x1.toNat) 1 = -1) → Q (some (vi (-11))) h))) ∧ ((iH h (33 + 3 * x2.toNat) 3) = 0 → Q (some (vi (-3))) h))) ∧ (2 < x4 → Q (some (vi (-2))) h))))))))))) : wp mX11_tells 7 rc rs Q 0 [some (vr 0), some (vi x1), some (vi x2), some (vi x3), some (vi x4)] [] h :=
  (show wp mX11_tells 7 rc rs Q 0 [some (vr 0), some (vi x1), some (vi x2), some (vi x3), some (vi x4)] [] h from xcS k_X11_tells_0 s_X11_tells_1 ((Exists.intro [vi x1] (Exists.intro [] (And.intro (And.intro rfl (And.intro rfl (Nat.le_of_ble_eq_true rfl))) (Exists.intro 0 (Exists.intro 0 (Exists.intro 0 (Exists.intro _ (And.intro l_isSheet (And.intro (And.intro (by decide) (And.intro (Nat.zero_le _) (Nat.zero_le _))) (eQP (show wp mX11_tells 7 rc rs Q 4 [some (vr 0), some (vi x1), some (vi x2), some (vi x3), some (vi x4)] [vi (b01 (0 ≤ x1 ∧ x1 ≤ 3))] h from xIf k_X11_tells_4 (And.intro (fun c1 => have v3 := hv.1 (b01_n.mp c1); (show wp mX11_tells 7 rc rs Q 33 [some (vr 0), some (vi x1), some (vi x2), some (vi x3), some (vi x4)] [] h from xI k_X11_tells_33 (And.intro rfl v3))) (fun c2 => have v4 := hv.2 (b01_p.mp c2); (show wp mX11_tells 7 rc rs Q 7 [some (vr 0), some (vi x1), some (vi x2), some (vi x3), some (vi x4)] [] h from xcS k_X11_tells_7 s_X11_tells_8 ((Exists.intro [vi x2] (Exists.intro [] (And.intro (And.intro rfl (And.intro rfl (Nat.le_of_ble_eq_true rfl))) (Exists.intro 0 (Exists.intro 0 (Exists.intro 0 (Exists.intro _ (And.intro l_isView (And.intro (And.intro (by decide) (And.intro (Nat.zero_le _) (Nat.zero_le _))) (eQP (show wp mX11_tells 7 rc rs Q 11 [some (vr 0), some (vi x1), some (vi x2), some (vi x3), some (vi x4)] [vi (b01 (0 ≤ x2 ∧ x2 ≤ 3))] h from xIf k_X11_tells_11 (And.intro (fun c5 => have v7 := v4.1 (b01_n.mp c5); (show wp mX11_tells 7 rc rs Q 33 [some (vr 0), some (vi x1), some (vi x2), some (vi x3), some (vi x4)] [] h from xI k_X11_tells_33 (And.intro rfl v7))) (fun c6 => have v8 := v4.2 (b01_p.mp c6); (show wp mX11_tells 7 rc rs Q 14 [some (vr 0), some (vi x1), some (vi x2), some (vi x3), some (vi x4)] [] h from xcV k_X11_tells_14 s_X11_tells_16 ((Exists.intro [vi x3] (Exists.intro 0 (Exists.intro [] (And.intro (And.intro rfl (And.intro rfl (Nat.le_of_ble_eq_true rfl))) (And.intro (ll_0 hL) (Exists.intro 0 (Exists.intro 0 (Exists.intro 0 (Exists.intro _ (And.intro (l_isQuery (h := h) hL) (And.intro (And.intro (by decide) (And.intro (Nat.zero_le _) (Nat.zero_le _))) (eQP (show wp mX11_tells 7 rc rs Q 19 [some (vr 0), some (vi x1), some (vi x2), some (vi x3), some (vi x4)] [vi (b01 (0 ≤ x3 ∧ x3 < iH h 0 13))] h from xIf k_X11_tells_19 (And.intro (fun c9 => have v11 := v8.1 (b01_n.mp c9); (show wp mX11_tells 7 rc rs Q 33 [some (vr 0), some (vi x1), some (vi x2), some (vi x3), some (vi x4)] [] h from xI k_X11_tells_33 (And.intro rfl v11))) (fun c10 => have v12 := v8.2 (b01_p.mp c10); (show wp mX11_tells 7 rc rs Q 22 [some (vr 0), some (vi x1), some (vi x2), some (vi x3), some (vi x4)] [] h from xIf k_X11_tells_22 (And.intro (fun c13 => have v15 := v12.1 c13; (show wp mX11_tells 7 rc rs Q 33 [some (vr 0), some (vi x1), some (vi x2), some (vi x3), some (vi x4)] [] h from xI k_X11_tells_33 (And.intro rfl v15))) (fun c14 => have v16 := v12.2 (Int.not_lt.mp c14); (show wp mX11_tells 7 rc rs Q 27 [some (vr 0), some (vi x1), some (vi x2), some (vi x3), some (vi x4)] [] h from xIc k_X11_tells_27 (And.intro (fun c17 => have v19 := v16.1 c17; (show wp mX11_tells 7 rc rs Q 36 [some (vr 0), some (vi x1), some (vi x2), some (vi x3), some (vi x4)] [] h from xIf k_X11_tells_36 (And.intro (ll_0 hL) (Exists.intro 14 (And.intro (lg_0_6 hL) (have c21 := v19.1; have v64 := v19.2; (And.intro (sdQ (ll_14 hL) c21) (Exists.intro (33 + 3 * x2.toNat) (And.intro (tb_vw hL (tnl c21)) (And.intro (st_o hL (ti_vw (tnl c21))) (And.intro (fun c22 => have v24 := v64.1 c22; (show wp mX11_tells 7 rc rs Q 51 [some (vr 0), some (vi x1), some (vi x2), some (vi x3), some (vi x4)] [] h from xcV k_X11_tells_51 s_X11_tells_57 (And.intro (ll_0 hL) (Exists.intro 23 (And.intro (lg_0_16 hL) (have c26 := v24.1; have v63 := v24.2; (And.intro (sdQ (ll_23 hL) c26) (Exists.intro (81 + 2 * x1.toNat) (And.intro (tb_sh hL (tnl c26)) (have c60 := v63.1; have v61 := v63.2; (Exists.intro [] (Exists.intro (81 + 2 * x1.toNat) (Exists.intro [] (And.intro (And.intro rfl (And.intro rfl (Nat.le_of_ble_eq_true rfl))) (And.intro (sh_o hL (ti_sh (tnl c26))) (Exists.intro 0 (Exists.intro 0 (Exists.intro 0 (Exists.intro _ (And.intro (l_isMissing (h := h) hL c60) (And.intro (And.intro (by decide) (And.intro (Nat.zero_le _) (Nat.zero_le _))) (eQP (show wp mX11_tells 7 rc rs Q 60 [some (vr 0), some (vi x1), some (vi x2), some (vi x3), some (vi x4)] [vi (b01 (iH h (81 + 2 * x1.toNat) 1 = -1))] h from xIf k_X11_tells_60 (And.intro (fun c27 => have v29 := v61.1 (b01_n.mp c27); (show wp mX11_tells 7 rc rs Q 66 [some (vr 0), some (vi x1), some (vi x2), some (vi x3), some (vi x4)] [] h from xIf k_X11_tells_66 (And.intro (fun c31 => have v33 := v29.1 c31; (show wp mX11_tells 7 rc rs Q 79 [some (vr 0), some (vi x1), some (vi x2), some (vi x3), some (vi x4)] [] h from xIc k_X11_tells_79 (And.intro (fun c35 => have v37 := v33.1 c35; (show wp mX11_tells 7 rc rs Q 94 [some (vr 0), some (vi x1), some (vi x2), some (vi x3), some (vi x4)] [] h from xcV k_X11_tells_94 s_X11_tells_97 (Exists.elim v37 (fun P41 v42 => (Exists.intro [vi x1, vi x3] (Exists.intro 0 (Exists.intro [] (And.intro (And.intro rfl (And.intro rfl (Nat.le_of_ble_eq_true rfl))) (And.intro (ll_0 hL) (Exists.intro 6 (Exists.intro 0 (Exists.intro 0 (Exists.intro (QI P41) (And.intro v42.1 (And.intro (And.intro (by decide) (And.intro (Nat.zero_le _) (Nat.zero_le _))) (eQI (fun r40 h39 q45 e44 => have v43 := v42.2 r40 h39 q45 e44; have hL := v43.1; have v43 := v43.2; (show wp mX11_tells 7 rc rs Q 100 [some (vr 0), some (vi x1), some (vi x2), some (vi x3), some (vi x4)] [vi r40] h39 from xI k_X11_tells_100 (And.intro rfl v43))))))))))))))))))) (fun c36 => have v38 := v33.2 (Decidable.not_not.mp c36); (show wp mX11_tells 7 rc rs Q 85 [some (vr 0), some (vi x1), some (vi x2), some (vi x3), some (vi x4)] [] h from xcV k_X11_tells_85 s_X11_tells_88 (Exists.elim v38 (fun P48 v49 => (Exists.intro [vi x1, vi x2] (Exists.intro 0 (Exists.intro [] (And.intro (And.intro rfl (And.intro rfl (Nat.le_of_ble_eq_true rfl))) (And.intro (ll_0 hL) (Exists.intro 6 (Exists.intro 0 (Exists.intro 0 (Exists.intro (QI P48) (And.intro v49.1 (And.intro (And.intro (by decide) (And.intro (Nat.zero_le _) (Nat.zero_le _))) (eQI (fun r47 h46 q52 e51 => have v50 := v49.2 r47 h46 q52 e51; have hL := v50.1; have v50 := v50.2; (show wp mX11_tells 7 rc rs Q 91 [some (vr 0), some (vi x1), some (vi x2), some (vi x3), some (vi x4)] [vi r47] h46 from xGo k_X11_tells_91 (show wp mX11_tells 7 rc rs Q 100 [some (vr 0), some (vi x1), some (vi x2), some (vi x3), some (vi x4)] [vi r47] h46 from xI k_X11_tells_100 (And.intro rfl v50))))))))))))))))))))))) (fun c32 => have v34 := v29.2 (Decidable.not_not.mp c32); (show wp mX11_tells 7 rc rs Q 71 [some (vr 0), some (vi x1), some (vi x2), some (vi x3), some (vi x4)] [] h from xcV k_X11_tells_71 s_X11_tells_75 (Exists.elim v34 (fun P55 v56 => (Exists.intro [vi x1, vi x2, vi x3] (Exists.intro 0 (Exists.intro [] (And.intro (And.intro rfl (And.intro rfl (Nat.le_of_ble_eq_true rfl))) (And.intro (ll_0 hL) (Exists.intro 5 (Exists.intro 0 (Exists.intro 0 (Exists.intro (QI P55) (And.intro v56.1 (And.intro (And.intro (by decide) (And.intro (Nat.zero_le _) (Nat.zero_le _))) (eQI (fun r54 h53 q59 e58 => have v57 := v56.2 r54 h53 q59 e58; have hL := v57.1; have v57 := v57.2; (show wp mX11_tells 7 rc rs Q 78 [some (vr 0), some (vi x1), some (vi x2), some (vi x3), some (vi x4)] [vi r54] h53 from xI k_X11_tells_78 (And.intro rfl v57)))))))))))))))))))))) (fun c28 => have v30 := v61.2 (b01_p.mp c28); (show wp mX11_tells 7 rc rs Q 63 [some (vr 0), some (vi x1), some (vi x2), some (vi x3), some (vi x4)] [] h from xI k_X11_tells_63 (And.intro rfl v30))))))))))))))))))))))))))) (fun c23 => have v25 := v64.2 (Decidable.not_not.mp c23); (show wp mX11_tells 7 rc rs Q 48 [some (vr 0), some (vi x1), some (vi x2), some (vi x3), some (vi x4)] [] h from xI k_X11_tells_48 (And.intro rfl v25)))))))))))))) (fun c18 => have v20 := v16.2 (Int.not_le.mp c18); (show wp mX11_tells 7 rc rs Q 33 [some (vr 0), some (vi x1), some (vi x2), some (vi x3), some (vi x4)] [] h from xI k_X11_tells_33 (And.intro rfl v20)))))))))))))))))))))))))))))))))))))))))))))))))))))))
theorem e_X11_tells {mc ms : Nat} {Q : Option AV → AH → Prop} {h : AH} {x1 x2 x3 x4 : Int} (hL : LayL h) (hv : ((¬ (0 ≤ x1 ∧ x1 ≤ 3) → Q (some (vi (-2))) h) ∧ ((0 ≤ x1 ∧ x1 ≤ 3) → ((¬ (0 ≤ x2 ∧ x2 ≤ 3) → Q (some (vi (-2))) h) ∧ ((0 ≤ x2 ∧ x2 ≤ 3) → ((¬ (0 ≤ x3 ∧ x3 < iH h 0 13) → Q (some (vi (-2))) h) ∧ ((0 ≤ x3 ∧ x3 < iH h 0 13) → ((x4 < 0 → Q (some (vi (-2))) h) ∧ (0 ≤ x4 → ((x4 ≤ 2 → (0 ≤ x2 ∧ x2 < 4) ∧ (((iH h (33 + 3 * x2.toNat) 3) ≠ 0 → (0 ≤ x1 ∧ x1 < 4) ∧ (iSh (81 + 2 * x1.toNat)) ∧ ((¬ (iH h (81 + 2 * x1.toNat) 1 = -1) → ((x4 ≠ 0 → ((x4 ≠ 1 → (∃ P41 : Int → AH → Prop, Ct 6 0 0 mX11_viewsToldBy [vr 0, vi x1, vi x3] h (QI P41) ∧ ∀ (r40 : Int) (h39 : AH), (-2147483648 ≤ r40 ∧ r40 < 2147483648) → P41 r40 h39 → LayL h39 ∧ Q (some (vi r40)) h39)) ∧ (x4 = 1 → (∃ P48 : Int → AH → Prop, Ct 6 0 0 mX11_queriesToldBy [vr 0, vi x1, vi x2] h (QI P48) ∧ ∀ (r47 : Int) (h46 : AH), (-2147483648 ≤ r47 ∧ r47 < 2147483648) → P48 r47 h46 → LayL h46 ∧ Q (some (vi r47)) h46)))) ∧ (x4 = 0 → (∃ P55 : Int → AH → Prop, Ct 5 0 0 mX11_firstOtherwise [vr 0, vi x1, vi x2, vi x3] h (QI P55) ∧ ∀ (r54 : Int) (h53 : AH), (-2147483648 ≤ r54 ∧ r54 < 2147483648) → P55 r54 h53 → LayL h53 ∧ Q (some (vi r54)) h53)))) ∧ ((iH h (81 + 2 * x1.toNat) 1 = -1) → Q (some (vi (-11))) h))) ∧ ((iH h (33 + 3 * x2.toNat) 3) = 0 → Q (some (vi (-3))) h))) ∧ (2 < x4 → Q (some (vi (-2))) h))))))))))) : Ct 7 mc ms mX11_tells [vr 0, vi x1, vi x2, vi x3, vi x4] h Q := Ct.of (by decide +kernel) (Nat.le_of_ble_eq_true rfl) (t_X11_tells_0 hL hv)
def b_X11_film_0 : List IE := [(.iload_n 1, 1, 0, 0, 1, 0)]
theorem k_X11_film_0 : ckB mX11_film 11 0 b_X11_film_0 1 = true := by decide +kernel
def b_X11_film_4 : List IE := []
theorem k_X11_film_4 : ckIf mX11_film 11 4 b_X11_film_4 4 0 18 22 7 = true := by decide +kernel
def b_X11_film_7 : List IE := [(.iload_n 2, 1, 0, 0, 2, 0)]
theorem k_X11_film_7 : ckB mX11_film 11 7 b_X11_film_7 8 = true := by decide +kernel
def b_X11_film_11 : List IE := []
theorem k_X11_film_11 : ckIf mX11_film 11 11 b_X11_film_11 11 0 11 22 14 = true := by decide +kernel
def b_X11_film_14 : List IE := [(.aload_n 0, 1, 0, 0, 0, 0), (.iload_n 3, 1, 0, 0, 3, 0)]
theorem k_X11_film_14 : ckB mX11_film 11 14 b_X11_film_14 16 = true := by decide +kernel
def b_X11_film_19 : List IE := []
theorem k_X11_film_19 : ckIf mX11_film 11 19 b_X11_film_19 19 1 6 25 22 = true := by decide +kernel
def b_X11_film_22 : List IE := [(.bipush (-2), 2, (-2), 0, 0, 0)]
theorem k_X11_film_22 : ckI mX11_film 11 22 b_X11_film_22 24 = true := by decide +kernel
def b_X11_film_25 : List IE := [(.aload_n 0, 1, 0, 0, 0, 0), (.getfield 35, 3, 0, 11, 6, 1), (.iload_n 2, 1, 0, 0, 2, 0), (.aaload, 1, 0, 0, 0, 0), (.getfield 102, 3, 0, 9, 3, 0)]
theorem k_X11_film_25 : ckIf mX11_film 11 25 b_X11_film_25 34 1 6 40 37 = true := by decide +kernel
def b_X11_film_37 : List IE := [(.bipush (-3), 2, (-3), 0, 0, 0)]
theorem k_X11_film_37 : ckI mX11_film 11 37 b_X11_film_37 39 = true := by decide +kernel
def b_X11_film_40 : List IE := [(.aload_n 0, 1, 0, 0, 0, 0), (.getfield 91, 3, 0, 11, 17, 1), (.aload_n 0, 1, 0, 0, 0, 0), (.getfield 62, 3, 0, 11, 12, 1), (.iload_n 3, 1, 0, 0, 3, 0), (.aaload, 1, 0, 0, 0, 0), (.aload_n 0, 1, 0, 0, 0, 0), (.getfield 35, 3, 0, 11, 6, 1), (.iload_n 2, 1, 0, 0, 2, 0), (.aaload, 1, 0, 0, 0, 0)]
theorem k_X11_film_40 : ckB mX11_film 11 40 b_X11_film_40 56 = true := by decide +kernel
def b_X11_film_59 : List IE := [(.aload_n 0, 1, 0, 0, 0, 0), (.getfield 91, 3, 0, 11, 17, 1), (.getfield 161, 3, 0, 1, 3, 0), (.bipush 40, 2, 40, 0, 0, 0)]
theorem k_X11_film_59 : ckB mX11_film 11 59 b_X11_film_59 68 = true := by decide +kernel
def b_X11_film_71 : List IE := [(.istore 4, 2, 0, 0, 4, 0), (.aload_n 0, 1, 0, 0, 0, 0), (.getfield 84, 3, 0, 11, 16, 1), (.iload_n 1, 1, 0, 0, 1, 0), (.aaload, 1, 0, 0, 0, 0), (.iconst 0, 1, 0, 0, 0, 0), (.iload 4, 2, 0, 0, 4, 0)]
theorem k_X11_film_71 : ckB mX11_film 11 71 b_X11_film_71 82 = true := by decide +kernel
def b_X11_film_85 : List IE := [(.iconst 0, 1, 0, 0, 0, 0), (.istore 5, 2, 0, 0, 5, 0)]
theorem k_X11_film_85 : ckB mX11_film 11 85 b_X11_film_85 88 = true := by decide +kernel
def b_X11_film_88 : List IE := [(.iload 5, 2, 0, 0, 5, 0), (.iload 4, 2, 0, 0, 4, 0)]
theorem k_X11_film_88 : ckIc mX11_film 11 88 b_X11_film_88 92 3 30 122 95 = true := by decide +kernel
def b_X11_film_95 : List IE := [(.aload_n 0, 1, 0, 0, 0, 0), (.getfield 84, 3, 0, 11, 16, 1), (.iload_n 1, 1, 0, 0, 1, 0), (.aaload, 1, 0, 0, 0, 0), (.iload 5, 2, 0, 0, 5, 0), (.aload_n 0, 1, 0, 0, 0, 0), (.getfield 91, 3, 0, 11, 17, 1), (.getfield 345, 3, 0, 1, 0, 1), (.iload 5, 2, 0, 0, 5, 0), (.iaload, 1, 0, 0, 0, 0)]
theorem k_X11_film_95 : ckB mX11_film 11 95 b_X11_film_95 113 = true := by decide +kernel
def b_X11_film_116 : List IE := [(.iinc 5 1, 3, 1, 0, 5, 0)]
theorem k_X11_film_116 : ckGo mX11_film 11 116 b_X11_film_116 119 (-31) 88 = true := by decide +kernel
def b_X11_film_122 : List IE := [(.iload 4, 2, 0, 0, 4, 0)]
theorem k_X11_film_122 : ckI mX11_film 11 122 b_X11_film_122 124 = true := by decide +kernel
theorem s_X11_film_1 : cS mX11_film 1 mX11_isSheet 322 1 := ⟨by decide +kernel, ⟨ml_X11_isSheet, li_RX11_322, st_X11_isSheet⟩, by decide +kernel⟩
theorem s_X11_film_8 : cS mX11_film 8 mX11_isView 292 1 := ⟨by decide +kernel, ⟨ml_X11_isView, li_RX11_292, st_X11_isView⟩, by decide +kernel⟩
theorem s_X11_film_16 : cV mX11_film 16 mX11_isQuery 146 1 11 := ⟨by decide +kernel, ⟨ml_X11_isQuery, li_RX11_146, im_X11_isQuery, se_X11_isQuery⟩, ⟨by decide +kernel, by decide +kernel⟩, by decide +kernel⟩
theorem s_X11_film_56 : cV mX11_film 56 mX1_search 149 2 1 := ⟨by decide +kernel, ⟨ml_X1_search, li_RX11_149, im_X1_search, se_X1_search⟩, ⟨by decide +kernel, by decide +kernel⟩, by decide +kernel⟩
theorem s_X11_film_68 : cMx mX11_film 68 338 Lib.Math.min.name Lib.Math.min.code 2 := ⟨by decide +kernel, gt_ok (List.mem_of_getElem? (i := 932) (by decide +kernel)) (by decide +kernel), gt_ok (List.mem_of_getElem? (i := 505) (by decide +kernel)) (by decide +kernel), gt_ok (List.mem_of_getElem? (i := 103) (by decide +kernel)) (by decide +kernel), gt_ok (List.mem_of_getElem? (i := 506) (by decide +kernel)) (by decide +kernel)⟩
theorem s_X11_film_82 : cV mX11_film 82 mX8_become 343 2 8 := ⟨by decide +kernel, ⟨ml_X8_become, li_RX11_343, im_X8_become, se_X8_become⟩, ⟨by decide +kernel, by decide +kernel⟩, by decide +kernel⟩
theorem s_X11_film_113 : cV mX11_film 113 mX8_put 348 2 8 := ⟨by decide +kernel, ⟨ml_X8_put, li_RX11_348, im_X8_put, se_X8_put⟩, ⟨by decide +kernel, by decide +kernel⟩, by decide +kernel⟩
theorem t_X11_film_0 {rc rs : Nat} {Q : Option AV → AH → Prop} {h : AH} {x1 x2 x3 : Int} (hL : LayL h) (hv : ((¬ (0 ≤ x1 ∧ x1 ≤ 3) → Q (some (vi (-2))) h) ∧ ((0 ≤ x1 ∧ x1 ≤ 3) → ((¬ (0 ≤ x2 ∧ x2 ≤ 3) → Q (some (vi (-2))) h) ∧ ((0 ≤ x2 ∧ x2 ≤ 3) → (((0 ≤ x3 ∧ x3 < iH h 0 13) → (0 ≤ x2 ∧ x2 < 4) ∧ (((iH h (33 + 3 * x2.toNat) 3) ≠ 0 → (0 ≤ x3 ∧ x3 < 6) ∧ (∃ P22 : AH → Prop, Ct 4 0 0 mX1_search [vr 24, vr (45 + 6 * x3.toNat), vr (33 + 3 * x2.toNat)] h (QV P22) ∧ ∀ h20 : AH, P22 h20 → LayL h20 ∧ (0 ≤ x1 ∧ x1 < 4) ∧ (∃ P26 : AH → Prop, Ct 0 0 0 mX8_become [vr (81 + 2 * x1.toNat), vi 0, vi (min (iH h20 24 3) 40)] h20 (QV P26) ∧ ∀ h24 : AH, P26 h24 → LayL h24 ∧ wp mX11_film 5 rc rs Q 88 [some (vr 0), some (vi x1), none, none, some (vi (min (iH h20 24 3) 40)), some (vi 0)] [] h24))) ∧ ((iH h (33 + 3 * x2.toNat) 3) = 0 → Q (some (vi (-3))) h))) ∧ (¬ (0 ≤ x3 ∧ x3 < iH h 0 13) → Q (some (vi (-2))) h))))))) : wp mX11_film 5 rc rs Q 0 [some (vr 0), some (vi x1), some (vi x2), some (vi x3), none, none] [] h :=
  (show wp mX11_film 5 rc rs Q 0 [some (vr 0), some (vi x1), some (vi x2), some (vi x3), none, none] [] h from xcS k_X11_film_0 s_X11_film_1 ((Exists.intro [vi x1] (Exists.intro [] (And.intro (And.intro rfl (And.intro rfl (Nat.le_of_ble_eq_true rfl))) (Exists.intro 0 (Exists.intro 0 (Exists.intro 0 (Exists.intro _ (And.intro l_isSheet (And.intro (And.intro (by decide) (And.intro (Nat.zero_le _) (Nat.zero_le _))) (eQP (show wp mX11_film 5 rc rs Q 4 [some (vr 0), some (vi x1), some (vi x2), some (vi x3), none, none] [vi (b01 (0 ≤ x1 ∧ x1 ≤ 3))] h from xIf k_X11_film_4 (And.intro (fun c1 => have v3 := hv.1 (b01_n.mp c1); (show wp mX11_film 5 rc rs Q 22 [some (vr 0), some (vi x1), some (vi x2), some (vi x3), none, none] [] h from xI k_X11_film_22 (And.intro rfl v3))) (fun c2 => have v4 := hv.2 (b01_p.mp c2); (show wp mX11_film 5 rc rs Q 7 [some (vr 0), some (vi x1), some (vi x2), some (vi x3), none, none] [] h from xcS k_X11_film_7 s_X11_film_8 ((Exists.intro [vi x2] (Exists.intro [] (And.intro (And.intro rfl (And.intro rfl (Nat.le_of_ble_eq_true rfl))) (Exists.intro 0 (Exists.intro 0 (Exists.intro 0 (Exists.intro _ (And.intro l_isView (And.intro (And.intro (by decide) (And.intro (Nat.zero_le _) (Nat.zero_le _))) (eQP (show wp mX11_film 5 rc rs Q 11 [some (vr 0), some (vi x1), some (vi x2), some (vi x3), none, none] [vi (b01 (0 ≤ x2 ∧ x2 ≤ 3))] h from xIf k_X11_film_11 (And.intro (fun c5 => have v7 := v4.1 (b01_n.mp c5); (show wp mX11_film 5 rc rs Q 22 [some (vr 0), some (vi x1), some (vi x2), some (vi x3), none, none] [] h from xI k_X11_film_22 (And.intro rfl v7))) (fun c6 => have v8 := v4.2 (b01_p.mp c6); (show wp mX11_film 5 rc rs Q 14 [some (vr 0), some (vi x1), some (vi x2), some (vi x3), none, none] [] h from xcV k_X11_film_14 s_X11_film_16 ((Exists.intro [vi x3] (Exists.intro 0 (Exists.intro [] (And.intro (And.intro rfl (And.intro rfl (Nat.le_of_ble_eq_true rfl))) (And.intro (ll_0 hL) (Exists.intro 0 (Exists.intro 0 (Exists.intro 0 (Exists.intro _ (And.intro (l_isQuery (h := h) hL) (And.intro (And.intro (by decide) (And.intro (Nat.zero_le _) (Nat.zero_le _))) (eQP (show wp mX11_film 5 rc rs Q 19 [some (vr 0), some (vi x1), some (vi x2), some (vi x3), none, none] [vi (b01 (0 ≤ x3 ∧ x3 < iH h 0 13))] h from xIf k_X11_film_19 (And.intro (fun c9 => have v11 := v8.1 (b01_p.mp c9); (show wp mX11_film 5 rc rs Q 25 [some (vr 0), some (vi x1), some (vi x2), some (vi x3), none, none] [] h from xIf k_X11_film_25 (And.intro (ll_0 hL) (Exists.intro 14 (And.intro (lg_0_6 hL) (have c13 := v11.1; have v37 := v11.2; (And.intro (sdQ (ll_14 hL) c13) (Exists.intro (33 + 3 * x2.toNat) (And.intro (tb_vw hL (tnl c13)) (And.intro (st_o hL (ti_vw (tnl c13))) (And.intro (fun c14 => have v16 := v37.1 c14; (show wp mX11_film 5 rc rs Q 40 [some (vr 0), some (vi x1), some (vi x2), some (vi x3), none, none] [] h from xcV k_X11_film_40 s_X11_film_56 (And.intro (ll_0 hL) (Exists.intro 24 (And.intro (lg_0_17 hL) (And.intro (ll_0 hL) (Exists.intro 19 (And.intro (lg_0_12 hL) (have c18 := v16.1; have v36 := v16.2; (And.intro (sdQ (ll_19 hL) c18) (Exists.intro (45 + 6 * x3.toNat) (And.intro (tb_qy hL (tnl c18)) (And.intro (ll_0 hL) (Exists.intro 14 (And.intro (lg_0_6 hL) (And.intro (sdQ (ll_14 hL) c13) (Exists.intro (33 + 3 * x2.toNat) (And.intro (tb_vw hL (tnl c13)) (Exists.elim v36 (fun P22 v32 => (Exists.intro [vr (45 + 6 * x3.toNat), vr (33 + 3 * x2.toNat)] (Exists.intro 24 (Exists.intro [] (And.intro (And.intro rfl (And.intro rfl (Nat.le_of_ble_eq_true rfl))) (And.intro (ll_24 hL) (Exists.intro 4 (Exists.intro 0 (Exists.intro 0 (Exists.intro (QV P22) (And.intro v32.1 (And.intro (And.intro (by decide) (And.intro (Nat.zero_le _) (Nat.zero_le _))) (eQV (fun h20 e34 => have v33 := v32.2 h20 e34; have hL := v33.1; have v33 := v33.2; (show wp mX11_film 5 rc rs Q 59 [some (vr 0), some (vi x1), some (vi x2), some (vi x3), none, none] [] h20 from xMin k_X11_film_59 s_X11_film_68 (And.intro (ll_0 hL) (Exists.intro 24 (And.intro (lg_0_17 hL) (And.intro (ll_24 hL) (And.intro (And.intro (Nat.le_of_ble_eq_true rfl) (Nat.le_of_ble_eq_true rfl)) (show wp mX11_film 5 rc rs Q 71 [some (vr 0), some (vi x1), some (vi x2), some (vi x3), none, none] [vi (min (iH h20 24 3) 40)] h20 from xcV k_X11_film_71 s_X11_film_82 (And.intro rfl (And.intro (ll_0 hL) (Exists.intro 23 (And.intro (lg_0_16 hL) (have c23 := v33.1; have v31 := v33.2; (And.intro (sdQ (ll_23 hL) c23) (Exists.intro (81 + 2 * x1.toNat) (And.intro (tb_sh hL (tnl c23)) (Exists.elim v31 (fun P26 v27 => (Exists.intro [vi 0, vi (min (iH h20 24 3) 40)] (Exists.intro (81 + 2 * x1.toNat) (Exists.intro [] (And.intro (And.intro rfl (And.intro rfl (Nat.le_of_ble_eq_true rfl))) (And.intro (sh_o hL (ti_sh (tnl c23))) (Exists.intro 0 (Exists.intro 0 (Exists.intro 0 (Exists.intro (QV P26) (And.intro v27.1 (And.intro (And.intro (by decide) (And.intro (Nat.zero_le _) (Nat.zero_le _))) (eQV (fun h24 e29 => have v28 := v27.2 h24 e29; have hL := v28.1; have v28 := v28.2; (show wp mX11_film 5 rc rs Q 85 [some (vr 0), some (vi x1), some (vi x2), some (vi x3), some (vi (min (iH h20 24 3) 40)), none] [] h24 from xB k_X11_film_85 (And.intro rfl (w_fg [true, true, false, false, true, true] v28)))))))))))))))))))))))))))))))))))))))))))))))))))))))))))))))))) (fun c15 => have v17 := v37.2 (Decidable.not_not.mp c15); (show wp mX11_film 5 rc rs Q 37 [some (vr 0), some (vi x1), some (vi x2), some (vi x3), none, none] [] h from xI k_X11_film_37 (And.intro rfl v17)))))))))))))) (fun c10 => have v12 := v8.2 (b01_nn.mp c10); (show wp mX11_film 5 rc rs Q 22 [some (vr 0), some (vi x1), some (vi x2), some (vi x3), none, none] [] h from xI k_X11_film_22 (And.intro rfl v12)))))))))))))))))))))))))))))))))))))))))))))))))
theorem e_X11_film {mc ms : Nat} {Q : Option AV → AH → Prop} {h : AH} {x1 x2 x3 : Int} (hL : LayL h) (hv : ((¬ (0 ≤ x1 ∧ x1 ≤ 3) → Q (some (vi (-2))) h) ∧ ((0 ≤ x1 ∧ x1 ≤ 3) → ((¬ (0 ≤ x2 ∧ x2 ≤ 3) → Q (some (vi (-2))) h) ∧ ((0 ≤ x2 ∧ x2 ≤ 3) → (((0 ≤ x3 ∧ x3 < iH h 0 13) → (0 ≤ x2 ∧ x2 < 4) ∧ (((iH h (33 + 3 * x2.toNat) 3) ≠ 0 → (0 ≤ x3 ∧ x3 < 6) ∧ (∃ P22 : AH → Prop, Ct 4 0 0 mX1_search [vr 24, vr (45 + 6 * x3.toNat), vr (33 + 3 * x2.toNat)] h (QV P22) ∧ ∀ h20 : AH, P22 h20 → LayL h20 ∧ (0 ≤ x1 ∧ x1 < 4) ∧ (∃ P26 : AH → Prop, Ct 0 0 0 mX8_become [vr (81 + 2 * x1.toNat), vi 0, vi (min (iH h20 24 3) 40)] h20 (QV P26) ∧ ∀ h24 : AH, P26 h24 → LayL h24 ∧ wp mX11_film 5 mc ms Q 88 [some (vr 0), some (vi x1), none, none, some (vi (min (iH h20 24 3) 40)), some (vi 0)] [] h24))) ∧ ((iH h (33 + 3 * x2.toNat) 3) = 0 → Q (some (vi (-3))) h))) ∧ (¬ (0 ≤ x3 ∧ x3 < iH h 0 13) → Q (some (vi (-2))) h))))))) : Ct 5 mc ms mX11_film [vr 0, vi x1, vi x2, vi x3] h Q := Ct.of (by decide +kernel) (Nat.le_of_ble_eq_true rfl) (t_X11_film_0 hL hv)
theorem t_X11_film_88 {rc rs : Nat} {Q : Option AV → AH → Prop} {h : AH} {x1 x4 x5 : Int} (hL : LayL h) (hv : ((x4 ≤ x5 → Q (some (vi x4)) h) ∧ (x5 < x4 → (0 ≤ x1 ∧ x1 < 4) ∧ (0 ≤ x5 ∧ x5 < 64) ∧ (∃ P9 : AH → Prop, Ct 1 0 0 mX8_put [vr (81 + 2 * x1.toNat), vi x5, vi (iH h 25 x5.toNat)] h (QV P9) ∧ ∀ h7 : AH, P9 h7 → LayL h7 ∧ (-2147483648 ≤ (x5 + 1) ∧ (x5 + 1) < 2147483648) ∧ wp mX11_film 5 rc rs Q 88 [some (vr 0), some (vi x1), none, none, some (vi x4), some (vi (x5 + 1))] [] h7)))) : wp mX11_film 5 rc rs Q 88 [some (vr 0), some (vi x1), none, none, some (vi x4), some (vi x5)] [] h :=
  (show wp mX11_film 5 rc rs Q 88 [some (vr 0), some (vi x1), none, none, some (vi x4), some (vi x5)] [] h from xIc k_X11_film_88 (And.intro (fun c1 => have v3 := hv.1 c1; (show wp mX11_film 5 rc rs Q 122 [some (vr 0), some (vi x1), none, none, some (vi x4), some (vi x5)] [] h from xI k_X11_film_122 (And.intro rfl v3))) (fun c2 => have v4 := hv.2 (Int.not_le.mp c2); (show wp mX11_film 5 rc rs Q 95 [some (vr 0), some (vi x1), none, none, some (vi x4), some (vi x5)] [] h from xcV k_X11_film_95 s_X11_film_113 (And.intro (ll_0 hL) (Exists.intro 23 (And.intro (lg_0_16 hL) (have c5 := v4.1; have v17 := v4.2; (And.intro (sdQ (ll_23 hL) c5) (Exists.intro (81 + 2 * x1.toNat) (And.intro (tb_sh hL (tnl c5)) (And.intro (ll_0 hL) (Exists.intro 24 (And.intro (lg_0_17 hL) (And.intro (ll_24 hL) (Exists.intro 25 (And.intro (lg_24_0 hL) (have c6 := v17.1; have v16 := v17.2; (And.intro (sdI (ll_25 hL) c6) (Exists.elim v16 (fun P9 v12 => (Exists.intro [vi x5, vi (iH h 25 x5.toNat)] (Exists.intro (81 + 2 * x1.toNat) (Exists.intro [] (And.intro (And.intro rfl (And.intro rfl (Nat.le_of_ble_eq_true rfl))) (And.intro (sh_o hL (ti_sh (tnl c5))) (Exists.intro 1 (Exists.intro 0 (Exists.intro 0 (Exists.intro (QV P9) (And.intro v12.1 (And.intro (And.intro (by decide) (And.intro (Nat.zero_le _) (Nat.zero_le _))) (eQV (fun h7 e14 => have v13 := v12.2 h7 e14; have hL := v13.1; have v13 := v13.2; (show wp mX11_film 5 rc rs Q 116 [some (vr 0), some (vi x1), none, none, some (vi x4), some (vi x5)] [] h7 from xGo k_X11_film_116 (have c10 := v13.1; have v11 := v13.2; (And.intro c10 (And.intro rfl v11))))))))))))))))))))))))))))))))))))))
def kK (g : AH) : Prop := ∀ d : Nat, (d : Int) < iH g 89 0 → 0 ≤ iH g 90 d ∧ iH g 90 d ≤ 99
section
variable {h h' g : AH} {da sa : Nat → Nat}
theorem kSh_X (e : agX scK h h') (hs : kSh h g) : kSh h' g := fun s h4 => by
  obtain ⟨q1, q2, q3, q4⟩ := hs s h4
  have e1 := (e.2.2.2 (81 + 2 * s) (by unfold scK scL; omega)).1
  have e2 := (e.2.2.2 (82 + 2 * s) (by unfold scK scL; omega)).1
  exact ⟨by rw [e1]; exact q1, by rw [e1]; exact q2, q3, fun k hk => by rw [e2]; exact q4 k hk⟩
/-- a document that is found was made -/
theorem fd_doc {a : Nat} {q n : Int} {row : Nat → Int} {dr : Nat → Nat → Prop} (hs : cSegs h g da sa) (hc : cStd h g sa a n row dr) {i : Nat} (hi : i < (v_fd g q row dr n.toNat).1) : 0 ≤ (v_fd g q row dr n.toNat).2.2.1 i ∧ (v_fd g q row dr n.toNat).2.2.1 i < iH g 89 0 := by
  obtain ⟨s, k, h1, h2, h3⟩ := (fd_mem (g := g) (q := q) (row := row) (dr := dr) n.toNat ((v_fd g q row dr n.toNat).2.2.1 i)).mp ⟨i, hi, rfl⟩
  have r := (hc.2.2 s (by omega)).1
  have sg := hs (row s).toNat (by omega)
  have q1 := (sg.1.1.1.2.2 k (by rw [Int.toNat_natCast]; exact h2.1)).1
  rw [Int.toNat_natCast] at q1
  have q2 := (sg.2.2.2.2 k h2.1).2
  rw [h3] at q1 q2
  exact ⟨q1, q2⟩
theorem fo_eq {s : Nat} {t q : Int} {S : FS} (hS : m_F g t q = S) (hs : kSh1 h g s) (hk : ∀ i, i < S.1 → iH h 25 i = iH g 90 (S.2.2.1 i).toNat ∧ 0 ≤ iH g 90 (S.2.2.1 i).toNat ∧ iH g 90 (S.2.2.1 i).toNat ≤ 99) : l_fo h (81 + 2 * s) 25 (S.1 : Int) = a_oth g s t q := by
  obtain ⟨q1, q2, q3, q4⟩ := hs
  unfold l_fo a_oth
  rw [hS, q2, Int.toNat_natCast]
  have it : ∀ k : Nat, (k : Int) < iH g 1184 s → k < S.1 → (iH h (81 + 2 * s + 1) k ≠ iH h 25 k ↔ m_othP g S s k) := fun k k1 k2 => by
    have a1 := q4 k k1
    obtain ⟨a2, a3, a4⟩ := hk k k2
    rw [show 81 + 2 * s + 1 = 82 + 2 * s by omega, a2]
    unfold m_othP
    unfold shV at a1
    by_cases c : iH g 1183 s = 0
    · rw [if_pos c] at a1
      constructor
      · intro u; exact Or.inr fun v => u (by omega)
      · rintro (u | u)
        · omega
        · exact fun v => u (by omega)
    · rw [if_neg c] at a1
      constructor
      · intro u; exact Or.inr fun v => u (by omega)
      · rintro (u | u)
        · omega
        · exact fun v => u (by omega)
  rcases fst_cs (fun i => iH h (81 + 2 * s + 1) i ≠ iH h 25 i) (min (S.1 : Int) (iH g 1184 s)).toNat with ⟨e, no⟩ | ⟨k, k1, e, k2, k3⟩
  · rw [e, if_neg (fun u => u rfl)]
    by_cases c : iH g 1184 s ≤ (S.1 : Int)
    · have e2 : fst (m_othP g S s) (iH g 1184 s).toNat = -1 := fst_no fun k hk u => no k (by omega) ((it k (by omega) (by omega)).mpr u)
      rw [e2, if_pos rfl]
      by_cases c2 : (S.1 : Int) = iH g 1184 s
      · rw [if_pos c2, if_neg (by omega)]
      · rw [if_neg c2, if_pos (by omega)]; omega
    · have e2 : fst (m_othP g S s) (iH g 1184 s).toNat = (S.1 : Nat) := fst_at (by omega) (fun j hj u => no j (by omega) ((it j (by omega) (by omega)).mpr u)) (Or.inl (Nat.le_refl _))
      rw [e2, if_neg (by omega), if_neg (by omega)]; omega
  · have e2 : fst (m_othP g S s) (iH g 1184 s).toNat = (k : Nat) := fst_at (by omega) (fun j hj u => k3 j hj ((it j (by omega) (by omega)).mpr u)) ((it k (by omega) (by omega)).mp k2)
    rw [e, e2, if_pos (by omega), if_neg (by omega)]
/-- what a search in a view gives -/
theorem sr_v {h1 : AH} {t : Nat} {q : Int} {a aq : Nat} (hp : kSta h g da sa) (hk : kK g) (ht : t < 6) (hs : p_search h g a aq q (iH g 1138 t) (tRow g t) (tDr g t) h1) : iH h1 a 3 = ((m_F g t q).1 : Int) ∧ ∀ i, i < (m_F g t q).1 → iH h1 (a + 1) i = iH g 90 ((m_F g t q).2.2.1 i).toNat ∧ 0 ≤ iH g 90 ((m_F g t q).2.2.1 i).toNat ∧ iH g 90 ((m_F g t q).2.2.1 i).toNat ≤ 99 := by
  have eF : m_F g t q = v_fd g q (tRow g t) (tDr g t) (iH g 1138 t).toNat := (v_fd_t (g := g) (q := q) (t := t) _).symm
  rw [eF]
  obtain ⟨K, W, P, M, rfl, k1, -⟩ := hs
  refine ⟨hh_3, fun i hi => ?_⟩
  have d := fd_doc hp.1.1.2.1 (hp.1.2.1 t ht) hi
  have kd := hk ((v_fd g q (tRow g t) (tDr g t) (iH g 1138 t).toNat).2.2.1 i).toNat (by omega)
  exact ⟨by rw [hh_K]; exact (k1 i hi).1, kd⟩
end
theorem l_firstOtherwise {h g : AH} {da sa : Nat → Nat} (hL : LayL h) {s v q : Int} (hp : kSta h g da sa) (hq : kQ h g) (hsh : kSh h g) (hk : kK g) (hs : 0 ≤ s ∧ s ≤ 3) (hv : 0 ≤ v ∧ v ≤ 3) (hqb : 0 ≤ q ∧ q < iH g 89 30) : Ct 5 0 0 mX11_firstOtherwise [vr 0, vi s, vi v, vi q] h (QI fun x h' => LayL h' ∧ agX scL h h' ∧ x = a_oth g s v q) := by
  have c6 := hq.2.1
  have hqq := hq.2.2 q.toNat (by omega)
  rw [Int.toNat_of_nonneg hqb.1] at hqq
  have hvv := hp.1.2.1 v.toNat (by omega)
  unfold kV at hvv
  rw [avT_v (by omega)] at hvv
  refine e_X11_firstOtherwise hL ⟨by omega, by omega, _, l_search hL (Or.inl rfl) (ti_qy (by omega)) (ti_vw (by omega)) hqq hp.1.1.1 hp.1.1.2.1 hvv (hp.2.1.2.2.1 v.toNat (by omega)).1, fun h1 hh => ?_⟩
  have ag := sr_X (Or.inl rfl) (ti_qy (by omega)) hh
  have L1 : LayL h1 := agX_L ag hL
  obtain ⟨s3, s4⟩ := sr_v hp hk (by omega) hh
  have sh1 := kSh_X (scL_K ag) hsh s.toNat (by omega)
  refine ⟨L1, by omega, _, l_firstOther L1 (ti_sh (by omega)) (hi_a0 L1 (Or.inl rfl)) (by rw [sh1.2.1]; exact sh1.2.2.1.2) (by rw [s3]; omega), fun x h2 _ hx => ?_⟩
  obtain ⟨rfl, rfl⟩ := hx
  refine ⟨L1, _, rfl, L1, ag, ?_⟩
  rw [s3]
  have := fo_eq (s := s.toNat) (t := (v.toNat : Int)) rfl sh1 s4
  rw [this, Int.toNat_of_nonneg hs.1, Int.toNat_of_nonneg hv.1]
theorem l_queriesToldBy {h g : AH} {da sa : Nat → Nat} (hL : LayL h) {s v : Int} (hp : kSta h g da sa) (hq : kQ h g) (hsh : kSh h g) (hk : kK g) (hs : 0 ≤ s ∧ s ≤ 3) (hv : 0 ≤ v ∧ v ≤ 3) : Ct 6 0 0 mX11_queriesToldBy [vr 0, vi s, vi v] h (QI fun x h' => LayL h' ∧ agX scL h h' ∧ x = m_bits (fun i => a_oth g s v i = -1) (iH g 89 30).toNat) := by
  have c6 := hq.2.1
  have main := up (P := fun j => ∀ h1, agX scL h h1 → wp mX11_queriesToldBy 6 0 0 (QI fun x h' => LayL h' ∧ agX scL h h' ∧ x = m_bits (fun i => a_oth g s v i = -1) (iH g 89 30).toNat) 5 [some (vr 0), some (vi s), some (vi v), some (vi (m_bits (fun i => a_oth g s v i = -1) j)), some (vi j)] [] h1) (iH g 89 30).toNat ?_ ?_
  · exact e_X11_queriesToldBy hL (main h agX_rf)
  · intro h1 ag
    have L1 : LayL h1 := agX_L ag hL
    have q1 := kQ_X (scL_K ag) hq
    refine t_X11_queriesToldBy_5 L1 ?_
    rw [q1.1]
    exact ⟨fun _ => ⟨_, rfl, L1, ag, rfl⟩, fun c => absurd c (by omega)⟩
  · intro j hj ih h1 ag
    have L1 : LayL h1 := agX_L ag hL
    have q1 := kQ_X (scL_K ag) hq
    refine t_X11_queriesToldBy_5 L1 ?_
    rw [q1.1]
    refine ⟨fun c => absurd c (by omega), fun _ => ⟨_, l_firstOtherwise L1 (kSta_X (scL_K ag) hp) q1 (kSh_X (scL_K ag) hsh) hk hs hv (by omega), fun x h2 _ hx => ?_⟩⟩
    obtain ⟨L2, ag2, rfl⟩ := hx
    refine ⟨L2, fun c => ⟨by omega, ?_⟩, fun c => ⟨by omega, ?_⟩⟩
    · have := ih h2 (agX_tr ag ag2)
      rw [m_bits_n (p := fun i => a_oth g s v i = -1) c] at this
      exact this
    · have := ih h2 (agX_tr ag ag2)
      rw [m_bits_y (p := fun i => a_oth g s v i = -1) c] at this
      exact this
theorem l_viewsToldBy {h g : AH} {da sa : Nat → Nat} (hL : LayL h) {s q : Int} (hp : kSta h g da sa) (hq : kQ h g) (hsh : kSh h g) (hk : kK g) (hs : 0 ≤ s ∧ s ≤ 3) (hqb : 0 ≤ q ∧ q < iH g 89 30) : Ct 6 0 0 mX11_viewsToldBy [vr 0, vi s, vi q] h (QI fun x h' => LayL h' ∧ agX scL h h' ∧ x = m_bits (fun i => iH g 1137 i ≠ 0 ∧ a_oth g s i q = -1) 4) := by
  have main := up (P := fun j => ∀ h1, agX scL h h1 → wp mX11_viewsToldBy 6 0 0 (QI fun x h' => LayL h' ∧ agX scL h h' ∧ x = m_bits (fun i => iH g 1137 i ≠ 0 ∧ a_oth g s i q = -1) 4) 5 [some (vr 0), some (vi s), some (vi q), some (vi (m_bits (fun i => iH g 1137 i ≠ 0 ∧ a_oth g s i q = -1) j)), some (vi j)] [] h1) 4 ?_ ?_
  · exact e_X11_viewsToldBy hL (main h agX_rf)
  · intro h1 ag
    have L1 : LayL h1 := agX_L ag hL
    exact t_X11_viewsToldBy_5 L1 ⟨fun _ => ⟨_, rfl, L1, ag, rfl⟩, fun c => absurd c (by omega)⟩
  · intro j hj ih h1 ag
    have L1 : LayL h1 := agX_L ag hL
    have k1 := kSta_X (scL_K ag) hp
    have ef := (k1.1.2.2.1 j (by omega)).1
    rw [avT_v (by omega)] at ef
    refine t_X11_viewsToldBy_5 L1 ⟨fun c => absurd c (by omega), fun _ => ⟨by omega, ?_⟩⟩
    rw [Int.toNat_natCast, ef]
    refine ⟨fun c => ⟨by omega, ?_⟩, fun c0 => ⟨_, l_firstOtherwise L1 k1 (kQ_X (scL_K ag) hq) (kSh_X (scL_K ag) hsh) hk hs (by omega) hqb, fun x h2 _ hx => ?_⟩⟩
    · have := ih h1 ag
      rw [m_bits_n (p := fun i => iH g 1137 i ≠ 0 ∧ a_oth g s i q = -1) (fun u => u.1 c)] at this
      exact this
    · obtain ⟨L2, ag2, rfl⟩ := hx
      refine ⟨L2, fun c => ⟨by omega, ?_⟩, fun c => ⟨by omega, ?_⟩⟩
      · have := ih h2 (agX_tr ag ag2)
        rw [m_bits_n (p := fun i => iH g 1137 i ≠ 0 ∧ a_oth g s i q = -1) (fun u => c u.2)] at this
        exact this
      · have := ih h2 (agX_tr ag ag2)
        rw [m_bits_y (p := fun i => iH g 1137 i ≠ 0 ∧ a_oth g s i q = -1) ⟨c0, c⟩] at this
        exact this
theorem l_tells {h g : AH} {da sa : Nat → Nat} (hL : LayL h) {s v q w : Int} (hp : kSta h g da sa) (hq : kQ h g) (hsh : kSh h g) (hk : kK g) : Ct 7 0 0 mX11_tells [vr 0, vi s, vi v, vi q, vi w] h (QI fun x h' => LayL h' ∧ agX scL h h' ∧ p_tells g s v q w x g) := by
  have bad : ¬ m_telOK g s v q w → QI (fun x h' => LayL h' ∧ agX scL h h' ∧ p_tells g s v q w x g) (some (vi (-2))) h := fun u => ⟨_, rfl, hL, agX_rf, Or.inl ⟨u, rfl, rfl⟩⟩
  refine e_X11_tells hL ?_
  rw [hq.1]
  refine ⟨fun c => bad fun u => c u.1, fun c => ⟨fun c2 => bad fun u => c2 u.2.1, fun c2 => ⟨fun c3 => bad fun u => by have := u.2.2.1; omega, fun c3 => ⟨fun c4 => bad fun u => by have := u.2.2.2; omega, fun c4 => ⟨fun c4' => ⟨by omega, ?_⟩, fun c4' => bad fun u => by have := u.2.2.2; omega⟩⟩⟩⟩⟩
  have ok : m_telOK g s v q w := ⟨c, c2, by omega, by omega⟩
  have ef := (hp.1.2.2.1 v.toNat (by omega)).1
  rw [avT_v (by omega)] at ef
  have sh1 := hsh s.toNat (by omega)
  rw [ef, sh1.1]
  refine ⟨fun c5 => ⟨by omega, ti_sh (by omega), fun c6 => ?_, fun c6 => ⟨_, rfl, hL, agX_rf, Or.inr (Or.inr (Or.inl ⟨ok, c5, by omega, rfl, rfl⟩))⟩⟩, fun c5 => ⟨_, rfl, hL, agX_rf, Or.inr (Or.inl ⟨ok, c5, rfl, rfl⟩)⟩⟩
  have s0 : 0 ≤ iH g 1183 s.toNat := by have := sh1.2.2.1.1; omega
  refine ⟨fun c7 => ⟨fun c8 => ⟨_, l_viewsToldBy hL hp hq hsh hk c (by omega), fun x h1 _ hx => ?_⟩, fun c8 => ⟨_, l_queriesToldBy hL hp hq hsh hk c c2, fun x h1 _ hx => ?_⟩⟩, fun c7 => ⟨_, l_firstOtherwise hL hp hq hsh hk c c2 (by omega), fun x h1 _ hx => ?_⟩⟩
  · obtain ⟨L1, ag, rfl⟩ := hx
    refine ⟨L1, _, rfl, L1, ag, Or.inr (Or.inr (Or.inr ⟨ok, c5, s0, ?_, Or.inl rfl⟩))⟩
    unfold a_tells
    rw [if_neg c7, if_neg c8]
  · obtain ⟨L1, ag, rfl⟩ := hx
    refine ⟨L1, _, rfl, L1, ag, Or.inr (Or.inr (Or.inr ⟨ok, c5, s0, ?_, Or.inl rfl⟩))⟩
    unfold a_tells
    rw [if_neg c7, if_pos c8]
  · obtain ⟨L1, ag, rfl⟩ := hx
    refine ⟨L1, _, rfl, L1, ag, Or.inr (Or.inr (Or.inr ⟨ok, c5, s0, ?_, Or.inl rfl⟩))⟩
    unfold a_tells
    rw [if_pos c7]
theorem and99 : ∀ n : Nat, n < 100 → andI (n : Int) 255 = (n : Int) := by decide +kernel
def flmK (h1 : AH) (s j k : Nat) : Int := if k < j then andI (iH h1 25 k) 255 else if k < 40 then 0 else iH h1 (81 + 2 * s + 1) k
noncomputable def m_flG (g : AH) (s : Nat) (v q : Int) : AH := m_film g (m_fH g 0 0 (fun _ => 0) (fun _ => 0) (fun _ => 0)) (m_F g v q) s
theorem l_film {h g : AH} {da sa : Nat → Nat} (hL : LayL h) {s v q : Int} (hp : kSta h g da sa) (hq : kQ h g) (hsh : kSh h g) (hk : kK g) : Ct 5 0 0 mX11_film [vr 0, vi s, vi v, vi q] h (QI fun x h' => LayL h' ∧ ∃ g', p_film g s v q x g' ∧ kSh h' g' ∧ ((h' = h ∧ g' = g) ∨ ∃ z : Nat, z < 4 ∧ (∃ h1 m f, agX scL h h1 ∧ h' = sW (sI (sI h1 (81 + 2 * z) 1 0) (81 + 2 * z) 2 m) (81 + 2 * z + 1) f) ∧ g' = m_flG g z v q)) := by
  have bad : (¬ (0 ≤ s ∧ s ≤ 3) ∨ ¬ (0 ≤ v ∧ v ≤ 3) ∨ ¬ (0 ≤ q ∧ q ≤ iH g 89 30 - 1)) → QI (fun x h' => LayL h' ∧ ∃ g', p_film g s v q x g' ∧ kSh h' g' ∧ ((h' = h ∧ g' = g) ∨ ∃ z : Nat, z < 4 ∧ (∃ h1 m f, agX scL h h1 ∧ h' = sW (sI (sI h1 (81 + 2 * z) 1 0) (81 + 2 * z) 2 m) (81 + 2 * z + 1) f) ∧ g' = m_flG g z v q)) (some (vi (-2))) h := fun u => ⟨_, rfl, hL, g, Or.inl ⟨u, rfl, rfl⟩, hsh, Or.inl ⟨rfl, rfl⟩⟩
  refine e_X11_film hL ?_
  rw [hq.1]
  refine ⟨fun c => bad (Or.inl c), fun c => ⟨fun c2 => bad (Or.inr (Or.inl c2)), fun c2 => ⟨fun c3 => ⟨by omega, ?_⟩, fun c3 => bad (Or.inr (Or.inr (by omega)))⟩⟩⟩
  have ok : (0 ≤ s ∧ s ≤ 3) ∧ (0 ≤ v ∧ v ≤ 3) ∧ (0 ≤ q ∧ q ≤ iH g 89 30 - 1) := ⟨c, c2, by omega⟩
  have ef := (hp.1.2.2.1 v.toNat (by omega)).1
  rw [avT_v (by omega)] at ef
  rw [ef]
  refine ⟨fun c5 => ?_, fun c5 => ⟨_, rfl, hL, g, Or.inr (Or.inl ⟨ok, c5, rfl, rfl⟩), hsh, Or.inl ⟨rfl, rfl⟩⟩⟩
  have c6 := hq.2.1
  have hqq := hq.2.2 q.toNat (by omega)
  rw [Int.toNat_of_nonneg c3.1] at hqq
  have hvv := hp.1.2.1 v.toNat (by omega)
  unfold kV at hvv
  rw [avT_v (by omega)] at hvv
  refine ⟨by omega, _, l_search hL (Or.inl rfl) (ti_qy (by omega)) (ti_vw (by omega)) hqq hp.1.1.1 hp.1.1.2.1 hvv (hp.2.1.2.2.1 v.toNat (by omega)).1, fun h1 hh => ?_⟩
  have ag := sr_X (Or.inl rfl) (ti_qy (by omega)) hh
  have L1 : LayL h1 := agX_L ag hL
  obtain ⟨s3, s4⟩ := sr_v hp hk (by omega) hh
  rw [Int.toNat_of_nonneg c2.1] at s3 s4
  have iz := ti_sh (i := s.toNat) (by omega)
  refine ⟨L1, by omega, _, l_becomeS L1 iz, fun h2 hh2 => ?_⟩
  rw [hh2, s3]
  have eM : min ((m_F g v q).1 : Int) 40 = (((min (m_F g v q).1 40 : Nat)) : Int) := by omega
  rw [eM]
  obtain ⟨z, hz⟩ : ∃ z : Nat, s.toNat = z := ⟨_, rfl⟩
  have hz4 : z < 4 := by omega
  rw [hz] at iz ⊢
  generalize hN : min (m_F g v q).1 40 = N
  have hN40 : N ≤ 40 ∧ N ≤ (m_F g v q).1 := by omega
  refine ⟨by exact L1, ?_⟩
  have main := up (P := fun j => wp mX11_film 5 0 0 (QI fun x h' => LayL h' ∧ ∃ g', p_film g s v q x g' ∧ kSh h' g' ∧ ((h' = h ∧ g' = g) ∨ ∃ z : Nat, z < 4 ∧ (∃ h1 m f, agX scL h h1 ∧ h' = sW (sI (sI h1 (81 + 2 * z) 1 0) (81 + 2 * z) 2 m) (81 + 2 * z + 1) f) ∧ g' = m_flG g z v q)) 88 [some (vr 0), some (vi s), none, none, some (vi N), some (vi j)] [] (sW (sI (sI h1 (81 + 2 * z) 1 0) (81 + 2 * z) 2 N) (81 + 2 * z + 1) (flmK h1 z j))) N ?_ ?_
  · exact main
  · refine t_X11_film_88 (by exact L1) ⟨fun _ => ⟨_, rfl, by exact L1, m_flG g z v q, Or.inr (Or.inr ⟨ok, c5, by omega, _, _, _, _, _, by rw [hz]; rfl⟩), fun y hy => ?_, Or.inr ⟨z, hz4, ⟨h1, N, _, ag, rfl⟩, rfl⟩⟩, fun c => absurd c (by omega)⟩
    have sh1 := kSh_X (scL_K ag) hsh y hy
    unfold m_flG m_film
    have eN : min 40 ((m_F g v q).1 : Int) = (N : Int) := by omega
    rw [eN]
    by_cases e : y = z
    · subst e
      refine ⟨?_, ?_, ?_, fun k hk => ?_⟩
      · rw [rW_ne (by omega), rI_nk (by decide), rI_same, rW_ne (by omega), rI_ne (by decide), rI_same]
      · rw [rW_ne (by omega), rI_same, rW_ne (by omega), rI_same]
      · rw [rW_ne (by omega), rI_ne (by decide), rI_same, rW_ne (by omega), rI_same]
        omega
      · rw [rW_ne (by omega), rI_same] at hk
        rw [rW_ne (by omega), rI_ne (by decide), rI_same, rW_same, show 82 + 2 * y = 81 + 2 * y + 1 by omega, rW_same]
        unfold flmK m_flmR
        rw [if_pos (by omega), if_pos (by omega)]
        obtain ⟨a1, a2, a3⟩ := s4 k (by omega)
        rw [show 25 = 24 + 1 from rfl, a1]
        obtain ⟨m, hm⟩ := Int.eq_ofNat_of_zero_le a2
        rw [hm, and99 m (by omega)]
        unfold shV
        rw [if_pos rfl]
        omega
    · obtain ⟨q1, q2, q3, q4⟩ := sh1
      have r1 : ∀ x k, 1183 ≤ x → x ≠ 1186 + z → (x = 1183 ∨ x = 1184 → k ≠ z) → iH (sW (sI (sI (m_fH g 0 0 (fun _ => 0) (fun _ => 0) (fun _ => 0)) 1183 z 0) 1184 z N) (1186 + z) (m_flmR g (m_F g v q) z (N : Int).toNat)) x k = iH g x k := fun x k h1 h2 h3 => by
        rw [rW_ne h2]
        have a1 : ∀ (A : AH) (b : Nat) (u : Int), (b = 1183 ∨ b = 1184) → iH (sI A b z u) x k = iH A x k := fun A b u hb => by
          by_cases e3 : x = b
          · subst e3; exact rI_nk (h3 (by omega))
          · exact rI_ne e3
        rw [a1 _ _ _ (Or.inr rfl), a1 _ _ _ (Or.inl rfl), r_fH (by omega) (by omega) (by omega) (by omega)]
      refine ⟨?_, ?_, ?_, fun k hk => ?_⟩
      · rw [rW_ne (by omega), rI_ne (by omega), rI_ne (by omega), r1 _ _ (by decide) (by omega) (fun _ => e)]; exact q1
      · rw [rW_ne (by omega), rI_ne (by omega), rI_ne (by omega), r1 _ _ (by decide) (by omega) (fun _ => e)]; exact q2
      · rw [r1 _ _ (by decide) (by omega) (fun _ => e), r1 _ _ (by decide) (by omega) (fun _ => e)]; exact q3
      · rw [r1 _ _ (by decide) (by omega) (fun _ => e)] at hk
        rw [r1 _ _ (by decide) (by omega) (fun _ => e), r1 _ _ (by omega) (by omega) (by omega), rW_ne (by omega), rI_ne (by omega), rI_ne (by omega)]
        exact q4 k hk
  · intro j hj ih
    have L3 : LayL (sW (sI (sI h1 (81 + 2 * z) 1 0) (81 + 2 * z) 2 N) (81 + 2 * z + 1) (flmK h1 z j)) := L1
    have r2 : iH (sW (sI (sI h1 (81 + 2 * z) 1 0) (81 + 2 * z) 2 N) (81 + 2 * z + 1) (flmK h1 z j)) (81 + 2 * z) 2 = N := by rw [rW_ne (by omega), rI_same]
    have r1 : iH (sW (sI (sI h1 (81 + 2 * z) 1 0) (81 + 2 * z) 2 N) (81 + 2 * z + 1) (flmK h1 z j)) (81 + 2 * z) 1 = 0 := by rw [rW_ne (by omega), rI_nk (by decide), rI_same]
    have r25 : iH (sW (sI (sI h1 (81 + 2 * z) 1 0) (81 + 2 * z) 2 N) (81 + 2 * z + 1) (flmK h1 z j)) 25 j = iH h1 25 j := by rw [rW_ne (by omega), rI_ne (by omega), rI_ne (by omega)]
    refine t_X11_film_88 L3 ⟨fun c => absurd c (by omega), fun _ => ⟨by omega, by omega, ?_⟩⟩
    rw [hz, Int.toNat_natCast, r25]
    refine ⟨_, l_putS L3 ⟨iz, by rw [r2]; omega⟩, fun h7 hh7 => ?_⟩
    rw [r2, r1, if_pos (show 0 ≤ (j : Int) ∧ (j : Int) < (N : Int) by omega), if_pos rfl, Int.toNat_natCast, sI_sW (g' := flmK h1 z (j + 1)) (fun k => ?_)] at hh7
    · rw [hh7]
      refine ⟨by exact L1, by omega, ?_⟩
      rw [show (j : Int) + 1 = ((j + 1 : Nat) : Int) by omega]
      exact ih
    · unfold flmK
      by_cases e : k = j
      · subst e; rw [if_pos rfl, if_pos (by omega)]
      · rw [if_neg e]
        by_cases e2 : k < j
        · rw [if_pos e2, if_pos (by omega)]
        · rw [if_neg e2, if_neg (by omega)]
