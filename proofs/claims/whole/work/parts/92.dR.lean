/-! THE INDEX: THE CHEAPEST WAY -/
def b_X11_splitCost_0 : List IE := [(.aload_n 0, 1, 0, 0, 0, 0), (.getfield 98, 3, 0, 11, 19, 1), (.iload_n 1, 1, 0, 0, 1, 0), (.bipush 8, 2, 8, 0, 0, 0), (.imul, 1, 0, 0, 0, 0), (.iload_n 2, 1, 0, 0, 2, 0), (.iadd, 1, 0, 0, 0, 0), (.iconst 1, 1, 1, 0, 0, 0), (.isub, 1, 0, 0, 0, 0), (.iaload, 1, 0, 0, 0, 0), (.aload_n 0, 1, 0, 0, 0, 0), (.getfield 98, 3, 0, 11, 19, 1), (.iload_n 2, 1, 0, 0, 2, 0), (.bipush 8, 2, 8, 0, 0, 0), (.imul, 1, 0, 0, 0, 0), (.iload_n 3, 1, 0, 0, 3, 0), (.iadd, 1, 0, 0, 0, 0), (.iaload, 1, 0, 0, 0, 0), (.iadd, 1, 0, 0, 0, 0)]
theorem k_X11_splitCost_0 : ckI mX11_splitCost 11 0 b_X11_splitCost_0 25 = true := by decide +kernel
theorem t_X11_splitCost_0 {rc rs : Nat} {Q : Option AV → AH → Prop} {h : AH} {x1 x2 x3 : Int} (hL : LayL h) (hv : (-2147483648 ≤ (x1 * 8) ∧ (x1 * 8) < 2147483648) ∧ (-2147483648 ≤ ((x1 * 8) + x2) ∧ ((x1 * 8) + x2) < 2147483648) ∧ (-2147483648 ≤ (((x1 * 8) + x2) - 1) ∧ (((x1 * 8) + x2) - 1) < 2147483648) ∧ (0 ≤ (((x1 * 8) + x2) - 1) ∧ (((x1 * 8) + x2) - 1) < 64) ∧ (-2147483648 ≤ (x2 * 8) ∧ (x2 * 8) < 2147483648) ∧ (-2147483648 ≤ ((x2 * 8) + x3) ∧ ((x2 * 8) + x3) < 2147483648) ∧ (0 ≤ ((x2 * 8) + x3) ∧ ((x2 * 8) + x3) < 64) ∧ (-2147483648 ≤ (iH h 32 ((((x1 * 8) + x2) - 1).toNat) + iH h 32 (((x2 * 8) + x3).toNat)) ∧ (iH h 32 ((((x1 * 8) + x2) - 1).toNat) + iH h 32 (((x2 * 8) + x3).toNat)) < 2147483648) ∧ Q (some (vi (iH h 32 ((((x1 * 8) + x2) - 1).toNat) + iH h 32 (((x2 * 8) + x3).toNat)))) h) : wp mX11_splitCost 0 rc rs Q 0 [some (vr 0), some (vi x1), some (vi x2), some (vi x3)] [] h :=
  (show wp mX11_splitCost 0 rc rs Q 0 [some (vr 0), some (vi x1), some (vi x2), some (vi x3)] [] h from xI k_X11_splitCost_0 (And.intro (ll_0 hL) (Exists.intro 32 (And.intro (lg_0_19 hL) (have c1 := hv.1; have v16 := hv.2; (And.intro c1 (have c2 := v16.1; have v15 := v16.2; (And.intro c2 (have c3 := v15.1; have v14 := v15.2; (And.intro c3 (have c4 := v14.1; have v13 := v14.2; (And.intro (sdI (ll_32 hL) c4) (And.intro (ll_0 hL) (Exists.intro 32 (And.intro (lg_0_19 hL) (have c5 := v13.1; have v12 := v13.2; (And.intro c5 (have c6 := v12.1; have v11 := v12.2; (And.intro c6 (have c7 := v11.1; have v10 := v11.2; (And.intro (sdI (ll_32 hL) c7) (have c8 := v10.1; have v9 := v10.2; (And.intro c8 (And.intro rfl v9))))))))))))))))))))))))
theorem e_X11_splitCost {mc ms : Nat} {Q : Option AV → AH → Prop} {h : AH} {x1 x2 x3 : Int} (hL : LayL h) (hv : (-2147483648 ≤ (x1 * 8) ∧ (x1 * 8) < 2147483648) ∧ (-2147483648 ≤ ((x1 * 8) + x2) ∧ ((x1 * 8) + x2) < 2147483648) ∧ (-2147483648 ≤ (((x1 * 8) + x2) - 1) ∧ (((x1 * 8) + x2) - 1) < 2147483648) ∧ (0 ≤ (((x1 * 8) + x2) - 1) ∧ (((x1 * 8) + x2) - 1) < 64) ∧ (-2147483648 ≤ (x2 * 8) ∧ (x2 * 8) < 2147483648) ∧ (-2147483648 ≤ ((x2 * 8) + x3) ∧ ((x2 * 8) + x3) < 2147483648) ∧ (0 ≤ ((x2 * 8) + x3) ∧ ((x2 * 8) + x3) < 64) ∧ (-2147483648 ≤ (iH h 32 ((((x1 * 8) + x2) - 1).toNat) + iH h 32 (((x2 * 8) + x3).toNat)) ∧ (iH h 32 ((((x1 * 8) + x2) - 1).toNat) + iH h 32 (((x2 * 8) + x3).toNat)) < 2147483648) ∧ Q (some (vi (iH h 32 ((((x1 * 8) + x2) - 1).toNat) + iH h 32 (((x2 * 8) + x3).toNat)))) h) : Ct 0 mc ms mX11_splitCost [vr 0, vi x1, vi x2, vi x3] h Q := Ct.of (by decide +kernel) (Nat.le_of_ble_eq_true rfl) (t_X11_splitCost_0 hL hv)
def b_X11_leastSplit_0 : List IE := [(.iload_n 1, 1, 0, 0, 1, 0), (.iconst 1, 1, 1, 0, 0, 0), (.iadd, 1, 0, 0, 0, 0), (.istore_n 3, 1, 0, 0, 3, 0), (.iload_n 1, 1, 0, 0, 1, 0), (.iconst 2, 1, 2, 0, 0, 0), (.iadd, 1, 0, 0, 0, 0), (.istore 4, 2, 0, 0, 4, 0)]
theorem k_X11_leastSplit_0 : ckB mX11_leastSplit 11 0 b_X11_leastSplit_0 9 = true := by decide +kernel
def b_X11_leastSplit_9 : List IE := [(.iload 4, 2, 0, 0, 4, 0), (.iload_n 2, 1, 0, 0, 2, 0)]
theorem k_X11_leastSplit_9 : ckIc mX11_leastSplit 11 9 b_X11_leastSplit_9 12 4 30 42 15 = true := by decide +kernel
def b_X11_leastSplit_15 : List IE := [(.aload_n 0, 1, 0, 0, 0, 0), (.iload_n 1, 1, 0, 0, 1, 0), (.iload 4, 2, 0, 0, 4, 0), (.iload_n 2, 1, 0, 0, 2, 0)]
theorem k_X11_leastSplit_15 : ckB mX11_leastSplit 11 15 b_X11_leastSplit_15 20 = true := by decide +kernel
def b_X11_leastSplit_23 : List IE := [(.aload_n 0, 1, 0, 0, 0, 0), (.iload_n 1, 1, 0, 0, 1, 0), (.iload_n 3, 1, 0, 0, 3, 0), (.iload_n 2, 1, 0, 0, 2, 0)]
theorem k_X11_leastSplit_23 : ckB mX11_leastSplit 11 23 b_X11_leastSplit_23 27 = true := by decide +kernel
def b_X11_leastSplit_30 : List IE := []
theorem k_X11_leastSplit_30 : ckIc mX11_leastSplit 11 30 b_X11_leastSplit_30 30 3 6 36 33 = true := by decide +kernel
def b_X11_leastSplit_33 : List IE := [(.iload 4, 2, 0, 0, 4, 0), (.istore_n 3, 1, 0, 0, 3, 0), (.iinc 4 1, 3, 1, 0, 4, 0)]
theorem k_X11_leastSplit_33 : ckGo mX11_leastSplit 11 33 b_X11_leastSplit_33 39 (-30) 9 = true := by decide +kernel
def b_X11_leastSplit_36 : List IE := [(.iinc 4 1, 3, 1, 0, 4, 0)]
theorem k_X11_leastSplit_36 : ckGo mX11_leastSplit 11 36 b_X11_leastSplit_36 39 (-30) 9 = true := by decide +kernel
def b_X11_leastSplit_42 : List IE := [(.iload_n 3, 1, 0, 0, 3, 0)]
theorem k_X11_leastSplit_42 : ckI mX11_leastSplit 11 42 b_X11_leastSplit_42 43 = true := by decide +kernel
theorem s_X11_leastSplit_20 : cV mX11_leastSplit 20 mX11_splitCost 277 3 11 := ⟨by decide +kernel, ⟨ml_X11_splitCost, li_RX11_277, im_X11_splitCost, se_X11_splitCost⟩, ⟨by decide +kernel, by decide +kernel⟩, by decide +kernel⟩
theorem s_X11_leastSplit_27 : cV mX11_leastSplit 27 mX11_splitCost 277 3 11 := ⟨by decide +kernel, ⟨ml_X11_splitCost, li_RX11_277, im_X11_splitCost, se_X11_splitCost⟩, ⟨by decide +kernel, by decide +kernel⟩, by decide +kernel⟩
theorem t_X11_leastSplit_0 {rc rs : Nat} {Q : Option AV → AH → Prop} {h : AH} {x1 x2 : Int} (hL : LayL h) (hv : (-2147483648 ≤ (x1 + 1) ∧ (x1 + 1) < 2147483648) ∧ (-2147483648 ≤ (x1 + 2) ∧ (x1 + 2) < 2147483648) ∧ wp mX11_leastSplit 1 rc rs Q 9 [some (vr 0), some (vi x1), some (vi x2), some (vi (x1 + 1)), some (vi (x1 + 2))] [] h) : wp mX11_leastSplit 1 rc rs Q 0 [some (vr 0), some (vi x1), some (vi x2), none, none] [] h :=
  (show wp mX11_leastSplit 1 rc rs Q 0 [some (vr 0), some (vi x1), some (vi x2), none, none] [] h from xB k_X11_leastSplit_0 (have c1 := hv.1; have v4 := hv.2; (And.intro c1 (And.intro rfl (have c2 := v4.1; have v3 := v4.2; (And.intro c2 (And.intro rfl v3)))))))
theorem e_X11_leastSplit {mc ms : Nat} {Q : Option AV → AH → Prop} {h : AH} {x1 x2 : Int} (hL : LayL h) (hv : (-2147483648 ≤ (x1 + 1) ∧ (x1 + 1) < 2147483648) ∧ (-2147483648 ≤ (x1 + 2) ∧ (x1 + 2) < 2147483648) ∧ wp mX11_leastSplit 1 mc ms Q 9 [some (vr 0), some (vi x1), some (vi x2), some (vi (x1 + 1)), some (vi (x1 + 2))] [] h) : Ct 1 mc ms mX11_leastSplit [vr 0, vi x1, vi x2] h Q := Ct.of (by decide +kernel) (Nat.le_of_ble_eq_true rfl) (t_X11_leastSplit_0 hL hv)
theorem t_X11_leastSplit_9 {rc rs : Nat} {Q : Option AV → AH → Prop} {h : AH} {x1 x2 x3 x4 : Int} (hL : LayL h) (hv : ((x2 < x4 → Q (some (vi x3)) h) ∧ (x4 ≤ x2 → (∃ P7 : Int → AH → Prop, Ct 0 0 0 mX11_splitCost [vr 0, vi x1, vi x4, vi x2] h (QI P7) ∧ ∀ (r6 : Int) (h5 : AH), (-2147483648 ≤ r6 ∧ r6 < 2147483648) → P7 r6 h5 → LayL h5 ∧ (∃ P10 : Int → AH → Prop, Ct 0 0 0 mX11_splitCost [vr 0, vi x1, vi x3, vi x2] h5 (QI P10) ∧ ∀ (r9 : Int) (h8 : AH), (-2147483648 ≤ r9 ∧ r9 < 2147483648) → P10 r9 h8 → LayL h8 ∧ ((r9 ≤ r6 → (-2147483648 ≤ (x4 + 1) ∧ (x4 + 1) < 2147483648) ∧ wp mX11_leastSplit 1 rc rs Q 9 [some (vr 0), some (vi x1), some (vi x2), some (vi x3), some (vi (x4 + 1))] [] h8) ∧ (r6 < r9 → (-2147483648 ≤ (x4 + 1) ∧ (x4 + 1) < 2147483648) ∧ wp mX11_leastSplit 1 rc rs Q 9 [some (vr 0), some (vi x1), some (vi x2), some (vi x4), some (vi (x4 + 1))] [] h8))))))) : wp mX11_leastSplit 1 rc rs Q 9 [some (vr 0), some (vi x1), some (vi x2), some (vi x3), some (vi x4)] [] h :=
  (show wp mX11_leastSplit 1 rc rs Q 9 [some (vr 0), some (vi x1), some (vi x2), some (vi x3), some (vi x4)] [] h from xIc k_X11_leastSplit_9 (And.intro (fun c1 => have v3 := hv.1 c1; (show wp mX11_leastSplit 1 rc rs Q 42 [some (vr 0), some (vi x1), some (vi x2), some (vi x3), some (vi x4)] [] h from xI k_X11_leastSplit_42 (And.intro rfl v3))) (fun c2 => have v4 := hv.2 (Int.not_lt.mp c2); (show wp mX11_leastSplit 1 rc rs Q 15 [some (vr 0), some (vi x1), some (vi x2), some (vi x3), some (vi x4)] [] h from xcV k_X11_leastSplit_15 s_X11_leastSplit_20 (Exists.elim v4 (fun P7 v23 => (Exists.intro [vi x1, vi x4, vi x2] (Exists.intro 0 (Exists.intro [] (And.intro (And.intro rfl (And.intro rfl (Nat.le_of_ble_eq_true rfl))) (And.intro (ll_0 hL) (Exists.intro 0 (Exists.intro 0 (Exists.intro 0 (Exists.intro (QI P7) (And.intro v23.1 (And.intro (And.intro (by decide) (And.intro (Nat.zero_le _) (Nat.zero_le _))) (eQI (fun r6 h5 q26 e25 => have v24 := v23.2 r6 h5 q26 e25; have hL := v24.1; have v24 := v24.2; (show wp mX11_leastSplit 1 rc rs Q 23 [some (vr 0), some (vi x1), some (vi x2), some (vi x3), some (vi x4)] [vi r6] h5 from xcV k_X11_leastSplit_23 s_X11_leastSplit_27 (Exists.elim v24 (fun P10 v19 => (Exists.intro [vi x1, vi x3, vi x2] (Exists.intro 0 (Exists.intro [vi r6] (And.intro (And.intro rfl (And.intro rfl (Nat.le_of_ble_eq_true rfl))) (And.intro (ll_0 hL) (Exists.intro 0 (Exists.intro 0 (Exists.intro 0 (Exists.intro (QI P10) (And.intro v19.1 (And.intro (And.intro (by decide) (And.intro (Nat.zero_le _) (Nat.zero_le _))) (eQI (fun r9 h8 q22 e21 => have v20 := v19.2 r9 h8 q22 e21; have hL := v20.1; have v20 := v20.2; (show wp mX11_leastSplit 1 rc rs Q 30 [some (vr 0), some (vi x1), some (vi x2), some (vi x3), some (vi x4)] [vi r9, vi r6] h8 from xIc k_X11_leastSplit_30 (And.intro (fun c11 => have v13 := v20.1 c11; (show wp mX11_leastSplit 1 rc rs Q 36 [some (vr 0), some (vi x1), some (vi x2), some (vi x3), some (vi x4)] [] h8 from xGo k_X11_leastSplit_36 (have c15 := v13.1; have v16 := v13.2; (And.intro c15 (And.intro rfl v16))))) (fun c12 => have v14 := v20.2 (Int.not_le.mp c12); (show wp mX11_leastSplit 1 rc rs Q 33 [some (vr 0), some (vi x1), some (vi x2), some (vi x3), some (vi x4)] [] h8 from xGo k_X11_leastSplit_33 (And.intro rfl (have c17 := v14.1; have v18 := v14.2; (And.intro c17 (And.intro rfl v18)))))))))))))))))))))))))))))))))))))))))))
def b_X11_cheapest_0 : List IE := [(.iload_n 1, 1, 0, 0, 1, 0)]
theorem k_X11_cheapest_0 : ckIf mX11_cheapest 11 0 b_X11_cheapest_0 1 2 8 9 4 = true := by decide +kernel
def b_X11_cheapest_4 : List IE := [(.iload_n 1, 1, 0, 0, 1, 0), (.iconst 1, 1, 1, 0, 0, 0)]
theorem k_X11_cheapest_4 : ckIc mX11_cheapest 11 4 b_X11_cheapest_4 6 5 6 12 9 = true := by decide +kernel
def b_X11_cheapest_9 : List IE := [(.bipush (-2), 2, (-2), 0, 0, 0)]
theorem k_X11_cheapest_9 : ckI mX11_cheapest 11 9 b_X11_cheapest_9 11 = true := by decide +kernel
def b_X11_cheapest_12 : List IE := [(.aload_n 0, 1, 0, 0, 0, 0), (.getfield 25, 3, 0, 11, 3, 1), (.getfield 153, 3, 0, 9, 2, 0), (.istore_n 2, 1, 0, 0, 2, 0), (.iload_n 2, 1, 0, 0, 2, 0), (.iconst 2, 1, 2, 0, 0, 0)]
theorem k_X11_cheapest_12 : ckIc mX11_cheapest 11 12 b_X11_cheapest_12 22 3 13 35 25 = true := by decide +kernel
def b_X11_cheapest_25 : List IE := [(.iload_n 1, 1, 0, 0, 1, 0)]
theorem k_X11_cheapest_25 : ckIf mX11_cheapest 11 25 b_X11_cheapest_25 26 1 7 33 29 = true := by decide +kernel
def b_X11_cheapest_29 : List IE := [(.iconst 0, 1, 0, 0, 0, 0)]
theorem k_X11_cheapest_29 : ckGo mX11_cheapest 11 29 b_X11_cheapest_29 30 4 34 = true := by decide +kernel
def b_X11_cheapest_33 : List IE := [(.iconst (-1), 1, (-1), 0, 0, 0)]
theorem k_X11_cheapest_33 : ckI mX11_cheapest 11 33 b_X11_cheapest_33 34 = true := by decide +kernel
def b_X11_cheapest_34 : List IE := []
theorem k_X11_cheapest_34 : ckI mX11_cheapest 11 34 b_X11_cheapest_34 34 = true := by decide +kernel
def b_X11_cheapest_35 : List IE := [(.iload_n 2, 1, 0, 0, 2, 0), (.iconst 1, 1, 1, 0, 0, 0), (.isub, 1, 0, 0, 0, 0), (.istore_n 3, 1, 0, 0, 3, 0)]
theorem k_X11_cheapest_35 : ckB mX11_cheapest 11 35 b_X11_cheapest_35 39 = true := by decide +kernel
def b_X11_cheapest_39 : List IE := [(.iload_n 3, 1, 0, 0, 3, 0)]
theorem k_X11_cheapest_39 : ckIf mX11_cheapest 11 39 b_X11_cheapest_39 40 2 81 121 43 = true := by decide +kernel
def b_X11_cheapest_43 : List IE := [(.aload_n 0, 1, 0, 0, 0, 0), (.getfield 98, 3, 0, 11, 19, 1), (.iload_n 3, 1, 0, 0, 3, 0), (.bipush 8, 2, 8, 0, 0, 0), (.imul, 1, 0, 0, 0, 0), (.iload_n 3, 1, 0, 0, 3, 0), (.iadd, 1, 0, 0, 0, 0), (.iconst 0, 1, 0, 0, 0, 0), (.iastore, 1, 0, 0, 0, 0), (.iload_n 3, 1, 0, 0, 3, 0), (.iconst 1, 1, 1, 0, 0, 0), (.iadd, 1, 0, 0, 0, 0), (.istore 4, 2, 0, 0, 4, 0)]
theorem k_X11_cheapest_43 : ckB mX11_cheapest 11 43 b_X11_cheapest_43 60 = true := by decide +kernel
def b_X11_cheapest_60 : List IE := [(.iload 4, 2, 0, 0, 4, 0), (.iload_n 2, 1, 0, 0, 2, 0)]
theorem k_X11_cheapest_60 : ckIc mX11_cheapest 11 60 b_X11_cheapest_60 63 3 52 115 66 = true := by decide +kernel
def b_X11_cheapest_66 : List IE := [(.aload_n 0, 1, 0, 0, 0, 0), (.iload_n 3, 1, 0, 0, 3, 0), (.iload 4, 2, 0, 0, 4, 0)]
theorem k_X11_cheapest_66 : ckB mX11_cheapest 11 66 b_X11_cheapest_66 70 = true := by decide +kernel
def b_X11_cheapest_73 : List IE := [(.istore 5, 2, 0, 0, 5, 0), (.aload_n 0, 1, 0, 0, 0, 0), (.getfield 98, 3, 0, 11, 19, 1), (.iload_n 3, 1, 0, 0, 3, 0), (.bipush 8, 2, 8, 0, 0, 0), (.imul, 1, 0, 0, 0, 0), (.iload 4, 2, 0, 0, 4, 0), (.iadd, 1, 0, 0, 0, 0), (.aload_n 0, 1, 0, 0, 0, 0), (.iload_n 3, 1, 0, 0, 3, 0), (.iload 5, 2, 0, 0, 5, 0), (.iload 4, 2, 0, 0, 4, 0)]
theorem k_X11_cheapest_73 : ckB mX11_cheapest 11 73 b_X11_cheapest_73 92 = true := by decide +kernel
def b_X11_cheapest_95 : List IE := [(.aload_n 0, 1, 0, 0, 0, 0), (.getfield 25, 3, 0, 11, 3, 1), (.iload_n 3, 1, 0, 0, 3, 0), (.iload 4, 2, 0, 0, 4, 0), (.iconst 1, 1, 1, 0, 0, 0), (.iadd, 1, 0, 0, 0, 0)]
theorem k_X11_cheapest_95 : ckB mX11_cheapest 11 95 b_X11_cheapest_95 104 = true := by decide +kernel
def b_X11_cheapest_107 : List IE := [(.iadd, 1, 0, 0, 0, 0), (.iastore, 1, 0, 0, 0, 0), (.iinc 4 1, 3, 1, 0, 4, 0)]
theorem k_X11_cheapest_107 : ckGo mX11_cheapest 11 107 b_X11_cheapest_107 112 (-52) 60 = true := by decide +kernel
def b_X11_cheapest_115 : List IE := [(.iinc 3 (-1), 3, (-1), 0, 3, 0)]
theorem k_X11_cheapest_115 : ckGo mX11_cheapest 11 115 b_X11_cheapest_115 118 (-79) 39 = true := by decide +kernel
def b_X11_cheapest_121 : List IE := [(.iload_n 1, 1, 0, 0, 1, 0)]
theorem k_X11_cheapest_121 : ckIf mX11_cheapest 11 121 b_X11_cheapest_121 122 1 14 136 125 = true := by decide +kernel
def b_X11_cheapest_125 : List IE := [(.aload_n 0, 1, 0, 0, 0, 0), (.getfield 98, 3, 0, 11, 19, 1), (.iload_n 2, 1, 0, 0, 2, 0), (.iconst 1, 1, 1, 0, 0, 0), (.isub, 1, 0, 0, 0, 0), (.iaload, 1, 0, 0, 0, 0)]
theorem k_X11_cheapest_125 : ckGo mX11_cheapest 11 125 b_X11_cheapest_125 133 11 144 = true := by decide +kernel
def b_X11_cheapest_136 : List IE := [(.aload_n 0, 1, 0, 0, 0, 0), (.iconst 0, 1, 0, 0, 0, 0), (.iload_n 2, 1, 0, 0, 2, 0), (.iconst 1, 1, 1, 0, 0, 0), (.isub, 1, 0, 0, 0, 0)]
theorem k_X11_cheapest_136 : ckB mX11_cheapest 11 136 b_X11_cheapest_136 141 = true := by decide +kernel
def b_X11_cheapest_144 : List IE := []
theorem k_X11_cheapest_144 : ckI mX11_cheapest 11 144 b_X11_cheapest_144 144 = true := by decide +kernel
theorem s_X11_cheapest_70 : cV mX11_cheapest 70 mX11_leastSplit 274 2 11 := ⟨by decide +kernel, ⟨ml_X11_leastSplit, li_RX11_274, im_X11_leastSplit, se_X11_leastSplit⟩, ⟨by decide +kernel, by decide +kernel⟩, by decide +kernel⟩
theorem s_X11_cheapest_92 : cV mX11_cheapest 92 mX11_splitCost 277 3 11 := ⟨by decide +kernel, ⟨ml_X11_splitCost, li_RX11_277, im_X11_splitCost, se_X11_splitCost⟩, ⟨by decide +kernel, by decide +kernel⟩, by decide +kernel⟩
theorem s_X11_cheapest_104 : cV mX11_cheapest 104 mX9_liveBetween 247 2 9 := ⟨by decide +kernel, ⟨ml_X9_liveBetween, li_RX11_247, im_X9_liveBetween, se_X9_liveBetween⟩, ⟨by decide +kernel, by decide +kernel⟩, by decide +kernel⟩
theorem s_X11_cheapest_141 : cV mX11_cheapest 141 mX11_leastSplit 274 2 11 := ⟨by decide +kernel, ⟨ml_X11_leastSplit, li_RX11_274, im_X11_leastSplit, se_X11_leastSplit⟩, ⟨by decide +kernel, by decide +kernel⟩, by decide +kernel⟩
theorem t_X11_cheapest_0 {rc rs : Nat} {Q : Option AV → AH → Prop} {h : AH} {x1 : Int} (hL : LayL h) (hv : ((x1 < 0 → Q (some (vi (-2))) h) ∧ (0 ≤ x1 → ((x1 ≤ 1 → ((2 ≤ (iH h 5 2) → (-2147483648 ≤ (iH h 5 2 - 1) ∧ (iH h 5 2 - 1) < 2147483648) ∧ wp mX11_cheapest 3 rc rs Q 39 [some (vr 0), some (vi x1), some (vi (iH h 5 2)), some (vi (iH h 5 2 - 1)), none, none] [] h) ∧ ((iH h 5 2) < 2 → ((x1 ≠ 0 → Q (some (vi (-1))) h) ∧ (x1 = 0 → Q (some (vi 0)) h))))) ∧ (1 < x1 → Q (some (vi (-2))) h))))) : wp mX11_cheapest 3 rc rs Q 0 [some (vr 0), some (vi x1), none, none, none, none] [] h :=
  (show wp mX11_cheapest 3 rc rs Q 0 [some (vr 0), some (vi x1), none, none, none, none] [] h from xIf k_X11_cheapest_0 (And.intro (fun c1 => have v3 := hv.1 c1; (show wp mX11_cheapest 3 rc rs Q 9 [some (vr 0), some (vi x1), none, none, none, none] [] h from xI k_X11_cheapest_9 (And.intro rfl v3))) (fun c2 => have v4 := hv.2 (Int.not_lt.mp c2); (show wp mX11_cheapest 3 rc rs Q 4 [some (vr 0), some (vi x1), none, none, none, none] [] h from xIc k_X11_cheapest_4 (And.intro (fun c5 => have v7 := v4.1 c5; (show wp mX11_cheapest 3 rc rs Q 12 [some (vr 0), some (vi x1), none, none, none, none] [] h from xIc k_X11_cheapest_12 (And.intro (ll_0 hL) (Exists.intro 5 (And.intro (lg_0_3 hL) (And.intro (ll_5 hL) (And.intro rfl (And.intro (fun c9 => have v11 := v7.1 c9; (show wp mX11_cheapest 3 rc rs Q 35 [some (vr 0), some (vi x1), some (vi (iH h 5 2)), none, none, none] [] h from xB k_X11_cheapest_35 (have c13 := v11.1; have v14 := v11.2; (And.intro c13 (And.intro rfl v14))))) (fun c10 => have v12 := v7.2 (Int.not_le.mp c10); (show wp mX11_cheapest 3 rc rs Q 25 [some (vr 0), some (vi x1), some (vi (iH h 5 2)), none, none, none] [] h from xIf k_X11_cheapest_25 (And.intro (fun c15 => have v17 := v12.1 c15; (show wp mX11_cheapest 3 rc rs Q 33 [some (vr 0), some (vi x1), some (vi (iH h 5 2)), none, none, none] [] h from xI k_X11_cheapest_33 (And.intro rfl v17))) (fun c16 => have v18 := v12.2 (Decidable.not_not.mp c16); (show wp mX11_cheapest 3 rc rs Q 29 [some (vr 0), some (vi x1), some (vi (iH h 5 2)), none, none, none] [] h from xGo k_X11_cheapest_29 (show wp mX11_cheapest 3 rc rs Q 34 [some (vr 0), some (vi x1), some (vi (iH h 5 2)), none, none, none] [vi 0] h from xI k_X11_cheapest_34 (And.intro rfl v18))))))))))))))) (fun c6 => have v8 := v4.2 (Int.not_le.mp c6); (show wp mX11_cheapest 3 rc rs Q 9 [some (vr 0), some (vi x1), none, none, none, none] [] h from xI k_X11_cheapest_9 (And.intro rfl v8))))))))
theorem e_X11_cheapest {mc ms : Nat} {Q : Option AV → AH → Prop} {h : AH} {x1 : Int} (hL : LayL h) (hv : ((x1 < 0 → Q (some (vi (-2))) h) ∧ (0 ≤ x1 → ((x1 ≤ 1 → ((2 ≤ (iH h 5 2) → (-2147483648 ≤ (iH h 5 2 - 1) ∧ (iH h 5 2 - 1) < 2147483648) ∧ wp mX11_cheapest 3 mc ms Q 39 [some (vr 0), some (vi x1), some (vi (iH h 5 2)), some (vi (iH h 5 2 - 1)), none, none] [] h) ∧ ((iH h 5 2) < 2 → ((x1 ≠ 0 → Q (some (vi (-1))) h) ∧ (x1 = 0 → Q (some (vi 0)) h))))) ∧ (1 < x1 → Q (some (vi (-2))) h))))) : Ct 3 mc ms mX11_cheapest [vr 0, vi x1] h Q := Ct.of (by decide +kernel) (Nat.le_of_ble_eq_true rfl) (t_X11_cheapest_0 hL hv)
theorem t_X11_cheapest_39 {rc rs : Nat} {Q : Option AV → AH → Prop} {h : AH} {x1 x2 x3 : Int} (hL : LayL h) (hv : ((x3 < 0 → ((x1 ≠ 0 → (-2147483648 ≤ (x2 - 1) ∧ (x2 - 1) < 2147483648) ∧ (∃ P12 : Int → AH → Prop, Ct 1 0 0 mX11_leastSplit [vr 0, vi 0, vi (x2 - 1)] h (QI P12) ∧ ∀ (r11 : Int) (h10 : AH), (-2147483648 ≤ r11 ∧ r11 < 2147483648) → P12 r11 h10 → LayL h10 ∧ Q (some (vi r11)) h10)) ∧ (x1 = 0 → (-2147483648 ≤ (x2 - 1) ∧ (x2 - 1) < 2147483648) ∧ (0 ≤ (x2 - 1) ∧ (x2 - 1) < 64) ∧ Q (some (vi (iH h 32 ((x2 - 1).toNat)))) h))) ∧ (0 ≤ x3 → (-2147483648 ≤ (x3 * 8) ∧ (x3 * 8) < 2147483648) ∧ (-2147483648 ≤ ((x3 * 8) + x3) ∧ ((x3 * 8) + x3) < 2147483648) ∧ (0 ≤ ((x3 * 8) + x3) ∧ ((x3 * 8) + x3) < 64) ∧ (-2147483648 ≤ (x3 + 1) ∧ (x3 + 1) < 2147483648) ∧ wp mX11_cheapest 3 rc rs Q 60 [some (vr 0), some (vi x1), some (vi x2), some (vi x3), some (vi (x3 + 1)), none] [] (sI h 32 (((x3 * 8) + x3).toNat) 0)))) : wp mX11_cheapest 3 rc rs Q 39 [some (vr 0), some (vi x1), some (vi x2), some (vi x3), none, none] [] h :=
  (show wp mX11_cheapest 3 rc rs Q 39 [some (vr 0), some (vi x1), some (vi x2), some (vi x3), none, none] [] h from xIf k_X11_cheapest_39 (And.intro (fun c1 => have v3 := hv.1 c1; (show wp mX11_cheapest 3 rc rs Q 121 [some (vr 0), some (vi x1), some (vi x2), some (vi x3), none, none] [] h from xIf k_X11_cheapest_121 (And.intro (fun c5 => have v7 := v3.1 c5; (show wp mX11_cheapest 3 rc rs Q 136 [some (vr 0), some (vi x1), some (vi x2), some (vi x3), none, none] [] h from xcV k_X11_cheapest_136 s_X11_cheapest_141 (have c9 := v7.1; have v17 := v7.2; (And.intro c9 (Exists.elim v17 (fun P12 v13 => (Exists.intro [vi 0, vi (x2 - 1)] (Exists.intro 0 (Exists.intro [] (And.intro (And.intro rfl (And.intro rfl (Nat.le_of_ble_eq_true rfl))) (And.intro (ll_0 hL) (Exists.intro 1 (Exists.intro 0 (Exists.intro 0 (Exists.intro (QI P12) (And.intro v13.1 (And.intro (And.intro (by decide) (And.intro (Nat.zero_le _) (Nat.zero_le _))) (eQI (fun r11 h10 q16 e15 => have v14 := v13.2 r11 h10 q16 e15; have hL := v14.1; have v14 := v14.2; (show wp mX11_cheapest 3 rc rs Q 144 [some (vr 0), some (vi x1), some (vi x2), some (vi x3), none, none] [vi r11] h10 from xI k_X11_cheapest_144 (And.intro rfl v14))))))))))))))))))))) (fun c6 => have v8 := v3.2 (Decidable.not_not.mp c6); (show wp mX11_cheapest 3 rc rs Q 125 [some (vr 0), some (vi x1), some (vi x2), some (vi x3), none, none] [] h from xGo k_X11_cheapest_125 (And.intro (ll_0 hL) (Exists.intro 32 (And.intro (lg_0_19 hL) (have c18 := v8.1; have v21 := v8.2; (And.intro c18 (have c19 := v21.1; have v20 := v21.2; (And.intro (sdI (ll_32 hL) c19) (show wp mX11_cheapest 3 rc rs Q 144 [some (vr 0), some (vi x1), some (vi x2), some (vi x3), none, none] [vi (iH h 32 ((x2 - 1).toNat))] h from xI k_X11_cheapest_144 (And.intro rfl v20)))))))))))))) (fun c2 => have v4 := hv.2 (Int.not_lt.mp c2); (show wp mX11_cheapest 3 rc rs Q 43 [some (vr 0), some (vi x1), some (vi x2), some (vi x3), none, none] [] h from xB k_X11_cheapest_43 (And.intro (ll_0 hL) (Exists.intro 32 (And.intro (lg_0_19 hL) (have c22 := v4.1; have v29 := v4.2; (And.intro c22 (have c23 := v29.1; have v28 := v29.2; (And.intro c23 (have c24 := v28.1; have v27 := v28.2; (And.intro (sdI (ll_32 hL) c24) (have c25 := v27.1; have v26 := v27.2; (And.intro c25 (And.intro rfl v26))))))))))))))))
theorem t_X11_cheapest_60 {rc rs : Nat} {Q : Option AV → AH → Prop} {h : AH} {sa : Nat → Nat} {da : Nat → Nat} {g : AH} {x1 x2 x3 x4 : Int} (hL : LayL h) (hv : ((x2 ≤ x4 → (-2147483648 ≤ (x3 + (-1)) ∧ (x3 + (-1)) < 2147483648) ∧ wp mX11_cheapest 3 rc rs Q 39 [some (vr 0), some (vi x1), some (vi x2), some (vi (x3 + (-1))), none, none] [] h) ∧ (x4 < x2 → (∃ P9 : Int → AH → Prop, Ct 1 0 0 mX11_leastSplit [vr 0, vi x3, vi x4] h (QI P9) ∧ ∀ (r8 : Int) (h7 : AH), (-2147483648 ≤ r8 ∧ r8 < 2147483648) → P9 r8 h7 → LayL h7 ∧ (-2147483648 ≤ (x3 * 8) ∧ (x3 * 8) < 2147483648) ∧ (-2147483648 ≤ ((x3 * 8) + x4) ∧ ((x3 * 8) + x4) < 2147483648) ∧ (∃ P14 : Int → AH → Prop, Ct 0 0 0 mX11_splitCost [vr 0, vi x3, vi r8, vi x4] h7 (QI P14) ∧ ∀ (r13 : Int) (h12 : AH), (-2147483648 ≤ r13 ∧ r13 < 2147483648) → P14 r13 h12 → LayL h12 ∧ (-2147483648 ≤ (x4 + 1) ∧ (x4 + 1) < 2147483648) ∧ (5 = 5 ∧ cRd h12 g da sa ∧ 0 ≤ x3 ∧ x3 ≤ (x4 + 1) ∧ (x4 + 1) ≤ iH g 89 13) ∧ (-2147483648 ≤ (r13 + (m_liveIn g x3 ((x4 + 1) - x3))) ∧ (r13 + (m_liveIn g x3 ((x4 + 1) - x3))) < 2147483648) ∧ (0 ≤ ((x3 * 8) + x4) ∧ ((x3 * 8) + x4) < 64) ∧ wp mX11_cheapest 3 rc rs Q 60 [some (vr 0), some (vi x1), some (vi x2), some (vi x3), some (vi (x4 + 1)), none] [] (sI h12 32 (((x3 * 8) + x4).toNat) (r13 + (m_liveIn g x3 ((x4 + 1) - x3))))))))) : wp mX11_cheapest 3 rc rs Q 60 [some (vr 0), some (vi x1), some (vi x2), some (vi x3), some (vi x4), none] [] h :=
  (show wp mX11_cheapest 3 rc rs Q 60 [some (vr 0), some (vi x1), some (vi x2), some (vi x3), some (vi x4), none] [] h from xIc k_X11_cheapest_60 (And.intro (fun c1 => have v3 := hv.1 c1; (show wp mX11_cheapest 3 rc rs Q 115 [some (vr 0), some (vi x1), some (vi x2), some (vi x3), some (vi x4), none] [] h from xGo k_X11_cheapest_115 (have c5 := v3.1; have v6 := v3.2; (And.intro c5 (And.intro rfl (w_fg [true, true, true, true, false, false] v6)))))) (fun c2 => have v4 := hv.2 (Int.not_le.mp c2); (show wp mX11_cheapest 3 rc rs Q 66 [some (vr 0), some (vi x1), some (vi x2), some (vi x3), some (vi x4), none] [] h from xcV k_X11_cheapest_66 s_X11_cheapest_70 (Exists.elim v4 (fun P9 v31 => (Exists.intro [vi x3, vi x4] (Exists.intro 0 (Exists.intro [] (And.intro (And.intro rfl (And.intro rfl (Nat.le_of_ble_eq_true rfl))) (And.intro (ll_0 hL) (Exists.intro 1 (Exists.intro 0 (Exists.intro 0 (Exists.intro (QI P9) (And.intro v31.1 (And.intro (And.intro (by decide) (And.intro (Nat.zero_le _) (Nat.zero_le _))) (eQI (fun r8 h7 q34 e33 => have v32 := v31.2 r8 h7 q34 e33; have hL := v32.1; have v32 := v32.2; (show wp mX11_cheapest 3 rc rs Q 73 [some (vr 0), some (vi x1), some (vi x2), some (vi x3), some (vi x4), none] [vi r8] h7 from xcV k_X11_cheapest_73 s_X11_cheapest_92 (And.intro rfl (And.intro (ll_0 hL) (Exists.intro 32 (And.intro (lg_0_19 hL) (have c10 := v32.1; have v30 := v32.2; (And.intro c10 (have c11 := v30.1; have v29 := v30.2; (And.intro c11 (Exists.elim v29 (fun P14 v25 => (Exists.intro [vi x3, vi r8, vi x4] (Exists.intro 0 (Exists.intro [vi ((x3 * 8) + x4), vr 32] (And.intro (And.intro rfl (And.intro rfl (Nat.le_of_ble_eq_true rfl))) (And.intro (ll_0 hL) (Exists.intro 0 (Exists.intro 0 (Exists.intro 0 (Exists.intro (QI P14) (And.intro v25.1 (And.intro (And.intro (by decide) (And.intro (Nat.zero_le _) (Nat.zero_le _))) (eQI (fun r13 h12 q28 e27 => have v26 := v25.2 r13 h12 q28 e27; have hL := v26.1; have v26 := v26.2; (show wp mX11_cheapest 3 rc rs Q 95 [some (vr 0), some (vi x1), some (vi x2), some (vi x3), some (vi x4), some (vi r8)] [vi r13, vi ((x3 * 8) + x4), vr 32] h12 from xcV k_X11_cheapest_95 s_X11_cheapest_104 (And.intro (ll_0 hL) (Exists.intro 5 (And.intro (lg_0_3 hL) (have c15 := v26.1; have v24 := v26.2; (And.intro c15 (have c21 := v24.1; have v22 := v24.2; (Exists.intro [vi x3, vi (x4 + 1)] (Exists.intro 5 (Exists.intro [vi r13, vi ((x3 * 8) + x4), vr 32] (And.intro (And.intro rfl (And.intro rfl (Nat.le_of_ble_eq_true rfl))) (And.intro (ll_5 hL) (Exists.intro 2 (Exists.intro 0 (Exists.intro 0 (Exists.intro _ (And.intro (l_liveBetween (h := h12) hL c21) (And.intro (And.intro (by decide) (And.intro (Nat.zero_le _) (Nat.zero_le _))) (eQP (show wp mX11_cheapest 3 rc rs Q 107 [some (vr 0), some (vi x1), some (vi x2), some (vi x3), some (vi x4), some (vi r8)] [vi (m_liveIn g x3 ((x4 + 1) - x3)), vi r13, vi ((x3 * 8) + x4), vr 32] h12 from xGo k_X11_cheapest_107 (have c16 := v22.1; have v20 := v22.2; (And.intro c16 (have c17 := v20.1; have v19 := v20.2; (And.intro (sdI (ll_32 hL) c17) (And.intro c15 (And.intro rfl (w_fg [true, true, true, true, true, false] v19))))))))))))))))))))))))))))))))))))))))))))))))))))))))))))))))))))))
def cTb (A : AH) (a b : Nat) : Int := iH A 32 (8 * a + b)
def cSp (A : AH) (a b i : Nat) : Int := cTb A a (a + i) + cTb A (a + i + 1) b
theorem l_splitCost {A : AH} (hL : LayL A) {a i b : Nat} (hb : a + i < b ∧ b < 8) (h1 : 0 ≤ cTb A a (a + i) ∧ cTb A a (a + i) ≤ 100000) (h2 : 0 ≤ cTb A (a + i + 1) b ∧ cTb A (a + i + 1) b ≤ 100000) : Ct 0 0 0 mX11_splitCost [vr 0, vi a, vi ((a + i + 1 : Nat) : Int), vi b] A (QI fun x h' => x = cSp A a b i ∧ h' = A) := by
  refine e_X11_splitCost hL ?_
  have e1 : ((a : Int) * 8 + ((a + i + 1 : Nat) : Int) - 1).toNat = 8 * a + (a + i) := by omega
  have e2 : (((a + i + 1 : Nat) : Int) * 8 + (b : Int)).toNat = 8 * (a + i + 1) + b := by omega
  rw [e1, e2]
  unfold cTb at h1 h2
  exact ⟨by omega, by omega, by omega, by omega, by omega, by omega, by omega, by omega, _, rfl, rfl, rfl⟩
theorem l_leastSplit {A : AH} (hL : LayL A) {a n : Nat} (hb : 1 ≤ n ∧ a + n < 8) (h1 : ∀ i, i < n → (0 ≤ cTb A a (a + i) ∧ cTb A a (a + i) ≤ 100000) ∧ 0 ≤ cTb A (a + i + 1) (a + n) ∧ cTb A (a + i + 1) (a + n) ≤ 100000) : Ct 1 0 0 mX11_leastSplit [vr 0, vi a, vi ((a + n : Nat) : Int)] A (QI fun x h' => (∃ p : Nat, p < n ∧ x = ((a + p + 1 : Nat) : Int) ∧ (∀ i, i < n → cSp A a (a + n) p ≤ cSp A a (a + n) i) ∧ ∀ i, i < p → cSp A a (a + n) p < cSp A a (a + n) i) ∧ h' = A) := by
  have main : ∀ s : Nat, 1 ≤ s → s ≤ n → ∀ p : Nat, p < s → (∀ i, i < s → cSp A a (a + n) p ≤ cSp A a (a + n) i) → (∀ i, i < p → cSp A a (a + n) p < cSp A a (a + n) i) → wp mX11_leastSplit 1 0 0 (QI fun x h' => (∃ p : Nat, p < n ∧ x = ((a + p + 1 : Nat) : Int) ∧ (∀ i, i < n → cSp A a (a + n) p ≤ cSp A a (a + n) i) ∧ ∀ i, i < p → cSp A a (a + n) p < cSp A a (a + n) i) ∧ h' = A) 9 [some (vr 0), some (vi a), some (vi ((a + n : Nat) : Int)), some (vi ((a + p + 1 : Nat) : Int)), some (vi ((a + s + 1 : Nat) : Int))] [] A := by
    refine dn n (fun s hs s1 s2 p p1 p2 p3 => ?_) (fun s hs ih s1 s2 p p1 p2 p3 => ?_)
    · have : s = n := by omega
      subst this
      exact t_X11_leastSplit_9 hL ⟨fun _ => ⟨_, rfl, ⟨p, p1, rfl, p2, p3⟩, rfl⟩, fun c => absurd c (by omega)⟩
    · refine t_X11_leastSplit_9 hL ⟨fun c => absurd c (by omega), fun _ => ⟨_, l_splitCost hL (by omega) (h1 s hs).1 (h1 s hs).2, fun x h2 _ hx => ?_⟩⟩
      obtain ⟨rfl, rfl⟩ := hx
      refine ⟨hL, _, l_splitCost hL (by omega) (h1 p (by omega)).1 (h1 p (by omega)).2, fun x h3 _ hx => ?_⟩
      obtain ⟨rfl, rfl⟩ := hx
      have e : ((a + s + 1 : Nat) : Int) + 1 = ((a + (s + 1) + 1 : Nat) : Int) := by omega
      rw [e]
      refine ⟨hL, fun c => ⟨by omega, ih (by omega) (by omega) p (by omega) (fun i hi => ?_) p3⟩, fun c => ⟨by omega, ih (by omega) (by omega) s (by omega) (fun i hi => ?_) (fun i hi => ?_)⟩⟩
      · by_cases e2 : i = s
        · subst e2; exact c
        · exact p2 i (by omega)
      · by_cases e2 : i = s
        · subst e2; exact Int.le_refl _
        · have := p2 i (by omega); omega
      · have := p2 i hi; omega
  refine e_X11_leastSplit hL ⟨by omega, by omega, ?_⟩
  have := main 1 (by omega) hb.1 0 (by omega) (fun i hi => by rw [show i = 0 by omega]; exact Int.le_refl _) (fun i hi => absurd hi (Nat.not_lt_zero _))
  rw [show ((a + 0 + 1 : Nat) : Int) = (a : Int) + 1 by omega, show ((a + 1 + 1 : Nat) : Int) = (a : Int) + 2 by omega] at this
  exact this
theorem l_cheapest {h g : AH} {da sa : Nat → Nat} (hL : LayL h) {w : Int} (hc : cRd h g da sa) : Ct 3 0 0 mX11_cheapest [vr 0, vi w] h (QI fun x h' => x = a_cheapest g w ∧ LayL h' ∧ agX scL h h') := by
  have hn := nowOf hc
  have h8 := hn.1
  obtain ⟨N, hN⟩ := Int.eq_ofNat_of_zero_le h8.1
  have e52 : iH h 5 2 = (N : Int) := by rw [hc.2.2.1, hN]
  have eN : (iH g 89 13).toNat = N := by omega
  have tbd := c_tb_bd (m_Lv_bd hn) 8 (Nat.le_refl _)
  have agC : ∀ C, agX scL h (sW h 32 C) := fun C => ⟨rfl, fun _ => rfl, fun _ _ => rfl, fun x hx => ⟨fun k => rW_ne (by unfold scL at hx; omega), fun _ => rfl⟩⟩
  have L : ∀ C, LayL (sW h 32 C) := fun C => hL
  have cC : ∀ C, cRd (sW h 32 C) g da sa := fun C => cRd_fr (agX_D (fun x hx => by unfold scL at hx; omega) (agC C)) (rW_ne (by decide)) (fun _ => rfl) (fun _ => rfl) hc
  have r32 : ∀ C k, iH (sW h 32 C) 32 k = C k := fun C k => rW_same
  have tC : ∀ C a b, cTb (sW h 32 C) a b = C (8 * a + b) := fun C a b => rW_same
  refine e_X11_cheapest hL ?_
  rw [e52]
  refine ⟨fun c => ⟨_, rfl, (if_pos (by omega)).symm, hL, agX_rf⟩, fun c => ⟨fun c1 => ⟨fun c2 => ⟨by omega, ?_⟩, fun c2 => ⟨fun c3 => ⟨_, rfl, ?_, hL, agX_rf⟩, fun c3 => ⟨_, rfl, ?_, hL, agX_rf⟩⟩⟩, fun c1 => ⟨_, rfl, (if_pos (by omega)).symm, hL, agX_rf⟩⟩⟩
  · -- what stands in the table is the reference's
    let OK : Nat → (Nat → Int) → Prop := fun f C => ∀ a b : Nat, f ≤ a → a ≤ b → b < N → C (8 * a + b) = c_tb (m_Lv g) a b
    have val : ∀ (C : Nat → Int) (a n : Nat), 1 ≤ n → a + n < N → OK (a + 1) C → (∀ b, a ≤ b → b < a + n → C (8 * a + b) = c_tb (m_Lv g) a b) → (∀ i, i < n → (0 ≤ cTb (sW h 32 C) a (a + i) ∧ cTb (sW h 32 C) a (a + i) ≤ 100000) ∧ 0 ≤ cTb (sW h 32 C) (a + i + 1) (a + n) ∧ cTb (sW h 32 C) (a + i + 1) (a + n) ≤ 100000) ∧ ∀ i, i < n → cSp (sW h 32 C) a (a + n) i + m_Lv g a (a + n) = c_cd (c_tb (m_Lv g)) a (a + n) (m_Lv g a (a + n)) i := fun C a n n1 n2 h1 h2 => by
      refine ⟨fun i hi => ?_, fun i hi => ?_⟩
      · have t1 := tbd i (by omega) a
        have t2 := tbd (n - (i + 1)) (by omega) (a + i + 1)
        rw [show a + i + 1 + (n - (i + 1)) = a + n by omega] at t2
        rw [tC, tC, h2 (a + i) (by omega) (by omega), h1 (a + i + 1) (a + n) (by omega) (by omega) (by omega)]
        omega
      · unfold cSp c_cd
        rw [tC, tC, h2 (a + i) (by omega) (by omega), h1 (a + i + 1) (a + n) (by omega) (by omega) (by omega)]
    have least : ∀ (C : Nat → Int) (a n p : Nat), 1 ≤ n → a + n < N → OK (a + 1) C → (∀ b, a ≤ b → b < a + n → C (8 * a + b) = c_tb (m_Lv g) a b) → p < n → (∀ i, i < n → cSp (sW h 32 C) a (a + n) p ≤ cSp (sW h 32 C) a (a + n) i) → cSp (sW h 32 C) a (a + n) p + m_Lv g a (a + n) = c_tb (m_Lv g) a (a + n) := fun C a n p n1 n2 h1 h2 hp hmin => by
      obtain ⟨v1, v2⟩ := val C a n n1 n2 h1 h2
      obtain ⟨m, rfl⟩ : ∃ m, n = m + 1 := ⟨n - 1, by omega⟩
      rw [c_tb_s (by omega)]
      have nn : ∀ i, i < m + 1 → 0 ≤ c_cd (c_tb (m_Lv g)) a (a + (m + 1)) (m_Lv g a (a + (m + 1))) i := fun i hi => by
        have := v2 i hi
        have := (v1 i hi)
        have := (m_Lv_bd hn a (a + (m + 1))).1
        unfold cSp at *
        omega
      obtain ⟨⟨i, hi, e⟩, hle⟩ := bst_min (C := c_tb (m_Lv g)) (a := a) (b := a + (m + 1)) (t := m_Lv g a (a + (m + 1))) m nn
      have a1 := hle p hp
      have a2 := v2 p hp
      have a3 := v2 i hi
      have a4 := hmin i hi
      omega
    have main := up (P := fun k => ∀ C, OK (N - k) C → wp mX11_cheapest 3 0 0 (QI fun x h' => x = a_cheapest g w ∧ LayL h' ∧ agX scL h h') 39 [some (vr 0), some (vi w), some (vi N), some (vi ((N : Int) - 1 - (k : Int))), none, none] [] (sW h 32 C)) N ?_ ?_
    · have := main (iH h 32) (fun a b h1 h2 h3 => by omega)
      rw [sW_id (fun k => rfl), show (N : Int) - 1 - ((0 : Nat) : Int) = (N : Int) - 1 by omega] at this
      exact this
    · intro C hC
      rw [Nat.sub_self] at hC
      have hC' : OK (0 + 1) C := fun a b h1 h2 h3 => hC a b (by omega) h2 h3
      have hC2 : ∀ b, 0 ≤ b → b < 0 + (N - 1) → C (8 * 0 + b) = c_tb (m_Lv g) 0 b := fun b _ h3 => hC 0 b (Nat.le_refl _) (Nat.zero_le _) (by omega)
      have v := val C 0 (N - 1) (by omega) (by omega) hC' hC2
      refine t_X11_cheapest_39 (L C) ⟨fun _ => ⟨fun c3 => ?_, fun c3 => ?_⟩, fun u => absurd u (by omega)⟩
      · rw [show (N : Int) - 1 = ((0 + (N - 1) : Nat) : Int) by omega]
        refine ⟨by omega, _, l_leastSplit (L C) (a := 0) (n := N - 1) (by omega) v.1, fun x h2 _ hx => ?_⟩
        obtain ⟨⟨p, p1, rfl, p2, p3⟩, rfl⟩ := hx
        refine ⟨L C, _, rfl, ?_, L C, agC C⟩
        unfold a_cheapest
        rw [if_neg (by omega), if_neg (by omega), if_neg c3, eN]
        have el := least C 0 (N - 1) p (by omega) (by omega) hC' hC2 p1 p2
        have ef : fst (m_splP g) (N - 1) = (p : Nat) := fst_at p1 (fun j hj u => ?_) ?_
        · rw [ef]; omega
        · unfold m_splP m_least at u
          rw [eN] at u
          have a1 := p3 j hj
          have a2 := v.2 j (by omega)
          rw [show 0 + (N - 1) = N - 1 by omega] at a1 a2 el
          omega
        · unfold m_splP m_least
          rw [eN]
          have a2 := v.2 p p1
          rw [show 0 + (N - 1) = N - 1 by omega] at a2 el
          omega
      · have e1 : ((N : Int) - 1).toNat = 8 * 0 + (N - 1) := by omega
        have t := tbd (N - 1) (by omega) 0
        rw [Nat.zero_add] at t
        rw [r32, e1, hC 0 (N - 1) (Nat.le_refl _) (Nat.zero_le _) (by omega)]
        refine ⟨by omega, by omega, _, rfl, ?_, L C, agC C⟩
        unfold a_cheapest m_least
        rw [if_neg (by omega), if_neg (by omega), if_pos c3, eN]
    · intro k hk ih C hC
      obtain ⟨a, ha⟩ : ∃ a : Nat, N = a + k + 1 := ⟨N - k - 1, by omega⟩
      have ea : (N : Int) - 1 - (k : Int) = (a : Int) := by omega
      rw [ea]
      refine t_X11_cheapest_39 (L C) ⟨fun u => absurd u (by omega), fun _ => ⟨by omega, by omega, by omega, by omega, ?_⟩⟩
      rw [show ((a : Int) * 8 + (a : Int)).toNat = 8 * a + a by omega, sI_sW (g' := fun x => if x = 8 * a + a then 0 else C x) (fun _ => rfl), show (a : Int) + 1 = ((a + 1 : Nat) : Int) by omega]
      have main2 := up (P := fun j => ∀ C, OK (a + 1) C → (∀ b, a ≤ b → b < a + 1 + j → C (8 * a + b) = c_tb (m_Lv g) a b) → wp mX11_cheapest 3 0 0 (QI fun x h' => x = a_cheapest g w ∧ LayL h' ∧ agX scL h h') 60 [some (vr 0), some (vi w), some (vi N), some (vi a), some (vi ((a + 1 + j : Nat) : Int)), none] [] (sW h 32 C)) k ?_ ?_
      · refine main2 _ (fun x y h1 h2 h3 => ?_) (fun b h1 h2 => ?_)
        · rw [if_neg (by omega)]
          exact hC x y (by omega) h2 h3
        · have : b = a := by omega
          subst this
          rw [if_pos rfl, c_tb_0]
      · intro C hC1 hC2
        refine t_X11_cheapest_60 (g := g) (da := da) (sa := sa) (L C) ⟨fun _ => ⟨by omega, ?_⟩, fun u => absurd u (by omega)⟩
        rw [show (a : Int) + -1 = (N : Int) - 1 - ((k + 1 : Nat) : Int) by omega]
        refine ih C fun x y h1 h2 h3 => ?_
        by_cases e : x = a
        · subst e; exact hC2 y h2 (by omega)
        · exact hC1 x y (by omega) h2 h3
      · intro j hj ih2 C hC1 hC2
        have v := val C a (1 + j) (by omega) (by omega) hC1 (fun b h1 h2 => hC2 b h1 (by omega))
        refine t_X11_cheapest_60 (g := g) (da := da) (sa := sa) (L C) ⟨fun u => absurd u (by omega), fun _ => ?_⟩
        have en : a + 1 + j = a + (1 + j) := by omega
        rw [en]
        refine ⟨_, l_leastSplit (L C) (a := a) (n := 1 + j) (by omega) v.1, fun x h2 _ hx => ?_⟩
        obtain ⟨⟨p, p1, rfl, p2, p3⟩, rfl⟩ := hx
        refine ⟨L C, by omega, by omega, _, l_splitCost (L C) (by omega) (v.1 p p1).1 (v.1 p p1).2, fun x h3 _ hx => ?_⟩
        obtain ⟨rfl, rfl⟩ := hx
        have el := least C a (1 + j) p (by omega) (by omega) hC1 (fun b h1 h2 => hC2 b h1 (by omega)) p1 p2
        have t := tbd (1 + j) (by omega) a
        have eLv : m_liveIn g (a : Int) (((a + (1 + j) : Nat) : Int) + 1 - (a : Int)) = m_Lv g a (a + (1 + j)) := by
          unfold m_Lv
          rw [if_pos ⟨by omega, by omega⟩]
          congr 1
          omega
        rw [eLv, el]
        refine ⟨L C, by omega, ⟨rfl, cC C, by omega, by omega, by omega⟩, by omega, by omega, ?_⟩
        rw [show ((a : Int) * 8 + ((a + (1 + j) : Nat) : Int)).toNat = 8 * a + (a + (1 + j)) by omega, sI_sW (g' := fun x => if x = 8 * a + (a + (1 + j)) then c_tb (m_Lv g) a (a + (1 + j)) else C x) (fun _ => rfl), show ((a + (1 + j) : Nat) : Int) + 1 = ((a + 1 + (j + 1) : Nat) : Int) by omega]
        refine ih2 _ (fun x y h1 h2 h3 => ?_) (fun b h1 h2 => ?_)
        · rw [if_neg (by omega)]
          exact hC1 x y h1 h2 h3
        · by_cases e : b = a + (1 + j)
          · subst e; rw [if_pos rfl]
          · rw [if_neg (by omega)]
            exact hC2 b h1 (by omega)
  · unfold a_cheapest
    rw [if_neg (by omega), if_pos (by omega), if_neg c3]
  · unfold a_cheapest
    rw [if_neg (by omega), if_pos (by omega), if_pos c3]
