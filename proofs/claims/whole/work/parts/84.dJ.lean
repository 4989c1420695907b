/-! THE INDEX: SILENCE, DROPBY -/
def b_X11_silence_0 : List IE := [(.aload_n 0, 1, 0, 0, 0, 0), (.iload_n 1, 1, 0, 0, 1, 0)]
theorem k_X11_silence_0 : ckB mX11_silence 11 0 b_X11_silence_0 2 = true := by decide +kernel
def b_X11_silence_5 : List IE := []
theorem k_X11_silence_5 : ckIf mX11_silence 11 5 b_X11_silence_5 5 0 14 19 8 = true := by decide +kernel
def b_X11_silence_8 : List IE := [(.iload_n 2, 1, 0, 0, 2, 0)]
theorem k_X11_silence_8 : ckIf mX11_silence 11 8 b_X11_silence_8 9 2 10 19 12 = true := by decide +kernel
def b_X11_silence_12 : List IE := [(.iload_n 2, 1, 0, 0, 2, 0), (.sipush 999, 3, 999, 0, 0, 0)]
theorem k_X11_silence_12 : ckIc mX11_silence 11 12 b_X11_silence_12 16 5 6 22 19 = true := by decide +kernel
def b_X11_silence_19 : List IE := [(.bipush (-2), 2, (-2), 0, 0, 0)]
theorem k_X11_silence_19 : ckI mX11_silence 11 19 b_X11_silence_19 21 = true := by decide +kernel
def b_X11_silence_22 : List IE := [(.aload_n 0, 1, 0, 0, 0, 0), (.getfield 91, 3, 0, 11, 17, 1), (.aload_n 0, 1, 0, 0, 0, 0), (.getfield 62, 3, 0, 11, 12, 1), (.iload_n 1, 1, 0, 0, 1, 0), (.aaload, 1, 0, 0, 0, 0), (.aload_n 0, 1, 0, 0, 0, 0), (.getfield 25, 3, 0, 11, 3, 1)]
theorem k_X11_silence_22 : ckB mX11_silence 11 22 b_X11_silence_22 36 = true := by decide +kernel
def b_X11_silence_39 : List IE := [(.aload_n 0, 1, 0, 0, 0, 0), (.getfield 91, 3, 0, 11, 17, 1), (.getfield 316, 3, 0, 1, 4, 0), (.istore_n 3, 1, 0, 0, 3, 0), (.iconst 0, 1, 0, 0, 0, 0), (.istore 4, 2, 0, 0, 4, 0)]
theorem k_X11_silence_39 : ckB mX11_silence 11 39 b_X11_silence_39 50 = true := by decide +kernel
def b_X11_silence_50 : List IE := [(.iload_n 3, 1, 0, 0, 3, 0), (.iload_n 2, 1, 0, 0, 2, 0)]
theorem k_X11_silence_50 : ckIc mX11_silence 11 50 b_X11_silence_50 52 5 34 86 55 = true := by decide +kernel
def b_X11_silence_55 : List IE := [(.iload 4, 2, 0, 0, 4, 0), (.aload_n 0, 1, 0, 0, 0, 0), (.getfield 91, 3, 0, 11, 17, 1), (.getfield 161, 3, 0, 1, 3, 0)]
theorem k_X11_silence_55 : ckIc mX11_silence 11 55 b_X11_silence_55 64 3 22 86 67 = true := by decide +kernel
def b_X11_silence_67 : List IE := [(.iload_n 3, 1, 0, 0, 3, 0), (.aload_n 0, 1, 0, 0, 0, 0), (.getfield 91, 3, 0, 11, 17, 1), (.getfield 319, 3, 0, 1, 1, 1), (.iload 4, 2, 0, 0, 4, 0), (.iaload, 1, 0, 0, 0, 0), (.isub, 1, 0, 0, 0, 0), (.istore_n 3, 1, 0, 0, 3, 0), (.iinc 4 1, 3, 1, 0, 4, 0)]
theorem k_X11_silence_67 : ckGo mX11_silence 11 67 b_X11_silence_67 83 (-33) 50 = true := by decide +kernel
def b_X11_silence_86 : List IE := [(.iload 4, 2, 0, 0, 4, 0)]
theorem k_X11_silence_86 : ckI mX11_silence 11 86 b_X11_silence_86 88 = true := by decide +kernel
theorem s_X11_silence_2 : cV mX11_silence 2 mX11_isQuery 146 1 11 := ⟨by decide +kernel, ⟨ml_X11_isQuery, li_RX11_146, im_X11_isQuery, se_X11_isQuery⟩, ⟨by decide +kernel, by decide +kernel⟩, by decide +kernel⟩
theorem s_X11_silence_36 : cV mX11_silence 36 mX1_search 149 2 1 := ⟨by decide +kernel, ⟨ml_X1_search, li_RX11_149, im_X1_search, se_X1_search⟩, ⟨by decide +kernel, by decide +kernel⟩, by decide +kernel⟩
theorem t_X11_silence_0 {rc rs : Nat} {Q : Option AV → AH → Prop} {h : AH} {x1 x2 : Int} (hL : LayL h) (hv : ((¬ (0 ≤ x1 ∧ x1 < iH h 0 13) → Q (some (vi (-2))) h) ∧ ((0 ≤ x1 ∧ x1 < iH h 0 13) → ((x2 < 0 → Q (some (vi (-2))) h) ∧ (0 ≤ x2 → ((x2 ≤ 999 → (0 ≤ x1 ∧ x1 < 6) ∧ (∃ P16 : AH → Prop, Ct 4 0 0 mX1_search [vr 24, vr (45 + 6 * x1.toNat), vr 5] h (QV P16) ∧ ∀ h14 : AH, P16 h14 → LayL h14 ∧ wp mX11_silence 5 rc rs Q 50 [some (vr 0), none, some (vi x2), some (vi (iH h14 24 4)), some (vi 0)] [] h14)) ∧ (999 < x2 → Q (some (vi (-2))) h))))))) : wp mX11_silence 5 rc rs Q 0 [some (vr 0), some (vi x1), some (vi x2), none, none] [] h :=
  (show wp mX11_silence 5 rc rs Q 0 [some (vr 0), some (vi x1), some (vi x2), none, none] [] h from xcV k_X11_silence_0 s_X11_silence_2 ((Exists.intro [vi x1] (Exists.intro 0 (Exists.intro [] (And.intro (And.intro rfl (And.intro rfl (Nat.le_of_ble_eq_true rfl))) (And.intro (ll_0 hL) (Exists.intro 0 (Exists.intro 0 (Exists.intro 0 (Exists.intro _ (And.intro (l_isQuery (h := h) hL) (And.intro (And.intro (by decide) (And.intro (Nat.zero_le _) (Nat.zero_le _))) (eQP (show wp mX11_silence 5 rc rs Q 5 [some (vr 0), some (vi x1), some (vi x2), none, none] [vi (b01 (0 ≤ x1 ∧ x1 < iH h 0 13))] h from xIf k_X11_silence_5 (And.intro (fun c1 => have v3 := hv.1 (b01_n.mp c1); (show wp mX11_silence 5 rc rs Q 19 [some (vr 0), some (vi x1), some (vi x2), none, none] [] h from xI k_X11_silence_19 (And.intro rfl v3))) (fun c2 => have v4 := hv.2 (b01_p.mp c2); (show wp mX11_silence 5 rc rs Q 8 [some (vr 0), some (vi x1), some (vi x2), none, none] [] h from xIf k_X11_silence_8 (And.intro (fun c5 => have v7 := v4.1 c5; (show wp mX11_silence 5 rc rs Q 19 [some (vr 0), some (vi x1), some (vi x2), none, none] [] h from xI k_X11_silence_19 (And.intro rfl v7))) (fun c6 => have v8 := v4.2 (Int.not_lt.mp c6); (show wp mX11_silence 5 rc rs Q 12 [some (vr 0), some (vi x1), some (vi x2), none, none] [] h from xIc k_X11_silence_12 (And.intro (fun c9 => have v11 := v8.1 c9; (show wp mX11_silence 5 rc rs Q 22 [some (vr 0), some (vi x1), some (vi x2), none, none] [] h from xcV k_X11_silence_22 s_X11_silence_36 (And.intro (ll_0 hL) (Exists.intro 24 (And.intro (lg_0_17 hL) (And.intro (ll_0 hL) (Exists.intro 19 (And.intro (lg_0_12 hL) (have c13 := v11.1; have v21 := v11.2; (And.intro (sdQ (ll_19 hL) c13) (Exists.intro (45 + 6 * x1.toNat) (And.intro (tb_qy hL (tnl c13)) (And.intro (ll_0 hL) (Exists.intro 5 (And.intro (lg_0_3 hL) (Exists.elim v21 (fun P16 v17 => (Exists.intro [vr (45 + 6 * x1.toNat), vr 5] (Exists.intro 24 (Exists.intro [] (And.intro (And.intro rfl (And.intro rfl (Nat.le_of_ble_eq_true rfl))) (And.intro (ll_24 hL) (Exists.intro 4 (Exists.intro 0 (Exists.intro 0 (Exists.intro (QV P16) (And.intro v17.1 (And.intro (And.intro (by decide) (And.intro (Nat.zero_le _) (Nat.zero_le _))) (eQV (fun h14 e19 => have v18 := v17.2 h14 e19; have hL := v18.1; have v18 := v18.2; (show wp mX11_silence 5 rc rs Q 39 [some (vr 0), some (vi x1), some (vi x2), none, none] [] h14 from xB k_X11_silence_39 (And.intro (ll_0 hL) (Exists.intro 24 (And.intro (lg_0_17 hL) (And.intro (ll_24 hL) (And.intro rfl (And.intro rfl (w_fg [true, false, true, true, true] v18)))))))))))))))))))))))))))))))))))))) (fun c10 => have v12 := v8.2 (Int.not_le.mp c10); (show wp mX11_silence 5 rc rs Q 19 [some (vr 0), some (vi x1), some (vi x2), none, none] [] h from xI k_X11_silence_19 (And.intro rfl v12)))))))))))))))))))))))))
theorem e_X11_silence {mc ms : Nat} {Q : Option AV → AH → Prop} {h : AH} {x1 x2 : Int} (hL : LayL h) (hv : ((¬ (0 ≤ x1 ∧ x1 < iH h 0 13) → Q (some (vi (-2))) h) ∧ ((0 ≤ x1 ∧ x1 < iH h 0 13) → ((x2 < 0 → Q (some (vi (-2))) h) ∧ (0 ≤ x2 → ((x2 ≤ 999 → (0 ≤ x1 ∧ x1 < 6) ∧ (∃ P16 : AH → Prop, Ct 4 0 0 mX1_search [vr 24, vr (45 + 6 * x1.toNat), vr 5] h (QV P16) ∧ ∀ h14 : AH, P16 h14 → LayL h14 ∧ wp mX11_silence 5 mc ms Q 50 [some (vr 0), none, some (vi x2), some (vi (iH h14 24 4)), some (vi 0)] [] h14)) ∧ (999 < x2 → Q (some (vi (-2))) h))))))) : Ct 5 mc ms mX11_silence [vr 0, vi x1, vi x2] h Q := Ct.of (by decide +kernel) (Nat.le_of_ble_eq_true rfl) (t_X11_silence_0 hL hv)
theorem t_X11_silence_50 {rc rs : Nat} {Q : Option AV → AH → Prop} {h : AH} {x2 x3 x4 : Int} (hL : LayL h) (hv : ((x3 ≤ x2 → Q (some (vi x4)) h) ∧ (x2 < x3 → (((iH h 24 3) ≤ x4 → Q (some (vi x4)) h) ∧ (x4 < (iH h 24 3) → (0 ≤ x4 ∧ x4 < 64) ∧ (-2147483648 ≤ (x3 - iH h 26 x4.toNat) ∧ (x3 - iH h 26 x4.toNat) < 2147483648) ∧ (-2147483648 ≤ (x4 + 1) ∧ (x4 + 1) < 2147483648) ∧ wp mX11_silence 5 rc rs Q 50 [some (vr 0), none, some (vi x2), some (vi (x3 - iH h 26 x4.toNat)), some (vi (x4 + 1))] [] h))))) : wp mX11_silence 5 rc rs Q 50 [some (vr 0), none, some (vi x2), some (vi x3), some (vi x4)] [] h :=
  (show wp mX11_silence 5 rc rs Q 50 [some (vr 0), none, some (vi x2), some (vi x3), some (vi x4)] [] h from xIc k_X11_silence_50 (And.intro (fun c1 => have v3 := hv.1 c1; (show wp mX11_silence 5 rc rs Q 86 [some (vr 0), none, some (vi x2), some (vi x3), some (vi x4)] [] h from xI k_X11_silence_86 (And.intro rfl v3))) (fun c2 => have v4 := hv.2 (Int.not_le.mp c2); (show wp mX11_silence 5 rc rs Q 55 [some (vr 0), none, some (vi x2), some (vi x3), some (vi x4)] [] h from xIc k_X11_silence_55 (And.intro (ll_0 hL) (Exists.intro 24 (And.intro (lg_0_17 hL) (And.intro (ll_24 hL) (And.intro (fun c5 => have v7 := v4.1 c5; (show wp mX11_silence 5 rc rs Q 86 [some (vr 0), none, some (vi x2), some (vi x3), some (vi x4)] [] h from xI k_X11_silence_86 (And.intro rfl v7))) (fun c6 => have v8 := v4.2 (Int.not_le.mp c6); (show wp mX11_silence 5 rc rs Q 67 [some (vr 0), none, some (vi x2), some (vi x3), some (vi x4)] [] h from xGo k_X11_silence_67 (And.intro (ll_0 hL) (Exists.intro 24 (And.intro (lg_0_17 hL) (And.intro (ll_24 hL) (Exists.intro 26 (And.intro (lg_24_1 hL) (have c9 := v8.1; have v14 := v8.2; (And.intro (sdI (ll_26 hL) c9) (have c10 := v14.1; have v13 := v14.2; (And.intro c10 (And.intro rfl (have c11 := v13.1; have v12 := v13.2; (And.intro c11 (And.intro rfl v12)))))))))))))))))))))))))
def b_X11_dropBy_0 : List IE := [(.aload_n 0, 1, 0, 0, 0, 0), (.iload_n 1, 1, 0, 0, 1, 0)]
theorem k_X11_dropBy_0 : ckB mX11_dropBy 11 0 b_X11_dropBy_0 2 = true := by decide +kernel
def b_X11_dropBy_5 : List IE := []
theorem k_X11_dropBy_5 : ckIf mX11_dropBy 11 5 b_X11_dropBy_5 5 1 6 11 8 = true := by decide +kernel
def b_X11_dropBy_8 : List IE := [(.bipush (-2), 2, (-2), 0, 0, 0)]
theorem k_X11_dropBy_8 : ckI mX11_dropBy 11 8 b_X11_dropBy_8 10 = true := by decide +kernel
def b_X11_dropBy_11 : List IE := [(.aload_n 0, 1, 0, 0, 0, 0), (.getfield 91, 3, 0, 11, 17, 1), (.aload_n 0, 1, 0, 0, 0, 0), (.getfield 62, 3, 0, 11, 12, 1), (.iload_n 1, 1, 0, 0, 1, 0), (.aaload, 1, 0, 0, 0, 0), (.aload_n 0, 1, 0, 0, 0, 0), (.getfield 25, 3, 0, 11, 3, 1)]
theorem k_X11_dropBy_11 : ckB mX11_dropBy 11 11 b_X11_dropBy_11 25 = true := by decide +kernel
def b_X11_dropBy_28 : List IE := [(.iconst 0, 1, 0, 0, 0, 0), (.istore_n 2, 1, 0, 0, 2, 0)]
theorem k_X11_dropBy_28 : ckB mX11_dropBy 11 28 b_X11_dropBy_28 30 = true := by decide +kernel
def b_X11_dropBy_30 : List IE := [(.iload_n 2, 1, 0, 0, 2, 0), (.aload_n 0, 1, 0, 0, 0, 0), (.getfield 25, 3, 0, 11, 3, 1), (.getfield 153, 3, 0, 9, 2, 0)]
theorem k_X11_dropBy_30 : ckIc mX11_dropBy 11 30 b_X11_dropBy_30 38 3 30 68 41 = true := by decide +kernel
def b_X11_dropBy_41 : List IE := [(.aload_n 0, 1, 0, 0, 0, 0), (.getfield 25, 3, 0, 11, 3, 1), (.getfield 154, 3, 0, 9, 1, 1), (.iload_n 2, 1, 0, 0, 2, 0), (.dup2, 1, 0, 0, 0, 0), (.laload, 1, 0, 0, 0, 0), (.aload_n 0, 1, 0, 0, 0, 0), (.getfield 91, 3, 0, 11, 17, 1), (.getfield 158, 3, 0, 1, 2, 1), (.iload_n 2, 1, 0, 0, 2, 0), (.laload, 1, 0, 0, 0, 0), (.lor, 1, 0, 0, 0, 0), (.lastore, 1, 0, 0, 0, 0), (.iinc 2 1, 3, 1, 0, 2, 0)]
theorem k_X11_dropBy_41 : ckGo mX11_dropBy 11 41 b_X11_dropBy_41 65 (-35) 30 = true := by decide +kernel
def b_X11_dropBy_68 : List IE := [(.aload_n 0, 1, 0, 0, 0, 0), (.getfield 91, 3, 0, 11, 17, 1), (.getfield 161, 3, 0, 1, 3, 0)]
theorem k_X11_dropBy_68 : ckI mX11_dropBy 11 68 b_X11_dropBy_68 75 = true := by decide +kernel
theorem s_X11_dropBy_2 : cV mX11_dropBy 2 mX11_isQuery 146 1 11 := ⟨by decide +kernel, ⟨ml_X11_isQuery, li_RX11_146, im_X11_isQuery, se_X11_isQuery⟩, ⟨by decide +kernel, by decide +kernel⟩, by decide +kernel⟩
theorem s_X11_dropBy_25 : cV mX11_dropBy 25 mX1_search 149 2 1 := ⟨by decide +kernel, ⟨ml_X1_search, li_RX11_149, im_X1_search, se_X1_search⟩, ⟨by decide +kernel, by decide +kernel⟩, by decide +kernel⟩
theorem t_X11_dropBy_0 {rc rs : Nat} {Q : Option AV → AH → Prop} {h : AH} {x1 : Int} (hL : LayL h) (hv : (((0 ≤ x1 ∧ x1 < iH h 0 13) → (0 ≤ x1 ∧ x1 < 6) ∧ (∃ P8 : AH → Prop, Ct 4 0 0 mX1_search [vr 24, vr (45 + 6 * x1.toNat), vr 5] h (QV P8) ∧ ∀ h6 : AH, P8 h6 → LayL h6 ∧ wp mX11_dropBy 5 rc rs Q 30 [some (vr 0), none, some (vi 0)] [] h6)) ∧ (¬ (0 ≤ x1 ∧ x1 < iH h 0 13) → Q (some (vi (-2))) h))) : wp mX11_dropBy 5 rc rs Q 0 [some (vr 0), some (vi x1), none] [] h :=
  (show wp mX11_dropBy 5 rc rs Q 0 [some (vr 0), some (vi x1), none] [] h from xcV k_X11_dropBy_0 s_X11_dropBy_2 ((Exists.intro [vi x1] (Exists.intro 0 (Exists.intro [] (And.intro (And.intro rfl (And.intro rfl (Nat.le_of_ble_eq_true rfl))) (And.intro (ll_0 hL) (Exists.intro 0 (Exists.intro 0 (Exists.intro 0 (Exists.intro _ (And.intro (l_isQuery (h := h) hL) (And.intro (And.intro (by decide) (And.intro (Nat.zero_le _) (Nat.zero_le _))) (eQP (show wp mX11_dropBy 5 rc rs Q 5 [some (vr 0), some (vi x1), none] [vi (b01 (0 ≤ x1 ∧ x1 < iH h 0 13))] h from xIf k_X11_dropBy_5 (And.intro (fun c1 => have v3 := hv.1 (b01_p.mp c1); (show wp mX11_dropBy 5 rc rs Q 11 [some (vr 0), some (vi x1), none] [] h from xcV k_X11_dropBy_11 s_X11_dropBy_25 (And.intro (ll_0 hL) (Exists.intro 24 (And.intro (lg_0_17 hL) (And.intro (ll_0 hL) (Exists.intro 19 (And.intro (lg_0_12 hL) (have c5 := v3.1; have v13 := v3.2; (And.intro (sdQ (ll_19 hL) c5) (Exists.intro (45 + 6 * x1.toNat) (And.intro (tb_qy hL (tnl c5)) (And.intro (ll_0 hL) (Exists.intro 5 (And.intro (lg_0_3 hL) (Exists.elim v13 (fun P8 v9 => (Exists.intro [vr (45 + 6 * x1.toNat), vr 5] (Exists.intro 24 (Exists.intro [] (And.intro (And.intro rfl (And.intro rfl (Nat.le_of_ble_eq_true rfl))) (And.intro (ll_24 hL) (Exists.intro 4 (Exists.intro 0 (Exists.intro 0 (Exists.intro (QV P8) (And.intro v9.1 (And.intro (And.intro (by decide) (And.intro (Nat.zero_le _) (Nat.zero_le _))) (eQV (fun h6 e11 => have v10 := v9.2 h6 e11; have hL := v10.1; have v10 := v10.2; (show wp mX11_dropBy 5 rc rs Q 28 [some (vr 0), some (vi x1), none] [] h6 from xB k_X11_dropBy_28 (And.intro rfl (w_fg [true, false, true] v10))))))))))))))))))))))))))))))))) (fun c2 => have v4 := hv.2 (b01_nn.mp c2); (show wp mX11_dropBy 5 rc rs Q 8 [some (vr 0), some (vi x1), none] [] h from xI k_X11_dropBy_8 (And.intro rfl v4)))))))))))))))))))
theorem e_X11_dropBy {mc ms : Nat} {Q : Option AV → AH → Prop} {h : AH} {x1 : Int} (hL : LayL h) (hv : (((0 ≤ x1 ∧ x1 < iH h 0 13) → (0 ≤ x1 ∧ x1 < 6) ∧ (∃ P8 : AH → Prop, Ct 4 0 0 mX1_search [vr 24, vr (45 + 6 * x1.toNat), vr 5] h (QV P8) ∧ ∀ h6 : AH, P8 h6 → LayL h6 ∧ wp mX11_dropBy 5 mc ms Q 30 [some (vr 0), none, some (vi 0)] [] h6)) ∧ (¬ (0 ≤ x1 ∧ x1 < iH h 0 13) → Q (some (vi (-2))) h))) : Ct 5 mc ms mX11_dropBy [vr 0, vi x1] h Q := Ct.of (by decide +kernel) (Nat.le_of_ble_eq_true rfl) (t_X11_dropBy_0 hL hv)
theorem t_X11_dropBy_30 {rc rs : Nat} {Q : Option AV → AH → Prop} {h : AH} {x2 : Int} (hL : LayL h) (hv : (((iH h 5 2) ≤ x2 → Q (some (vi (iH h 24 3))) h) ∧ (x2 < (iH h 5 2) → (0 ≤ x2 ∧ x2 < 8) ∧ (-2147483648 ≤ (x2 + 1) ∧ (x2 + 1) < 2147483648) ∧ wp mX11_dropBy 5 rc rs Q 30 [some (vr 0), none, some (vi (x2 + 1))] [] (sJ h 7 x2.toNat ((jH h 7 x2.toNat) ||| (jH h 27 x2.toNat)))))) : wp mX11_dropBy 5 rc rs Q 30 [some (vr 0), none, some (vi x2)] [] h :=
  (show wp mX11_dropBy 5 rc rs Q 30 [some (vr 0), none, some (vi x2)] [] h from xIc k_X11_dropBy_30 (And.intro (ll_0 hL) (Exists.intro 5 (And.intro (lg_0_3 hL) (And.intro (ll_5 hL) (And.intro (fun c1 => have v3 := hv.1 c1; (show wp mX11_dropBy 5 rc rs Q 68 [some (vr 0), none, some (vi x2)] [] h from xI k_X11_dropBy_68 (And.intro (ll_0 hL) (Exists.intro 24 (And.intro (lg_0_17 hL) (And.intro (ll_24 hL) (And.intro rfl v3))))))) (fun c2 => have v4 := hv.2 (Int.not_le.mp c2); (show wp mX11_dropBy 5 rc rs Q 41 [some (vr 0), none, some (vi x2)] [] h from xGo k_X11_dropBy_41 (And.intro (ll_0 hL) (Exists.intro 5 (And.intro (lg_0_3 hL) (And.intro (ll_5 hL) (Exists.intro 7 (And.intro (lg_5_1 hL) (And.intro rfl (And.intro rfl (have c5 := v4.1; have v10 := v4.2; (And.intro (sdJ (ll_7 hL) c5) (And.intro (ll_0 hL) (Exists.intro 24 (And.intro (lg_0_17 hL) (And.intro (ll_24 hL) (Exists.intro 27 (And.intro (lg_24_2 hL) (And.intro (sdJ (ll_27 hL) c5) (And.intro (sdJ (ll_7 hL) c5) (have c8 := v10.1; have v9 := v10.2; (And.intro c8 (And.intro rfl v9)))))))))))))))))))))))))))))
section
variable {h h' g g' : AH} {da sa : Nat → Nat}
theorem gS_of {t a : Nat} (ht : t < 7) (hs : cSegs h g da sa) (hc : cStd h g sa a (iH g 1138 t) (tRow g t) (tDr g t)) (ho : m_offT g t (iH g 1138 t).toNat ≤ 64) : m_gS g t := by
  have b := hc.2.1
  have st : m_std g t := ⟨⟨by omega, by omega⟩, by rw [Int.toNat_natCast]; exact b⟩
  have sg : ∀ s : Nat, (s : Int) < iH g 1138 (t : Int).toNat → m_dict g (iH g (1140 + (t : Int).toNat) s) := fun s h1 => by
    rw [Int.toNat_natCast] at h1 ⊢
    have q : 0 ≤ iH g (1140 + t) s ∧ iH g (1140 + t) s < iH g 89 5 := (hc.2.2 s h1).1
    have := (hs (iH g (1140 + t) s).toNat (by omega)).1
    rw [Int.toNat_of_nonneg q.1] at this
    exact this
  exact ⟨⟨st, fun s h1 => (sg s h1).1, by rw [Int.toNat_natCast]; exact ho⟩, st, sg⟩
theorem gS_6 (hp : kSta h g da sa) : m_gS (m_lay g 6) 6 := by
  obtain ⟨n1, n2, -⟩ := now_6 hp
  exact gS_of (t := 6) (by omega) (kSta_6 hp).1.1.2.1 n1 n2
theorem fd_6 {q : Int} : m_F (m_lay g 6) 6 q = v_fd (m_lay g 6) q (tRow (m_lay g 6) 6) (tDr (m_lay g 6) 6) (iH (m_lay g 6) 1138 6).toNat := (v_fd_t (g := m_lay g 6) (q := q) (t := 6) _).symm
end
theorem l_silence {h g : AH} {da sa : Nat → Nat} (hL : LayL h) {q n : Int} (hp : kSta h g da sa) (hq : kQ h g) : Ct 5 0 0 mX11_silence [vr 0, vi q, vi n] h (QI fun x h' => LayL h' ∧ agX scL h h' ∧ ∃ g', p_silence g q n x g' ∧ (g' = g ∨ g' = m_lay g 6)) := by
  obtain ⟨n1, n2, n3⟩ := now_6 hp
  have hp6 := kSta_6 hp
  have hq6 := kQ_6 hq
  have c6 := hq.2.1
  have eQ : iH (m_lay g 6) 89 30 = iH g 89 30 := lay_71
  have bad : (¬ (0 ≤ q ∧ q ≤ iH g 89 30 - 1) ∨ ¬ (0 ≤ n ∧ n ≤ 999)) → QI (fun x h' => LayL h' ∧ agX scL h h' ∧ ∃ g', p_silence g q n x g' ∧ (g' = g ∨ g' = m_lay g 6)) (some (vi (-2))) h := fun u => ⟨_, rfl, hL, agX_rf, g, Or.inl ⟨u, rfl, rfl⟩, Or.inl rfl⟩
  refine e_X11_silence hL ?_
  rw [hq.1]
  refine ⟨fun c => bad (Or.inl (by omega)), fun c => ⟨fun c2 => bad (Or.inr (by omega)), fun c2 => ⟨fun c3 => ?_, fun c3 => bad (Or.inr (by omega))⟩⟩⟩
  have hqq := hq6.2.2 q.toNat (by omega)
  rw [Int.toNat_of_nonneg c.1] at hqq
  refine ⟨by omega, _, l_search hL (Or.inl rfl) (ti_qy (by omega)) (Or.inl rfl) hqq hp6.1.1.1 hp6.1.1.2.1 n1 n2, fun h1 hs => ?_⟩
  have ag := sr_X (Or.inl rfl) (ti_qy (by omega)) hs
  have L1 : LayL h1 := agX_L ag hL
  refine ⟨L1, ?_⟩
  have gs := gS_6 hp
  have fb := F_bd6 hp hqq.1
  have fs := m_F_sum (m_lay g 6) 6 q
  have fw := m_F_w gs.1 hqq.1
  have f3 : iH h1 24 3 = ((m_F (m_lay g 6) 6 q).1 : Int) ∧ iH h1 24 4 = (m_F (m_lay g 6) 6 q).2.1 ∧ ∀ i : Nat, i < (m_F (m_lay g 6) 6 q).1 → iH h1 26 i = (m_F (m_lay g 6) 6 q).2.2.2 i := by
    rw [fd_6]
    obtain ⟨K, W, P, M, rfl, k1, -⟩ := hs
    exact ⟨hh_3, hh_4, fun i hi => by rw [show 26 = 24 + 2 from rfl, hh_W]; exact (k1 i hi).2⟩
  obtain ⟨f3, f4, f5⟩ := f3
  rw [f4]
  generalize hS : m_F (m_lay g 6) 6 q = S at *
  have sb : ∀ k, k ≤ S.1 → 0 ≤ sumN S.2.2.2 k ∧ sumN S.2.2.2 k ≤ (k : Int) * 999 := fun k hk => sumN_bd _ 999 (by omega) k fun i hi => by have := fw i (by omega); omega
  have tot : ∀ k, k ≤ S.1 → sumN S.2.2.2 k ≤ S.2.1 := by
    rw [fs]
    have : ∀ m k, k + m ≤ S.1 → sumN S.2.2.2 k ≤ sumN S.2.2.2 (k + m) := by
      intro m
      induction m with
      | zero => intro k _; exact Int.le_refl _
      | succ m ih =>
        intro k hk
        have a1 := ih k (by omega)
        have a2 := fw (k + m) (by omega)
        show _ ≤ sumN S.2.2.2 (k + m) + S.2.2.2 (k + m)
        omega
    intro k hk
    have := this (S.1 - k) k (by omega)
    rw [show k + (S.1 - k) = S.1 by omega] at this
    exact this
  have sb1 := sb S.1 (Nat.le_refl _)
  have main : ∀ k : Nat, (∀ j, j < k → n < S.2.1 - sumN S.2.2.2 j) → k ≤ S.1 → wp mX11_silence 5 0 0 (QI fun x h' => LayL h' ∧ agX scL h h' ∧ ∃ g', p_silence g q n x g' ∧ (g' = g ∨ g' = m_lay g 6)) 50 [some (vr 0), none, some (vi n), some (vi (S.2.1 - sumN S.2.2.2 k)), some (vi k)] [] h1 := by
    have fin : ∀ k : Nat, k ≤ S.1 → (∀ j, j < k → n < S.2.1 - sumN S.2.2.2 j) → S.2.1 - sumN S.2.2.2 k ≤ n → QI (fun x h' => LayL h' ∧ agX scL h h' ∧ ∃ g', p_silence g q n x g' ∧ (g' = g ∨ g' = m_lay g 6)) (some (vi (k : Int))) h1 := fun k k1 k2 k3 => ⟨_, rfl, L1, ag, m_lay g 6, Or.inr ⟨⟨by omega, by omega⟩, ⟨k, rfl, by rw [hS]; exact k1, by rw [hS]; exact k3, by rw [hS]; exact k2⟩, Or.inl rfl⟩, Or.inr rfl⟩
    refine dn S.1 (fun k hk h2 h3 => ?_) (fun k hk ih h2 h3 => ?_)
    · have : k = S.1 := by omega
      subst this
      have e0 : S.2.1 - sumN S.2.2.2 S.1 ≤ n := by omega
      exact t_X11_silence_50 L1 ⟨fun _ => fin _ h3 h2 e0, fun u => absurd u (by omega)⟩
    · refine t_X11_silence_50 L1 ⟨fun u => fin _ h3 h2 u, fun u => ?_⟩
      rw [f3]
      have a1 := sb k h3
      have a2 := fw k hk
      have a3 := tot k h3
      refine ⟨fun u2 => absurd u2 (by omega), fun _ => ⟨by omega, ?_⟩⟩
      rw [Int.toNat_natCast, f5 k hk, show S.2.1 - sumN S.2.2.2 k - S.2.2.2 k = S.2.1 - sumN S.2.2.2 (k + 1) from (by show _ = S.2.1 - (sumN S.2.2.2 k + S.2.2.2 k); omega)]
      have a4 := sb (k + 1) hk
      have a5 := tot (k + 1) hk
      refine ⟨by omega, by omega, ih (fun j hj => ?_) hk⟩
      by_cases e : j = k
      · subst e; exact u
      · exact h2 j (by omega)
  have := main 0 (fun j hj => absurd hj (Nat.not_lt_zero _)) (Nat.zero_le _)
  rw [show S.2.1 - sumN S.2.2.2 0 = S.2.1 from Int.sub_zero _] at this
  exact this
/-! what is dropped of the stand that is now -/
def agNd (g g' : AH) : Prop := agDS g g' ∧ (iH g' 89 13 = iH g 89 13 ∧ ∀ k, iH g' 1155 k = iH g 1155 k) ∧ ∀ t : Nat, t < 6 → iH g' 1138 t = iH g 1138 t ∧ (∀ k, iH g' (1140 + t) k = iH g (1140 + t) k) ∧ (∀ k, iH g' (1148 + t) k = iH g (1148 + t) k) ∧ iH g' 1137 t = iH g 1137 t
theorem dropD_kSta {h h' g g' : AH} {da sa : Nat → Nat} (hp : kSta h g da sa) (e : agNd g g') (h01 : ∀ d : Nat, d < 520 → iH g' 613 d = 0 ∨ iH g' 613 d = 1) (ag : agD h h') (es : ∀ c : Nat, iSt c → (∀ k, iH h' c k = iH h c k) ∧ (∀ k, rH h' (c + 1) k = rH h (c + 1) k) ∧ (c ≠ 5 → ∀ k, jH h' (c + 2) k = jH h (c + 2) k)) (hb : ∀ s : Nat, (s : Int) < iH g 89 13 → ∀ k : Nat, bt (jH h' 7 s) k ↔ (k : Int) < iH g 615 (iH g 1155 s).toNat ∧ iH g' 613 (iH g (617 + (iH g 1155 s).toNat) k).toNat ≠ 0) : kSta h' g' da sa := by
  obtain ⟨hk, hr, hU⟩ := hp
  have rb := fun (j : Nat) (hj : j < 7) (s : Nat) hs => row_bd hk hj (s := s) hs
  obtain ⟨⟨hd, hsg, hn⟩, hv, hf⟩ := hk
  have s520 := segs_520 hsg
  obtain ⟨eDS, ⟨eg1, eg2⟩, et⟩ := e
  have eD := agDS_D eDS (docs_520 hd)
  have eS := agDS_S eDS s520
  have e5 := es 5 (Or.inl rfl)
  have hcR : cRd h' g' da sa := by
    refine ⟨cDocs_mv eD eDS.1.1 (fun _ _ => rfl) (cDocs_ag ag hd), cSegs_mv eD eS eDS.1.2 (fun _ _ => rfl) (fun _ _ => rfl) (cSegs_ag ag hsg), ?_⟩
    obtain ⟨n1, n2, n3⟩ := hn
    refine ⟨by rw [e5.1, eg1]; exact n1, by rw [eg1]; exact n2, fun s hs => ?_⟩
    rw [eg1] at hs
    obtain ⟨p1, p2, p3⟩ := n3 s hs
    have er : nRow g' s = nRow g s := eg2 s
    have p1' : 0 ≤ iH g 1155 s ∧ iH g 1155 s < iH g 89 5 := p1
    rw [er, e5.2.1, eDS.1.2]
    refine ⟨p1, p2, fun j => ?_⟩
    rw [eDS.2 615 _ (by decide) (by decide) (by decide)]
    have nd : nDr g' s j ↔ iH g' 613 (iH g (617 + (iH g 1155 s).toNat) j).toNat ≠ 0 := by
      unfold nDr
      rw [eg2, eDS.2 (617 + _) _ (by omega) (by omega) (by omega)]
    rw [nd]
    exact hb s hs j
  have eo : ∀ t : Nat, t < 6 → ∀ s, m_offT g' t s = m_offT g t s := fun t ht s => by
    unfold m_offT
    rw [Int.toNat_natCast]
    exact sumN_cg fun i _ => by rw [(et t ht).2.1, eDS.2 615 _ (by decide) (by decide) (by decide)]
  have hvR : ∀ t : Nat, t < 6 → kV h' g' sa t := fun t ht => by
    have ec := es _ (iSt_av ht)
    refine cStd_mv eS (fun _ _ => rfl) (et t ht).1 (fun s _ => (et t ht).2.1 s) (fun s k _ _ => ?_) (ec.1 2) ec.2.1 (ec.2.2 (by unfold avT; (repeat' split) <;> omega)) (hv t ht)
    unfold tDr
    rw [eo t ht, (et t ht).2.2.1]
  have hfR : kF h' g' := by
    obtain ⟨f1, f2, f3, f4⟩ := hf
    exact ⟨fun t ht => by rw [(es _ (iSt_av (t := t) (by omega))).1, (et t (by omega)).2.2.2]; exact f1 t ht, by rw [e5.1]; exact f2, by rw [(es 11 (iSt_av (t := 5) (by omega))).1]; exact f3, by rw [(et 5 (by omega)).2.2.2, (et 5 (by omega)).1]; exact f4⟩
  refine ⟨⟨hcR, hvR, hfR⟩, ?_⟩
  obtain ⟨r1, r2, r3, r4⟩ := hr
  have cnt0 : ∀ j : Nat, j < 7 → cntH g' j = cntH g j ∧ ∀ s, rowH g' j s = rowH g j s := fun j hj => by
    by_cases e0 : j = 0
    · subst e0
      exact ⟨eg1, eg2⟩
    · have t1 := et _ (hld_av e0 hj).2
      refine ⟨?_, fun s => ?_⟩
      · unfold cntH; rw [if_neg e0, if_neg e0]; exact t1.1
      · unfold rowH; rw [if_neg e0, if_neg e0]; exact t1.2.1 s
  obtain ⟨j1, j2⟩ := iu_from eDS (fun j hj s hs => by have := rb j hj s hs; omega) (fun j hj => ⟨j, hj, by rw [(cnt0 j hj).1]; exact Int.le_refl _, fun s _ => (cnt0 j hj).2 s⟩) r1 hU
  refine ⟨⟨j1, ?_, fun t ht => ⟨by rw [eo t ht, (et t ht).1]; exact (r3 t ht).1, fun k hk1 => by rw [(et t ht).2.2.1]; exact (r3 t ht).2 k hk1⟩, h01⟩, j2⟩
  have : m_held g' = m_held g := by
    unfold m_held
    rw [eg1]
    exact sumN_cg fun s _ => by rw [eg2, eDS.2 615 _ (by decide) (by decide) (by decide)]
  rw [this]; exact r2
section
variable {D f : Nat → Int}
theorem db_if {d : Nat} : ∀ n : Nat, m_dbD D f n d ≠ 0 ↔ D d ≠ 0 ∨ ∃ i, i < n ∧ (f i).toNat = d
  | 0 => ⟨Or.inl, fun h => h.elim id fun ⟨_, h, _⟩ => absurd h (Nat.not_lt_zero _)⟩
  | n + 1 => by
    have ih := db_if (d := d) n
    show (if d = (f n).toNat then (1 : Int) else m_dbD D f n d) ≠ 0 ↔ _
    by_cases e : d = (f n).toNat
    · rw [if_pos e]
      exact ⟨fun _ => Or.inr ⟨n, by omega, e.symm⟩, fun _ => by decide⟩
    · rw [if_neg e, ih]
      constructor
      · rintro (u | ⟨i, u1, u2⟩)
        · exact Or.inl u
        · exact Or.inr ⟨i, by omega, u2⟩
      · rintro (u | ⟨i, u1, u2⟩)
        · exact Or.inl u
        · by_cases c : i = n
          · subst c; exact absurd u2.symm e
          · exact Or.inr ⟨i, by omega, u2⟩
theorem db_01 {d : Nat} (h : D d = 0 ∨ D d = 1) : ∀ n : Nat, m_dbD D f n d = 0 ∨ m_dbD D f n d = 1
  | 0 => h
  | n + 1 => by
    show (if d = (f n).toNat then (1 : Int) else m_dbD D f n d) = 0 ∨ (if d = (f n).toNat then (1 : Int) else m_dbD D f n d) = 1
    by_cases e : d = (f n).toNat
    · rw [if_pos e]; exact Or.inr rfl
    · rw [if_neg e]; exact db_01 h n
end
noncomputable def m_dbG (g : AH) (q : Int) : AH := sW (m_fH (m_lay g 6) 0 0 (fun _ => 0) (fun _ => 0) (fun _ => 0)) 613 (m_dbD (iH g 613) (m_F (m_lay g 6) 6 q).2.2.1 (m_F (m_lay g 6) 6 q).1)
theorem dbG_x {g : AH} {q : Int} {x k : Nat} (h1 : x ≠ 89) (h2 : x ≠ 1137 ∨ k ≠ 6) (h3 : x ≠ 1138 ∨ k ≠ 6) (h4 : x ≠ 1140 + 6) (h5 : x ≠ 1148 + 6) (h6 : x ≠ 1178) (h7 : x ≠ 1179) (h8 : x ≠ 1180) (h9 : x ≠ 613) : iH (m_dbG g q) x k = iH g x k := by
  unfold m_dbG
  rw [rW_ne h9, r_fH h1 h6 h7 h8]
  exact lay_x (t := 6) h4 h5 h2 h3
theorem dbG_71 {g : AH} {q : Int} {k : Nat} (h1 : k ≠ 42) (h2 : k ≠ 43) : iH (m_dbG g q) 89 k = iH g 89 k := by
  unfold m_dbG
  rw [rW_ne (by decide), r_fH71 h1 h2, lay_71]
theorem dbG_D {g : AH} {q : Int} : iH (m_dbG g q) 613 = m_dbD (iH g 613) (m_F (m_lay g 6) 6 q).2.2.1 (m_F (m_lay g 6) 6 q).1 := by
  unfold m_dbG
  exact funext fun k => rW_same
theorem dbG_Nd {g : AH} {q : Int} : agNd g (m_dbG g q) := ⟨⟨⟨dbG_71 (by omega) (by omega), dbG_71 (by omega) (by omega)⟩, fun x k h1 h2 h3 => dbG_x (by omega) (by omega) (by omega) (by omega) (by omega) (by omega) (by omega) (by omega) h3⟩, ⟨dbG_71 (by omega) (by omega), fun k => dbG_x (by omega) (by omega) (by omega) (by omega) (by omega) (by omega) (by omega) (by omega) (by omega)⟩, fun t ht => ⟨dbG_x (by omega) (by omega) (by omega) (by omega) (by omega) (by omega) (by omega) (by omega) (by omega), fun k => dbG_x (by omega) (by omega) (by omega) (by omega) (by omega) (by omega) (by omega) (by omega) (by omega), fun k => dbG_x (by omega) (by omega) (by omega) (by omega) (by omega) (by omega) (by omega) (by omega) (by omega), dbG_x (by omega) (by omega) (by omega) (by omega) (by omega) (by omega) (by omega) (by omega) (by omega)⟩⟩
/-- a document that is found stands in a segment that is now -/
theorem found_in {h g : AH} {da sa : Nat → Nat} {q : Int} (hp : kSta h g da sa) {d : Int} : (∃ i, i < (m_F (m_lay g 6) 6 q).1 ∧ (m_F (m_lay g 6) 6 q).2.2.1 i = d) ↔ ∃ s k : Nat, (s : Int) < iH g 89 13 ∧ v_mk (m_lay g 6) q (tRow (m_lay g 6) 6) (tDr (m_lay g 6) 6) s k ∧ (k : Int) < iH g 615 (iH g 1155 s).toNat ∧ iH g (617 + (iH g 1155 s).toNat) k = d := by
  obtain ⟨n1, n2, n3⟩ := now_6 hp
  have b8 := hp.1.1.2.2.2.1
  have s520 := segs_520 hp.1.1.2.1
  have er : ∀ s : Nat, (s : Int) < iH g 89 13 → tRow (m_lay g 6) 6 s = iH g 1155 s := fun s h1 => lay_R (t := 6) (by omega) h1
  have em : ∀ s k : Nat, (s : Int) < iH g 89 13 → iH (m_lay g 6) (617 + (tRow (m_lay g 6) 6 s).toNat) k = iH g (617 + (iH g 1155 s).toNat) k := fun s k h1 => by
    have st : 0 ≤ iH g 1155 s ∧ iH g 1155 s < iH g 89 5 := (hp.1.1.2.2.2.2 s h1).1
    rw [er s h1]
    exact lay_x (t := 6) (by omega) (by omega) (by omega) (by omega)
  have el : ∀ s : Nat, (s : Int) < iH g 89 13 → iH (m_lay g 6) 615 (tRow (m_lay g 6) 6 s).toNat = iH g 615 (iH g 1155 s).toNat := fun s h1 => by
    rw [er s h1]
    exact lay_x (t := 6) (by omega) (by omega) (by omega) (by omega)
  rw [fd_6, fd_mem]
  constructor
  · rintro ⟨s, k, h1, h2, h3⟩
    have hs : (s : Int) < iH g 89 13 := by omega
    exact ⟨s, k, hs, h2, by rw [← el s hs]; exact h2.1, by rw [← em s k hs]; exact h3⟩
  · rintro ⟨s, k, h1, h2, h3, h4⟩
    exact ⟨s, k, by omega, h2, by rw [em s k h1]; exact h4⟩
theorem mem_bd {h g : AH} {da sa : Nat → Nat} (hp : kSta h g da sa) {s k : Nat} (hs : (s : Int) < iH g 89 13) (hk : (k : Int) < iH g 615 (iH g 1155 s).toNat) : 0 ≤ iH g (617 + (iH g 1155 s).toNat) k ∧ iH g (617 + (iH g 1155 s).toNat) k < iH g 89 0 ∧ (iH g 1155 s).toNat < 520 ∧ (((iH g 1155 s).toNat : Nat) : Int) < iH g 89 5 := by
  have s520 := segs_520 hp.1.1.2.1
  have st : 0 ≤ iH g 1155 s ∧ iH g 1155 s < iH g 89 5 := (hp.1.1.2.2.2.2 s hs).1
  have q := (hp.1.1.2.1 (iH g 1155 s).toNat (by omega))
  have q2 := (q.1.1.1.2.2 k (by rw [Int.toNat_natCast]; exact hk)).1
  rw [Int.toNat_natCast] at q2
  exact ⟨q2, (q.2.2.2.2 k hk).2, by omega, by omega⟩
theorem el6 {h g : AH} {da sa : Nat → Nat} (hp : kSta h g da sa) {s : Nat} (hs : (s : Int) < iH g 89 13) : iH (m_lay g 6) 615 (tRow (m_lay g 6) 6 s).toNat = iH g 615 (iH g 1155 s).toNat := by
  rw [show tRow (m_lay g 6) 6 s = iH g 1155 s from lay_R (t := 6) (by omega) hs]
  exact lay_x (t := 6) (by omega) (by omega) (by omega) (by omega)
theorem uniq0 {h g : AH} {da sa : Nat → Nat} (hp : kSta h g da sa) {s s' k k' : Nat} (hs : (s : Int) < iH g 89 13) (hs' : (s' : Int) < iH g 89 13) (hk : (k : Int) < iH g 615 (iH g 1155 s).toNat) (hk' : (k' : Int) < iH g 615 (iH g 1155 s').toNat) (e : iH g (617 + (iH g 1155 s).toNat) k = iH g (617 + (iH g 1155 s').toNat) k') : s = s' ∧ k = k' :=
  uniq (j := 0) hp (by omega) hs hs' hk hk' e
theorem dbG_kSta {h h' g : AH} {da sa : Nat → Nat} {q : Int} (hp : kSta h g da sa) (ag : agD h h') (es : ∀ c : Nat, iSt c → (∀ k, iH h' c k = iH h c k) ∧ (∀ k, rH h' (c + 1) k = rH h (c + 1) k) ∧ (c ≠ 5 → ∀ k, jH h' (c + 2) k = jH h (c + 2) k)) {M : Nat → Int64} (hM : ∀ s : Nat, s < 8 → ∀ k : Nat, bt (M s) k ↔ (s : Int) < iH (m_lay g 6) 1138 6 ∧ v_mk (m_lay g 6) q (tRow (m_lay g 6) 6) (tDr (m_lay g 6) 6) s k) (hJ : ∀ s : Nat, (s : Int) < iH g 89 13 → jH h' 7 s = jH h 7 s ||| M s) : kSta h' (m_dbG g q) da sa := by
  have n3 := (now_6 hp).2.2
  have b8 := hp.1.1.2.2.2.1
  refine dropD_kSta hp dbG_Nd (fun d hd => by rw [dbG_D]; exact db_01 (hp.2.1.2.2.2 d hd) _) ag es fun s hs k => ?_
  rw [hJ s hs, bt_or, dbG_D, hM s (by omega)]
  have p3 : bt (jH h 7 s) k ↔ (k : Int) < iH g 615 (iH g 1155 s).toNat ∧ iH g 613 (iH g (617 + (iH g 1155 s).toNat) k).toNat ≠ 0 := (hp.1.1.2.2.2.2 s hs).2.2 k
  rw [p3, db_if]
  constructor
  · rintro (⟨u1, u2⟩ | ⟨u1, u2⟩)
    · exact ⟨u1, Or.inl u2⟩
    · have kl := u2.1
      rw [el6 hp hs] at kl
      obtain ⟨i, i1, i2⟩ := (found_in (q := q) hp).mpr ⟨s, k, hs, u2, kl, rfl⟩
      exact ⟨kl, Or.inr ⟨i, i1, by rw [i2]⟩⟩
  · rintro ⟨u1, u2 | ⟨i, i1, i2⟩⟩
    · exact Or.inl ⟨u1, u2⟩
    · obtain ⟨s', k', a1, a2, a3, a4⟩ := (found_in (q := q) hp).mp ⟨i, i1, rfl⟩
      have m1 := mem_bd hp a1 a3
      have m2 := mem_bd hp hs u1
      have e : iH g (617 + (iH g 1155 s').toNat) k' = iH g (617 + (iH g 1155 s).toNat) k := by omega
      obtain ⟨rfl, rfl⟩ := uniq0 hp a1 hs a3 u1 e
      exact Or.inr ⟨by omega, a2⟩
theorem dbG_kB {h h' g : AH} {da sa : Nat → Nat} {q : Int} (hp : kSta h g da sa) (hb : kB h g da) (e1 : iH h' 0 2 = iH h 0 2) (e2 : ∀ k, rH h' 4 k = rH h 4 k) : kB h' (m_dbG g q) da := by
  obtain ⟨⟨b1, b2, b3⟩, hB⟩ := hb
  have x0 : ∀ x k, 90 ≤ x → x < 1137 → x ≠ 613 → iH (m_dbG g q) x k = iH g x k := (dbG_Nd (g := g) (q := q)).1.2
  have xb : ∀ k, iH (m_dbG g q) 1156 k = iH g 1156 k := fun k => dbG_x (by omega) (by omega) (by omega) (by omega) (by omega) (by omega) (by omega) (by omega) (by omega)
  have y : ∀ k, k ≠ 42 → k ≠ 43 → iH (m_dbG g q) 89 k = iH g 89 k := fun k => dbG_71
  refine ⟨⟨by rw [e1, y _ (by decide) (by decide)]; exact b1, by rw [y _ (by decide) (by decide)]; exact b2, fun i hi => ?_⟩, fun i hi => ?_⟩
  · rw [y _ (by decide) (by decide)] at hi
    rw [xb, e2, y _ (by decide) (by decide)]
    exact b3 i hi
  · rw [y _ (by decide) (by decide)] at hi
    obtain ⟨q1, q2, q3⟩ := hB i hi
    have bi := (b3 i hi).1
    rw [xb]
    refine ⟨?_, fun i' hi' => by rw [xb]; exact q2 i' hi', fun x hx hx2 j hj => ?_⟩
    · rw [dbG_D]
      refine Classical.not_not.mp fun u => ?_
      rcases (db_if _).mp u with u | ⟨i', i1, i2⟩
      · exact u q1
      · obtain ⟨s', k', a1, a2, a3, a4⟩ := (found_in (q := q) hp).mp ⟨i', i1, rfl⟩
        have m1 := mem_bd hp a1 a3
        exact q3 (iH g 1155 s').toNat m1.2.2.1 m1.2.2.2 k' a3 (by omega)
    · rw [y _ (by decide) (by decide)] at hx2
      rw [x0 _ _ (by decide) (by decide) (by decide)] at hj
      rw [x0 _ _ (by omega) (by omega) (by omega)]
      exact q3 x hx hx2 j hj
theorem dbG_Z {h g : AH} {da sa : Nat → Nat} {q : Int} (hp : kSta h g da sa) (hz : rZ g) : rZ (m_dbG g q) := fun d hd h1 => by
  rw [dbG_71 (by decide) (by decide)] at h1
  rw [dbG_D]
  refine Classical.not_not.mp fun u => ?_
  rcases (db_if _).mp u with u | ⟨i', i1, i2⟩
  · exact u (hz d hd h1)
  · obtain ⟨s', k', a1, a2, a3, a4⟩ := (found_in (q := q) hp).mp ⟨i', i1, rfl⟩
    have m1 := mem_bd hp a1 a3
    omega
def jwB (h h1 : AH) (k s : Nat) : Int64 := if s < k then jH h 7 s ||| jH h1 27 s else jH h 7 s
theorem l_dropBy {h g : AH} {da sa : Nat → Nat} (hL : LayL h) {q : Int} (hp : kSta h g da sa) (hq : kQ h g) (hb : kB h g da) (hz : rZ g) : Ct 5 0 0 mX11_dropBy [vr 0, vi q] h (QI fun x h' => LayL h' ∧ ∃ g', p_dropBy g q x g' ∧ kSta h' g' da sa ∧ kB h' g' da ∧ rZ g' ∧ ((h' = h ∧ g' = g) ∨ ((∃ h1 J, agX scL h h1 ∧ h' = sJW h1 7 J) ∧ g' = m_dbG g q))) := by
  obtain ⟨n1, n2, n3⟩ := now_6 hp
  have hp6 := kSta_6 hp
  have hq6 := kQ_6 hq
  have c6 := hq.2.1
  have b8 := hp.1.1.2.2.2.1
  have eQ : iH (m_lay g 6) 89 30 = iH g 89 30 := lay_71
  refine e_X11_dropBy hL ?_
  rw [hq.1]
  refine ⟨fun c => ?_, fun c => ⟨_, rfl, hL, g, Or.inl ⟨by omega, rfl, rfl⟩, hp, hb, hz, Or.inl ⟨rfl, rfl⟩⟩⟩
  have hqq := hq6.2.2 q.toNat (by omega)
  rw [Int.toNat_of_nonneg c.1] at hqq
  refine ⟨by omega, _, l_search hL (Or.inl rfl) (ti_qy (by omega)) (Or.inl rfl) hqq hp6.1.1.1 hp6.1.1.2.1 n1 n2, fun h1 hs => ?_⟩
  have ag := sr_X (Or.inl rfl) (ti_qy (by omega)) hs
  have L1 : LayL h1 := agX_L ag hL
  refine ⟨L1, ?_⟩
  obtain ⟨s3, sm⟩ := sr_6 hp hs
  have e7 : ∀ k, jH h1 7 k = jH h 7 k := (ag.2.2.2 7 (by unfold scL; omega)).2
  have e5 : iH h1 5 2 = iH g 89 13 := by
    rw [(ag.2.2.2 5 (by unfold scL; omega)).1]
    exact hp.1.1.2.2.1
  have main := up (P := fun k => wp mX11_dropBy 5 0 0 (QI fun x h' => LayL h' ∧ ∃ g', p_dropBy g q x g' ∧ kSta h' g' da sa ∧ kB h' g' da ∧ rZ g' ∧ ((h' = h ∧ g' = g) ∨ ((∃ h1 J, agX scL h h1 ∧ h' = sJW h1 7 J) ∧ g' = m_dbG g q))) 30 [some (vr 0), none, some (vi k)] [] (sJW h1 7 (jwB h h1 k))) (iH g 89 13).toNat ?_ ?_
  · have e0 : sJW h1 7 (jwB h h1 0) = h1 := by
      have : jwB h h1 0 = jH h1 7 := by
        funext s
        unfold jwB
        rw [if_neg (by omega), e7]
      rw [this, jw_id]
    rw [e0] at main
    exact main
  · refine t_X11_dropBy_30 (by exact L1) ?_
    have r5 : iH (sJW h1 7 (jwB h h1 (iH g 89 13).toNat)) 5 2 = iH g 89 13 := e5
    rw [r5]
    refine ⟨fun _ => ⟨_, rfl, L1, m_dbG g q, Or.inr ⟨by omega, s3, _, _, _, _, _, rfl⟩, ?_, ?_, dbG_Z hp hz, Or.inr ⟨⟨h1, _, ag, rfl⟩, rfl⟩⟩, fun c => absurd c (by omega)⟩
    · have k1 := kSta_X (scL_K ag) hp
      refine dbG_kSta (h := h) hp (agD_rf ag.1 ag.2.1 fun x hx => ⟨fun k => (ag.2.2.2 x (by unfold scL; omega)).1 k, fun k => ag.2.2.1 x k⟩) (fun c hc => ?_) sm fun s hs => ?_
      · have sc := scK_St c hc
        have nc : ¬ scL c ∧ ¬ scL (c + 2) := ⟨fun u => sc.1 (Or.inl u), fun u => sc.2 (Or.inl u)⟩
        exact ⟨fun k => (ag.2.2.2 c nc.1).1 k, fun k => ag.2.2.1 _ k, fun hne k => (jw_o (by omega)).trans ((ag.2.2.2 (c + 2) nc.2).2 k)⟩
      · rw [jw_s]
        unfold jwB
        rw [if_pos (by omega)]
    · exact dbG_kB hp hb ((ag.2.2.2 0 (by unfold scL; omega)).1 2) (fun k => ag.2.2.1 4 k)
  · intro k hk ih
    refine t_X11_dropBy_30 (by exact L1) ?_
    have r5 : iH (sJW h1 7 (jwB h h1 k)) 5 2 = iH g 89 13 := e5
    rw [r5, Int.toNat_natCast]
    refine ⟨fun c => absurd c (by omega), fun _ => ⟨by omega, by omega, ?_⟩⟩
    rw [jw_s, jw_o (by decide), jw_sJ, show (k : Int) + 1 = ((k + 1 : Nat) : Int) by omega]
    have : updJ (jwB h h1 k) k (jwB h h1 k k ||| jH h1 27 k) = jwB h h1 (k + 1) := by
      funext s
      unfold updJ jwB
      by_cases e : s = k
      · subst e
        rw [if_pos rfl, if_neg (by omega), if_pos (by omega)]
      · rw [if_neg e]
        by_cases e2 : s < k
        · rw [if_pos e2, if_pos (by omega)]
        · rw [if_neg e2, if_neg (by omega)]
    rw [this]
    exact ih
