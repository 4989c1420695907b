/-! THE INDEX: FINISH -/
def b_X11_finish_0 : List IE := [(.aload_n 0, 1, 0, 0, 0, 0), (.getfield 52, 3, 0, 11, 10, 1), (.getfield 251, 3, 0, 3, 0, 0)]
theorem k_X11_finish_0 : ckIf mX11_finish 11 0 b_X11_finish_0 7 1 6 13 10 = true := by decide +kernel
def b_X11_finish_10 : List IE := [(.bipush (-3), 2, (-3), 0, 0, 0)]
theorem k_X11_finish_10 : ckI mX11_finish 11 10 b_X11_finish_10 12 = true := by decide +kernel
def b_X11_finish_13 : List IE := [(.aload_n 0, 1, 0, 0, 0, 0), (.getfield 52, 3, 0, 11, 10, 1), (.iconst 0, 1, 0, 0, 0, 0), (.putfield 251, 3, 0, 3, 0, 2), (.aload_n 0, 1, 0, 0, 0, 0), (.getfield 52, 3, 0, 11, 10, 1), (.aload_n 0, 1, 0, 0, 0, 0), (.getfield 25, 3, 0, 11, 3, 1)]
theorem k_X11_finish_13 : ckB mX11_finish 11 13 b_X11_finish_13 29 = true := by decide +kernel
def b_X11_finish_32 : List IE := [(.istore_n 1, 1, 0, 0, 1, 0), (.iload_n 1, 1, 0, 0, 1, 0)]
theorem k_X11_finish_32 : ckIf mX11_finish 11 32 b_X11_finish_32 34 1 26 60 37 = true := by decide +kernel
def b_X11_finish_37 : List IE := [(.aload_n 0, 1, 0, 0, 0, 0), (.getfield 25, 3, 0, 11, 3, 1), (.aload_n 0, 1, 0, 0, 0, 0), (.getfield 52, 3, 0, 11, 10, 1), (.getfield 263, 3, 0, 3, 1, 0), (.aload_n 0, 1, 0, 0, 0, 0), (.getfield 52, 3, 0, 11, 10, 1), (.getfield 258, 3, 0, 3, 2, 0)]
theorem k_X11_finish_37 : ckB mX11_finish 11 37 b_X11_finish_37 55 = true := by decide +kernel
def b_X11_finish_58 : List IE := [(.iconst 0, 1, 0, 0, 0, 0)]
theorem k_X11_finish_58 : ckI mX11_finish 11 58 b_X11_finish_58 59 = true := by decide +kernel
def b_X11_finish_60 : List IE := [(.iload_n 1, 1, 0, 0, 1, 0)]
theorem k_X11_finish_60 : ckAnew mX11_finish 11 60 b_X11_finish_60 61 16 16 = true := by decide +kernel
def b_X11_finish_64 : List IE := [(.astore_n 2, 1, 0, 0, 2, 0), (.aload_n 0, 1, 0, 0, 0, 0), (.getfield 52, 3, 0, 11, 10, 1), (.aload_n 0, 1, 0, 0, 0, 0), (.getfield 25, 3, 0, 11, 3, 1), (.aload_n 2, 1, 0, 0, 2, 0)]
theorem k_X11_finish_64 : ckB mX11_finish 11 64 b_X11_finish_64 74 = true := by decide +kernel
def b_X11_finish_77 : List IE := [(.lstore_n 3, 1, 0, 0, 3, 0), (.aload_n 0, 1, 0, 0, 0, 0), (.dup, 1, 0, 0, 0, 0), (.getfield 165, 3, 0, 11, 8, 0), (.iconst 1, 1, 1, 0, 0, 0), (.iadd, 1, 0, 0, 0, 0), (.putfield 165, 3, 0, 11, 8, 0), (.aload_n 0, 1, 0, 0, 0, 0), (.getfield 25, 3, 0, 11, 3, 1), (.aload_n 0, 1, 0, 0, 0, 0), (.getfield 52, 3, 0, 11, 10, 1), (.getfield 263, 3, 0, 3, 1, 0), (.aload_n 0, 1, 0, 0, 0, 0), (.getfield 52, 3, 0, 11, 10, 1), (.getfield 258, 3, 0, 3, 2, 0), (.iconst 1, 1, 1, 0, 0, 0), (.isub, 1, 0, 0, 0, 0)]
theorem k_X11_finish_77 : ckB mX11_finish 11 77 b_X11_finish_77 108 = true := by decide +kernel
def b_X11_finish_111 : List IE := [(.aload_n 0, 1, 0, 0, 0, 0), (.getfield 25, 3, 0, 11, 3, 1), (.getfield 182, 3, 0, 9, 0, 1), (.aload_n 0, 1, 0, 0, 0, 0), (.getfield 52, 3, 0, 11, 10, 1), (.getfield 263, 3, 0, 3, 1, 0)]
theorem k_X11_finish_111 : ckNew mX11_finish 11 111 b_X11_finish_111 125 168 7 = true := by decide +kernel
def b_X11_finish_128 : List IE := [(.dup, 1, 0, 0, 0, 0), (.aload_n 0, 1, 0, 0, 0, 0), (.getfield 165, 3, 0, 11, 8, 0), (.aload_n 2, 1, 0, 0, 2, 0)]
theorem k_X11_finish_128 : ckB mX11_finish 11 128 b_X11_finish_128 134 = true := by decide +kernel
def b_X11_finish_137 : List IE := [(.aastore, 1, 0, 0, 0, 0), (.aload_n 0, 1, 0, 0, 0, 0), (.getfield 25, 3, 0, 11, 3, 1), (.getfield 154, 3, 0, 9, 1, 1), (.aload_n 0, 1, 0, 0, 0, 0), (.getfield 52, 3, 0, 11, 10, 1), (.getfield 263, 3, 0, 3, 1, 0), (.lload_n 3, 1, 0, 0, 3, 0), (.lastore, 1, 0, 0, 0, 0), (.aload_n 0, 1, 0, 0, 0, 0), (.getfield 165, 3, 0, 11, 8, 0)]
theorem k_X11_finish_137 : ckI mX11_finish 11 137 b_X11_finish_137 158 = true := by decide +kernel
theorem s_X11_finish_29 : cV mX11_finish 29 mX3_howManyCome 260 1 3 := ⟨by decide +kernel, ⟨ml_X3_howManyCome, li_RX11_260, im_X3_howManyCome, se_X3_howManyCome⟩, ⟨by decide +kernel, by decide +kernel⟩, by decide +kernel⟩
theorem s_X11_finish_55 : cV mX11_finish 55 mX9_remove 266 2 9 := ⟨by decide +kernel, ⟨ml_X9_remove, li_RX11_266, im_X9_remove, se_X9_remove⟩, ⟨by decide +kernel, by decide +kernel⟩, by decide +kernel⟩
theorem s_X11_finish_61 : Cond.classLink mX11_finish.1.cls 16 (rx (elK 16)) ∈ gt := gt_ok (List.mem_of_getElem? (i := 141) (by decide +kernel)) (by decide +kernel)
theorem s_X11_finish_74 : cV mX11_finish 74 mX3_bring 270 2 3 := ⟨by decide +kernel, ⟨ml_X3_bring, li_RX11_270, im_X3_bring, se_X3_bring⟩, ⟨by decide +kernel, by decide +kernel⟩, by decide +kernel⟩
theorem s_X11_finish_108 : cV mX11_finish 108 mX9_remove 266 2 9 := ⟨by decide +kernel, ⟨ml_X9_remove, li_RX11_266, im_X9_remove, se_X9_remove⟩, ⟨by decide +kernel, by decide +kernel⟩, by decide +kernel⟩
theorem s_X11_finish_125 : Cond.classLink mX11_finish.1.cls 168 (rx 7) ∈ gt ∧ Cond.instantiable (rx 7) (nf 7) ∈ gt ∧ Cond.initialized (rx 7) ∈ gt := ⟨gt_ok (List.mem_of_getElem? (i := 526) (by decide +kernel)) (by decide +kernel), gt_ok (List.mem_of_getElem? (i := 527) (by decide +kernel)) (by decide +kernel), gt_ok (List.mem_of_getElem? (i := 104) (by decide +kernel)) (by decide +kernel)⟩
theorem s_X11_finish_134 : cI mX11_finish 134 mX7_init 170 2 := ⟨by decide +kernel, Or.inl ⟨ml_X7_init, li_RX11_170, im_X7_init, rfl, rfl⟩, by decide +kernel⟩
theorem t_X11_finish_0 {rc rs : Nat} {Q : Option AV → AH → Prop} {h : AH}  (hL : LayL h) (hv : (((iH h 17 0) ≠ 0 → (∃ P7 : Int → AH → Prop, Ct 1 0 0 mX3_howManyCome [vr 17, vr 5] (sI h 17 0 0) (QI P7) ∧ ∀ (r6 : Int) (h5 : AH), (-2147483648 ≤ r6 ∧ r6 < 2147483648) → P7 r6 h5 → LayL h5 ∧ ((r6 ≠ 0 → (0 ≤ (r6 : Int) ∧ (r6 : Int) ≤ 100000 ∧ 1 ≤ rc ∧ (r6 : Int).toNat ≤ rs) ∧ (∃ P16 : Int64 → AH → Prop, Ct 1 0 0 mX3_bring [vr 17, vr 5, vr (nH h5)] (nw h5 16 ((r6 : Int).toNat)) (QJ P16) ∧ ∀ (r15 : Int64) (h14 : AH), P16 r15 h14 → LayL h14 ∧ (-2147483648 ≤ (iH h14 0 8 + 1) ∧ (iH h14 0 8 + 1) < 2147483648) ∧ (-2147483648 ≤ (iH h14 17 2 - 1) ∧ (iH h14 17 2 - 1) < 2147483648) ∧ (∃ P21 : AH → Prop, Ct 0 0 0 mX9_remove [vr 5, vi (iH h14 17 1), vi (iH h14 17 2 - 1)] (sI h14 0 8 (iH h14 0 8 + 1)) (QV P21) ∧ ∀ h19 : AH, P21 h19 → LayL h19 ∧ (1 ≤ (rc - 1) ∧ 7 ≤ (rs - (r6 : Int).toNat)) ∧ (∃ P26 : AH → Prop, ((nH h19) < nH (nw h19 7 0)) ∧ Ct 2 3 2304 mX7_init [vr (nH h19), vi (iH (nw h19 7 0) 0 8), vr (nH h5)] (nw h19 7 0) (QV P26) ∧ (3 ≤ ((rc - 1) - 1) ∧ 2304 ≤ ((rs - (r6 : Int).toNat) - 7)) ∧ ∀ h24 : AH, P26 h24 → LayL h24 ∧ ((0 ≤ iH h19 17 1 ∧ iH h19 17 1 < 8) ∧ ((nH h19) < nH h24 ∧ kH h24 (nH h19) = (7, 0))) ∧ LayL (sR h24 6 ((iH h19 17 1).toNat) (some (nH h19))) ∧ (0 ≤ iH h24 17 1 ∧ iH h24 17 1 < 8) ∧ Q (some (vi (iH h24 0 8))) (sJ (sR h24 6 ((iH h19 17 1).toNat) (some (nH h19))) 7 ((iH h24 17 1).toNat) r15))))) ∧ (r6 = 0 → (∃ P52 : AH → Prop, Ct 0 0 0 mX9_remove [vr 5, vi (iH h5 17 1), vi (iH h5 17 2)] h5 (QV P52) ∧ ∀ h50 : AH, P52 h50 → LayL h50 ∧ Q (some (vi 0)) h50))))) ∧ ((iH h 17 0) = 0 → Q (some (vi (-3))) h))) : wp mX11_finish 3 rc rs Q 0 [some (vr 0), none, none, none, none] [] h :=
  (show wp mX11_finish 3 rc rs Q 0 [some (vr 0), none, none, none, none] [] h from xIf k_X11_finish_0 (And.intro (ll_0 hL) (Exists.intro 17 (And.intro (lg_0_10 hL) (And.intro (ll_17 hL) (And.intro (fun c1 => have v3 := hv.1 c1; (show wp mX11_finish 3 rc rs Q 13 [some (vr 0), none, none, none, none] [] h from xcV k_X11_finish_13 s_X11_finish_29 (And.intro (ll_0 hL) (Exists.intro 17 (And.intro (lg_0_10 hL) (And.intro (ll_17 hL) (And.intro (Or.inl rfl) (And.intro (ll_0 hL) (Exists.intro 17 (And.intro (lg_0_10 hL) (And.intro (ll_0 hL) (Exists.intro 5 (And.intro (lg_0_3 hL) (Exists.elim v3 (fun P7 v57 => (Exists.intro [vr 5] (Exists.intro 17 (Exists.intro [] (And.intro (And.intro rfl (And.intro rfl (Nat.le_of_ble_eq_true rfl))) (And.intro (ll_17 hL) (Exists.intro 1 (Exists.intro 0 (Exists.intro 0 (Exists.intro (QI P7) (And.intro v57.1 (And.intro (And.intro (by decide) (And.intro (Nat.zero_le _) (Nat.zero_le _))) (eQI (fun r6 h5 q60 e59 => have v58 := v57.2 r6 h5 q60 e59; have hL := v58.1; have v58 := v58.2; (show wp mX11_finish 3 rc rs Q 32 [some (vr 0), none, none, none, none] [vi r6] h5 from xIf k_X11_finish_32 (And.intro rfl (And.intro (fun c8 => have v10 := v58.1 c8; (show wp mX11_finish 3 rc rs Q 60 [some (vr 0), some (vi r6), none, none, none] [] h5 from xAnew k_X11_finish_60 s_X11_finish_61 (have c12 := v10.1; have v13 := v10.2; And.intro c12 (have hL := LayL_nw (t := 16) (n := (r6 : Int).toNat) hL; (show wp mX11_finish 3 (rc - 1) (rs - (r6 : Int).toNat) Q 64 [some (vr 0), some (vi r6), none, none, none] [vr (nH h5)] (nw h5 16 ((r6 : Int).toNat)) from xcV k_X11_finish_64 s_X11_finish_74 (And.intro rfl (And.intro (ll_0 hL) (Exists.intro 17 (And.intro (lg_0_10 hL) (And.intro (ll_0 hL) (Exists.intro 5 (And.intro (lg_0_3 hL) (Exists.elim v13 (fun P16 v45 => have c49 := v45.1; have v45 := v45.2; (Exists.intro [vr 5, vr (nH h5)] (Exists.intro 17 (Exists.intro [] (And.intro (And.intro rfl (And.intro rfl (Nat.le_of_ble_eq_true rfl))) (And.intro (ll_17 hL) (Exists.intro 1 (Exists.intro 0 (Exists.intro 0 (Exists.intro (QJ P16) (And.intro c49 (And.intro (And.intro (by decide) (And.intro (Nat.zero_le _) (Nat.zero_le _))) (eQJ (fun r15 h14 e47 => have v46 := v45 r15 h14 e47; have hL := v46.1; have v46 := v46.2; (show wp mX11_finish 3 (rc - 1) (rs - (r6 : Int).toNat) Q 77 [some (vr 0), some (vi r6), some (vr (nH h5)), none, none] [vl r15] h14 from xcV k_X11_finish_77 s_X11_finish_108 (And.intro rfl (And.intro rfl (And.intro (ll_0 hL) (have c17 := v46.1; have v44 := v46.2; (And.intro c17 (And.intro (ll_0 hL) (And.intro (ll_0 hL) (Exists.intro 5 (And.intro (lg_0_3 hL) (And.intro (ll_0 hL) (Exists.intro 17 (And.intro (lg_0_10 hL) (And.intro (ll_17 hL) (And.intro (ll_0 hL) (Exists.intro 17 (And.intro (lg_0_10 hL) (And.intro (ll_17 hL) (have c18 := v44.1; have v43 := v44.2; (And.intro c18 (Exists.elim v43 (fun P21 v39 => (Exists.intro [vi (iH h14 17 1), vi (iH h14 17 2 - 1)] (Exists.intro 5 (Exists.intro [] (And.intro (And.intro rfl (And.intro rfl (Nat.le_of_ble_eq_true rfl))) (And.intro (ll_5 hL) (Exists.intro 0 (Exists.intro 0 (Exists.intro 0 (Exists.intro (QV P21) (And.intro v39.1 (And.intro (And.intro (by decide) (And.intro (Nat.zero_le _) (Nat.zero_le _))) (eQV (fun h19 e41 => have v40 := v39.2 h19 e41; have hL := v40.1; have v40 := v40.2; (show wp mX11_finish 3 (rc - 1) (rs - (r6 : Int).toNat) Q 111 [some (vr 0), some (vi r6), some (vr (nH h5)), some (vl r15), none] [] h19 from xNew k_X11_finish_111 s_X11_finish_125 (And.intro (ll_0 hL) (Exists.intro 5 (And.intro (lg_0_3 hL) (And.intro (ll_5 hL) (Exists.intro 6 (And.intro (lg_5_0 hL) (And.intro (ll_0 hL) (Exists.intro 17 (And.intro (lg_0_10 hL) (And.intro (ll_17 hL) (have c22 := v40.1; have v23 := v40.2; And.intro c22 (have hL := LayL_nw (t := 7) (n := 0) hL; (show wp mX11_finish 3 ((rc - 1) - 1) ((rs - (r6 : Int).toNat) - 7) Q 128 [some (vr 0), some (vi r6), some (vr (nH h5)), some (vl r15), none] [vr (nH h19), vi (iH h19 17 1), vr 6] (nw h19 7 0) from xcI k_X11_finish_128 s_X11_finish_134 (And.intro rfl (And.intro (ll_0 hL) (Exists.elim v23 (fun P26 v34 => have c27 := v34.1; have v34 := v34.2; have c38 := v34.1; have v34 := v34.2; have c37 := v34.1; have v34 := v34.2; (Exists.intro [vi (iH (nw h19 7 0) 0 8), vr (nH h5)] (Exists.intro (nH h19) (Exists.intro [vr (nH h19), vi (iH h19 17 1), vr 6] (And.intro (And.intro rfl (And.intro rfl (Nat.le_of_ble_eq_true rfl))) (And.intro c27 (Exists.intro 2 (Exists.intro 3 (Exists.intro 2304 (Exists.intro (QV P26) (And.intro c38 (And.intro (And.intro (by decide) (And.intro c37.1 c37.2)) (eQV (fun h24 e36 => have v35 := v34 h24 e36; have hL := v35.1; have v35 := v35.2; (show wp mX11_finish 3 (((rc - 1) - 1) - 3) (((rs - (r6 : Int).toNat) - 7) - 2304) Q 137 [some (vr 0), some (vi r6), some (vr (nH h5)), some (vl r15), none] [vr (nH h19), vi (iH h19 17 1), vr 6] h24 from xI k_X11_finish_137 (have c28 := v35.1; have v33 := v35.2; (And.intro (sdA (ll_6 hL) c28.1 c28.2) (have c29 := v33.1; have v32 := v33.2; (have hL := c29; (And.intro (ll_0 hL) (Exists.intro 5 (And.intro (lg_0_3 hL) (And.intro (ll_5 hL) (Exists.intro 7 (And.intro (lg_5_1 hL) (And.intro (ll_0 hL) (Exists.intro 17 (And.intro (lg_0_10 hL) (And.intro (ll_17 hL) (have c30 := v32.1; have v31 := v32.2; (And.intro (sdJ (ll_7 hL) c30) (And.intro (ll_0 hL) (And.intro rfl v31)))))))))))))))))))))))))))))))))))))))))))))))))))))))))))))))))))))))))))))))))))))))))))))))))))))))))))))))) (fun c9 => have v11 := v58.2 (Decidable.not_not.mp c9); (show wp mX11_finish 3 rc rs Q 37 [some (vr 0), some (vi r6), none, none, none] [] h5 from xcV k_X11_finish_37 s_X11_finish_55 (And.intro (ll_0 hL) (Exists.intro 5 (And.intro (lg_0_3 hL) (And.intro (ll_0 hL) (Exists.intro 17 (And.intro (lg_0_10 hL) (And.intro (ll_17 hL) (And.intro (ll_0 hL) (Exists.intro 17 (And.intro (lg_0_10 hL) (And.intro (ll_17 hL) (Exists.elim v11 (fun P52 v53 => (Exists.intro [vi (iH h5 17 1), vi (iH h5 17 2)] (Exists.intro 5 (Exists.intro [] (And.intro (And.intro rfl (And.intro rfl (Nat.le_of_ble_eq_true rfl))) (And.intro (ll_5 hL) (Exists.intro 0 (Exists.intro 0 (Exists.intro 0 (Exists.intro (QV P52) (And.intro v53.1 (And.intro (And.intro (by decide) (And.intro (Nat.zero_le _) (Nat.zero_le _))) (eQV (fun h50 e55 => have v54 := v53.2 h50 e55; have hL := v54.1; have v54 := v54.2; (show wp mX11_finish 3 rc rs Q 58 [some (vr 0), some (vi r6), none, none, none] [] h50 from xI k_X11_finish_58 (And.intro rfl v54))))))))))))))))))))))))))))))))))))))))))))))))))))))))))))) (fun c2 => have v4 := hv.2 (Decidable.not_not.mp c2); (show wp mX11_finish 3 rc rs Q 10 [some (vr 0), none, none, none, none] [] h from xI k_X11_finish_10 (And.intro rfl v4)))))))))
theorem e_X11_finish {mc ms : Nat} {Q : Option AV → AH → Prop} {h : AH}  (hL : LayL h) (hv : (((iH h 17 0) ≠ 0 → (∃ P7 : Int → AH → Prop, Ct 1 0 0 mX3_howManyCome [vr 17, vr 5] (sI h 17 0 0) (QI P7) ∧ ∀ (r6 : Int) (h5 : AH), (-2147483648 ≤ r6 ∧ r6 < 2147483648) → P7 r6 h5 → LayL h5 ∧ ((r6 ≠ 0 → (0 ≤ (r6 : Int) ∧ (r6 : Int) ≤ 100000 ∧ 1 ≤ mc ∧ (r6 : Int).toNat ≤ ms) ∧ (∃ P16 : Int64 → AH → Prop, Ct 1 0 0 mX3_bring [vr 17, vr 5, vr (nH h5)] (nw h5 16 ((r6 : Int).toNat)) (QJ P16) ∧ ∀ (r15 : Int64) (h14 : AH), P16 r15 h14 → LayL h14 ∧ (-2147483648 ≤ (iH h14 0 8 + 1) ∧ (iH h14 0 8 + 1) < 2147483648) ∧ (-2147483648 ≤ (iH h14 17 2 - 1) ∧ (iH h14 17 2 - 1) < 2147483648) ∧ (∃ P21 : AH → Prop, Ct 0 0 0 mX9_remove [vr 5, vi (iH h14 17 1), vi (iH h14 17 2 - 1)] (sI h14 0 8 (iH h14 0 8 + 1)) (QV P21) ∧ ∀ h19 : AH, P21 h19 → LayL h19 ∧ (1 ≤ (mc - 1) ∧ 7 ≤ (ms - (r6 : Int).toNat)) ∧ (∃ P26 : AH → Prop, ((nH h19) < nH (nw h19 7 0)) ∧ Ct 2 3 2304 mX7_init [vr (nH h19), vi (iH (nw h19 7 0) 0 8), vr (nH h5)] (nw h19 7 0) (QV P26) ∧ (3 ≤ ((mc - 1) - 1) ∧ 2304 ≤ ((ms - (r6 : Int).toNat) - 7)) ∧ ∀ h24 : AH, P26 h24 → LayL h24 ∧ ((0 ≤ iH h19 17 1 ∧ iH h19 17 1 < 8) ∧ ((nH h19) < nH h24 ∧ kH h24 (nH h19) = (7, 0))) ∧ LayL (sR h24 6 ((iH h19 17 1).toNat) (some (nH h19))) ∧ (0 ≤ iH h24 17 1 ∧ iH h24 17 1 < 8) ∧ Q (some (vi (iH h24 0 8))) (sJ (sR h24 6 ((iH h19 17 1).toNat) (some (nH h19))) 7 ((iH h24 17 1).toNat) r15))))) ∧ (r6 = 0 → (∃ P52 : AH → Prop, Ct 0 0 0 mX9_remove [vr 5, vi (iH h5 17 1), vi (iH h5 17 2)] h5 (QV P52) ∧ ∀ h50 : AH, P52 h50 → LayL h50 ∧ Q (some (vi 0)) h50))))) ∧ ((iH h 17 0) = 0 → Q (some (vi (-3))) h))) : Ct 3 mc ms mX11_finish [vr 0] h Q := Ct.of (by decide +kernel) (Nat.le_of_ble_eq_true rfl) (t_X11_finish_0 hL hv)
def hFnF (h h' : AH) : Prop := nH h ≤ nH h' ∧ ∀ x, x < nH h → kH h' x = kH h x ∧ (∀ k, (x ≠ 0 ∨ k ≠ 8) → (x ≠ 5 ∨ k ≠ 2) → (x ≠ 17 ∨ k ≠ 0) → iH h' x k = iH h x k) ∧ (∀ k, x ≠ 7 → jH h' x k = jH h x k) ∧ ∀ k, x ≠ 6 → rH h' x k = rH h x k
section
variable {h g : AH} {da sa : Nat → Nat} {f w : Nat}
theorem sum_held (hp : kSta h g da sa) (hfw : ((f + w : Nat) : Int) ≤ iH g 89 13) : sumN (fun i => iH g 615 (iH g 1155 (f + i)).toNat) w ≤ m_held g ∧ ∀ i, i < w → 0 ≤ iH g 615 (iH g 1155 (f + i)).toNat := by
  have nn : ∀ s : Nat, (s : Int) < iH g 89 13 → 0 ≤ iH g 615 (iH g 1155 s).toNat := fun s hs => ((nowOf hp.1.1).2 s hs).2.1.1
  obtain ⟨r, hr⟩ : ∃ r : Nat, (iH g 89 13).toNat = f + w + r := ⟨(iH g 89 13).toNat - (f + w), by omega⟩
  have e1 : m_held g = sumN (fun s => iH g 615 (iH g 1155 s).toNat) (f + (w + r)) := by
    unfold m_held
    rw [hr, Nat.add_assoc]
  rw [sumN_split, sumN_split _ w] at e1
  have b1 := sumN_bd0 (f := fun s => iH g 615 (iH g 1155 s).toNat) f fun i hi => nn i (by omega)
  have b2 := sumN_bd0 (f := fun i => iH g 615 (iH g 1155 (f + (w + i))).toNat) r fun i hi => nn (f + (w + i)) (by omega)
  exact ⟨by omega, fun i hi => nn (f + i) (by omega)⟩
theorem mrg_of (hp : kSta h g da sa) (hm : cMg h g f w) (hw : iH g 89 26 = (w : Int)) (hf : iH g 89 25 = iH g 1155 f) (hc : iH g 89 27 = ((v_cm g (mgRow g f) (mgLf h) w).1 : Int)) : m_mrg g f ∧ ((v_cm g (mgRow g f) (mgLf h) w).1 : Int) ≤ sumN (fun i => iH g 615 (iH g 1155 (f + i)).toNat) w ∧ (v_cm g (mgRow g f) (mgLf h) w).1 ≤ 64 := by
  obtain ⟨m1, m2, m3, m4⟩ := hm
  have h8 := hp.1.1.2.2.2.1
  obtain ⟨s1, s2⟩ := sum_held hp m3.2
  have cl : ((v_cm g (mgRow g f) (mgLf h) w).1 : Int) ≤ sumN (fun i => iH g 615 (iH g 1155 (f + i)).toNat) w := cm_len w s2
  have h64 := hp.2.1.2.1
  refine ⟨⟨h8, ⟨by omega, by omega⟩, hf.symm, fun j hj => ?_, by omega⟩, cl, by omega⟩
  rw [hf]
  exact hp.2.1.1 0 (by omega) j f hj (by show _ < iH g 89 13; omega)
end
theorem l_finish {h g : AH} {da sa : Nat → Nat} (hL : LayL h) (hN : 1191 ≤ nH h) (hp : kSta h g da sa) (hb : kB h g da) (hm : kMg h g) (hse : iH h 0 8 = iH g 89 5 ∧ 0 ≤ iH g 89 5 ∧ iH g 89 5 < 520) : Ct 3 5 2375 mX11_finish [vr 0] h (QI fun x h' => ∃ (p : Nat) (g' : AH) (sa' : Nat → Nat), (iH g 89 24 ≠ 0 → m_mrg g p) ∧ p_finish g p x g' ∧ exS g sa sa' ∧ LayL h' ∧ kSta h' g' da sa' ∧ kB h' g' da ∧ iH h' 0 8 = iH g' 89 5 ∧ iH h' 17 0 = 0 ∧ iH g' 89 24 = 0 ∧ hFnF h h' ∧ (g' = g ∨ ((∀ x k, x ≠ 89 → x ≠ 1155 → x ≠ 615 → (x < 617 ∨ 617 + 520 ≤ x) → x ≠ 614 → iH g' x k = iH g x k) ∧ ∀ k, k ≠ 5 → k ≠ 13 → k ≠ 24 → iH g' 89 k = iH g 89 k))) := by
  have hc := hp.1.1
  have h8 := hc.2.2.2.1
  refine e_X11_finish hL ?_
  rw [hm.1]
  refine ⟨fun c0 => ?_, fun c0 => ⟨_, rfl, 0, g, sa, fun u => absurd c0 u, Or.inl ⟨c0, rfl, rfl⟩, fun _ _ => rfl, hL, hp, hb, hse.1, by rw [hm.1, c0], c0, ⟨Nat.le_refl _, fun x _ => ⟨rfl, fun _ _ _ _ => rfl, fun _ _ => rfl, fun _ _ => rfl⟩⟩, Or.inl rfl⟩⟩
  obtain ⟨f, w, hcm, hw, hfi, hco, hcl⟩ := hm.2 c0
  obtain ⟨hmr, hsum, hn64⟩ := mrg_of hp hcm hw hfi hco
  obtain ⟨m1, m2, m3, m4⟩ := id hcm
  obtain ⟨S, hSN⟩ := Int.eq_ofNat_of_zero_le h8.1
  obtain ⟨X, hXN⟩ := Int.eq_ofNat_of_zero_le hse.2.1
  have e52 : iH h 5 2 = (S : Int) := by rw [hc.2.2.1, hSN]
  have e08 : iH h 0 8 = (X : Int) := by rw [hse.1, hXN]
  obtain ⟨h5, hh5⟩ : ∃ h5, h5 = sI h 17 0 0 := ⟨_, rfl⟩
  rw [← hh5]
  have i5 : ∀ x k, (x ≠ 17 ∨ k ≠ 0) → iH h5 x k = iH h x k := fun x k q => by
    rw [hh5]
    by_cases e : x = 17
    · subst e; exact rI_nk (q.elim (fun u => absurd rfl u) id)
    · exact rI_ne e
  have r5 : ∀ x k, rH h5 x k = rH h x k := fun x k => by rw [hh5]; rfl
  have j5 : ∀ x k, jH h5 x k = jH h x k := fun x k => by rw [hh5]; rfl
  have k5 : ∀ x, kH h5 x = kH h x := fun x => by rw [hh5]; rfl
  have n5 : nH h5 = nH h := by rw [hh5]; rfl
  have z5 : iH h5 17 0 = 0 := by rw [hh5]; exact rI_same
  have L5 : LayL h5 := by rw [hh5]; exact hL
  have ag5 : agD h h5 := agD_rf n5 k5 fun x hx => ⟨fun k => i5 x k (Or.inl (by omega)), fun k => r5 x k⟩
  have c5 : cRd h5 g da sa := cRd_fr ag5 (i5 _ _ (Or.inl (by decide))) (fun k => r5 _ k) (fun k => j5 _ k) hc
  have m5 : cMg h5 g f w := ⟨by rw [i5 _ _ (Or.inr (by decide))]; exact m1, by rw [i5 _ _ (Or.inr (by decide))]; exact m2, m3, fun i hi k hk => m4 i hi k (by rw [← j5]; exact hk)⟩
  have lf5 : mgLf h5 = mgLf h := by rw [hh5]; rfl
  have ehm := l_howManyCome L5 c5 m5
  rw [lf5] at ehm
  refine ⟨_, ehm, fun x h1 _ hx => ?_⟩
  obtain ⟨rfl, rfl⟩ := hx
  obtain ⟨n, hn⟩ : ∃ n, n = (v_cm g (mgRow g f) (mgLf h) w).1 := ⟨_, rfl⟩
  rw [← hn] at hco hn64 hsum hcl ⊢
  have hfw : f + w ≤ S := by omega
  refine ⟨L5, fun c1 => ?_, fun c1 => ?_⟩
  · rw [Int.toNat_natCast]
    refine ⟨by omega, ?_⟩
    obtain ⟨hA, hhA⟩ : ∃ hA, hA = nw h1 16 n := ⟨_, rfl⟩
    rw [← hhA]
    have nA : nH hA = nH h + 1 := by rw [hhA]; show nH h1 + 1 = _; omega
    have oA : ∀ x, x < nH h → kH hA x = kH h1 x ∧ (∀ k, iH hA x k = iH h1 x k) ∧ (∀ k, jH hA x k = jH h1 x k) ∧ ∀ k, rH hA x k = rH h1 x k := fun x hx => by rw [hhA]; exact nw_o (by omega)
    have LA : LayL hA := by rw [hhA]; exact LayL_nw L5
    have kA : kH hA (nH h) = (16, n) := by rw [hhA, ← n5]; exact kH_nw h1 16 n
    have agA : agD h1 hA := ⟨by omega, fun x hx _ => by
      obtain ⟨a1, a2, -, a4⟩ := oA x (by omega)
      exact ⟨a1, a2, a4⟩⟩
    have cA : cRd hA g da sa := cRd_fr agA ((oA 5 (by omega)).2.1 2) (oA 6 (by omega)).2.2.2 (oA 7 (by omega)).2.2.1 c5
    have mA : cMg hA g f w := by
      obtain ⟨q1, q2, q3, q4⟩ := m5
      refine ⟨by rw [(oA 17 (by omega)).2.1]; exact q1, by rw [(oA 17 (by omega)).2.1]; exact q2, q3, fun i hi k hk => q4 i hi k (by rw [← (oA 18 (by omega)).2.2.1]; exact hk)⟩
    have lfA : mgLf hA = mgLf h := by
      funext i k
      unfold mgLf
      rw [(oA 18 (by omega)).2.2.1, j5]
    have br := l_bring (b := nH h) (n := n) LA cA mA ⟨by omega, kA⟩ (by rw [lfA]; exact hn) hn64 hN (fun x hx => by
      obtain ⟨-, -, -, ⟨r, hS, -⟩, -⟩ := hc.2.1 x hx
      have := hS.1.1.1
      omega) (fun d hd => by
      have := (hc.1 d hd).2.1.1.1
      omega)
    rw [lfA] at br
    rw [n5]
    refine ⟨_, br, fun z h14 hx => ?_⟩
    obtain ⟨R, rfl, hR, hz⟩ := hx
    have L14 : LayL (sRW hA (nH h) R) := LayL_rw (by omega) LA
    have i14 : ∀ x k, x < nH h → iH (sRW hA (nH h) R) x k = iH h1 x k := fun x k hx => (oA x hx).2.1 k
    have j14 : ∀ x k, x < nH h → jH (sRW hA (nH h) R) x k = jH h1 x k := fun x k hx => (oA x hx).2.2.1 k
    have r14 : ∀ x k, x < nH h → rH (sRW hA (nH h) R) x k = rH h1 x k := fun x k hx => (rw_o (by omega)).trans ((oA x hx).2.2.2 k)
    have k14 : ∀ x, kH (sRW hA (nH h) R) x = kH hA x := fun _ => rfl
    rw [i14 0 8 (by omega), i14 17 1 (by omega), i14 17 2 (by omega), m5.1, m5.2.1, i5 0 8 (Or.inl (by decide)), e08]
    obtain ⟨h15, hh15⟩ : ∃ h15, h15 = sI (sRW hA (nH h) R) 0 8 ((X : Int) + 1) := ⟨_, rfl⟩
    rw [← hh15]
    have n15 : nH h15 = nH h + 1 := by rw [hh15]; exact nA
    have L15 : LayL h15 := by rw [hh15]; exact L14
    have o15 : ∀ x, x < nH h → kH h15 x = kH h x ∧ (∀ k, (x ≠ 0 ∨ k ≠ 8) → (x ≠ 17 ∨ k ≠ 0) → iH h15 x k = iH h x k) ∧ (∀ k, jH h15 x k = jH h x k) ∧ ∀ k, rH h15 x k = rH h x k := fun x hx => by
      rw [hh15]
      refine ⟨by show kH hA x = _; rw [(oA x hx).1, k5], fun k q q2 => ?_, fun k => by show jH (sRW hA (nH h) R) x k = _; rw [j14 x k hx, j5], fun k => by show rH (sRW hA (nH h) R) x k = _; rw [r14 x k hx, r5]⟩
      have : iH (sI (sRW hA (nH h) R) 0 8 ((X : Int) + 1)) x k = iH (sRW hA (nH h) R) x k := by
        by_cases e : x = 0
        · subst e; exact rI_nk (q.elim (fun u => absurd rfl u) id)
        · exact rI_ne e
      rw [this, i14 x k hx, i5 x k q2]
    have i158 : iH h15 0 8 = (X : Int) + 1 := by rw [hh15]; exact rI_same
    have i1517 : iH h15 17 0 = 0 := by rw [hh15, rI_ne (by decide), i14 17 0 (by omega)]; exact z5
    have r15 : ∀ k, rH h15 (nH h) k = R k := fun k => by rw [hh15]; exact rw_s
    have k15 : kH h15 (nH h) = (16, n) := by rw [hh15]; exact kA
    have ag15 : agD h h15 := ⟨by omega, fun x hx hx2 => by
      obtain ⟨a1, a2, -, a4⟩ := o15 x hx
      exact ⟨a1, fun k => a2 k (Or.inl (by omega)) (Or.inl (by omega)), a4⟩⟩
    have c15 : cRd h15 g da sa := cRd_fr ag15 ((o15 5 (by omega)).2.1 2 (Or.inl (by decide)) (Or.inl (by decide))) (o15 6 (by omega)).2.2.2 (o15 7 (by omega)).2.2.1 hc
    have w1 : (w : Int) - 1 = ((w - 1 : Nat) : Int) := by omega
    refine ⟨L14, by omega, by omega, _, l_remove L15 (Or.inl rfl) c15.2.1 c15.2.2 (f := (f : Int)) (m := (w : Int) - 1) (by rw [hSN]; omega), fun h19 hx => ?_⟩
    obtain ⟨R2, J2, hh19, hRJ⟩ := hx
    have e155 : iH h15 5 2 = (S : Int) := by rw [(o15 5 (by omega)).2.1 2 (Or.inl (by decide)) (Or.inl (by decide)), e52]
    rw [e155] at hh19 hRJ
    have L19 : LayL h19 := by rw [hh19]; exact LayL_hSt (Or.inl rfl) L15
    have n19 : nH h19 = nH h + 1 := by rw [hh19]; exact n15
    have i19 : ∀ x k, (x ≠ 5 ∨ k ≠ 2) → iH h19 x k = iH h15 x k := fun x k q => by
      rw [hh19]
      by_cases e : x = 5
      · exact st_ik (q.elim (fun u => absurd e u) id)
      · exact st_io e
    have r19 : ∀ x k, x ≠ 6 → rH h19 x k = rH h15 x k := fun x k q => by rw [hh19]; exact st_Ro q
    have j19 : ∀ x k, x ≠ 7 → jH h19 x k = jH h15 x k := fun x k q => by rw [hh19]; exact st_Jo q
    have k19 : ∀ x, kH h19 x = kH h15 x := fun x => by rw [hh19]; rfl
    obtain ⟨h20, hh20⟩ : ∃ h20, h20 = nw h19 7 0 := ⟨_, rfl⟩
    rw [← hh20]
    have n20 : nH h20 = nH h + 1 + 1 := by rw [hh20]; show nH h19 + 1 = _; omega
    have o20 : ∀ x, x < nH h19 → kH h20 x = kH h19 x ∧ (∀ k, iH h20 x k = iH h19 x k) ∧ (∀ k, jH h20 x k = jH h19 x k) ∧ ∀ k, rH h20 x k = rH h19 x k := fun x hx => by rw [hh20]; exact nw_o hx
    have L20 : LayL h20 := by rw [hh20]; exact LayL_nw L19
    have ag20 : agD h h20 := ⟨by omega, fun x hx hx2 => by
      obtain ⟨a1, a2, -, a4⟩ := o20 x (by omega)
      obtain ⟨b1, b2, -, b4⟩ := o15 x hx
      exact ⟨by rw [a1, k19, b1], fun k => by rw [a2, i19 _ _ (Or.inl (by omega)), b2 k (Or.inl (by omega)) (Or.inl (by omega))], fun k => by rw [a4, r19 _ _ (by omega), b4]⟩⟩
    have i208 : iH h20 0 8 = (X : Int) + 1 := by rw [(o20 0 (by omega)).2.1, i19 _ _ (Or.inl (by decide)), i158]
    rw [i208]
    have uq : ∀ j j' k k' : Nat, j < w → j' < w → (k : Int) < iH g 615 (mgRow g f j).toNat → (k' : Int) < iH g 615 (mgRow g f j').toNat → iH g (617 + (mgRow g f j).toNat) k = iH g (617 + (mgRow g f j').toNat) k' → j = j' ∧ k = k' := fun j j' k k' a1 a2 a3 a4 a5 => by
      have := uniq0 hp (s := f + j) (s' := f + j') (by omega) (by omega) a3 a4 a5
      omega
    obtain ⟨ci1, ci2⟩ := cm_inv (lf := mgLf h) uq w (Nat.le_refl _)
    have hcm2 : ∀ k, k < n → ∃ i j : Nat, i < w ∧ (j : Int) < iH g 615 (iH g 1155 (f + i)).toNat ∧ iH g 1159 k = iH g (617 + (iH g 1155 (f + i)).toNat) j := fun k hk => by
      obtain ⟨i, j, a1, a2, a3⟩ := ci1 k (by omega)
      exact ⟨i, j, by omega, a2, by rw [hcl k hk]; exact a3⟩
    have hcd : ∀ k k' : Nat, k < k' → k' < n → iH g 1159 k ≠ iH g 1159 k' := fun k k' a1 a2 => by
      rw [hcl k (by omega), hcl k' a2]
      exact ci2 k k' a1 (by omega)
    have bu : ∀ k, k < n → (0 ≤ iH g 1159 k ∧ iH g 1159 k < iH g 89 0) := fun k hk1 => by
      obtain ⟨i, j, i1, i2, i3⟩ := hcm2 k hk1
      have m := mem_bd hp (s := f + i) (k := j) (by omega) i2
      rw [i3]; exact ⟨m.1, m.2.1⟩
    have r20 : ∀ k, k < n → rH h20 (nH h) k = some (da (iH g 1159 k).toNat) := fun k hk => by
      rw [(o20 _ (by omega)).2.2.2, r19 _ _ (by omega), r15, hR k hk, hcl k hk]
    have hsz : ∀ k, k < n → (iH g 91 (iH g 1159 k).toNat).toNat ≤ 12 := fun k hk => by
      have u := bu k hk
      have := (hc.1 (iH g 1159 k).toNat (by omega)).1.2.1
      rw [Int.toNat_natCast] at this
      omega
    have hsd : segD h20 (nH h) n (fun k => (iH g 91 (iH g 1159 k).toNat).toNat) (fun k i => iH g (93 + (iH g 1159 k).toNat) i) := fun k hk => by
      have u := bu k hk
      obtain ⟨p1, p2, p3, p4⟩ := hc.1 (iH g 1159 k).toNat (by omega)
      have q1 := p2.2.2.1.1
      refine ⟨da (iH g 1159 k).toNat, r20 k hk, q1, iD_ag ag20 p2, fun i hi => ?_⟩
      rw [(ag20.2 _ q1 (by have := p2.2.2.2.1; omega)).2.1]
      exact p4 i hi
    have seg := l_segment L20 (a := nH h + 1) (d := nH h) (n := n) (r := (szS (fun k => (iH g 91 (iH g 1159 k).toNat).toNat) n).toNat) (x := (X : Int) + 1) rfl n20 (by omega) (by rw [hh20, ← n19]; exact kH_nw h19 7 0) (by rw [(o20 _ (by omega)).1, k19]; exact k15) (by omega) (fun k => by rw [hh20, ← n19]; exact iH_nw h19 7 0 k) (Int.toNat_of_nonneg szS_nn) hsz hsd
    rw [n19]
    refine ⟨L19, by omega, _, by omega, seg, by omega, fun h24 hx24 => ?_⟩
    obtain ⟨⟨s1, s2, s3, s4⟩, c, s5, s6⟩ := hx24
    have c24 : ∀ x, x < nH h → kH h24 x = kH h19 x ∧ (∀ k, iH h24 x k = iH h19 x k) ∧ (∀ k, jH h24 x k = jH h19 x k) ∧ ∀ k, rH h24 x k = rH h19 x k := fun x hx => by
      obtain ⟨u1, u2, u3⟩ := s2 x (by omega)
      obtain ⟨v1, v2⟩ := u2 (by omega)
      obtain ⟨w1, w2, w3, w4⟩ := o20 x (by omega)
      exact ⟨by rw [u1, w1], fun k => by rw [v1, w2], fun k => by rw [u3, w3], fun k => by rw [v2, w4]⟩
    have i24 : ∀ x k, x < nH h → (x ≠ 0 ∨ k ≠ 8) → (x ≠ 5 ∨ k ≠ 2) → (x ≠ 17 ∨ k ≠ 0) → iH h24 x k = iH h x k := fun x k hx q1 q2 q3 => by
      rw [(c24 x hx).2.1, i19 x k q2, (o15 x hx).2.1 k q1 q3]
    have j24 : ∀ x k, x < nH h → x ≠ 7 → jH h24 x k = jH h x k := fun x k hx q => by
      rw [(c24 x hx).2.2.1, j19 x k q, (o15 x hx).2.2.1]
    have r24 : ∀ x k, x < nH h → x ≠ 6 → rH h24 x k = rH h x k := fun x k hx q => by
      rw [(c24 x hx).2.2.2, r19 x k q, (o15 x hx).2.2.2]
    have k24 : ∀ x, x < nH h → kH h24 x = kH h x := fun x hx => by
      rw [(c24 x hx).1, k19, (o15 x hx).1]
    have L24 : LayL h24 := ⟨fun q hq => by
      have : ∀ q ∈ tabL, q.1 ≤ 88 := by decide
      have := this q hq
      obtain ⟨-, u2⟩ := L19.1 q hq
      exact ⟨by omega, by rw [(c24 q.1 (by omega)).1]; exact u2⟩, fun q hq => by
      have : ∀ q ∈ refL, q.1 ≤ 88 := by decide
      have := this q hq
      rw [(c24 q.1 (by omega)).2.2.2]; exact L19.2 q hq⟩
    have e171 : iH h19 17 1 = (f : Int) := by rw [i19 _ _ (Or.inl (by decide)), (o15 17 (by omega)).2.1 1 (Or.inl (by decide)) (Or.inr (by decide)), m1]
    have e171' : iH h24 17 1 = (f : Int) := by rw [(c24 17 (by omega)).2.1, e171]
    have e08' : iH h24 0 8 = (X : Int) + 1 := by rw [(c24 0 (by omega)).2.1, i19 _ _ (Or.inl (by decide)), i158]
    rw [e171, e171', e08', Int.toNat_natCast]
    obtain ⟨H, hH⟩ : ∃ H, H = sJ (sR h24 6 f (some (nH h + 1))) 7 f z := ⟨_, rfl⟩
    have iHH : ∀ x k, iH H x k = iH h24 x k := fun x k => by rw [hH]; rfl
    have kHH : ∀ x, kH H x = kH h24 x := fun x => by rw [hH]; rfl
    have rHH : ∀ x k, rH H x k = if x = 6 ∧ k = f then some (nH h + 1) else rH h24 x k := fun x k => by
      rw [hH]
      by_cases e1 : x = 6 <;> by_cases e2 : k = f <;> simp [rH, sR, sJ, u2, e1, e2]
    have jHH : ∀ x k, jH H x k = if x = 7 ∧ k = f then z else jH h24 x k := fun x k => by
      rw [hH]
      by_cases e1 : x = 7 <;> by_cases e2 : k = f <;> simp [jH, sJ, sR, u2, e1, e2]
    have LH : LayL H := by
      refine ⟨fun q hq => ⟨by rw [hH]; exact (L24.1 q hq).1, by rw [kHH]; exact (L24.1 q hq).2⟩, fun q hq => ?_⟩
      have : ∀ q ∈ refL, q.1 ≠ 6 := by decide
      rw [rHH, if_neg (fun u => this q hq u.1)]
      exact L24.2 q hq
    have nHH : nH H = nH h + 5 := by rw [hH]; show nH h24 = _; omega
    have sgH : iSg H (nH h + 1) n (szS (fun k => (iH g 91 (iH g 1159 k).toNat).toNat) n).toNat := iSg_ag ⟨by rw [hH]; exact Nat.le_refl _, fun x _ hx => ⟨kHH x, fun k => iHH x k, fun k => by rw [rHH, if_neg (by omega)]⟩⟩ s3
    have K := fin1_K (H := H) (N1 := nH h + 1) (r := (szS (fun k => (iH g 91 (iH g 1159 k).toNat).toNat) n).toNat) (c := c) (z := z) hp hb hSN hw hfw m3.1 hXN (by omega) hco hn64 hcm2 hcd hsum
      ⟨by omega, fun x hx hx2 => ⟨by rw [kHH, k24 x hx], fun k => by rw [iHH, i24 x k hx (Or.inl (by omega)) (Or.inl (by omega)) (Or.inl (by omega))], fun k => by rw [rHH, if_neg (by omega), r24 x k hx (by omega)]⟩⟩
      sgH s5 (dD_cg (fun x k _ => iHH x k) s6) (by rw [iHH, s4])
      (fun k hk => by rw [show nH h + 1 - 1 = nH h by omega, rHH, if_neg (by omega), ((s2 (nH h) (by omega)).2.1 (by omega)).2, r20 k hk])
      (fun k => by
        rw [hz k]
        constructor
        · rintro ⟨u1, u2⟩; exact ⟨u1, by rw [hcl k u1]; exact u2⟩
        · rintro ⟨u1, u2⟩; exact ⟨u1, by rw [← hcl k u1]; exact u2⟩)
      (by rw [iHH, (c24 5 (by omega)).2.1, hh19, st_n]; omega)
      (fun k hk => by
        rw [rHH]
        by_cases e : k = f
        · rw [if_pos ⟨rfl, e⟩, if_pos e]
        · rw [if_neg (fun u => e u.2), if_neg e, (c24 6 (by omega)).2.2.2, hh19]
          refine st_R.trans ?_
          obtain ⟨a1, a2⟩ := hRJ k
          unfold src
          by_cases e2 : k < f
          · rw [if_pos e2, (a1 (by omega)).1, (o15 6 (by omega)).2.2.2]
          · rw [if_neg e2, (a2 (by omega) (by omega)).1, w1, Int.toNat_natCast, (o15 6 (by omega)).2.2.2])
      (fun k hk => by
        rw [jHH]
        by_cases e : k = f
        · rw [if_pos ⟨rfl, e⟩, if_pos e]
        · rw [if_neg (fun u => e u.2), if_neg e, (c24 7 (by omega)).2.2.1, hh19]
          refine st_J.trans ?_
          obtain ⟨a1, a2⟩ := hRJ k
          unfold src
          by_cases e2 : k < f
          · rw [if_pos e2, (a1 (by omega)).2, (o15 7 (by omega)).2.2.1]
          · rw [if_neg e2, (a2 (by omega) (by omega)).2, w1, Int.toNat_natCast, (o15 7 (by omega)).2.2.1])
      (fun y hy h5 => by
        have ly := iSt_lt hy
        have ap := iSt_ap (Or.inl rfl : iSt 5) hy (fun q => h5 q.symm)
        exact ⟨fun k => by rw [iHH, i24 y k (by omega) (Or.inl (by unfold iSt at hy; omega)) (Or.inl h5) (Or.inl (by unfold iSt at hy; omega))], fun k => by rw [rHH, if_neg (by omega), r24 _ k (by omega) (by omega)], fun k => by rw [jHH, if_neg (by omega), j24 _ k (by omega) (by omega)]⟩)
      (by rw [iHH, i24 5 3 (by omega) (Or.inl (by decide)) (Or.inr (by decide)) (Or.inl (by decide))]) (by rw [iHH, i24 0 2 (by omega) (Or.inr (by decide)) (Or.inl (by decide)) (Or.inl (by decide))]) (fun k => by rw [rHH, if_neg (by omega), r24 4 k (by omega) (by decide)])
    obtain ⟨K1, K2, K3, K4, K5⟩ := K
    refine ⟨L24, ⟨by omega, by omega, s3.1.1.2⟩, ?_, by omega, ?_⟩
    · rw [hH] at LH; exact LH
    · rw [← hH]
      refine ⟨_, rfl, f, m_fin1 g f, _, fun _ => hmr, Or.inr (Or.inr ⟨c0, by omega, by rw [hXN], rfl⟩), fun x hx => if_neg (by omega), LH, K1, K2, by rw [iHH, e08', K5], ?_, ?_, ⟨by omega, fun x hx => ⟨by rw [kHH, k24 x hx], fun k q1 q2 q3 => by rw [iHH, i24 x k hx q1 q2 q3], fun k q => by rw [jHH, if_neg (by omega), j24 x k hx q], fun k q => by rw [rHH, if_neg (by omega), r24 x k hx q]⟩⟩, Or.inr ⟨fun x k a1 a2 a3 a4 a5 => K3 x k a1 a2 (Or.inl a3) (by omega) (Or.inl a5), K4⟩⟩
      · rw [iHH, (c24 17 (by omega)).2.1, i19 _ _ (Or.inl (by decide)), i1517]
      · unfold m_fin1 m_fin1A m_fill m_ns0
        rw [rI_nk (by decide), rW_ne (by decide), rI_ne (by decide), rI_ne (by decide), rW_ne (by omega), rI_nk (by decide), rI_ne (by decide), rI_same]
  · rw [m5.1, m5.2.1]
    refine ⟨_, l_remove L5 (Or.inl rfl) c5.2.1 c5.2.2 (f := (f : Int)) (m := (w : Int)) (by rw [hSN]; omega), fun h50 hx => ?_⟩
    obtain ⟨R2, J2, hh50, hRJ⟩ := hx
    have e55 : iH h1 5 2 = (S : Int) := by rw [i5 _ _ (Or.inl (by decide)), e52]
    rw [e55] at hh50 hRJ
    have L50 : LayL h50 := by rw [hh50]; exact LayL_hSt (Or.inl rfl) L5
    have n50 : nH h50 = nH h := by rw [hh50]; exact n5
    have i50 : ∀ x k, (x ≠ 5 ∨ k ≠ 2) → (x ≠ 17 ∨ k ≠ 0) → iH h50 x k = iH h x k := fun x k q q2 => by
      rw [hh50]
      by_cases e : x = 5
      · rw [st_ik (q.elim (fun u => absurd e u) id), i5 x k q2]
      · rw [st_io e, i5 x k q2]
    have r50 : ∀ x k, x ≠ 6 → rH h50 x k = rH h x k := fun x k q => by rw [hh50, st_Ro q, r5]
    have j50 : ∀ x k, x ≠ 7 → jH h50 x k = jH h x k := fun x k q => by rw [hh50, st_Jo q, j5]
    have k50 : ∀ x, kH h50 x = kH h x := fun x => by rw [hh50]; exact k5 x
    obtain ⟨K1, K3, K4⟩ := fin0_K (H := h50) hp hSN hw hfw (agD_rf n50 k50 fun x hx => ⟨fun k => i50 x k (Or.inl (by omega)) (Or.inl (by omega)), fun k => r50 x k (by omega)⟩)
      (by rw [hh50, st_n]; omega)
      (fun k hk => by
        rw [hh50]
        refine st_R.trans ?_
        obtain ⟨a1, a2⟩ := hRJ k
        unfold src
        by_cases e2 : k < f
        · rw [if_pos e2, (a1 (by omega)).1, r5]
        · rw [if_neg e2, (a2 (by omega) (by omega)).1, Int.toNat_natCast, r5])
      (fun k hk => by
        rw [hh50]
        refine st_J.trans ?_
        obtain ⟨a1, a2⟩ := hRJ k
        unfold src
        by_cases e2 : k < f
        · rw [if_pos e2, (a1 (by omega)).2, j5]
        · rw [if_neg e2, (a2 (by omega) (by omega)).2, Int.toNat_natCast, j5])
      (fun y hy h5 => by
        have ap := iSt_ap (Or.inl rfl : iSt 5) hy (fun q => h5 q.symm)
        exact ⟨fun k => i50 y k (Or.inl h5) (Or.inl (by unfold iSt at hy; omega)), fun k => r50 _ k (by omega), fun k => j50 _ k (by omega)⟩)
      (i50 5 3 (Or.inr (by decide)) (Or.inl (by decide)))
    have eb : ∀ k, k ≠ 13 → k ≠ 24 → iH (m_fin0 g f) 89 k = iH g 89 k := K4
    have eN : agDS g (m_fin0 g f) := ⟨⟨K4 _ (by decide) (by decide), K4 _ (by decide) (by decide)⟩, fun x k a1 a2 _ => K3 x k (by omega) (by omega)⟩
    have KB : kB h50 (m_fin0 g f) da := by
      obtain ⟨⟨b1, b2, b3⟩, hB⟩ := hb
      refine ⟨⟨by rw [i50 0 2 (Or.inl (by decide)) (Or.inl (by decide)), eb _ (by decide) (by decide)]; exact b1, by rw [eb _ (by decide) (by decide)]; exact b2, fun i hi => ?_⟩, fun i hi => ?_⟩
      · rw [eb _ (by decide) (by decide)] at hi
        rw [K3 1156 _ (by decide) (by decide), r50 4 _ (by decide), eb _ (by decide) (by decide)]
        exact b3 i hi
      · rw [eb _ (by decide) (by decide)] at hi
        obtain ⟨q1, q2, q3⟩ := hB i hi
        have xB : ∀ k, iH (m_fin0 g f) 1156 k = iH g 1156 k := fun k => K3 _ _ (by decide) (by decide)
        rw [xB, K3 613 _ (by decide) (by decide)]
        refine ⟨q1, fun i' hi' => by rw [xB]; exact q2 i' hi', fun x hx hx2 k hk1 => ?_⟩
        rw [eb _ (by decide) (by decide)] at hx2
        rw [K3 615 _ (by decide) (by decide)] at hk1
        rw [K3 _ _ (by omega) (by omega)]
        exact q3 x hx hx2 k hk1
    refine ⟨L50, _, rfl, f, m_fin0 g f, sa, fun _ => hmr, Or.inr (Or.inl ⟨c0, by omega, rfl, rfl⟩), fun _ _ => rfl, L50, K1, KB, by rw [i50 0 8 (Or.inl (by decide)) (Or.inl (by decide)), eb _ (by decide) (by decide)]; exact hse.1, ?_, ?_, ⟨by omega, fun x hx => ⟨k50 x, fun k q1 q2 q3 => i50 x k q2 q3, fun k q => j50 x k q, fun k q => r50 x k q⟩⟩, Or.inr ⟨fun x k a1 a2 _ _ _ => K3 x k a1 a2, fun k _ a2 a3 => K4 k a2 a3⟩⟩
    · rw [hh50, st_io (by decide)]; exact z5
    · unfold m_fin0
      rw [rI_nk (by decide), rW_ne (by decide), rI_same]
