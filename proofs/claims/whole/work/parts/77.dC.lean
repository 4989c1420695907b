/-! THE INDEX: ADD -/
def b_X11_add_0 : List IE := [(.iload_n 1, 1, 0, 0, 1, 0)]
theorem k_X11_add_0 : ckB mX11_add 11 0 b_X11_add_0 1 = true := by decide +kernel
def b_X11_add_4 : List IE := []
theorem k_X11_add_4 : ckIf mX11_add 11 4 b_X11_add_4 4 1 6 10 7 = true := by decide +kernel
def b_X11_add_7 : List IE := [(.bipush (-2), 2, (-2), 0, 0, 0)]
theorem k_X11_add_7 : ckI mX11_add 11 7 b_X11_add_7 9 = true := by decide +kernel
def b_X11_add_10 : List IE := [(.aload_n 0, 1, 0, 0, 0, 0), (.getfield 122, 3, 0, 11, 2, 0), (.iconst 4, 1, 4, 0, 0, 0)]
theorem k_X11_add_10 : ckIc mX11_add 11 10 b_X11_add_10 15 2 15 30 18 = true := by decide +kernel
def b_X11_add_18 : List IE := [(.aload_n 0, 1, 0, 0, 0, 0), (.iload_n 1, 1, 0, 0, 1, 0)]
theorem k_X11_add_18 : ckB mX11_add 11 18 b_X11_add_18 20 = true := by decide +kernel
def b_X11_add_23 : List IE := [(.iconst (-1), 1, (-1), 0, 0, 0)]
theorem k_X11_add_23 : ckIc mX11_add 11 23 b_X11_add_23 24 1 6 30 27 = true := by decide +kernel
def b_X11_add_27 : List IE := [(.bipush (-4), 2, (-4), 0, 0, 0)]
theorem k_X11_add_27 : ckI mX11_add 11 27 b_X11_add_27 29 = true := by decide +kernel
def b_X11_add_30 : List IE := [(.aload_n 0, 1, 0, 0, 0, 0), (.getfield 10, 3, 0, 11, 0, 1)]
theorem k_X11_add_30 : ckB mX11_add 11 30 b_X11_add_30 34 = true := by decide +kernel
def b_X11_add_37 : List IE := [(.istore_n 2, 1, 0, 0, 2, 0), (.aload_n 0, 1, 0, 0, 0, 0), (.getfield 10, 3, 0, 11, 0, 1), (.iconst 0, 1, 0, 0, 0, 0), (.putfield 112, 3, 0, 10, 1, 0), (.iload_n 2, 1, 0, 0, 2, 0), (.iconst (-1), 1, (-1), 0, 0, 0)]
theorem k_X11_add_37 : ckIc mX11_add 11 37 b_X11_add_37 48 0 8 56 51 = true := by decide +kernel
def b_X11_add_51 : List IE := [(.bipush (-100), 2, (-100), 0, 0, 0), (.iload_n 2, 1, 0, 0, 2, 0), (.isub, 1, 0, 0, 0, 0)]
theorem k_X11_add_51 : ckI mX11_add 11 51 b_X11_add_51 55 = true := by decide +kernel
def b_X11_add_56 : List IE := [(.aload_n 0, 1, 0, 0, 0, 0), (.iload_n 1, 1, 0, 0, 1, 0)]
theorem k_X11_add_56 : ckB mX11_add 11 56 b_X11_add_56 58 = true := by decide +kernel
def b_X11_add_61 : List IE := [(.pop, 1, 0, 0, 0, 0)]
theorem k_X11_add_61 : ckNew mX11_add 11 61 b_X11_add_61 62 16 0 = true := by decide +kernel
def b_X11_add_65 : List IE := [(.dup, 1, 0, 0, 0, 0), (.iload_n 1, 1, 0, 0, 1, 0), (.aload_n 0, 1, 0, 0, 0, 0), (.getfield 10, 3, 0, 11, 0, 1)]
theorem k_X11_add_65 : ckB mX11_add 11 65 b_X11_add_65 71 = true := by decide +kernel
def b_X11_add_74 : List IE := []
theorem k_X11_add_74 : ckB mX11_add 11 74 b_X11_add_74 74 = true := by decide +kernel
def b_X11_add_77 : List IE := [(.astore_n 3, 1, 0, 0, 3, 0), (.aload_n 0, 1, 0, 0, 0, 0), (.getfield 18, 3, 0, 11, 1, 1), (.aload_n 0, 1, 0, 0, 0, 0), (.getfield 122, 3, 0, 11, 2, 0), (.aload_n 3, 1, 0, 0, 3, 0), (.aastore, 1, 0, 0, 0, 0), (.aload_n 0, 1, 0, 0, 0, 0), (.dup, 1, 0, 0, 0, 0), (.getfield 122, 3, 0, 11, 2, 0), (.iconst 1, 1, 1, 0, 0, 0), (.iadd, 1, 0, 0, 0, 0), (.putfield 122, 3, 0, 11, 2, 0), (.aload_n 3, 1, 0, 0, 3, 0), (.getfield 143, 3, 0, 0, 1, 1), (.arraylength, 1, 0, 0, 0, 0)]
theorem k_X11_add_77 : ckI mX11_add 11 77 b_X11_add_77 103 = true := by decide +kernel
theorem s_X11_add_1 : cS mX11_add 1 mX11_isKey 119 1 := ⟨by decide +kernel, ⟨ml_X11_isKey, li_RX11_119, st_X11_isKey⟩, by decide +kernel⟩
theorem s_X11_add_20 : cV mX11_add 20 mX11_placeInBuffer 125 1 11 := ⟨by decide +kernel, ⟨ml_X11_placeInBuffer, li_RX11_125, im_X11_placeInBuffer, se_X11_placeInBuffer⟩, ⟨by decide +kernel, by decide +kernel⟩, by decide +kernel⟩
theorem s_X11_add_34 : cV mX11_add 34 mX10_readDocument 129 0 10 := ⟨by decide +kernel, ⟨ml_X10_readDocument, li_RX11_129, im_X10_readDocument, se_X10_readDocument⟩, ⟨by decide +kernel, by decide +kernel⟩, by decide +kernel⟩
theorem s_X11_add_58 : cV mX11_add 58 mX11_dropLive 133 1 11 := ⟨by decide +kernel, ⟨ml_X11_dropLive, li_RX11_133, im_X11_dropLive, se_X11_dropLive⟩, ⟨by decide +kernel, by decide +kernel⟩, by decide +kernel⟩
theorem s_X11_add_62 : Cond.classLink mX11_add.1.cls 16 (rx 0) ∈ gt ∧ Cond.instantiable (rx 0) (nf 0) ∈ gt ∧ Cond.initialized (rx 0) ∈ gt := ⟨gt_ok (List.mem_of_getElem? (i := 141) (by decide +kernel)) (by decide +kernel), gt_ok (List.mem_of_getElem? (i := 449) (by decide +kernel)) (by decide +kernel), gt_ok (List.mem_of_getElem? (i := 101) (by decide +kernel)) (by decide +kernel)⟩
theorem s_X11_add_71 : cV mX11_add 71 mX10_wordsRead 136 0 10 := ⟨by decide +kernel, ⟨ml_X10_wordsRead, li_RX11_136, im_X10_wordsRead, se_X10_wordsRead⟩, ⟨by decide +kernel, by decide +kernel⟩, by decide +kernel⟩
theorem s_X11_add_74 : cI mX11_add 74 mX0_init 140 2 := ⟨by decide +kernel, Or.inl ⟨ml_X0_init, li_RX11_140, im_X0_init, rfl, rfl⟩, by decide +kernel⟩
theorem t_X11_add_0 {rc rs : Nat} {Q : Option AV → AH → Prop} {h : AH} {da : Nat → Nat} {g : AH} {x1 : Int} (hL : LayL h) (hv : (((0 ≤ x1 ∧ x1 ≤ 99) → (((iH h 0 2) < 4 → wp mX11_add 3 rc rs Q 30 [some (vr 0), some (vi x1), none, none] [] h) ∧ (4 ≤ (iH h 0 2) → (cDocs h g da ∧ cBuf h g da) ∧ (((m_bp g x1) ≠ (-1) → wp mX11_add 3 rc rs Q 30 [some (vr 0), some (vi x1), none, none] [] h) ∧ ((m_bp g x1) = (-1) → Q (some (vi (-4))) h))))) ∧ (¬ (0 ≤ x1 ∧ x1 ≤ 99) → Q (some (vi (-2))) h))) : wp mX11_add 3 rc rs Q 0 [some (vr 0), some (vi x1), none, none] [] h :=
  (show wp mX11_add 3 rc rs Q 0 [some (vr 0), some (vi x1), none, none] [] h from xcS k_X11_add_0 s_X11_add_1 ((Exists.intro [vi x1] (Exists.intro [] (And.intro (And.intro rfl (And.intro rfl (Nat.le_of_ble_eq_true rfl))) (Exists.intro 0 (Exists.intro 0 (Exists.intro 0 (Exists.intro _ (And.intro l_isKey (And.intro (And.intro (by decide) (And.intro (Nat.zero_le _) (Nat.zero_le _))) (eQP (show wp mX11_add 3 rc rs Q 4 [some (vr 0), some (vi x1), none, none] [vi (b01 (0 ≤ x1 ∧ x1 ≤ 99))] h from xIf k_X11_add_4 (And.intro (fun c1 => have v3 := hv.1 (b01_p.mp c1); (show wp mX11_add 3 rc rs Q 10 [some (vr 0), some (vi x1), none, none] [] h from xIc k_X11_add_10 (And.intro (ll_0 hL) (And.intro (fun c5 => have v7 := v3.1 c5; v7) (fun c6 => have v8 := v3.2 (Int.not_lt.mp c6); (show wp mX11_add 3 rc rs Q 18 [some (vr 0), some (vi x1), none, none] [] h from xcV k_X11_add_18 s_X11_add_20 (have c13 := v8.1; have v14 := v8.2; (Exists.intro [vi x1] (Exists.intro 0 (Exists.intro [] (And.intro (And.intro rfl (And.intro rfl (Nat.le_of_ble_eq_true rfl))) (And.intro (ll_0 hL) (Exists.intro 0 (Exists.intro 0 (Exists.intro 0 (Exists.intro _ (And.intro (l_placeInBuffer (h := h) hL c13) (And.intro (And.intro (by decide) (And.intro (Nat.zero_le _) (Nat.zero_le _))) (eQP (show wp mX11_add 3 rc rs Q 23 [some (vr 0), some (vi x1), none, none] [vi (m_bp g x1)] h from xIc k_X11_add_23 (And.intro (fun c9 => have v11 := v14.1 c9; v11) (fun c10 => have v12 := v14.2 (Decidable.not_not.mp c10); (show wp mX11_add 3 rc rs Q 27 [some (vr 0), some (vi x1), none, none] [] h from xI k_X11_add_27 (And.intro rfl v12)))))))))))))))))))))))) (fun c2 => have v4 := hv.2 (b01_nn.mp c2); (show wp mX11_add 3 rc rs Q 7 [some (vr 0), some (vi x1), none, none] [] h from xI k_X11_add_7 (And.intro rfl v4)))))))))))))))))
theorem e_X11_add {mc ms : Nat} {Q : Option AV → AH → Prop} {h : AH} {da : Nat → Nat} {g : AH} {x1 : Int} (hL : LayL h) (hv : (((0 ≤ x1 ∧ x1 ≤ 99) → (((iH h 0 2) < 4 → wp mX11_add 3 mc ms Q 30 [some (vr 0), some (vi x1), none, none] [] h) ∧ (4 ≤ (iH h 0 2) → (cDocs h g da ∧ cBuf h g da) ∧ (((m_bp g x1) ≠ (-1) → wp mX11_add 3 mc ms Q 30 [some (vr 0), some (vi x1), none, none] [] h) ∧ ((m_bp g x1) = (-1) → Q (some (vi (-4))) h))))) ∧ (¬ (0 ≤ x1 ∧ x1 ≤ 99) → Q (some (vi (-2))) h))) : Ct 3 mc ms mX11_add [vr 0, vi x1] h Q := Ct.of (by decide +kernel) (Nat.le_of_ble_eq_true rfl) (t_X11_add_0 hL hv)
theorem t_X11_add_30 {rc rs : Nat} {Q : Option AV → AH → Prop} {h : AH} {g : AH} {x1 : Int} (hL : LayL h) (hv : (cTape h g) ∧ LayL (l_dH h g (d_m g)) ∧ (((d_fault g) = (-1) → (∃ P7 : Int → AH → Prop, Ct 2 0 0 mX11_dropLive [vr 0, vi x1] (sI (l_dH h g (d_m g)) 1 1 0) (QI P7) ∧ ∀ (r6 : Int) (h5 : AH), (-2147483648 ≤ r6 ∧ r6 < 2147483648) → P7 r6 h5 → LayL h5 ∧ (1 ≤ rc ∧ 2 ≤ rs) ∧ (∃ P12 : Nat → AH → Prop, Ct 1 1 12 mX10_wordsRead [vr 1] (nw h5 0 0) (QR P12) ∧ (1 ≤ (rc - 1) ∧ 12 ≤ (rs - 2)) ∧ ∀ (r11 : Nat) (h10 : AH), P12 r11 h10 → LayL h10 ∧ (∃ P15 : AH → Prop, ((nH h5) < nH h10) ∧ Ct 1 0 0 mX0_init [vr (nH h5), vi x1, vr r11] h10 (QV P15) ∧ ∀ h13 : AH, P15 h13 → LayL h13 ∧ ((0 ≤ iH h13 0 2 ∧ iH h13 0 2 < 4) ∧ ((nH h5) < nH h13 ∧ kH h13 (nH h5) = (0, 0))) ∧ LayL (sR h13 4 ((iH h13 0 2).toNat) (some (nH h5))) ∧ (-2147483648 ≤ (iH h13 0 2 + 1) ∧ (iH h13 0 2 + 1) < 2147483648) ∧ ((nH h5) < nH (sI (sR h13 4 ((iH h13 0 2).toNat) (some (nH h5))) 0 2 (iH h13 0 2 + 1)) ∧ kH (sI (sR h13 4 ((iH h13 0 2).toNat) (some (nH h5))) 0 2 (iH h13 0 2 + 1)) (nH h5) = (0, 0)) ∧ (∃ q21 n22 : Nat, (rH (sI (sR h13 4 ((iH h13 0 2).toNat) (some (nH h5))) 0 2 (iH h13 0 2 + 1)) (nH h5) 1 = some q21 ∧ (q21 < nH (sI (sR h13 4 ((iH h13 0 2).toNat) (some (nH h5))) 0 2 (iH h13 0 2 + 1)) ∧ kH (sI (sR h13 4 ((iH h13 0 2).toNat) (some (nH h5))) 0 2 (iH h13 0 2 + 1)) q21 = (13, n22))) ∧ (n22 < 2147483648) ∧ Q (some (vi (n22 : Int))) (sI (sR h13 4 ((iH h13 0 2).toNat) (some (nH h5))) 0 2 (iH h13 0 2 + 1))))))) ∧ ((d_fault g) ≠ (-1) → (-2147483648 ≤ ((-100) - (d_fault g)) ∧ ((-100) - (d_fault g)) < 2147483648) ∧ Q (some (vi ((-100) - (d_fault g)))) (sI (l_dH h g (d_m g)) 1 1 0)))) : wp mX11_add 3 rc rs Q 30 [some (vr 0), some (vi x1), none, none] [] h :=
  (show wp mX11_add 3 rc rs Q 30 [some (vr 0), some (vi x1), none, none] [] h from xcV k_X11_add_30 s_X11_add_34 (And.intro (ll_0 hL) (Exists.intro 1 (And.intro (lg_0_0 hL) (have c48 := hv.1; have v49 := hv.2; (Exists.intro [] (Exists.intro 1 (Exists.intro [] (And.intro (And.intro rfl (And.intro rfl (Nat.le_of_ble_eq_true rfl))) (And.intro (ll_1 hL) (Exists.intro 1 (Exists.intro 0 (Exists.intro 0 (Exists.intro _ (And.intro (l_readDocument (h := h) hL c48) (And.intro (And.intro (by decide) (And.intro (Nat.zero_le _) (Nat.zero_le _))) (eQP (have hL := v49.1; have v50 := v49.2; (show wp mX11_add 3 rc rs Q 37 [some (vr 0), some (vi x1), none, none] [vi (d_fault g)] (l_dH h g (d_m g)) from xIc k_X11_add_37 (And.intro rfl (And.intro (ll_0 hL) (Exists.intro 1 (And.intro (lg_0_0 hL) (And.intro (ll_1 hL) (And.intro (fun c1 => have v3 := v50.1 c1; (show wp mX11_add 3 rc rs Q 56 [some (vr 0), some (vi x1), some (vi (d_fault g)), none] [] (sI (l_dH h g (d_m g)) 1 1 0) from xcV k_X11_add_56 s_X11_add_58 (Exists.elim v3 (fun P7 v42 => (Exists.intro [vi x1] (Exists.intro 0 (Exists.intro [] (And.intro (And.intro rfl (And.intro rfl (Nat.le_of_ble_eq_true rfl))) (And.intro (ll_0 hL) (Exists.intro 2 (Exists.intro 0 (Exists.intro 0 (Exists.intro (QI P7) (And.intro v42.1 (And.intro (And.intro (by decide) (And.intro (Nat.zero_le _) (Nat.zero_le _))) (eQI (fun r6 h5 q45 e44 => have v43 := v42.2 r6 h5 q45 e44; have hL := v43.1; have v43 := v43.2; (show wp mX11_add 3 rc rs Q 61 [some (vr 0), some (vi x1), some (vi (d_fault g)), none] [vi r6] h5 from xNew k_X11_add_61 s_X11_add_62 (And.intro rfl (have c8 := v43.1; have v9 := v43.2; And.intro c8 (have hL := LayL_nw (t := 0) (n := 0) hL; (show wp mX11_add 3 (rc - 1) (rs - 2) Q 65 [some (vr 0), some (vi x1), some (vi (d_fault g)), none] [vr (nH h5)] (nw h5 0 0) from xcV k_X11_add_65 s_X11_add_71 (And.intro rfl (And.intro (ll_0 hL) (Exists.intro 1 (And.intro (lg_0_0 hL) (Exists.elim v9 (fun P12 v37 => have c41 := v37.1; have v37 := v37.2; have c40 := v37.1; have v37 := v37.2; (Exists.intro [] (Exists.intro 1 (Exists.intro [vi x1, vr (nH h5), vr (nH h5)] (And.intro (And.intro rfl (And.intro rfl (Nat.le_of_ble_eq_true rfl))) (And.intro (ll_1 hL) (Exists.intro 1 (Exists.intro 1 (Exists.intro 12 (Exists.intro (QR P12) (And.intro c41 (And.intro (And.intro (by decide) (And.intro c40.1 c40.2)) (eQR (fun r11 h10 e39 => have v38 := v37 r11 h10 e39; have hL := v38.1; have v38 := v38.2; (show wp mX11_add 3 ((rc - 1) - 1) ((rs - 2) - 12) Q 74 [some (vr 0), some (vi x1), some (vi (d_fault g)), none] [vr r11, vi x1, vr (nH h5), vr (nH h5)] h10 from xcI k_X11_add_74 s_X11_add_74 (Exists.elim v38 (fun P15 v32 => have c16 := v32.1; have v32 := v32.2; have c36 := v32.1; have v32 := v32.2; (Exists.intro [vi x1, vr r11] (Exists.intro (nH h5) (Exists.intro [vr (nH h5)] (And.intro (And.intro rfl (And.intro rfl (Nat.le_of_ble_eq_true rfl))) (And.intro c16 (Exists.intro 1 (Exists.intro 0 (Exists.intro 0 (Exists.intro (QV P15) (And.intro c36 (And.intro (And.intro (by decide) (And.intro (Nat.zero_le _) (Nat.zero_le _))) (eQV (fun h13 e34 => have v33 := v32 h13 e34; have hL := v33.1; have v33 := v33.2; (show wp mX11_add 3 ((rc - 1) - 1) ((rs - 2) - 12) Q 77 [some (vr 0), some (vi x1), some (vi (d_fault g)), none] [vr (nH h5)] h13 from xI k_X11_add_77 (And.intro rfl (And.intro (ll_0 hL) (Exists.intro 4 (And.intro (lg_0_1 hL) (And.intro (ll_0 hL) (have c17 := v33.1; have v31 := v33.2; (And.intro (sdA (ll_4 hL) c17.1 c17.2) (have c18 := v31.1; have v30 := v31.2; (have hL := c18; (And.intro rfl (And.intro (ll_0 hL) (have c19 := v30.1; have v29 := v30.2; (And.intro c19 (And.intro (ll_0 hL) (have c20 := v29.1; have v28 := v29.2; (And.intro c20 (Exists.elim v28 (fun q21 v26_0 => (Exists.elim v26_0 (fun n22 v26 => have c23 := v26.1; have v27 := v26.2; (Exists.intro _ (And.intro c23.1 (have c24 := v27.1; have v25 := v27.2; (And.intro (sdL c23.2 (And.intro (by decide) (And.intro (by decide) c24))) (len_r c23.2 (And.intro rfl v25)))))))))))))))))))))))))))))))))))))))))))))))))))))))))))))))))))))))))))))))))))) (fun c2 => have v4 := v50.2 c2; (show wp mX11_add 3 rc rs Q 51 [some (vr 0), some (vi x1), some (vi (d_fault g)), none] [] (sI (l_dH h g (d_m g)) 1 1 0) from xI k_X11_add_51 (have c46 := v4.1; have v47 := v4.2; (And.intro c46 (And.intro rfl v47))))))))))))))))))))))))))))))
theorem drop_x {g : AH} {key : Int} {x k : Nat} (h1 : x ≠ 1156) (h2 : x ≠ 613) (h3 : x ≠ 89 ∨ k ≠ 15) : iH (m_drop g key) x k = iH g x k := by
  unfold m_drop
  split
  · by_cases e : x = 89
    · subst e; rw [rI_nk (h3.elim (fun u => absurd rfl u) id), rW_ne (by decide)]
    · rw [rI_ne e, rW_ne h1]
  · split
    · exact rI_ne h2
    · rfl
theorem LayL_4 {h : AH} {k : Nat} {v : Option Nat} (hL : LayL h) : LayL (sR h 4 k v) := ⟨hL.1, fun q hq => by
  have : q.1 ≠ 4 := by
    have : ∀ q ∈ refL, q.1 ≠ 4 := by decide
    exact this q hq
  rw [rR_o this]; exact hL.2 q hq⟩
theorem add1_N {g : AH} : agN g (m_add1 g) := ⟨⟨⟨r_add71 (by decide) (by decide), r_add71 (by decide) (by decide)⟩, fun x k _ _ _ => r_add1 (by omega) (by omega)⟩, fun k => r_add1 (by decide) (by decide), ⟨r_add71 (by decide) (by decide), fun k => r_add1 (by decide) (by decide)⟩, fun t ht => ⟨r_add1 (by decide) (by decide), fun k => r_add1 (by omega) (by omega), fun k => r_add1 (by omega) (by omega)⟩⟩
/-- the class's heap when the tape was read as a document -/
noncomputable def hA1 (h g : AH) : AH := sI (l_dH h g (d_m g)) 1 1 0
theorem hA1_o {h g : AH} {x k : Nat} (h1 : x ≠ 1) (h3 : x ≠ 3) : iH (hA1 h g) x k = iH h x k := by
  unfold hA1 l_dH; rw [rI_ne h1, rI_ne h1, rW_ne h3]
theorem add1_K {h g : AH} {da sa : Nat → Nat} (hp : kSta h g da sa) (hb : kB h g da) (hz : rZ g) : kSta (hA1 h g) (m_add1 g) da sa ∧ kB (hA1 h g) (m_add1 g) da ∧ rZ (m_add1 g) ∧ cTape (hA1 h g) (m_add1 g) := by
  have ag : agD h (hA1 h g) := agD_rf rfl (fun _ => rfl) fun x hx => ⟨fun k => hA1_o (by omega) (by omega), fun _ => rfl⟩
  have as : agSt h (hA1 h g) := fun c hc => by
    have := iSt_lt hc
    exact ⟨fun k => hA1_o (by omega) (by omega), fun _ => rfl, fun _ => rfl⟩
  have eN := add1_N (g := g)
  have hk := kHd_fr ag as hp.1
  refine ⟨⟨kHd_N eN (kF_N (fun t _ => r_add1 (by decide) (by decide)) (r_add1 (by decide) (by decide)) hk.2.2) hk, rI_N eN hp.1 hp.2.1 hp.2.2⟩, ⟨⟨?_, ?_, fun k hk1 => ?_⟩, fun i hi => ?_⟩, fun d hd h1 => ?_, ⟨?_, ?_, fun k hk1 => ?_⟩⟩
  · rw [hA1_o (by decide) (by decide), r_add71 (by decide) (by decide)]; exact hb.1.1
  · rw [r_add71 (by decide) (by decide)]; exact hb.1.2.1
  · rw [r_add71 (by decide) (by decide)] at hk1
    rw [r_add1 (by decide) (by decide), r_add71 (by decide) (by decide)]
    exact hb.1.2.2 k hk1
  · rw [r_add71 (by decide) (by decide)] at hi
    obtain ⟨u1, u2, u3⟩ := hb.2 i hi
    rw [r_add1 (a := 1156) (by decide) (by decide), r_add1 (by decide) (by decide)]
    refine ⟨u1, fun i' hi' => by rw [r_add1 (by decide) (by decide)]; exact u2 i' hi', fun x hx hx2 k hk1 => ?_⟩
    rw [r_add71 (by decide) (by decide)] at hx2
    rw [r_add1 (by decide) (by decide)] at hk1
    rw [r_add1 (by omega) (by omega)]
    exact u3 x hx hx2 k hk1
  · rw [r_add71 (by decide) (by decide)] at h1
    rw [r_add1 (by decide) (by decide)]; exact hz d hd h1
  · unfold m_add1; rw [rI_same]; exact rI_same
  · unfold m_add1; rw [rI_same]; omega
  · unfold d_n m_add1 at hk1; rw [rI_same] at hk1; omega
/-- what an addition leaves of the class's cells -/
def hAddF (h h' : AH) : Prop := nH h ≤ nH h' ∧ ∀ x, x < nH h → kH h' x = kH h x ∧ (∀ k, x ≠ 1 → x ≠ 3 → (x ≠ 0 ∨ k ≠ 2) → iH h' x k = iH h x k) ∧ (∀ k, x ≠ 7 → jH h' x k = jH h x k) ∧ ∀ k, x ≠ 4 → rH h' x k = rH h x k
theorem drop_b {g : AH} {key : Int} (h4 : 0 ≤ iH g 89 15 ∧ iH g 89 15 ≤ 4) (hc : ¬ (iH g 89 15 = 4 ∧ m_bp g key = -1)) : iH (m_drop g key) 89 15 < 4 := by
  by_cases c : m_bp g key ≠ -1
  · have e : m_drop g key = sI (sW g 1156 (m_shf g (m_bp g key).toNat)) 89 15 (iH g 89 15 - 1) := if_pos c
    rw [e, rI_same]; omega
  · have c' : m_bp g key = -1 := Classical.not_not.mp c
    have e : iH (m_drop g key) 89 15 = iH g 89 15 := by
      unfold m_drop
      rw [if_neg c]
      split
      · exact rI_ne (by decide)
      · rfl
    have : iH g 89 15 ≠ 4 := fun q => hc ⟨q, c'⟩
    omega
theorem l_add {h g : AH} {da sa : Nat → Nat} (hL : LayL h) {key : Int} (hN : 1191 ≤ nH h) (hp : kSta h g da sa) (hb : kB h g da) (hz : rZ g) (hT : cTape h g) (hD : 0 ≤ iH g 89 0 ∧ iH g 89 0 < 520) : Ct 3 2 14 mX11_add [vr 0, vi key] h (QI fun x h' => ∃ g' da', p_add g key x g' ∧ exD g da da' ∧ LayL h' ∧ kSta h' g' da' sa ∧ kB h' g' da' ∧ rZ g' ∧ cTape h' g' ∧ hAddF h h') := by
  have hf := d_fault_bd hT.2.1
  have hm12 := (d_m_cs g).1
  have b1 := hb.1.1
  have b4 := hb.1.2.1
  have nf : hAddF h h := ⟨Nat.le_refl _, fun x _ => ⟨rfl, fun _ _ _ _ => rfl, fun _ _ => rfl, fun _ _ => rfl⟩⟩
  obtain ⟨k1, k2, k3, k4⟩ := add1_K hp hb hz
  have f1 : hAddF h (hA1 h g) := ⟨Nat.le_refl _, fun x _ => ⟨rfl, fun k h1 h3 _ => hA1_o h1 h3, fun _ _ => rfl, fun _ _ => rfl⟩⟩
  have bp1 : m_bp (m_add1 g) key = m_bp g key := m_bp_cg (fun k => r_add1 (by decide) (by decide)) (fun k => r_add1 (by decide) (by decide)) (r_add71 (by decide) (by decide))
  have main : (0 ≤ key ∧ key ≤ 99) → ¬ (iH g 89 15 = 4 ∧ m_bp g key = -1) → wp mX11_add 3 2 14 (QI fun x h' => ∃ g' da', p_add g key x g' ∧ exD g da da' ∧ LayL h' ∧ kSta h' g' da' sa ∧ kB h' g' da' ∧ rZ g' ∧ cTape h' g' ∧ hAddF h h') 30 [some (vr 0), some (vi key), none, none] [] h := by
    intro hk hbf
    have hL1 : LayL (hA1 h g) := hL
    refine t_X11_add_30 (g := g) hL ⟨hT, hL, fun c => ⟨_, l_dropLive hL1 k1 k2, fun x h2 _ hx => ?_⟩, fun c => ⟨by omega, _, rfl, _, da, Or.inr (Or.inr (Or.inl ⟨hk, hbf, by omega, rfl, rfl⟩)), fun _ _ => rfl, hL1, k1, k2, k3, k4, f1⟩⟩
    obtain ⟨-, x2, x3, x4, x5⟩ := hx
    obtain ⟨z1, z2⟩ := drop_Z (key := key) k1 k3
    have n2 : nH h2 = nH h := x5.1
    have w3 : ∀ i, i < d_m g → iH h2 3 i = d_word g i := fun i hi => by
      rw [x5.2.2.1 3 i (Or.inl (by decide))]
      unfold hA1 l_dH
      rw [rI_ne (by decide), rI_ne (by decide), rW_same]
      exact if_pos hi
    have w1 : iH h2 1 3 = (d_m g : Int) := by
      rw [x5.2.2.1 1 3 (Or.inl (by decide))]
      unfold hA1 l_dH
      rw [rI_nk (by decide)]; exact rI_same
    have nw2 : ∀ i, i < d_m g → iH (m_drop (m_add1 g) key) 1158 i = d_word g i := fun i hi => by
      rw [drop_x (by decide) (by decide) (Or.inl (by decide))]
      unfold m_add1 m_docH d_H
      rw [rI_ne (by decide), rI_ne (by decide), rW_same]
      exact if_pos hi
    have nm2 : iH (m_drop (m_add1 g) key) 89 20 = (d_m g : Int) := by
      rw [drop_x (by decide) (by decide) (Or.inr (by decide))]
      unfold m_add1 m_docH d_H
      rw [rI_nk (by decide)]; exact rI_same
    have nd2 : iH (m_drop (m_add1 g) key) 89 0 = ((iH g 89 0).toNat : Int) := by
      rw [z2, r_add71 (by decide) (by decide)]; omega
    have bb := drop_b (g := m_add1 g) (key := key) k2.1.2.1 (by rw [bp1, r_add71 (by decide) (by decide)]; exact hbf)
    obtain ⟨b, hbN⟩ := Int.eq_ofNat_of_zero_le x4.1.2.1.1
    have hb02 : iH h2 0 2 = (b : Int) := by rw [x4.1.1, hbN]
    obtain ⟨a1, a2, a3⟩ := add_K (n := d_m g) (D := (iH g 89 0).toNat) (b := b) (key := key) x2 (by omega) x3 x4 z1 nd2 (by omega) hbN (by omega) nm2 hm12 (fun i hi => by rw [w3 i hi, nw2 i hi]; exact ⟨rfl, d_word_bd hT.2.1 hi⟩)
    obtain ⟨g1, g2, ⟨g3, g4⟩, g5, g6, g7, g8, g9⟩ := hAdd_f (h := h2) (n := d_m g) (b := b) (key := key) (by omega)
    have hLn : LayL (nw h2 0 0) := LayL_nw x2
    refine ⟨x2, by omega, _, l_wordsRead hLn (n := d_m g) ⟨by rw [nw_iH (by omega)]; exact w1, hm12⟩, by omega, fun r h10 hr => ?_⟩
    obtain ⟨rfl, rfl⟩ := hr
    have hL10 : LayL (cpI (nw (nw h2 0 0) 13 (d_m g)) 3 0 (nH (nw h2 0 0)) 0 (d_m g)) := LayL_nw hLn
    have kN : nH h2 < nH (nw (nw h2 0 0) 13 (d_m g)) ∧ kH (nw (nw h2 0 0) 13 (d_m g)) (nH h2) = (0, 0) := nw_at nw_k
    have kN1 : nH (nw h2 0 0) < nH (nw (nw h2 0 0) 13 (d_m g)) ∧ kH (nw (nw h2 0 0) 13 (d_m g)) (nH (nw h2 0 0)) = (13, d_m g) := nw_k
    refine ⟨hL10, _, kN.1, l_docMade hL10 ⟨by omega, kN⟩ kN1, fun h13 hh => ?_⟩
    have hL13 : LayL h13 := by rw [hh]; exact LayL_sR (by omega) hL10
    have e02 : iH h13 0 2 = (b : Int) := by
      rw [hh, ← hb02]
      show iH (sI (cpI (nw (nw h2 0 0) 13 (d_m g)) 3 0 (nH (nw h2 0 0)) 0 (d_m g)) (nH h2) 0 key) 0 2 = _
      rw [rI_ne (by omega), cp_ne (by show 0 ≠ nH h2 + 1; omega), nw_iH (by show 0 < nH h2 + 1; omega), nw_iH (by omega)]
    have eF : sI (sR h13 4 b (some (nH h2))) 0 2 ((b : Int) + 1) = hAdd h2 (d_m g) key b := by rw [hh]; rfl
    have kk : nH h2 < nH h13 ∧ kH h13 (nH h2) = (0, 0) := by rw [hh]; exact kN
    have kk2 : nH h2 < nH (hAdd h2 (d_m g) key b) ∧ kH (hAdd h2 (d_m g) key b) (nH h2) = (0, 0) := ⟨by omega, g5⟩
    have hLF : LayL (hAdd h2 (d_m g) key b) := by rw [← eF]; exact LayL_4 hL13
    rw [e02, Int.toNat_natCast, eF]
    refine ⟨hL13, ⟨by omega, kk⟩, LayL_4 hL13, by omega, kk2, nH h2 + 1, d_m g, ⟨g8, by omega, g6⟩, by omega, _, rfl, m_addH (m_drop (m_add1 g) key) key, _, Or.inr (Or.inr (Or.inr ⟨hk, hbf, by omega, rfl, rfl⟩)), fun d hd1 => if_neg (by omega), hLF, a1, a2, a3, ?_, ?_⟩
    · have t1 : iH (m_addH (m_drop (m_add1 g) key) key) 89 18 = 0 := by
        unfold m_addH
        rw [rI_nk (by decide), rI_nk (by decide), rI_ne (by decide), cp_ne (by omega), rI_ne (by decide), rI_ne (by decide), drop_x (by decide) (by decide) (Or.inr (by decide))]
        exact rI_same
      refine ⟨?_, by rw [t1]; omega, fun k hk1 => ?_⟩
      · rw [t1, (g2 1 (by omega)).2.1 1 (Or.inl (by decide)), x5.2.2.1 1 1 (Or.inl (by decide))]
        exact rI_same
      · unfold d_n at hk1; rw [t1] at hk1; omega
    · refine ⟨by omega, fun x hx => ?_⟩
      obtain ⟨p1, p2, p3, p4⟩ := g2 x (by omega)
      refine ⟨by rw [p1, x5.2.1]; rfl, fun k h1 h3 h0 => ?_, fun k h7 => ?_, fun k h4 => ?_⟩
      · rw [p2 k h0, x5.2.2.1 x k h0]; exact hA1_o h1 h3
      · rw [p3, x5.2.2.2.1 x k h7]; rfl
      · rw [p4 k (Or.inl h4), x5.2.2.2.2 x k h4]; rfl
  refine e_X11_add (g := g) (da := da) hL ⟨fun hk => ⟨fun c => main hk (by omega), fun c => ⟨⟨hp.1.1.1, hb.1⟩, fun c2 => main hk (fun q => c2 q.2), fun c2 => ⟨_, rfl, g, da, Or.inr (Or.inl ⟨hk, by omega, c2, rfl, rfl⟩), fun _ _ => rfl, hL, hp, hb, hz, hT, nf⟩⟩⟩, fun hk => ⟨_, rfl, g, da, Or.inl ⟨hk, rfl, rfl⟩, fun _ _ => rfl, hL, hp, hb, hz, hT, nf⟩⟩
