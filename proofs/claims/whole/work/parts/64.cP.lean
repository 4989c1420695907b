/-! THE CLASS: A DOCUMENT IS READ -/
def b_X10_readDocument_0 : List IE := [(.aload_n 0, 1, 0, 0, 0, 0), (.iconst 0, 1, 0, 0, 0, 0), (.putfield 22, 3, 0, 10, 3, 0), (.aload_n 0, 1, 0, 0, 0, 0), (.iconst 0, 1, 0, 0, 0, 0)]
theorem k_X10_readDocument_0 : ckB mX10_readDocument 10 0 b_X10_readDocument_0 7 = true := by decide +kernel
def b_X10_readDocument_10 : List IE := [(.istore_n 1, 1, 0, 0, 1, 0)]
theorem k_X10_readDocument_10 : ckB mX10_readDocument 10 10 b_X10_readDocument_10 11 = true := by decide +kernel
def b_X10_readDocument_11 : List IE := [(.iload_n 1, 1, 0, 0, 1, 0), (.aload_n 0, 1, 0, 0, 0, 0), (.getfield 18, 3, 0, 10, 1, 0)]
theorem k_X10_readDocument_11 : ckIc mX10_readDocument 10 11 b_X10_readDocument_11 16 3 67 83 19 = true := by decide +kernel
def b_X10_readDocument_19 : List IE := [(.aload_n 0, 1, 0, 0, 0, 0), (.getfield 22, 3, 0, 10, 3, 0), (.bipush 12, 2, 12, 0, 0, 0)]
theorem k_X10_readDocument_19 : ckIc mX10_readDocument 10 19 b_X10_readDocument_19 25 3 58 83 28 = true := by decide +kernel
def b_X10_readDocument_28 : List IE := [(.aload_n 0, 1, 0, 0, 0, 0), (.iload_n 1, 1, 0, 0, 1, 0)]
theorem k_X10_readDocument_28 : ckB mX10_readDocument 10 28 b_X10_readDocument_28 30 = true := by decide +kernel
def b_X10_readDocument_33 : List IE := [(.istore_n 2, 1, 0, 0, 2, 0), (.iload_n 2, 1, 0, 0, 2, 0), (.iload_n 1, 1, 0, 0, 1, 0)]
theorem k_X10_readDocument_33 : ckIc mX10_readDocument 10 33 b_X10_readDocument_33 36 0 11 47 39 = true := by decide +kernel
def b_X10_readDocument_39 : List IE := [(.iload_n 2, 1, 0, 0, 2, 0), (.iload_n 1, 1, 0, 0, 1, 0), (.isub, 1, 0, 0, 0, 0), (.bipush 6, 2, 6, 0, 0, 0)]
theorem k_X10_readDocument_39 : ckIc mX10_readDocument 10 39 b_X10_readDocument_39 44 5 5 49 47 = true := by decide +kernel
def b_X10_readDocument_47 : List IE := [(.iload_n 1, 1, 0, 0, 1, 0)]
theorem k_X10_readDocument_47 : ckI mX10_readDocument 10 47 b_X10_readDocument_47 48 = true := by decide +kernel
def b_X10_readDocument_49 : List IE := [(.aload_n 0, 1, 0, 0, 0, 0), (.getfield 15, 3, 0, 10, 2, 1), (.aload_n 0, 1, 0, 0, 0, 0), (.getfield 22, 3, 0, 10, 3, 0), (.aload_n 0, 1, 0, 0, 0, 0), (.iload_n 1, 1, 0, 0, 1, 0), (.iload_n 2, 1, 0, 0, 2, 0)]
theorem k_X10_readDocument_49 : ckB mX10_readDocument 10 49 b_X10_readDocument_49 60 = true := by decide +kernel
def b_X10_readDocument_63 : List IE := [(.iastore, 1, 0, 0, 0, 0), (.aload_n 0, 1, 0, 0, 0, 0), (.dup, 1, 0, 0, 0, 0), (.getfield 22, 3, 0, 10, 3, 0), (.iconst 1, 1, 1, 0, 0, 0), (.iadd, 1, 0, 0, 0, 0), (.putfield 22, 3, 0, 10, 3, 0), (.aload_n 0, 1, 0, 0, 0, 0), (.iload_n 2, 1, 0, 0, 2, 0)]
theorem k_X10_readDocument_63 : ckB mX10_readDocument 10 63 b_X10_readDocument_63 76 = true := by decide +kernel
def b_X10_readDocument_79 : List IE := [(.istore_n 1, 1, 0, 0, 1, 0)]
theorem k_X10_readDocument_79 : ckGo mX10_readDocument 10 79 b_X10_readDocument_79 80 (-69) 11 = true := by decide +kernel
def b_X10_readDocument_83 : List IE := [(.aload_n 0, 1, 0, 0, 0, 0), (.getfield 22, 3, 0, 10, 3, 0)]
theorem k_X10_readDocument_83 : ckIf mX10_readDocument 10 83 b_X10_readDocument_83 87 0 11 98 90 = true := by decide +kernel
def b_X10_readDocument_90 : List IE := [(.iload_n 1, 1, 0, 0, 1, 0), (.aload_n 0, 1, 0, 0, 0, 0), (.getfield 18, 3, 0, 10, 1, 0)]
theorem k_X10_readDocument_90 : ckIc mX10_readDocument 10 90 b_X10_readDocument_90 95 3 7 102 98 = true := by decide +kernel
def b_X10_readDocument_98 : List IE := [(.iload_n 1, 1, 0, 0, 1, 0)]
theorem k_X10_readDocument_98 : ckGo mX10_readDocument 10 98 b_X10_readDocument_98 99 4 103 = true := by decide +kernel
def b_X10_readDocument_102 : List IE := [(.iconst (-1), 1, (-1), 0, 0, 0)]
theorem k_X10_readDocument_102 : ckI mX10_readDocument 10 102 b_X10_readDocument_102 103 = true := by decide +kernel
def b_X10_readDocument_103 : List IE := []
theorem k_X10_readDocument_103 : ckI mX10_readDocument 10 103 b_X10_readDocument_103 103 = true := by decide +kernel
theorem s_X10_readDocument_7 : cV mX10_readDocument 7 mX10_behindBlanks 25 1 10 := ⟨by decide +kernel, ⟨ml_X10_behindBlanks, li_RX10_25, im_X10_behindBlanks, se_X10_behindBlanks⟩, ⟨by decide +kernel, by decide +kernel⟩, by decide +kernel⟩
theorem s_X10_readDocument_30 : cV mX10_readDocument 30 mX10_wordEnd 29 1 10 := ⟨by decide +kernel, ⟨ml_X10_wordEnd, li_RX10_29, im_X10_wordEnd, se_X10_wordEnd⟩, ⟨by decide +kernel, by decide +kernel⟩, by decide +kernel⟩
theorem s_X10_readDocument_60 : cV mX10_readDocument 60 mX10_wordBetween 32 2 10 := ⟨by decide +kernel, ⟨ml_X10_wordBetween, li_RX10_32, im_X10_wordBetween, se_X10_wordBetween⟩, ⟨by decide +kernel, by decide +kernel⟩, by decide +kernel⟩
theorem s_X10_readDocument_76 : cV mX10_readDocument 76 mX10_behindBlanks 25 1 10 := ⟨by decide +kernel, ⟨ml_X10_behindBlanks, li_RX10_25, im_X10_behindBlanks, se_X10_behindBlanks⟩, ⟨by decide +kernel, by decide +kernel⟩, by decide +kernel⟩
theorem t_X10_readDocument_0 {rc rs : Nat} {Q : Option AV → AH → Prop} {h : AH} {g : AH}  (hL : LayL h) (hv : (cTape (sI h 1 3 0) g ∧ 0 ≤ (0 : Int) ∧ (0 : Int) ≤ (d_n g : Int)) ∧ wp mX10_readDocument 1 rc rs Q 11 [some (vr 1), some (vi ((d_sk g ((0 : Int)).toNat : Nat) : Int)), none] [] (sI h 1 3 0)) : wp mX10_readDocument 1 rc rs Q 0 [some (vr 1), none, none] [] h :=
  (show wp mX10_readDocument 1 rc rs Q 0 [some (vr 1), none, none] [] h from xcV k_X10_readDocument_0 s_X10_readDocument_7 (And.intro (ll_1 hL) (have c1 := hv.1; have v2 := hv.2; (Exists.intro [vi 0] (Exists.intro 1 (Exists.intro [] (And.intro (And.intro rfl (And.intro rfl (Nat.le_of_ble_eq_true rfl))) (And.intro (ll_1 hL) (Exists.intro 0 (Exists.intro 0 (Exists.intro 0 (Exists.intro _ (And.intro (l_behindBlanks (h := (sI h 1 3 0)) hL c1) (And.intro (And.intro (by decide) (And.intro (Nat.zero_le _) (Nat.zero_le _))) (eQP (show wp mX10_readDocument 1 rc rs Q 10 [some (vr 1), none, none] [vi ((d_sk g ((0 : Int)).toNat : Nat) : Int)] (sI h 1 3 0) from xB k_X10_readDocument_10 (And.intro rfl v2)))))))))))))))))
theorem e_X10_readDocument {mc ms : Nat} {Q : Option AV → AH → Prop} {h : AH} {g : AH}  (hL : LayL h) (hv : (cTape (sI h 1 3 0) g ∧ 0 ≤ (0 : Int) ∧ (0 : Int) ≤ (d_n g : Int)) ∧ wp mX10_readDocument 1 mc ms Q 11 [some (vr 1), some (vi ((d_sk g ((0 : Int)).toNat : Nat) : Int)), none] [] (sI h 1 3 0)) : Ct 1 mc ms mX10_readDocument [vr 1] h Q := Ct.of (by decide +kernel) (Nat.le_of_ble_eq_true rfl) (t_X10_readDocument_0 hL hv)
theorem t_X10_readDocument_11 {rc rs : Nat} {Q : Option AV → AH → Prop} {h : AH} {g : AH} {x1 : Int} (hL : LayL h) (hv : (((iH h 1 1) ≤ x1 → (((iH h 1 3) = 0 → Q (some (vi x1)) h) ∧ ((iH h 1 3) ≠ 0 → Q (some (vi (-1))) h))) ∧ (x1 < (iH h 1 1) → ((12 ≤ (iH h 1 3) → (((iH h 1 3) = 0 → Q (some (vi x1)) h) ∧ ((iH h 1 3) ≠ 0 → Q (some (vi x1)) h))) ∧ ((iH h 1 3) < 12 → (cTape h g ∧ 0 ≤ x1 ∧ x1 ≤ (d_n g : Int)) ∧ ((((d_we g (x1).toNat : Nat) : Int) = x1 → Q (some (vi x1)) h) ∧ (((d_we g (x1).toNat : Nat) : Int) ≠ x1 → (-2147483648 ≤ (((d_we g (x1).toNat : Nat) : Int) - x1) ∧ (((d_we g (x1).toNat : Nat) : Int) - x1) < 2147483648) ∧ (((((d_we g (x1).toNat : Nat) : Int) - x1) ≤ 6 → (cTape h g ∧ m_let g x1 ((d_we g (x1).toNat : Nat) : Int) ∧ x1 ≤ 64 ∧ ((d_we g (x1).toNat : Nat) : Int) ≤ (d_n g : Int)) ∧ (0 ≤ iH h 1 3 ∧ iH h 1 3 < 12) ∧ (-2147483648 ≤ (iH h 1 3 + 1) ∧ (iH h 1 3 + 1) < 2147483648) ∧ (cTape (sI (sI h 3 ((iH h 1 3).toNat) (m_wf g x1 ((d_we g (x1).toNat : Nat) : Int) 6)) 1 3 (iH h 1 3 + 1)) g ∧ 0 ≤ ((d_we g (x1).toNat : Nat) : Int) ∧ ((d_we g (x1).toNat : Nat) : Int) ≤ (d_n g : Int)) ∧ wp mX10_readDocument 1 rc rs Q 11 [some (vr 1), some (vi ((d_sk g (((d_we g (x1).toNat : Nat) : Int)).toNat : Nat) : Int)), none] [] (sI (sI h 3 ((iH h 1 3).toNat) (m_wf g x1 ((d_we g (x1).toNat : Nat) : Int) 6)) 1 3 (iH h 1 3 + 1))) ∧ (6 < (((d_we g (x1).toNat : Nat) : Int) - x1) → Q (some (vi x1)) h))))))))) : wp mX10_readDocument 1 rc rs Q 11 [some (vr 1), some (vi x1), none] [] h :=
  (show wp mX10_readDocument 1 rc rs Q 11 [some (vr 1), some (vi x1), none] [] h from xIc k_X10_readDocument_11 (And.intro (ll_1 hL) (And.intro (fun c1 => have v3 := hv.1 c1; (show wp mX10_readDocument 1 rc rs Q 83 [some (vr 1), some (vi x1), none] [] h from xIf k_X10_readDocument_83 (And.intro (ll_1 hL) (And.intro (fun c5 => have v7 := v3.1 c5; (show wp mX10_readDocument 1 rc rs Q 98 [some (vr 1), some (vi x1), none] [] h from xGo k_X10_readDocument_98 (show wp mX10_readDocument 1 rc rs Q 103 [some (vr 1), some (vi x1), none] [vi x1] h from xI k_X10_readDocument_103 (And.intro rfl v7)))) (fun c6 => have v8 := v3.2 c6; (show wp mX10_readDocument 1 rc rs Q 90 [some (vr 1), some (vi x1), none] [] h from xIc k_X10_readDocument_90 (And.intro (ll_1 hL) (And.intro (fun _ => (show wp mX10_readDocument 1 rc rs Q 102 [some (vr 1), some (vi x1), none] [] h from xI k_X10_readDocument_102 (And.intro rfl v8))) (fun c => absurd (show (iH h 1 1) ≤ x1 from c1) c))))))))) (fun c2 => have v4 := hv.2 (Int.not_le.mp c2); (show wp mX10_readDocument 1 rc rs Q 19 [some (vr 1), some (vi x1), none] [] h from xIc k_X10_readDocument_19 (And.intro (ll_1 hL) (And.intro (fun c9 => have v11 := v4.1 c9; (show wp mX10_readDocument 1 rc rs Q 83 [some (vr 1), some (vi x1), none] [] h from xIf k_X10_readDocument_83 (And.intro (ll_1 hL) (And.intro (fun c13 => have v15 := v11.1 c13; (show wp mX10_readDocument 1 rc rs Q 98 [some (vr 1), some (vi x1), none] [] h from xGo k_X10_readDocument_98 (show wp mX10_readDocument 1 rc rs Q 103 [some (vr 1), some (vi x1), none] [vi x1] h from xI k_X10_readDocument_103 (And.intro rfl v15)))) (fun c14 => have v16 := v11.2 c14; (show wp mX10_readDocument 1 rc rs Q 90 [some (vr 1), some (vi x1), none] [] h from xIc k_X10_readDocument_90 (And.intro (ll_1 hL) (And.intro (fun c => (by have cq9 : (iH h 1 1) ≤ x1 := c; have cq8 := (show x1 < (iH h 1 1) from (Int.not_le.mp c2)); omega)) (fun _ => (show wp mX10_readDocument 1 rc rs Q 98 [some (vr 1), some (vi x1), none] [] h from xGo k_X10_readDocument_98 (show wp mX10_readDocument 1 rc rs Q 103 [some (vr 1), some (vi x1), none] [vi x1] h from xI k_X10_readDocument_103 (And.intro rfl v16)))))))))))) (fun c10 => have v12 := v4.2 (Int.not_le.mp c10); (show wp mX10_readDocument 1 rc rs Q 28 [some (vr 1), some (vi x1), none] [] h from xcV k_X10_readDocument_28 s_X10_readDocument_30 (have c37 := v12.1; have v38 := v12.2; (Exists.intro [vi x1] (Exists.intro 1 (Exists.intro [] (And.intro (And.intro rfl (And.intro rfl (Nat.le_of_ble_eq_true rfl))) (And.intro (ll_1 hL) (Exists.intro 0 (Exists.intro 0 (Exists.intro 0 (Exists.intro _ (And.intro (l_wordEnd (h := h) hL c37) (And.intro (And.intro (by decide) (And.intro (Nat.zero_le _) (Nat.zero_le _))) (eQP (show wp mX10_readDocument 1 rc rs Q 33 [some (vr 1), some (vi x1), none] [vi ((d_we g (x1).toNat : Nat) : Int)] h from xIc k_X10_readDocument_33 (And.intro rfl (And.intro (fun c17 => have v19 := v38.1 c17; (show wp mX10_readDocument 1 rc rs Q 47 [some (vr 1), some (vi x1), some (vi ((d_we g (x1).toNat : Nat) : Int))] [] h from xI k_X10_readDocument_47 (And.intro rfl v19))) (fun c18 => have v20 := v38.2 c18; (show wp mX10_readDocument 1 rc rs Q 39 [some (vr 1), some (vi x1), some (vi ((d_we g (x1).toNat : Nat) : Int))] [] h from xIc k_X10_readDocument_39 (have c21 := v20.1; have v36 := v20.2; (And.intro c21 (And.intro (fun c22 => have v24 := v36.1 c22; (show wp mX10_readDocument 1 rc rs Q 49 [some (vr 1), some (vi x1), some (vi ((d_we g (x1).toNat : Nat) : Int))] [] h from xcV k_X10_readDocument_49 s_X10_readDocument_60 (And.intro (ll_1 hL) (Exists.intro 3 (And.intro (lg_1_2 hL) (And.intro (ll_1 hL) (have c33 := v24.1; have v34 := v24.2; (Exists.intro [vi x1, vi ((d_we g (x1).toNat : Nat) : Int)] (Exists.intro 1 (Exists.intro [vi (iH h 1 3), vr 3] (And.intro (And.intro rfl (And.intro rfl (Nat.le_of_ble_eq_true rfl))) (And.intro (ll_1 hL) (Exists.intro 0 (Exists.intro 0 (Exists.intro 0 (Exists.intro _ (And.intro (l_wordBetween (h := h) hL c33) (And.intro (And.intro (by decide) (And.intro (Nat.zero_le _) (Nat.zero_le _))) (eQP (show wp mX10_readDocument 1 rc rs Q 63 [some (vr 1), some (vi x1), some (vi ((d_we g (x1).toNat : Nat) : Int))] [vi (m_wf g x1 ((d_we g (x1).toNat : Nat) : Int) 6), vi (iH h 1 3), vr 3] h from xcV k_X10_readDocument_63 s_X10_readDocument_76 (have c26 := v34.1; have v32 := v34.2; (And.intro (sdI (ll_3 hL) c26) (And.intro rfl (And.intro (ll_1 hL) (have c27 := v32.1; have v31 := v32.2; (And.intro c27 (And.intro (ll_1 hL) (have c28 := v31.1; have v29 := v31.2; (Exists.intro [vi ((d_we g (x1).toNat : Nat) : Int)] (Exists.intro 1 (Exists.intro [] (And.intro (And.intro rfl (And.intro rfl (Nat.le_of_ble_eq_true rfl))) (And.intro (ll_1 hL) (Exists.intro 0 (Exists.intro 0 (Exists.intro 0 (Exists.intro _ (And.intro (l_behindBlanks (h := (sI (sI h 3 ((iH h 1 3).toNat) (m_wf g x1 ((d_we g (x1).toNat : Nat) : Int) 6)) 1 3 (iH h 1 3 + 1))) hL c28) (And.intro (And.intro (by decide) (And.intro (Nat.zero_le _) (Nat.zero_le _))) (eQP (show wp mX10_readDocument 1 rc rs Q 79 [some (vr 1), some (vi x1), some (vi ((d_we g (x1).toNat : Nat) : Int))] [vi ((d_sk g (((d_we g (x1).toNat : Nat) : Int)).toNat : Nat) : Int)] (sI (sI h 3 ((iH h 1 3).toNat) (m_wf g x1 ((d_we g (x1).toNat : Nat) : Int) 6)) 1 3 (iH h 1 3 + 1)) from xGo k_X10_readDocument_79 (And.intro rfl (w_fg [true, true, false] v29))))))))))))))))))))))))))))))))))))))))))) (fun c23 => have v25 := v36.2 (Int.not_le.mp c23); (show wp mX10_readDocument 1 rc rs Q 47 [some (vr 1), some (vi x1), some (vi ((d_we g (x1).toNat : Nat) : Int))] [] h from xI k_X10_readDocument_47 (And.intro rfl v25)))))))))))))))))))))))))))))))))
noncomputable def l_NW (h g : AH) (i j : Nat) : Int := if j < i then d_word g j else iH h 3 j
noncomputable def l_dH (h g : AH) (i : Nat) : AH := sI (sW h 3 (l_NW h g i)) 1 3 i
theorem cTape_dH {h g : AH} {i : Nat} (hT : cTape h g) : cTape (l_dH h g i) g := by
  obtain ⟨t1, t2, t3⟩ := hT
  unfold l_dH
  exact ⟨by rw [rI_nk (by decide), rW_ne (by decide)]; exact t1, t2, fun k hk => by rw [rI_ne (by decide), rW_ne (by decide)]; exact t3 k hk⟩
theorem l_readDocument {h g : AH} (hL : LayL h) (hT : cTape h g) : Ct 1 0 0 mX10_readDocument [vr 1] h (QI fun x h' => x = d_fault g ∧ h' = l_dH h g (d_m g)) := by
  obtain ⟨hm12, hst, hns⟩ := d_m_cs g
  have ht := hT.2.1
  have hn : (d_n g : Int) = iH g 89 18 := by unfold d_n; omega
  have hn64 : d_n g ≤ 64 := by omega
  have hLi : ∀ i, LayL (l_dH h g i) := fun i => hL
  have hTi : ∀ i, cTape (l_dH h g i) g := fun i => cTape_dH hT
  have r1 : ∀ i, iH (l_dH h g i) 1 1 = (d_n g : Int) := fun i => by rw [(hTi i).1, hn]
  have r3 : ∀ i : Nat, iH (l_dH h g i) 1 3 = (i : Int) := fun i => rI_same
  have e0 : sI h 1 3 0 = l_dH h g 0 := by unfold l_dH; rw [sW_id fun k => by unfold l_NW; rw [if_neg (by omega)]]; rfl
  have main := up (P := fun i => wp mX10_readDocument 1 0 0 (QI fun x h' => x = d_fault g ∧ h' = l_dH h g (d_m g)) 11 [some (vr 1), some (vi (d_P g i)), none] [] (l_dH h g i)) (d_m g) ?_ ?_
  · refine e_X10_readDocument (g := g) hL ?_
    rw [e0]
    exact ⟨⟨hTi 0, by omega, by omega⟩, main⟩
  · have hP := d_P_le g (d_m g)
    have hdf : d_fault g = if d_n g ≤ d_P g (d_m g) then (if d_m g = 0 then (d_n g : Int) else -1) else (d_P g (d_m g) : Int) := rfl
    refine t_X10_readDocument_11 (g := g) (hLi _) ?_
    rw [r1, r3, Int.toNat_natCast]
    refine ⟨fun c => ⟨fun c2 => ⟨_, rfl, ?_, rfl⟩, fun c2 => ⟨_, rfl, ?_, rfl⟩⟩, fun c => ⟨fun c2 => ⟨fun c3 => ⟨_, rfl, ?_, rfl⟩, fun c3 => ⟨_, rfl, ?_, rfl⟩⟩, fun c2 => ⟨⟨hTi _, by omega, by omega⟩, fun c3 => ⟨_, rfl, ?_, rfl⟩, fun c3 => ⟨?_, fun c4 => ?_, fun c4 => ⟨_, rfl, ?_, rfl⟩⟩⟩⟩⟩
    · rw [hdf, if_pos (by omega), if_pos (by omega)]; omega
    · rw [hdf, if_pos (by omega), if_neg (by omega)]
    · rw [hdf, if_neg (by omega)]
    · rw [hdf, if_neg (by omega)]
    · rw [hdf, if_neg (by omega)]
    · have : d_we g (d_P g (d_m g)) ≤ d_n g := run_le hP
      omega
    · rcases hst with q | q | q | q <;> omega
    · rw [hdf, if_neg (by omega)]
  · intro i hi ih
    have hs := hns i hi
    have hP := d_P_le g i
    have hWe : d_we g (d_P g i) ≤ d_n g := run_le hP
    have hs2 : ¬ d_n g ≤ d_P g i ∧ ¬ d_we g (d_P g i) = d_P g i ∧ ¬ d_P g i + 6 < d_we g (d_P g i) ∧ ¬ i = 12 := by
      unfold d_stop at hs
      exact ⟨fun q => hs (Or.inl q), fun q => hs (Or.inr (Or.inl q)), fun q => hs (Or.inr (Or.inr (Or.inl q))), fun q => hs (Or.inr (Or.inr (Or.inr q)))⟩
    have e1 : sI (sI (l_dH h g i) 3 i (m_wf g (d_P g i) (d_we g (d_P g i)) 6)) 1 3 ((i : Int) + 1) = l_dH h g (i + 1) := by
      unfold l_dH
      rw [sI_sI_ne (a := 1) (b := 3) (by decide), sI_sW (g' := l_NW h g (i + 1)) (fun j => ?_), sI_sI]
      · rfl
      · unfold l_NW
        by_cases q : j = i
        · subst q; rw [if_pos (by omega), if_pos rfl]; rfl
        · rw [if_neg q]
          by_cases q2 : j < i
          · rw [if_pos (by omega), if_pos q2]
          · rw [if_neg (by omega), if_neg q2]
    refine t_X10_readDocument_11 (g := g) (hLi _) ?_
    rw [r1, r3, Int.toNat_natCast, Int.toNat_natCast, Int.toNat_natCast, e1]
    exact ⟨fun c => absurd c (by omega), fun c => ⟨fun c2 => absurd c2 (by omega), fun c2 => ⟨⟨hTi _, by omega, by omega⟩, fun c3 => absurd c3 (by omega), fun c3 => ⟨by omega, fun c4 => ⟨⟨hTi _, d_word_let ht hP, by omega, by omega⟩, by omega, by omega, ⟨hTi _, by omega, by omega⟩, ih⟩, fun c4 => absurd c4 (by omega)⟩⟩⟩⟩
section
/-! NEW ROWS AND OBJECTS, as exits -/
def naT (t : Nat) : ArrayType := if t = 13 then .int else if t = 14 then .long else .boolean
def ckNewa (y : MI) (o pc : Nat) (es : List IE) (q t : Nat) : Bool := ckB y o pc es q && decide (decode y.2.1 q = .ok (.newarray (naT t), 2)) && (decide (t = 13) || decide (t = 14) || decide (t = 15))
def ckAnew (y : MI) (o pc : Nat) (es : List IE) (q i t : Nat) : Bool := ckB y o pc es q && decide (decode y.2.1 q = .ok (.anewarray i, 3)) && decide (15 < t ∧ t < 21) && decide (rx (elK t) ∈ aoL)
def ckNew (y : MI) (o pc : Nat) (es : List IE) (q i c : Nat) : Bool := ckB y o pc es q && decide (decode y.2.1 q = .ok (.new i, 3)) && decide (c < 13)
def ckObj (y : MI) (o pc : Nat) (es : List IE) (q i : Nat) : Bool := ckB y o pc es q && decide (decode y.2.1 q = .ok (.invokespecial i, 3))
theorem acI : Cond.arrayClass FieldType.int ∈ gt := gt_ok (List.mem_of_getElem? (i := 140) (by decide +kernel)) (by decide +kernel)
theorem acJ : Cond.arrayClass FieldType.long ∈ gt := gt_ok (List.mem_of_getElem? (i := 176) (by decide +kernel)) (by decide +kernel)
theorem acZ : Cond.arrayClass FieldType.boolean ∈ gt := gt_ok (List.mem_of_getElem? (i := 1144) (by decide +kernel)) (by decide +kernel)
variable {y : MI} {d rc rs : Nat} {Q : Option AV → AH → Prop} {o pc q i c t : Nat} {es : List IE} {lo : List (Option AV)} {st : List AV} {h : AH}
theorem xNewa (hb : ckNewa y o pc es q t = true) (k : wpB es lo st h (fun lo stk h => pI stk fun x r => (0 ≤ x ∧ x ≤ 100000 ∧ 1 ≤ rc ∧ x.toNat ≤ rs) ∧ wp y d (rc - 1) (rs - x.toNat) Q (q + 2) lo (vr (nH h) :: r) (nw h t x.toNat))) : wp y d rc rs Q pc lo st h := by
  simp only [ckNewa, Bool.and_eq_true, Bool.or_eq_true, decide_eq_true_eq] at hb
  obtain ⟨⟨h1, h2⟩, h3⟩ := hb
  refine xB h1 (wpB_mono ?_ k)
  intro lo st h hk
  obtain ⟨x, r, rfl, ⟨k1, k2, k3, k4⟩, k5⟩ := pI_e hk
  refine w_newa h2 ?_ ?_ k1 k2 k3 k4 k5
  · rcases h3 with (rfl | rfl) | rfl
    · exact Or.inl ⟨rfl, rfl⟩
    · exact Or.inr (Or.inl ⟨rfl, rfl⟩)
    · exact Or.inr (Or.inr ⟨rfl, rfl⟩)
  · rcases h3 with (rfl | rfl) | rfl
    · exact acI
    · exact acJ
    · exact acZ
theorem xAnew (hb : ckAnew y o pc es q i t = true) (hl : Cond.classLink y.1.cls i (rx (elK t)) ∈ gt) (k : wpB es lo st h (fun lo stk h => pI stk fun x r => (0 ≤ x ∧ x ≤ 100000 ∧ 1 ≤ rc ∧ x.toNat ≤ rs) ∧ wp y d (rc - 1) (rs - x.toNat) Q (q + 3) lo (vr (nH h) :: r) (nw h t x.toNat))) : wp y d rc rs Q pc lo st h := by
  simp only [ckAnew, Bool.and_eq_true, decide_eq_true_eq] at hb
  obtain ⟨⟨⟨h1, h2⟩, h3⟩, h4⟩ := hb
  refine xB h1 (wpB_mono ?_ k)
  intro lo st h hk
  obtain ⟨x, r, rfl, ⟨k1, k2, k3, k4⟩, k5⟩ := pI_e hk
  exact w_anew h3 h2 hl h4 k1 k2 k3 k4 k5
theorem xNew (hb : ckNew y o pc es q i c = true) (hl : Cond.classLink y.1.cls i (rx c) ∈ gt ∧ Cond.instantiable (rx c) (nf c) ∈ gt ∧ Cond.initialized (rx c) ∈ gt) (k : wpB es lo st h (fun lo stk h => (1 ≤ rc ∧ nf c ≤ rs) ∧ wp y d (rc - 1) (rs - nf c) Q (q + 3) lo (vr (nH h) :: stk) (nw h c 0))) : wp y d rc rs Q pc lo st h := by
  simp only [ckNew, Bool.and_eq_true, decide_eq_true_eq] at hb
  obtain ⟨⟨h1, h2⟩, h3⟩ := hb
  refine xB h1 (wpB_mono ?_ k)
  rintro lo st h ⟨⟨k1, k2⟩, k3⟩
  exact w_new h3 h2 hl k1 k2 k3
theorem xObj (hb : ckObj y o pc es q i = true) (hl : Cond.methodLink y.1.cls i objectInit ∈ gt ∧ Cond.instanceMethod objectInit ∈ gt ∧ Cond.code objectInit ⟨#[0xb1]⟩ 1 none ∈ gt) (k : wpB es lo st h (fun lo stk h => pR stk fun _ r => (1 ≤ d ∧ (r.map cat).sum ≤ 8) ∧ wp y d rc rs Q (q + 3) lo r h)) : wp y d rc rs Q pc lo st h := by
  simp only [ckObj, Bool.and_eq_true, decide_eq_true_eq] at hb
  refine xB hb.1 (wpB_mono ?_ k)
  intro lo st h hk
  obtain ⟨a, r, rfl, ⟨k1, k2⟩, k3⟩ := pR_e hk
  exact w_obj hb.2 hl k1 k2 k3
theorem nw_k {h : AH} {t n : Nat} : nH h < nH (nw h t n) ∧ kH (nw h t n) (nH h) = (t, n) := ⟨Nat.lt_succ_self _, kH_nw h t n⟩
theorem LayL_nw {h : AH} {t n : Nat} (hL : LayL h) : LayL (nw h t n) := by
  have hn : ∀ x, x < nH h → kH (nw h t n) x = kH h x ∧ ∀ k, rH (nw h t n) x k = rH h x k := fun x hx => by
    have e : x ≠ h.1 := Nat.ne_of_lt hx
    exact ⟨by simp [kH, nw, e], fun k => by simp [rH, nw, r2, e]⟩
  refine ⟨fun q hq => ?_, fun q hq => ?_⟩
  · obtain ⟨h1, h2⟩ := hL.1 q hq
    exact ⟨Nat.lt_succ_of_lt h1, by rw [(hn _ h1).1]; exact h2⟩
  · have h70 := (ll_88 hL).1
    have : ∀ q ∈ refL, q.1 ≤ 88 := by decide
    have := this q hq
    rw [(hn _ (by omega)).2]
    exact hL.2 q hq
end
