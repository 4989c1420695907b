/-! THE INDEX: WHAT IT TELLS WITHOUT A CHANGE -/
def tRow (g : AH) (t s : Nat) : Int := iH g (1140 + t) s
def tDr (g : AH) (t s k : Nat) : Prop := iH g (1148 + t) ((m_offT g t s).toNat + k) ≠ 0
/-- where the class's stand is that the reference's stand t is -/
def avT (t : Nat) : Nat := if t = 4 then 8 else if t = 5 then 11 else 33 + 3 * t
theorem avT_v {t : Nat} (h : t < 4) : avT t = 33 + 3 * t := by unfold avT; rw [if_neg (by omega), if_neg (by omega)]
theorem iSt_av {t : Nat} (h : t < 6) : iSt (avT t) := by
  unfold avT iSt
  (repeat' split) <;> omega
def kV (h g : AH) (sa : Nat → Nat) (t : Nat) : Prop := cStd h g sa (avT t) (iH g 1138 t) (tRow g t) (tDr g t)
def kF (h g : AH) : Prop := (∀ t : Nat, t < 5 → iH h (avT t) 3 = iH g 1137 t ∧ (iH g 1137 t = 0 ∨ iH g 1137 t = 1)) ∧ iH h 5 3 = 1 ∧ iH h 11 3 = 1 ∧ (iH g 1137 5 = 0 → iH g 1138 5 = 0)
theorem docs_520 {h g : AH} {da : Nat → Nat} (hd : cDocs h g da) : iH g 89 0 ≤ 520 := by
  refine Classical.byContradiction fun c => ?_
  have := (hd 520 (by omega)).1.1
  omega
theorem cBuf_m {h g : AH} {da : Nat → Nat} (hd : cDocs h g da) (hb : cBuf h g da) : m_buf g := by
  have := docs_520 hd
  exact ⟨hb.2.1, fun k hk => by have := (hb.2.2 k hk).1; omega⟩
def b_X11_where_0 : List IE := [(.iload_n 1, 1, 0, 0, 1, 0)]
theorem k_X11_where_0 : ckB mX11_where 11 0 b_X11_where_0 1 = true := by decide +kernel
def b_X11_where_4 : List IE := []
theorem k_X11_where_4 : ckIf mX11_where 11 4 b_X11_where_4 4 1 6 10 7 = true := by decide +kernel
def b_X11_where_7 : List IE := [(.bipush (-2), 2, (-2), 0, 0, 0)]
theorem k_X11_where_7 : ckI mX11_where 11 7 b_X11_where_7 9 = true := by decide +kernel
def b_X11_where_10 : List IE := [(.aload_n 0, 1, 0, 0, 0, 0), (.iload_n 1, 1, 0, 0, 1, 0)]
theorem k_X11_where_10 : ckB mX11_where 11 10 b_X11_where_10 12 = true := by decide +kernel
def b_X11_where_15 : List IE := [(.istore_n 2, 1, 0, 0, 2, 0), (.iload_n 2, 1, 0, 0, 2, 0), (.iconst (-1), 1, (-1), 0, 0, 0)]
theorem k_X11_where_15 : ckIc mX11_where 11 15 b_X11_where_15 18 0 11 29 21 = true := by decide +kernel
def b_X11_where_21 : List IE := [(.sipush 1000, 3, 1000, 0, 0, 0), (.iload_n 2, 1, 0, 0, 2, 0), (.iadd, 1, 0, 0, 0, 0)]
theorem k_X11_where_21 : ckGo mX11_where 11 21 b_X11_where_21 26 8 34 = true := by decide +kernel
def b_X11_where_29 : List IE := [(.aload_n 0, 1, 0, 0, 0, 0), (.iload_n 1, 1, 0, 0, 1, 0)]
theorem k_X11_where_29 : ckB mX11_where 11 29 b_X11_where_29 31 = true := by decide +kernel
def b_X11_where_34 : List IE := []
theorem k_X11_where_34 : ckI mX11_where 11 34 b_X11_where_34 34 = true := by decide +kernel
theorem s_X11_where_1 : cS mX11_where 1 mX11_isKey 119 1 := ⟨by decide +kernel, ⟨ml_X11_isKey, li_RX11_119, st_X11_isKey⟩, by decide +kernel⟩
theorem s_X11_where_12 : cV mX11_where 12 mX11_placeInBuffer 125 1 11 := ⟨by decide +kernel, ⟨ml_X11_placeInBuffer, li_RX11_125, im_X11_placeInBuffer, se_X11_placeInBuffer⟩, ⟨by decide +kernel, by decide +kernel⟩, by decide +kernel⟩
theorem s_X11_where_31 : cV mX11_where 31 mX11_placeInSegments 176 1 11 := ⟨by decide +kernel, ⟨ml_X11_placeInSegments, li_RX11_176, im_X11_placeInSegments, se_X11_placeInSegments⟩, ⟨by decide +kernel, by decide +kernel⟩, by decide +kernel⟩
theorem t_X11_where_0 {rc rs : Nat} {Q : Option AV → AH → Prop} {h : AH} {sa : Nat → Nat} {da : Nat → Nat} {g : AH} {x1 : Int} (hL : LayL h) (hv : (((0 ≤ x1 ∧ x1 ≤ 99) → (cDocs h g da ∧ cBuf h g da) ∧ (((m_bp g x1) = (-1) → (cRd h g da sa) ∧ Q (some (vi (m_sp g x1))) h) ∧ ((m_bp g x1) ≠ (-1) → (-2147483648 ≤ (1000 + (m_bp g x1)) ∧ (1000 + (m_bp g x1)) < 2147483648) ∧ Q (some (vi (1000 + (m_bp g x1)))) h))) ∧ (¬ (0 ≤ x1 ∧ x1 ≤ 99) → Q (some (vi (-2))) h))) : wp mX11_where 2 rc rs Q 0 [some (vr 0), some (vi x1), none] [] h :=
  (show wp mX11_where 2 rc rs Q 0 [some (vr 0), some (vi x1), none] [] h from xcS k_X11_where_0 s_X11_where_1 ((Exists.intro [vi x1] (Exists.intro [] (And.intro (And.intro rfl (And.intro rfl (Nat.le_of_ble_eq_true rfl))) (Exists.intro 0 (Exists.intro 0 (Exists.intro 0 (Exists.intro _ (And.intro l_isKey (And.intro (And.intro (by decide) (And.intro (Nat.zero_le _) (Nat.zero_le _))) (eQP (show wp mX11_where 2 rc rs Q 4 [some (vr 0), some (vi x1), none] [vi (b01 (0 ≤ x1 ∧ x1 ≤ 99))] h from xIf k_X11_where_4 (And.intro (fun c1 => have v3 := hv.1 (b01_p.mp c1); (show wp mX11_where 2 rc rs Q 10 [some (vr 0), some (vi x1), none] [] h from xcV k_X11_where_10 s_X11_where_12 (have c14 := v3.1; have v15 := v3.2; (Exists.intro [vi x1] (Exists.intro 0 (Exists.intro [] (And.intro (And.intro rfl (And.intro rfl (Nat.le_of_ble_eq_true rfl))) (And.intro (ll_0 hL) (Exists.intro 0 (Exists.intro 0 (Exists.intro 0 (Exists.intro _ (And.intro (l_placeInBuffer (h := h) hL c14) (And.intro (And.intro (by decide) (And.intro (Nat.zero_le _) (Nat.zero_le _))) (eQP (show wp mX11_where 2 rc rs Q 15 [some (vr 0), some (vi x1), none] [vi (m_bp g x1)] h from xIc k_X11_where_15 (And.intro rfl (And.intro (fun c5 => have v7 := v15.1 c5; (show wp mX11_where 2 rc rs Q 29 [some (vr 0), some (vi x1), some (vi (m_bp g x1))] [] h from xcV k_X11_where_29 s_X11_where_31 (have c9 := v7.1; have v10 := v7.2; (Exists.intro [vi x1] (Exists.intro 0 (Exists.intro [] (And.intro (And.intro rfl (And.intro rfl (Nat.le_of_ble_eq_true rfl))) (And.intro (ll_0 hL) (Exists.intro 1 (Exists.intro 0 (Exists.intro 0 (Exists.intro _ (And.intro (l_placeInSegments (h := h) hL c9) (And.intro (And.intro (by decide) (And.intro (Nat.zero_le _) (Nat.zero_le _))) (eQP (show wp mX11_where 2 rc rs Q 34 [some (vr 0), some (vi x1), some (vi (m_bp g x1))] [vi (m_sp g x1)] h from xI k_X11_where_34 (And.intro rfl v10))))))))))))))))) (fun c6 => have v8 := v15.2 c6; (show wp mX11_where 2 rc rs Q 21 [some (vr 0), some (vi x1), some (vi (m_bp g x1))] [] h from xGo k_X11_where_21 (have c12 := v8.1; have v13 := v8.2; (And.intro c12 (show wp mX11_where 2 rc rs Q 34 [some (vr 0), some (vi x1), some (vi (m_bp g x1))] [vi (1000 + (m_bp g x1))] h from xI k_X11_where_34 (And.intro rfl v13)))))))))))))))))))))))) (fun c2 => have v4 := hv.2 (b01_nn.mp c2); (show wp mX11_where 2 rc rs Q 7 [some (vr 0), some (vi x1), none] [] h from xI k_X11_where_7 (And.intro rfl v4)))))))))))))))))
theorem e_X11_where {mc ms : Nat} {Q : Option AV → AH → Prop} {h : AH} {sa : Nat → Nat} {da : Nat → Nat} {g : AH} {x1 : Int} (hL : LayL h) (hv : (((0 ≤ x1 ∧ x1 ≤ 99) → (cDocs h g da ∧ cBuf h g da) ∧ (((m_bp g x1) = (-1) → (cRd h g da sa) ∧ Q (some (vi (m_sp g x1))) h) ∧ ((m_bp g x1) ≠ (-1) → (-2147483648 ≤ (1000 + (m_bp g x1)) ∧ (1000 + (m_bp g x1)) < 2147483648) ∧ Q (some (vi (1000 + (m_bp g x1)))) h))) ∧ (¬ (0 ≤ x1 ∧ x1 ≤ 99) → Q (some (vi (-2))) h))) : Ct 2 mc ms mX11_where [vr 0, vi x1] h Q := Ct.of (by decide +kernel) (Nat.le_of_ble_eq_true rfl) (t_X11_where_0 hL hv)
def b_X11_doc_0 : List IE := [(.aload_n 0, 1, 0, 0, 0, 0), (.iload_n 1, 1, 0, 0, 1, 0)]
theorem k_X11_doc_0 : ckB mX11_doc 11 0 b_X11_doc_0 2 = true := by decide +kernel
def b_X11_doc_5 : List IE := []
theorem k_X11_doc_5 : ckIf mX11_doc 11 5 b_X11_doc_5 5 0 12 17 8 = true := by decide +kernel
def b_X11_doc_8 : List IE := [(.iload_n 3, 1, 0, 0, 3, 0)]
theorem k_X11_doc_8 : ckIf mX11_doc 11 8 b_X11_doc_8 9 2 8 17 12 = true := by decide +kernel
def b_X11_doc_12 : List IE := [(.iload_n 3, 1, 0, 0, 3, 0), (.iconst 2, 1, 2, 0, 0, 0)]
theorem k_X11_doc_12 : ckIc mX11_doc 11 12 b_X11_doc_12 14 5 6 20 17 = true := by decide +kernel
def b_X11_doc_17 : List IE := [(.bipush (-2), 2, (-2), 0, 0, 0)]
theorem k_X11_doc_17 : ckI mX11_doc 11 17 b_X11_doc_17 19 = true := by decide +kernel
def b_X11_doc_20 : List IE := [(.aload_n 0, 1, 0, 0, 0, 0), (.getfield 25, 3, 0, 11, 3, 1), (.getfield 182, 3, 0, 9, 0, 1), (.iload_n 1, 1, 0, 0, 1, 0), (.aaload, 1, 0, 0, 0, 0), (.getfield 186, 3, 0, 7, 1, 1), (.astore 4, 2, 0, 0, 4, 0), (.iload_n 2, 1, 0, 0, 2, 0)]
theorem k_X11_doc_20 : ckIf mX11_doc 11 20 b_X11_doc_20 35 2 10 45 38 = true := by decide +kernel
def b_X11_doc_38 : List IE := [(.iload_n 2, 1, 0, 0, 2, 0), (.aload 4, 2, 0, 0, 4, 0), (.arraylength, 1, 0, 0, 0, 0)]
theorem k_X11_doc_38 : ckIc mX11_doc 11 38 b_X11_doc_38 42 2 6 48 45 = true := by decide +kernel
def b_X11_doc_45 : List IE := [(.bipush (-12), 2, (-12), 0, 0, 0)]
theorem k_X11_doc_45 : ckI mX11_doc 11 45 b_X11_doc_45 47 = true := by decide +kernel
def b_X11_doc_48 : List IE := [(.iload_n 3, 1, 0, 0, 3, 0)]
theorem k_X11_doc_48 : ckIf mX11_doc 11 48 b_X11_doc_48 49 1 11 60 52 = true := by decide +kernel
def b_X11_doc_52 : List IE := [(.aload 4, 2, 0, 0, 4, 0), (.iload_n 2, 1, 0, 0, 2, 0), (.aaload, 1, 0, 0, 0, 0), (.getfield 179, 3, 0, 0, 0, 0)]
theorem k_X11_doc_52 : ckI mX11_doc 11 52 b_X11_doc_52 59 = true := by decide +kernel
def b_X11_doc_60 : List IE := [(.iload_n 3, 1, 0, 0, 3, 0), (.iconst 1, 1, 1, 0, 0, 0)]
theorem k_X11_doc_60 : ckIc mX11_doc 11 60 b_X11_doc_60 62 1 21 83 65 = true := by decide +kernel
def b_X11_doc_65 : List IE := [(.aload_n 0, 1, 0, 0, 0, 0), (.getfield 25, 3, 0, 11, 3, 1), (.iload_n 1, 1, 0, 0, 1, 0), (.iload_n 2, 1, 0, 0, 2, 0)]
theorem k_X11_doc_65 : ckB mX11_doc 11 65 b_X11_doc_65 71 = true := by decide +kernel
def b_X11_doc_74 : List IE := []
theorem k_X11_doc_74 : ckIf mX11_doc 11 74 b_X11_doc_74 74 0 7 81 77 = true := by decide +kernel
def b_X11_doc_77 : List IE := [(.iconst 1, 1, 1, 0, 0, 0)]
theorem k_X11_doc_77 : ckGo mX11_doc 11 77 b_X11_doc_77 78 4 82 = true := by decide +kernel
def b_X11_doc_81 : List IE := [(.iconst 0, 1, 0, 0, 0, 0)]
theorem k_X11_doc_81 : ckI mX11_doc 11 81 b_X11_doc_81 82 = true := by decide +kernel
def b_X11_doc_82 : List IE := []
theorem k_X11_doc_82 : ckI mX11_doc 11 82 b_X11_doc_82 82 = true := by decide +kernel
def b_X11_doc_83 : List IE := [(.aload 4, 2, 0, 0, 4, 0), (.iload_n 2, 1, 0, 0, 2, 0), (.aaload, 1, 0, 0, 0, 0), (.getfield 143, 3, 0, 0, 1, 1), (.arraylength, 1, 0, 0, 0, 0)]
theorem k_X11_doc_83 : ckI mX11_doc 11 83 b_X11_doc_83 91 = true := by decide +kernel
theorem s_X11_doc_2 : cV mX11_doc 2 mX11_isSegment 193 1 11 := ⟨by decide +kernel, ⟨ml_X11_isSegment, li_RX11_193, im_X11_isSegment, se_X11_isSegment⟩, ⟨by decide +kernel, by decide +kernel⟩, by decide +kernel⟩
theorem s_X11_doc_71 : cV mX11_doc 71 mX9_isDropped 189 2 9 := ⟨by decide +kernel, ⟨ml_X9_isDropped, li_RX11_189, im_X9_isDropped, se_X9_isDropped⟩, ⟨by decide +kernel, by decide +kernel⟩, by decide +kernel⟩
theorem t_X11_doc_0 {rc rs : Nat} {Q : Option AV → AH → Prop} {h : AH} {x1 x2 x3 : Int} (hL : LayL h) (hv : ((¬ (0 ≤ x1 ∧ x1 < iH h 5 2) → Q (some (vi (-2))) h) ∧ ((0 ≤ x1 ∧ x1 < iH h 5 2) → ((x3 < 0 → Q (some (vi (-2))) h) ∧ (0 ≤ x3 → ((x3 ≤ 2 → (0 ≤ x1 ∧ x1 < 8) ∧ (∃ q14 n15 r16 : Nat, (rH h 6 x1.toNat = some q14 ∧ iSg h q14 n15 r16) ∧ ((x2 < 0 → Q (some (vi (-12))) h) ∧ (0 ≤ x2 → ((x2 < (n15 : Int) → ((x3 ≠ 0 → ((x3 ≠ 1 → (0 ≤ x2 ∧ x2 < n15) ∧ (∃ q35 n36 : Nat, (rH h (q14 - 1) x2.toNat = some q35 ∧ iD h q35 n36) ∧ Q (some (vi (n36 : Int))) h)) ∧ (x3 = 1 → (iSt 5 ∧ (0 ≤ x1 ∧ x1 < 8) ∧ (0 ≤ x2 ∧ x2 < 64)) ∧ ((¬ (bt (jH h (5 + 2) (x1).toNat) (x2).toNat) → Q (some (vi 0)) h) ∧ ((bt (jH h (5 + 2) (x1).toNat) (x2).toNat) → Q (some (vi 1)) h))))) ∧ (x3 = 0 → (0 ≤ x2 ∧ x2 < n15) ∧ (∃ q50 n51 : Nat, (rH h (q14 - 1) x2.toNat = some q50 ∧ iD h q50 n51) ∧ Q (some (vi (iH h q50 0))) h)))) ∧ ((n15 : Int) ≤ x2 → Q (some (vi (-12))) h)))))) ∧ (2 < x3 → Q (some (vi (-2))) h))))))) : wp mX11_doc 1 rc rs Q 0 [some (vr 0), some (vi x1), some (vi x2), some (vi x3), none] [] h :=
  (show wp mX11_doc 1 rc rs Q 0 [some (vr 0), some (vi x1), some (vi x2), some (vi x3), none] [] h from xcV k_X11_doc_0 s_X11_doc_2 ((Exists.intro [vi x1] (Exists.intro 0 (Exists.intro [] (And.intro (And.intro rfl (And.intro rfl (Nat.le_of_ble_eq_true rfl))) (And.intro (ll_0 hL) (Exists.intro 0 (Exists.intro 0 (Exists.intro 0 (Exists.intro _ (And.intro (l_isSegment (h := h) hL) (And.intro (And.intro (by decide) (And.intro (Nat.zero_le _) (Nat.zero_le _))) (eQP (show wp mX11_doc 1 rc rs Q 5 [some (vr 0), some (vi x1), some (vi x2), some (vi x3), none] [vi (b01 (0 ≤ x1 ∧ x1 < iH h 5 2))] h from xIf k_X11_doc_5 (And.intro (fun c1 => have v3 := hv.1 (b01_n.mp c1); (show wp mX11_doc 1 rc rs Q 17 [some (vr 0), some (vi x1), some (vi x2), some (vi x3), none] [] h from xI k_X11_doc_17 (And.intro rfl v3))) (fun c2 => have v4 := hv.2 (b01_p.mp c2); (show wp mX11_doc 1 rc rs Q 8 [some (vr 0), some (vi x1), some (vi x2), some (vi x3), none] [] h from xIf k_X11_doc_8 (And.intro (fun c5 => have v7 := v4.1 c5; (show wp mX11_doc 1 rc rs Q 17 [some (vr 0), some (vi x1), some (vi x2), some (vi x3), none] [] h from xI k_X11_doc_17 (And.intro rfl v7))) (fun c6 => have v8 := v4.2 (Int.not_lt.mp c6); (show wp mX11_doc 1 rc rs Q 12 [some (vr 0), some (vi x1), some (vi x2), some (vi x3), none] [] h from xIc k_X11_doc_12 (And.intro (fun c9 => have v11 := v8.1 c9; (show wp mX11_doc 1 rc rs Q 20 [some (vr 0), some (vi x1), some (vi x2), some (vi x3), none] [] h from xIf k_X11_doc_20 (And.intro (ll_0 hL) (Exists.intro 5 (And.intro (lg_0_3 hL) (And.intro (ll_5 hL) (Exists.intro 6 (And.intro (lg_5_0 hL) (have c13 := v11.1; have v59 := v11.2; (And.intro (sdQ (ll_6 hL) c13) (Exists.elim v59 (fun q14 v57_0 => (Exists.elim v57_0 (fun n15 v57_1 => (Exists.elim v57_1 (fun r16 v57 => have c17 := v57.1; have v58 := v57.2; (Exists.intro _ (And.intro c17.1 (And.intro (sg_o c17.2) (Exists.intro (q14 - 1) (And.intro (sg_r1 c17.2) (And.intro rfl (And.intro (fun c18 => have v20 := v58.1 c18; (show wp mX11_doc 1 rc rs Q 45 [some (vr 0), some (vi x1), some (vi x2), some (vi x3), some (vr (q14 - 1))] [] h from xI k_X11_doc_45 (And.intro rfl v20))) (fun c19 => have v21 := v58.2 (Int.not_lt.mp c19); (show wp mX11_doc 1 rc rs Q 38 [some (vr 0), some (vi x1), some (vi x2), some (vi x3), some (vr (q14 - 1))] [] h from xIc k_X11_doc_38 (And.intro (sdL (sg_a1 c17.2) (And.intro (by decide) (And.intro (by decide) (sg_n c17.2)))) (len_r (sg_a1 c17.2) (And.intro (fun c22 => have v24 := v21.1 c22; (show wp mX11_doc 1 rc rs Q 48 [some (vr 0), some (vi x1), some (vi x2), some (vi x3), some (vr (q14 - 1))] [] h from xIf k_X11_doc_48 (And.intro (fun c26 => have v28 := v24.1 c26; (show wp mX11_doc 1 rc rs Q 60 [some (vr 0), some (vi x1), some (vi x2), some (vi x3), some (vr (q14 - 1))] [] h from xIc k_X11_doc_60 (And.intro (fun c30 => have v32 := v28.1 c30; (show wp mX11_doc 1 rc rs Q 83 [some (vr 0), some (vi x1), some (vi x2), some (vi x3), some (vr (q14 - 1))] [] h from xI k_X11_doc_83 (have c34 := v32.1; have v41 := v32.2; (And.intro (sdQ (sg_a1 c17.2) c34) (Exists.elim v41 (fun q35 v39_0 => (Exists.elim v39_0 (fun n36 v39 => have c38 := v39.1; have v40 := v39.2; (Exists.intro _ (And.intro c38.1 (And.intro (dc_o c38.2) (Exists.intro (q35 + 1) (And.intro (dc_r1 c38.2) (And.intro (sdL (dc_a1 c38.2) (And.intro (by decide) (And.intro (by decide) (dc_n c38.2)))) (len_r (dc_a1 c38.2) (And.intro rfl v40)))))))))))))))) (fun c31 => have v33 := v28.2 (Decidable.not_not.mp c31); (show wp mX11_doc 1 rc rs Q 65 [some (vr 0), some (vi x1), some (vi x2), some (vi x3), some (vr (q14 - 1))] [] h from xcV k_X11_doc_65 s_X11_doc_71 (And.intro (ll_0 hL) (Exists.intro 5 (And.intro (lg_0_3 hL) (have c46 := v33.1; have v47 := v33.2; (Exists.intro [vi x1, vi x2] (Exists.intro 5 (Exists.intro [] (And.intro (And.intro rfl (And.intro rfl (Nat.le_of_ble_eq_true rfl))) (And.intro (ll_5 hL) (Exists.intro 0 (Exists.intro 0 (Exists.intro 0 (Exists.intro _ (And.intro (l_isDropped (h := h) hL c46) (And.intro (And.intro (by decide) (And.intro (Nat.zero_le _) (Nat.zero_le _))) (eQP (show wp mX11_doc 1 rc rs Q 74 [some (vr 0), some (vi x1), some (vi x2), some (vi x3), some (vr (q14 - 1))] [vi (b01 (bt (jH h (5 + 2) (x1).toNat) (x2).toNat))] h from xIf k_X11_doc_74 (And.intro (fun c42 => have v44 := v47.1 (b01_n.mp c42); (show wp mX11_doc 1 rc rs Q 81 [some (vr 0), some (vi x1), some (vi x2), some (vi x3), some (vr (q14 - 1))] [] h from xI k_X11_doc_81 (And.intro rfl v44))) (fun c43 => have v45 := v47.2 (b01_p.mp c43); (show wp mX11_doc 1 rc rs Q 77 [some (vr 0), some (vi x1), some (vi x2), some (vi x3), some (vr (q14 - 1))] [] h from xGo k_X11_doc_77 (show wp mX11_doc 1 rc rs Q 82 [some (vr 0), some (vi x1), some (vi x2), some (vi x3), some (vr (q14 - 1))] [vi 1] h from xI k_X11_doc_82 (And.intro rfl v45))))))))))))))))))))))))))) (fun c27 => have v29 := v24.2 (Decidable.not_not.mp c27); (show wp mX11_doc 1 rc rs Q 52 [some (vr 0), some (vi x1), some (vi x2), some (vi x3), some (vr (q14 - 1))] [] h from xI k_X11_doc_52 (have c49 := v29.1; have v56 := v29.2; (And.intro (sdQ (sg_a1 c17.2) c49) (Exists.elim v56 (fun q50 v54_0 => (Exists.elim v54_0 (fun n51 v54 => have c53 := v54.1; have v55 := v54.2; (Exists.intro _ (And.intro c53.1 (And.intro (dc_o c53.2) (And.intro rfl v55))))))))))))))) (fun c23 => have v25 := v21.2 (Int.not_lt.mp c23); (show wp mX11_doc 1 rc rs Q 45 [some (vr 0), some (vi x1), some (vi x2), some (vi x3), some (vr (q14 - 1))] [] h from xI k_X11_doc_45 (And.intro rfl v25))))))))))))))))))))))))))))))) (fun c10 => have v12 := v8.2 (Int.not_le.mp c10); (show wp mX11_doc 1 rc rs Q 17 [some (vr 0), some (vi x1), some (vi x2), some (vi x3), none] [] h from xI k_X11_doc_17 (And.intro rfl v12)))))))))))))))))))))))))
theorem e_X11_doc {mc ms : Nat} {Q : Option AV → AH → Prop} {h : AH} {x1 x2 x3 : Int} (hL : LayL h) (hv : ((¬ (0 ≤ x1 ∧ x1 < iH h 5 2) → Q (some (vi (-2))) h) ∧ ((0 ≤ x1 ∧ x1 < iH h 5 2) → ((x3 < 0 → Q (some (vi (-2))) h) ∧ (0 ≤ x3 → ((x3 ≤ 2 → (0 ≤ x1 ∧ x1 < 8) ∧ (∃ q14 n15 r16 : Nat, (rH h 6 x1.toNat = some q14 ∧ iSg h q14 n15 r16) ∧ ((x2 < 0 → Q (some (vi (-12))) h) ∧ (0 ≤ x2 → ((x2 < (n15 : Int) → ((x3 ≠ 0 → ((x3 ≠ 1 → (0 ≤ x2 ∧ x2 < n15) ∧ (∃ q35 n36 : Nat, (rH h (q14 - 1) x2.toNat = some q35 ∧ iD h q35 n36) ∧ Q (some (vi (n36 : Int))) h)) ∧ (x3 = 1 → (iSt 5 ∧ (0 ≤ x1 ∧ x1 < 8) ∧ (0 ≤ x2 ∧ x2 < 64)) ∧ ((¬ (bt (jH h (5 + 2) (x1).toNat) (x2).toNat) → Q (some (vi 0)) h) ∧ ((bt (jH h (5 + 2) (x1).toNat) (x2).toNat) → Q (some (vi 1)) h))))) ∧ (x3 = 0 → (0 ≤ x2 ∧ x2 < n15) ∧ (∃ q50 n51 : Nat, (rH h (q14 - 1) x2.toNat = some q50 ∧ iD h q50 n51) ∧ Q (some (vi (iH h q50 0))) h)))) ∧ ((n15 : Int) ≤ x2 → Q (some (vi (-12))) h)))))) ∧ (2 < x3 → Q (some (vi (-2))) h))))))) : Ct 1 mc ms mX11_doc [vr 0, vi x1, vi x2, vi x3] h Q := Ct.of (by decide +kernel) (Nat.le_of_ble_eq_true rfl) (t_X11_doc_0 hL hv)
def b_X11_word_0 : List IE := [(.aload_n 0, 1, 0, 0, 0, 0), (.iload_n 1, 1, 0, 0, 1, 0)]
theorem k_X11_word_0 : ckB mX11_word 11 0 b_X11_word_0 2 = true := by decide +kernel
def b_X11_word_5 : List IE := []
theorem k_X11_word_5 : ckIf mX11_word 11 5 b_X11_word_5 5 0 12 17 8 = true := by decide +kernel
def b_X11_word_8 : List IE := [(.iload_n 3, 1, 0, 0, 3, 0)]
theorem k_X11_word_8 : ckIf mX11_word 11 8 b_X11_word_8 9 2 8 17 12 = true := by decide +kernel
def b_X11_word_12 : List IE := [(.iload_n 3, 1, 0, 0, 3, 0), (.iconst 2, 1, 2, 0, 0, 0)]
theorem k_X11_word_12 : ckIc mX11_word 11 12 b_X11_word_12 14 5 6 20 17 = true := by decide +kernel
def b_X11_word_17 : List IE := [(.bipush (-2), 2, (-2), 0, 0, 0)]
theorem k_X11_word_17 : ckI mX11_word 11 17 b_X11_word_17 19 = true := by decide +kernel
def b_X11_word_20 : List IE := [(.aload_n 0, 1, 0, 0, 0, 0), (.getfield 25, 3, 0, 11, 3, 1), (.getfield 182, 3, 0, 9, 0, 1), (.iload_n 1, 1, 0, 0, 1, 0), (.aaload, 1, 0, 0, 0, 0), (.astore 4, 2, 0, 0, 4, 0), (.iload_n 2, 1, 0, 0, 2, 0)]
theorem k_X11_word_20 : ckIf mX11_word 11 20 b_X11_word_20 32 2 12 44 35 = true := by decide +kernel
def b_X11_word_35 : List IE := [(.iload_n 2, 1, 0, 0, 2, 0), (.aload 4, 2, 0, 0, 4, 0), (.getfield 199, 3, 0, 7, 5, 0)]
theorem k_X11_word_35 : ckIc mX11_word 11 35 b_X11_word_35 41 2 6 47 44 = true := by decide +kernel
def b_X11_word_44 : List IE := [(.bipush (-12), 2, (-12), 0, 0, 0)]
theorem k_X11_word_44 : ckI mX11_word 11 44 b_X11_word_44 46 = true := by decide +kernel
def b_X11_word_47 : List IE := [(.iload_n 3, 1, 0, 0, 3, 0)]
theorem k_X11_word_47 : ckIf mX11_word 11 47 b_X11_word_47 48 1 14 62 51 = true := by decide +kernel
def b_X11_word_51 : List IE := [(.aload 4, 2, 0, 0, 4, 0), (.getfield 221, 3, 0, 7, 2, 1), (.iload_n 2, 1, 0, 0, 2, 0), (.iaload, 1, 0, 0, 0, 0)]
theorem k_X11_word_51 : ckB mX11_word 11 51 b_X11_word_51 58 = true := by decide +kernel
def b_X11_word_61 : List IE := []
theorem k_X11_word_61 : ckI mX11_word 11 61 b_X11_word_61 61 = true := by decide +kernel
def b_X11_word_62 : List IE := [(.iload_n 3, 1, 0, 0, 3, 0), (.iconst 1, 1, 1, 0, 0, 0)]
theorem k_X11_word_62 : ckIc mX11_word 11 62 b_X11_word_62 64 1 13 77 67 = true := by decide +kernel
def b_X11_word_67 : List IE := [(.aload 4, 2, 0, 0, 4, 0), (.getfield 225, 3, 0, 7, 3, 1), (.iload_n 2, 1, 0, 0, 2, 0), (.iaload, 1, 0, 0, 0, 0)]
theorem k_X11_word_67 : ckGo mX11_word 11 67 b_X11_word_67 74 10 84 = true := by decide +kernel
def b_X11_word_77 : List IE := [(.aload 4, 2, 0, 0, 4, 0), (.getfield 228, 3, 0, 7, 4, 1), (.iload_n 2, 1, 0, 0, 2, 0), (.iaload, 1, 0, 0, 0, 0)]
theorem k_X11_word_77 : ckI mX11_word 11 77 b_X11_word_77 84 = true := by decide +kernel
def b_X11_word_84 : List IE := []
theorem k_X11_word_84 : ckI mX11_word 11 84 b_X11_word_84 84 = true := by decide +kernel
theorem s_X11_word_2 : cV mX11_word 2 mX11_isSegment 193 1 11 := ⟨by decide +kernel, ⟨ml_X11_isSegment, li_RX11_193, im_X11_isSegment, se_X11_isSegment⟩, ⟨by decide +kernel, by decide +kernel⟩, by decide +kernel⟩
theorem s_X11_word_58 : cS mX11_word 58 mX10_lettersAlone 222 1 := ⟨by decide +kernel, ⟨ml_X10_lettersAlone, li_RX11_222, st_X10_lettersAlone⟩, by decide +kernel⟩
theorem t_X11_word_0 {rc rs : Nat} {Q : Option AV → AH → Prop} {h : AH} {x1 x2 x3 : Int} (hL : LayL h) (hv : ((¬ (0 ≤ x1 ∧ x1 < iH h 5 2) → Q (some (vi (-2))) h) ∧ ((0 ≤ x1 ∧ x1 < iH h 5 2) → ((x3 < 0 → Q (some (vi (-2))) h) ∧ (0 ≤ x3 → ((x3 ≤ 2 → (0 ≤ x1 ∧ x1 < 8) ∧ (∃ q14 n15 r16 : Nat, (rH h 6 x1.toNat = some q14 ∧ iSg h q14 n15 r16) ∧ ((x2 < 0 → Q (some (vi (-12))) h) ∧ (0 ≤ x2 → ((x2 < (iH h q14 5) → ((x3 ≠ 0 → ((x3 ≠ 1 → (0 ≤ x2 ∧ x2 < r16) ∧ Q (some (vi (iH h (q14 + 3) x2.toNat))) h) ∧ (x3 = 1 → (0 ≤ x2 ∧ x2 < r16) ∧ Q (some (vi (iH h (q14 + 2) x2.toNat))) h))) ∧ (x3 = 0 → (0 ≤ x2 ∧ x2 < r16) ∧ (0 < (iH h (q14 + 1) x2.toNat) ∧ (iH h (q14 + 1) x2.toNat) < 387420489) ∧ Q (some (vi (m_pl 6 (iH h (q14 + 1) x2.toNat)))) h))) ∧ ((iH h q14 5) ≤ x2 → Q (some (vi (-12))) h)))))) ∧ (2 < x3 → Q (some (vi (-2))) h))))))) : wp mX11_word 1 rc rs Q 0 [some (vr 0), some (vi x1), some (vi x2), some (vi x3), none] [] h :=
  (show wp mX11_word 1 rc rs Q 0 [some (vr 0), some (vi x1), some (vi x2), some (vi x3), none] [] h from xcV k_X11_word_0 s_X11_word_2 ((Exists.intro [vi x1] (Exists.intro 0 (Exists.intro [] (And.intro (And.intro rfl (And.intro rfl (Nat.le_of_ble_eq_true rfl))) (And.intro (ll_0 hL) (Exists.intro 0 (Exists.intro 0 (Exists.intro 0 (Exists.intro _ (And.intro (l_isSegment (h := h) hL) (And.intro (And.intro (by decide) (And.intro (Nat.zero_le _) (Nat.zero_le _))) (eQP (show wp mX11_word 1 rc rs Q 5 [some (vr 0), some (vi x1), some (vi x2), some (vi x3), none] [vi (b01 (0 ≤ x1 ∧ x1 < iH h 5 2))] h from xIf k_X11_word_5 (And.intro (fun c1 => have v3 := hv.1 (b01_n.mp c1); (show wp mX11_word 1 rc rs Q 17 [some (vr 0), some (vi x1), some (vi x2), some (vi x3), none] [] h from xI k_X11_word_17 (And.intro rfl v3))) (fun c2 => have v4 := hv.2 (b01_p.mp c2); (show wp mX11_word 1 rc rs Q 8 [some (vr 0), some (vi x1), some (vi x2), some (vi x3), none] [] h from xIf k_X11_word_8 (And.intro (fun c5 => have v7 := v4.1 c5; (show wp mX11_word 1 rc rs Q 17 [some (vr 0), some (vi x1), some (vi x2), some (vi x3), none] [] h from xI k_X11_word_17 (And.intro rfl v7))) (fun c6 => have v8 := v4.2 (Int.not_lt.mp c6); (show wp mX11_word 1 rc rs Q 12 [some (vr 0), some (vi x1), some (vi x2), some (vi x3), none] [] h from xIc k_X11_word_12 (And.intro (fun c9 => have v11 := v8.1 c9; (show wp mX11_word 1 rc rs Q 20 [some (vr 0), some (vi x1), some (vi x2), some (vi x3), none] [] h from xIf k_X11_word_20 (And.intro (ll_0 hL) (Exists.intro 5 (And.intro (lg_0_3 hL) (And.intro (ll_5 hL) (Exists.intro 6 (And.intro (lg_5_0 hL) (have c13 := v11.1; have v45 := v11.2; (And.intro (sdQ (ll_6 hL) c13) (Exists.elim v45 (fun q14 v43_0 => (Exists.elim v43_0 (fun n15 v43_1 => (Exists.elim v43_1 (fun r16 v43 => have c17 := v43.1; have v44 := v43.2; (Exists.intro _ (And.intro c17.1 (And.intro rfl (And.intro (fun c18 => have v20 := v44.1 c18; (show wp mX11_word 1 rc rs Q 44 [some (vr 0), some (vi x1), some (vi x2), some (vi x3), some (vr q14)] [] h from xI k_X11_word_44 (And.intro rfl v20))) (fun c19 => have v21 := v44.2 (Int.not_lt.mp c19); (show wp mX11_word 1 rc rs Q 35 [some (vr 0), some (vi x1), some (vi x2), some (vi x3), some (vr q14)] [] h from xIc k_X11_word_35 (And.intro (sg_o c17.2) (And.intro (fun c22 => have v24 := v21.1 c22; (show wp mX11_word 1 rc rs Q 47 [some (vr 0), some (vi x1), some (vi x2), some (vi x3), some (vr q14)] [] h from xIf k_X11_word_47 (And.intro (fun c26 => have v28 := v24.1 c26; (show wp mX11_word 1 rc rs Q 62 [some (vr 0), some (vi x1), some (vi x2), some (vi x3), some (vr q14)] [] h from xIc k_X11_word_62 (And.intro (fun c30 => have v32 := v28.1 c30; (show wp mX11_word 1 rc rs Q 77 [some (vr 0), some (vi x1), some (vi x2), some (vi x3), some (vr q14)] [] h from xI k_X11_word_77 (And.intro (sg_o c17.2) (Exists.intro (q14 + 3) (And.intro (sg_r4 c17.2) (have c34 := v32.1; have v35 := v32.2; (And.intro (sdI (sg_a4 c17.2) c34) (And.intro rfl v35)))))))) (fun c31 => have v33 := v28.2 (Decidable.not_not.mp c31); (show wp mX11_word 1 rc rs Q 67 [some (vr 0), some (vi x1), some (vi x2), some (vi x3), some (vr q14)] [] h from xGo k_X11_word_67 (And.intro (sg_o c17.2) (Exists.intro (q14 + 2) (And.intro (sg_r3 c17.2) (have c36 := v33.1; have v37 := v33.2; (And.intro (sdI (sg_a3 c17.2) c36) (show wp mX11_word 1 rc rs Q 84 [some (vr 0), some (vi x1), some (vi x2), some (vi x3), some (vr q14)] [vi (iH h (q14 + 2) x2.toNat)] h from xI k_X11_word_84 (And.intro rfl v37)))))))))))) (fun c27 => have v29 := v24.2 (Decidable.not_not.mp c27); (show wp mX11_word 1 rc rs Q 51 [some (vr 0), some (vi x1), some (vi x2), some (vi x3), some (vr q14)] [] h from xcS k_X11_word_51 s_X11_word_58 (And.intro (sg_o c17.2) (Exists.intro (q14 + 1) (And.intro (sg_r2 c17.2) (have c38 := v29.1; have v42 := v29.2; (And.intro (sdI (sg_a2 c17.2) c38) (have c39 := v42.1; have v40 := v42.2; (Exists.intro [vi (iH h (q14 + 1) x2.toNat)] (Exists.intro [] (And.intro (And.intro rfl (And.intro rfl (Nat.le_of_ble_eq_true rfl))) (Exists.intro 0 (Exists.intro 0 (Exists.intro 0 (Exists.intro _ (And.intro (l_lettersAlone c39) (And.intro (And.intro (by decide) (And.intro (Nat.zero_le _) (Nat.zero_le _))) (eQP (show wp mX11_word 1 rc rs Q 61 [some (vr 0), some (vi x1), some (vi x2), some (vi x3), some (vr q14)] [vi (m_pl 6 (iH h (q14 + 1) x2.toNat))] h from xI k_X11_word_61 (And.intro rfl v40))))))))))))))))))))))) (fun c23 => have v25 := v21.2 (Int.not_lt.mp c23); (show wp mX11_word 1 rc rs Q 44 [some (vr 0), some (vi x1), some (vi x2), some (vi x3), some (vr q14)] [] h from xI k_X11_word_44 (And.intro rfl v25))))))))))))))))))))))))))) (fun c10 => have v12 := v8.2 (Int.not_le.mp c10); (show wp mX11_word 1 rc rs Q 17 [some (vr 0), some (vi x1), some (vi x2), some (vi x3), none] [] h from xI k_X11_word_17 (And.intro rfl v12)))))))))))))))))))))))))
theorem e_X11_word {mc ms : Nat} {Q : Option AV → AH → Prop} {h : AH} {x1 x2 x3 : Int} (hL : LayL h) (hv : ((¬ (0 ≤ x1 ∧ x1 < iH h 5 2) → Q (some (vi (-2))) h) ∧ ((0 ≤ x1 ∧ x1 < iH h 5 2) → ((x3 < 0 → Q (some (vi (-2))) h) ∧ (0 ≤ x3 → ((x3 ≤ 2 → (0 ≤ x1 ∧ x1 < 8) ∧ (∃ q14 n15 r16 : Nat, (rH h 6 x1.toNat = some q14 ∧ iSg h q14 n15 r16) ∧ ((x2 < 0 → Q (some (vi (-12))) h) ∧ (0 ≤ x2 → ((x2 < (iH h q14 5) → ((x3 ≠ 0 → ((x3 ≠ 1 → (0 ≤ x2 ∧ x2 < r16) ∧ Q (some (vi (iH h (q14 + 3) x2.toNat))) h) ∧ (x3 = 1 → (0 ≤ x2 ∧ x2 < r16) ∧ Q (some (vi (iH h (q14 + 2) x2.toNat))) h))) ∧ (x3 = 0 → (0 ≤ x2 ∧ x2 < r16) ∧ (0 < (iH h (q14 + 1) x2.toNat) ∧ (iH h (q14 + 1) x2.toNat) < 387420489) ∧ Q (some (vi (m_pl 6 (iH h (q14 + 1) x2.toNat)))) h))) ∧ ((iH h q14 5) ≤ x2 → Q (some (vi (-12))) h)))))) ∧ (2 < x3 → Q (some (vi (-2))) h))))))) : Ct 1 mc ms mX11_word [vr 0, vi x1, vi x2, vi x3] h Q := Ct.of (by decide +kernel) (Nat.le_of_ble_eq_true rfl) (t_X11_word_0 hL hv)
def b_X11_taken_0 : List IE := [(.iload_n 1, 1, 0, 0, 1, 0)]
theorem k_X11_taken_0 : ckIf mX11_taken 11 0 b_X11_taken_0 1 2 9 10 4 = true := by decide +kernel
def b_X11_taken_4 : List IE := [(.iload_n 1, 1, 0, 0, 1, 0), (.bipush 6, 2, 6, 0, 0, 0)]
theorem k_X11_taken_4 : ckIc mX11_taken 11 4 b_X11_taken_4 7 2 6 13 10 = true := by decide +kernel
def b_X11_taken_10 : List IE := [(.bipush (-2), 2, (-2), 0, 0, 0)]
theorem k_X11_taken_10 : ckI mX11_taken 11 10 b_X11_taken_10 12 = true := by decide +kernel
def b_X11_taken_13 : List IE := [(.aload_n 0, 1, 0, 0, 0, 0), (.getfield 45, 3, 0, 11, 9, 1), (.iload_n 1, 1, 0, 0, 1, 0)]
theorem k_X11_taken_13 : ckB mX11_taken 11 13 b_X11_taken_13 18 = true := by decide +kernel
def b_X11_taken_21 : List IE := []
theorem k_X11_taken_21 : ckIf mX11_taken 11 21 b_X11_taken_21 21 0 13 34 24 = true := by decide +kernel
def b_X11_taken_24 : List IE := [(.aload_n 0, 1, 0, 0, 0, 0), (.getfield 45, 3, 0, 11, 9, 1), (.getfield 234, 3, 0, 4, 1, 0)]
theorem k_X11_taken_24 : ckGo mX11_taken 11 24 b_X11_taken_24 31 5 36 = true := by decide +kernel
def b_X11_taken_34 : List IE := [(.bipush (-13), 2, (-13), 0, 0, 0)]
theorem k_X11_taken_34 : ckI mX11_taken 11 34 b_X11_taken_34 36 = true := by decide +kernel
def b_X11_taken_36 : List IE := []
theorem k_X11_taken_36 : ckI mX11_taken 11 36 b_X11_taken_36 36 = true := by decide +kernel
theorem s_X11_taken_18 : cV mX11_taken 18 mX4_isUnder 237 1 4 := ⟨by decide +kernel, ⟨ml_X4_isUnder, li_RX11_237, im_X4_isUnder, se_X4_isUnder⟩, ⟨by decide +kernel, by decide +kernel⟩, by decide +kernel⟩
theorem t_X11_taken_0 {rc rs : Nat} {Q : Option AV → AH → Prop} {h : AH} {g : AH} {x1 : Int} (hL : LayL h) (hv : ((x1 < 0 → Q (some (vi (-2))) h) ∧ (0 ≤ x1 → ((x1 < 6 → (cPol h g ∧ 0 ≤ x1 ∧ x1 ≤ 5) ∧ ((¬ (x1 = 0 ∨ x1 = iH g 89 21 ∨ (x1 = 1 ∧ iH g 89 21 = 3) ∨ (x1 = 2 ∧ iH g 89 21 = 4)) → Q (some (vi (-13))) h) ∧ ((x1 = 0 ∨ x1 = iH g 89 21 ∨ (x1 = 1 ∧ iH g 89 21 = 3) ∨ (x1 = 2 ∧ iH g 89 21 = 4)) → Q (some (vi (iH h 16 1))) h))) ∧ (6 ≤ x1 → Q (some (vi (-2))) h))))) : wp mX11_taken 1 rc rs Q 0 [some (vr 0), some (vi x1)] [] h :=
  (show wp mX11_taken 1 rc rs Q 0 [some (vr 0), some (vi x1)] [] h from xIf k_X11_taken_0 (And.intro (fun c1 => have v3 := hv.1 c1; (show wp mX11_taken 1 rc rs Q 10 [some (vr 0), some (vi x1)] [] h from xI k_X11_taken_10 (And.intro rfl v3))) (fun c2 => have v4 := hv.2 (Int.not_lt.mp c2); (show wp mX11_taken 1 rc rs Q 4 [some (vr 0), some (vi x1)] [] h from xIc k_X11_taken_4 (And.intro (fun c5 => have v7 := v4.1 c5; (show wp mX11_taken 1 rc rs Q 13 [some (vr 0), some (vi x1)] [] h from xcV k_X11_taken_13 s_X11_taken_18 (And.intro (ll_0 hL) (Exists.intro 16 (And.intro (lg_0_9 hL) (have c13 := v7.1; have v14 := v7.2; (Exists.intro [vi x1] (Exists.intro 16 (Exists.intro [] (And.intro (And.intro rfl (And.intro rfl (Nat.le_of_ble_eq_true rfl))) (And.intro (ll_16 hL) (Exists.intro 0 (Exists.intro 0 (Exists.intro 0 (Exists.intro _ (And.intro (l_isUnder (h := h) hL c13) (And.intro (And.intro (by decide) (And.intro (Nat.zero_le _) (Nat.zero_le _))) (eQP (show wp mX11_taken 1 rc rs Q 21 [some (vr 0), some (vi x1)] [vi (b01 (x1 = 0 ∨ x1 = iH g 89 21 ∨ (x1 = 1 ∧ iH g 89 21 = 3) ∨ (x1 = 2 ∧ iH g 89 21 = 4)))] h from xIf k_X11_taken_21 (And.intro (fun c9 => have v11 := v14.1 (b01_n.mp c9); (show wp mX11_taken 1 rc rs Q 34 [some (vr 0), some (vi x1)] [] h from xI k_X11_taken_34 (And.intro rfl v11))) (fun c10 => have v12 := v14.2 (b01_p.mp c10); (show wp mX11_taken 1 rc rs Q 24 [some (vr 0), some (vi x1)] [] h from xGo k_X11_taken_24 (And.intro (ll_0 hL) (Exists.intro 16 (And.intro (lg_0_9 hL) (And.intro (ll_16 hL) (show wp mX11_taken 1 rc rs Q 36 [some (vr 0), some (vi x1)] [vi (iH h 16 1)] h from xI k_X11_taken_36 (And.intro rfl v12)))))))))))))))))))))))))))) (fun c6 => have v8 := v4.2 (Int.not_lt.mp c6); (show wp mX11_taken 1 rc rs Q 10 [some (vr 0), some (vi x1)] [] h from xI k_X11_taken_10 (And.intro rfl v8))))))))
theorem e_X11_taken {mc ms : Nat} {Q : Option AV → AH → Prop} {h : AH} {g : AH} {x1 : Int} (hL : LayL h) (hv : ((x1 < 0 → Q (some (vi (-2))) h) ∧ (0 ≤ x1 → ((x1 < 6 → (cPol h g ∧ 0 ≤ x1 ∧ x1 ≤ 5) ∧ ((¬ (x1 = 0 ∨ x1 = iH g 89 21 ∨ (x1 = 1 ∧ iH g 89 21 = 3) ∨ (x1 = 2 ∧ iH g 89 21 = 4)) → Q (some (vi (-13))) h) ∧ ((x1 = 0 ∨ x1 = iH g 89 21 ∨ (x1 = 1 ∧ iH g 89 21 = 3) ∨ (x1 = 2 ∧ iH g 89 21 = 4)) → Q (some (vi (iH h 16 1))) h))) ∧ (6 ≤ x1 → Q (some (vi (-2))) h))))) : Ct 1 mc ms mX11_taken [vr 0, vi x1] h Q := Ct.of (by decide +kernel) (Nat.le_of_ble_eq_true rfl) (t_X11_taken_0 hL hv)
def b_X11_choice_0 : List IE := [(.iload_n 1, 1, 0, 0, 1, 0)]
theorem k_X11_choice_0 : ckIf mX11_choice 11 0 b_X11_choice_0 1 2 8 9 4 = true := by decide +kernel
def b_X11_choice_4 : List IE := [(.iload_n 1, 1, 0, 0, 1, 0), (.iconst 2, 1, 2, 0, 0, 0)]
theorem k_X11_choice_4 : ckIc mX11_choice 11 4 b_X11_choice_4 6 5 6 12 9 = true := by decide +kernel
def b_X11_choice_9 : List IE := [(.bipush (-2), 2, (-2), 0, 0, 0)]
theorem k_X11_choice_9 : ckI mX11_choice 11 9 b_X11_choice_9 11 = true := by decide +kernel
def b_X11_choice_12 : List IE := [(.aload_n 0, 1, 0, 0, 0, 0), (.getfield 45, 3, 0, 11, 9, 1), (.aload_n 0, 1, 0, 0, 0, 0), (.getfield 25, 3, 0, 11, 3, 1)]
theorem k_X11_choice_12 : ckB mX11_choice 11 12 b_X11_choice_12 20 = true := by decide +kernel
def b_X11_choice_23 : List IE := [(.istore_n 2, 1, 0, 0, 2, 0), (.iload_n 1, 1, 0, 0, 1, 0)]
theorem k_X11_choice_23 : ckIf mX11_choice 11 23 b_X11_choice_23 25 1 5 30 28 = true := by decide +kernel
def b_X11_choice_28 : List IE := [(.iload_n 2, 1, 0, 0, 2, 0)]
theorem k_X11_choice_28 : ckI mX11_choice 11 28 b_X11_choice_28 29 = true := by decide +kernel
def b_X11_choice_30 : List IE := [(.iload_n 2, 1, 0, 0, 2, 0), (.iconst (-1), 1, (-1), 0, 0, 0)]
theorem k_X11_choice_30 : ckIc mX11_choice 11 30 b_X11_choice_30 32 1 5 37 35 = true := by decide +kernel
def b_X11_choice_35 : List IE := [(.iconst 0, 1, 0, 0, 0, 0)]
theorem k_X11_choice_35 : ckI mX11_choice 11 35 b_X11_choice_35 36 = true := by decide +kernel
def b_X11_choice_37 : List IE := [(.iload_n 1, 1, 0, 0, 1, 0), (.iconst 1, 1, 1, 0, 0, 0)]
theorem k_X11_choice_37 : ckIc mX11_choice 11 37 b_X11_choice_37 39 1 13 52 42 = true := by decide +kernel
def b_X11_choice_42 : List IE := [(.aload_n 0, 1, 0, 0, 0, 0), (.getfield 45, 3, 0, 11, 9, 1)]
theorem k_X11_choice_42 : ckB mX11_choice 11 42 b_X11_choice_42 46 = true := by decide +kernel
def b_X11_choice_49 : List IE := []
theorem k_X11_choice_49 : ckGo mX11_choice 11 49 b_X11_choice_49 49 20 69 = true := by decide +kernel
def b_X11_choice_52 : List IE := [(.aload_n 0, 1, 0, 0, 0, 0), (.getfield 25, 3, 0, 11, 3, 1), (.iload_n 2, 1, 0, 0, 2, 0), (.iload_n 2, 1, 0, 0, 2, 0), (.aload_n 0, 1, 0, 0, 0, 0), (.getfield 45, 3, 0, 11, 9, 1)]
theorem k_X11_choice_52 : ckB mX11_choice 11 52 b_X11_choice_52 62 = true := by decide +kernel
def b_X11_choice_65 : List IE := [(.iadd, 1, 0, 0, 0, 0)]
theorem k_X11_choice_65 : ckB mX11_choice 11 65 b_X11_choice_65 66 = true := by decide +kernel
def b_X11_choice_69 : List IE := []
theorem k_X11_choice_69 : ckI mX11_choice 11 69 b_X11_choice_69 69 = true := by decide +kernel
theorem s_X11_choice_20 : cV mX11_choice 20 mX4_choose 240 1 4 := ⟨by decide +kernel, ⟨ml_X4_choose, li_RX11_240, im_X4_choose, se_X4_choose⟩, ⟨by decide +kernel, by decide +kernel⟩, by decide +kernel⟩
theorem s_X11_choice_46 : cV mX11_choice 46 mX4_width 244 0 4 := ⟨by decide +kernel, ⟨ml_X4_width, li_RX11_244, im_X4_width, se_X4_width⟩, ⟨by decide +kernel, by decide +kernel⟩, by decide +kernel⟩
theorem s_X11_choice_62 : cV mX11_choice 62 mX4_width 244 0 4 := ⟨by decide +kernel, ⟨ml_X4_width, li_RX11_244, im_X4_width, se_X4_width⟩, ⟨by decide +kernel, by decide +kernel⟩, by decide +kernel⟩
theorem s_X11_choice_66 : cV mX11_choice 66 mX9_liveBetween 247 2 9 := ⟨by decide +kernel, ⟨ml_X9_liveBetween, li_RX11_247, im_X9_liveBetween, se_X9_liveBetween⟩, ⟨by decide +kernel, by decide +kernel⟩, by decide +kernel⟩
theorem t_X11_choice_0 {rc rs : Nat} {Q : Option AV → AH → Prop} {h : AH} {sa : Nat → Nat} {da : Nat → Nat} {g : AH} {x1 : Int} (hL : LayL h) (hv : ((x1 < 0 → Q (some (vi (-2))) h) ∧ (0 ≤ x1 → ((x1 ≤ 2 → (5 = 5 ∧ cPol h g ∧ cRd h g da sa) ∧ ((x1 ≠ 0 → (((m_ch g) ≠ (-1) → ((x1 ≠ 1 → (cPol h g) ∧ (-2147483648 ≤ ((m_ch g) + (m_width g)) ∧ ((m_ch g) + (m_width g)) < 2147483648) ∧ (5 = 5 ∧ cRd h g da sa ∧ 0 ≤ (m_ch g) ∧ (m_ch g) ≤ ((m_ch g) + (m_width g)) ∧ ((m_ch g) + (m_width g)) ≤ iH g 89 13) ∧ Q (some (vi (m_liveIn g (m_ch g) (((m_ch g) + (m_width g)) - (m_ch g))))) h) ∧ (x1 = 1 → (cPol h g) ∧ Q (some (vi (m_width g))) h))) ∧ ((m_ch g) = (-1) → Q (some (vi 0)) h))) ∧ (x1 = 0 → Q (some (vi (m_ch g))) h))) ∧ (2 < x1 → Q (some (vi (-2))) h))))) : wp mX11_choice 7 rc rs Q 0 [some (vr 0), some (vi x1), none] [] h :=
  (show wp mX11_choice 7 rc rs Q 0 [some (vr 0), some (vi x1), none] [] h from xIf k_X11_choice_0 (And.intro (fun c1 => have v3 := hv.1 c1; (show wp mX11_choice 7 rc rs Q 9 [some (vr 0), some (vi x1), none] [] h from xI k_X11_choice_9 (And.intro rfl v3))) (fun c2 => have v4 := hv.2 (Int.not_lt.mp c2); (show wp mX11_choice 7 rc rs Q 4 [some (vr 0), some (vi x1), none] [] h from xIc k_X11_choice_4 (And.intro (fun c5 => have v7 := v4.1 c5; (show wp mX11_choice 7 rc rs Q 12 [some (vr 0), some (vi x1), none] [] h from xcV k_X11_choice_12 s_X11_choice_20 (And.intro (ll_0 hL) (Exists.intro 16 (And.intro (lg_0_9 hL) (And.intro (ll_0 hL) (Exists.intro 5 (And.intro (lg_0_3 hL) (have c32 := v7.1; have v33 := v7.2; (Exists.intro [vr 5] (Exists.intro 16 (Exists.intro [] (And.intro (And.intro rfl (And.intro rfl (Nat.le_of_ble_eq_true rfl))) (And.intro (ll_16 hL) (Exists.intro 6 (Exists.intro 0 (Exists.intro 0 (Exists.intro _ (And.intro (l_choose (h := h) hL c32) (And.intro (And.intro (by decide) (And.intro (Nat.zero_le _) (Nat.zero_le _))) (eQP (show wp mX11_choice 7 rc rs Q 23 [some (vr 0), some (vi x1), none] [vi (m_ch g)] h from xIf k_X11_choice_23 (And.intro rfl (And.intro (fun c9 => have v11 := v33.1 c9; (show wp mX11_choice 7 rc rs Q 30 [some (vr 0), some (vi x1), some (vi (m_ch g))] [] h from xIc k_X11_choice_30 (And.intro (fun c13 => have v15 := v11.1 c13; (show wp mX11_choice 7 rc rs Q 37 [some (vr 0), some (vi x1), some (vi (m_ch g))] [] h from xIc k_X11_choice_37 (And.intro (fun c17 => have v19 := v15.1 c17; (show wp mX11_choice 7 rc rs Q 52 [some (vr 0), some (vi x1), some (vi (m_ch g))] [] h from xcV k_X11_choice_52 s_X11_choice_62 (And.intro (ll_0 hL) (Exists.intro 5 (And.intro (lg_0_3 hL) (And.intro (ll_0 hL) (Exists.intro 16 (And.intro (lg_0_9 hL) (have c26 := v19.1; have v27 := v19.2; (Exists.intro [] (Exists.intro 16 (Exists.intro [vi (m_ch g), vi (m_ch g), vr 5] (And.intro (And.intro rfl (And.intro rfl (Nat.le_of_ble_eq_true rfl))) (And.intro (ll_16 hL) (Exists.intro 0 (Exists.intro 0 (Exists.intro 0 (Exists.intro _ (And.intro (l_width (h := h) hL c26) (And.intro (And.intro (by decide) (And.intro (Nat.zero_le _) (Nat.zero_le _))) (eQP (show wp mX11_choice 7 rc rs Q 65 [some (vr 0), some (vi x1), some (vi (m_ch g))] [vi (m_width g), vi (m_ch g), vi (m_ch g), vr 5] h from xcV k_X11_choice_65 s_X11_choice_66 (have c21 := v27.1; have v25 := v27.2; (And.intro c21 (have c22 := v25.1; have v23 := v25.2; (Exists.intro [vi (m_ch g), vi ((m_ch g) + (m_width g))] (Exists.intro 5 (Exists.intro [] (And.intro (And.intro rfl (And.intro rfl (Nat.le_of_ble_eq_true rfl))) (And.intro (ll_5 hL) (Exists.intro 2 (Exists.intro 0 (Exists.intro 0 (Exists.intro _ (And.intro (l_liveBetween (h := h) hL c22) (And.intro (And.intro (by decide) (And.intro (Nat.zero_le _) (Nat.zero_le _))) (eQP (show wp mX11_choice 7 rc rs Q 69 [some (vr 0), some (vi x1), some (vi (m_ch g))] [vi (m_liveIn g (m_ch g) (((m_ch g) + (m_width g)) - (m_ch g)))] h from xI k_X11_choice_69 (And.intro rfl v23))))))))))))))))))))))))))))))))))))))) (fun c18 => have v20 := v15.2 (Decidable.not_not.mp c18); (show wp mX11_choice 7 rc rs Q 42 [some (vr 0), some (vi x1), some (vi (m_ch g))] [] h from xcV k_X11_choice_42 s_X11_choice_46 (And.intro (ll_0 hL) (Exists.intro 16 (And.intro (lg_0_9 hL) (have c29 := v20.1; have v30 := v20.2; (Exists.intro [] (Exists.intro 16 (Exists.intro [] (And.intro (And.intro rfl (And.intro rfl (Nat.le_of_ble_eq_true rfl))) (And.intro (ll_16 hL) (Exists.intro 0 (Exists.intro 0 (Exists.intro 0 (Exists.intro _ (And.intro (l_width (h := h) hL c29) (And.intro (And.intro (by decide) (And.intro (Nat.zero_le _) (Nat.zero_le _))) (eQP (show wp mX11_choice 7 rc rs Q 49 [some (vr 0), some (vi x1), some (vi (m_ch g))] [vi (m_width g)] h from xGo k_X11_choice_49 (show wp mX11_choice 7 rc rs Q 69 [some (vr 0), some (vi x1), some (vi (m_ch g))] [vi (m_width g)] h from xI k_X11_choice_69 (And.intro rfl v30)))))))))))))))))))))))) (fun c14 => have v16 := v11.2 (Decidable.not_not.mp c14); (show wp mX11_choice 7 rc rs Q 35 [some (vr 0), some (vi x1), some (vi (m_ch g))] [] h from xI k_X11_choice_35 (And.intro rfl v16)))))) (fun c10 => have v12 := v33.2 (Decidable.not_not.mp c10); (show wp mX11_choice 7 rc rs Q 28 [some (vr 0), some (vi x1), some (vi (m_ch g))] [] h from xI k_X11_choice_28 (And.intro rfl v12))))))))))))))))))))))))))) (fun c6 => have v8 := v4.2 (Int.not_le.mp c6); (show wp mX11_choice 7 rc rs Q 9 [some (vr 0), some (vi x1), none] [] h from xI k_X11_choice_9 (And.intro rfl v8))))))))
theorem e_X11_choice {mc ms : Nat} {Q : Option AV → AH → Prop} {h : AH} {sa : Nat → Nat} {da : Nat → Nat} {g : AH} {x1 : Int} (hL : LayL h) (hv : ((x1 < 0 → Q (some (vi (-2))) h) ∧ (0 ≤ x1 → ((x1 ≤ 2 → (5 = 5 ∧ cPol h g ∧ cRd h g da sa) ∧ ((x1 ≠ 0 → (((m_ch g) ≠ (-1) → ((x1 ≠ 1 → (cPol h g) ∧ (-2147483648 ≤ ((m_ch g) + (m_width g)) ∧ ((m_ch g) + (m_width g)) < 2147483648) ∧ (5 = 5 ∧ cRd h g da sa ∧ 0 ≤ (m_ch g) ∧ (m_ch g) ≤ ((m_ch g) + (m_width g)) ∧ ((m_ch g) + (m_width g)) ≤ iH g 89 13) ∧ Q (some (vi (m_liveIn g (m_ch g) (((m_ch g) + (m_width g)) - (m_ch g))))) h) ∧ (x1 = 1 → (cPol h g) ∧ Q (some (vi (m_width g))) h))) ∧ ((m_ch g) = (-1) → Q (some (vi 0)) h))) ∧ (x1 = 0 → Q (some (vi (m_ch g))) h))) ∧ (2 < x1 → Q (some (vi (-2))) h))))) : Ct 7 mc ms mX11_choice [vr 0, vi x1] h Q := Ct.of (by decide +kernel) (Nat.le_of_ble_eq_true rfl) (t_X11_choice_0 hL hv)
def b_X11_viewsWith_0 : List IE := [(.iconst 0, 1, 0, 0, 0, 0), (.istore_n 2, 1, 0, 0, 2, 0), (.iconst 0, 1, 0, 0, 0, 0), (.istore_n 3, 1, 0, 0, 3, 0)]
theorem k_X11_viewsWith_0 : ckB mX11_viewsWith 11 0 b_X11_viewsWith_0 4 = true := by decide +kernel
def b_X11_viewsWith_4 : List IE := [(.iload_n 3, 1, 0, 0, 3, 0), (.iconst 4, 1, 4, 0, 0, 0)]
theorem k_X11_viewsWith_4 : ckIc mX11_viewsWith 11 4 b_X11_viewsWith_4 6 3 37 43 9 = true := by decide +kernel
def b_X11_viewsWith_9 : List IE := [(.aload_n 0, 1, 0, 0, 0, 0), (.getfield 35, 3, 0, 11, 6, 1), (.iload_n 3, 1, 0, 0, 3, 0), (.aaload, 1, 0, 0, 0, 0), (.getfield 102, 3, 0, 9, 3, 0)]
theorem k_X11_viewsWith_9 : ckIf mX11_viewsWith 11 9 b_X11_viewsWith_9 18 0 19 37 21 = true := by decide +kernel
def b_X11_viewsWith_21 : List IE := [(.aload_n 0, 1, 0, 0, 0, 0), (.getfield 35, 3, 0, 11, 6, 1), (.iload_n 3, 1, 0, 0, 3, 0), (.aaload, 1, 0, 0, 0, 0), (.iload_n 1, 1, 0, 0, 1, 0)]
theorem k_X11_viewsWith_21 : ckB mX11_viewsWith 11 21 b_X11_viewsWith_21 28 = true := by decide +kernel
def b_X11_viewsWith_31 : List IE := []
theorem k_X11_viewsWith_31 : ckIf mX11_viewsWith 11 31 b_X11_viewsWith_31 31 0 6 37 34 = true := by decide +kernel
def b_X11_viewsWith_34 : List IE := [(.iinc 2 1, 3, 1, 0, 2, 0), (.iinc 3 1, 3, 1, 0, 3, 0)]
theorem k_X11_viewsWith_34 : ckGo mX11_viewsWith 11 34 b_X11_viewsWith_34 40 (-36) 4 = true := by decide +kernel
def b_X11_viewsWith_37 : List IE := [(.iinc 3 1, 3, 1, 0, 3, 0)]
theorem k_X11_viewsWith_37 : ckGo mX11_viewsWith 11 37 b_X11_viewsWith_37 40 (-36) 4 = true := by decide +kernel
def b_X11_viewsWith_43 : List IE := [(.iload_n 2, 1, 0, 0, 2, 0)]
theorem k_X11_viewsWith_43 : ckI mX11_viewsWith 11 43 b_X11_viewsWith_43 44 = true := by decide +kernel
theorem s_X11_viewsWith_28 : cV mX11_viewsWith 28 mX9_hasName 218 1 9 := ⟨by decide +kernel, ⟨ml_X9_hasName, li_RX11_218, im_X9_hasName, se_X9_hasName⟩, ⟨by decide +kernel, by decide +kernel⟩, by decide +kernel⟩
theorem t_X11_viewsWith_0 {rc rs : Nat} {Q : Option AV → AH → Prop} {h : AH} {x1 : Int} (hL : LayL h) (hv : wp mX11_viewsWith 1 rc rs Q 4 [some (vr 0), some (vi x1), some (vi 0), some (vi 0)] [] h) : wp mX11_viewsWith 1 rc rs Q 0 [some (vr 0), some (vi x1), none, none] [] h :=
  (show wp mX11_viewsWith 1 rc rs Q 0 [some (vr 0), some (vi x1), none, none] [] h from xB k_X11_viewsWith_0 (And.intro rfl (And.intro rfl hv)))
theorem e_X11_viewsWith {mc ms : Nat} {Q : Option AV → AH → Prop} {h : AH} {x1 : Int} (hL : LayL h) (hv : wp mX11_viewsWith 1 mc ms Q 4 [some (vr 0), some (vi x1), some (vi 0), some (vi 0)] [] h) : Ct 1 mc ms mX11_viewsWith [vr 0, vi x1] h Q := Ct.of (by decide +kernel) (Nat.le_of_ble_eq_true rfl) (t_X11_viewsWith_0 hL hv)
theorem t_X11_viewsWith_4 {rc rs : Nat} {Q : Option AV → AH → Prop} {h : AH} {x1 x2 x3 : Int} (hL : LayL h) (hv : ((4 ≤ x3 → Q (some (vi x2)) h) ∧ (x3 < 4 → (0 ≤ x3 ∧ x3 < 4) ∧ (((iH h (33 + 3 * x3.toNat) 3) = 0 → (-2147483648 ≤ (x3 + 1) ∧ (x3 + 1) < 2147483648) ∧ wp mX11_viewsWith 1 rc rs Q 4 [some (vr 0), some (vi x1), some (vi x2), some (vi (x3 + 1))] [] h) ∧ ((iH h (33 + 3 * x3.toNat) 3) ≠ 0 → (∃ P15 : Int → AH → Prop, Ct 0 0 0 mX9_hasName [vr (33 + 3 * x3.toNat), vi x1] h (QI P15) ∧ ∀ (r14 : Int) (h13 : AH), (-2147483648 ≤ r14 ∧ r14 < 2147483648) → P15 r14 h13 → LayL h13 ∧ ((r14 = 0 → (-2147483648 ≤ (x3 + 1) ∧ (x3 + 1) < 2147483648) ∧ wp mX11_viewsWith 1 rc rs Q 4 [some (vr 0), some (vi x1), some (vi x2), some (vi (x3 + 1))] [] h13) ∧ (r14 ≠ 0 → (-2147483648 ≤ (x2 + 1) ∧ (x2 + 1) < 2147483648) ∧ (-2147483648 ≤ (x3 + 1) ∧ (x3 + 1) < 2147483648) ∧ wp mX11_viewsWith 1 rc rs Q 4 [some (vr 0), some (vi x1), some (vi (x2 + 1)), some (vi (x3 + 1))] [] h13)))))))) : wp mX11_viewsWith 1 rc rs Q 4 [some (vr 0), some (vi x1), some (vi x2), some (vi x3)] [] h :=
  (show wp mX11_viewsWith 1 rc rs Q 4 [some (vr 0), some (vi x1), some (vi x2), some (vi x3)] [] h from xIc k_X11_viewsWith_4 (And.intro (fun c1 => have v3 := hv.1 c1; (show wp mX11_viewsWith 1 rc rs Q 43 [some (vr 0), some (vi x1), some (vi x2), some (vi x3)] [] h from xI k_X11_viewsWith_43 (And.intro rfl v3))) (fun c2 => have v4 := hv.2 (Int.not_le.mp c2); (show wp mX11_viewsWith 1 rc rs Q 9 [some (vr 0), some (vi x1), some (vi x2), some (vi x3)] [] h from xIf k_X11_viewsWith_9 (And.intro (ll_0 hL) (Exists.intro 14 (And.intro (lg_0_6 hL) (have c5 := v4.1; have v30 := v4.2; (And.intro (sdQ (ll_14 hL) c5) (Exists.intro (33 + 3 * x3.toNat) (And.intro (tb_vw hL (tnl c5)) (And.intro (st_o hL (ti_vw (tnl c5))) (And.intro (fun c6 => have v8 := v30.1 c6; (show wp mX11_viewsWith 1 rc rs Q 37 [some (vr 0), some (vi x1), some (vi x2), some (vi x3)] [] h from xGo k_X11_viewsWith_37 (have c10 := v8.1; have v11 := v8.2; (And.intro c10 (And.intro rfl v11))))) (fun c7 => have v9 := v30.2 c7; (show wp mX11_viewsWith 1 rc rs Q 21 [some (vr 0), some (vi x1), some (vi x2), some (vi x3)] [] h from xcV k_X11_viewsWith_21 s_X11_viewsWith_28 (And.intro (ll_0 hL) (Exists.intro 14 (And.intro (lg_0_6 hL) (And.intro (sdQ (ll_14 hL) c5) (Exists.intro (33 + 3 * x3.toNat) (And.intro (tb_vw hL (tnl c5)) (Exists.elim v9 (fun P15 v26 => (Exists.intro [vi x1] (Exists.intro (33 + 3 * x3.toNat) (Exists.intro [] (And.intro (And.intro rfl (And.intro rfl (Nat.le_of_ble_eq_true rfl))) (And.intro (st_o hL (ti_vw (tnl c5))) (Exists.intro 0 (Exists.intro 0 (Exists.intro 0 (Exists.intro (QI P15) (And.intro v26.1 (And.intro (And.intro (by decide) (And.intro (Nat.zero_le _) (Nat.zero_le _))) (eQI (fun r14 h13 q29 e28 => have v27 := v26.2 r14 h13 q29 e28; have hL := v27.1; have v27 := v27.2; (show wp mX11_viewsWith 1 rc rs Q 31 [some (vr 0), some (vi x1), some (vi x2), some (vi x3)] [vi r14] h13 from xIf k_X11_viewsWith_31 (And.intro (fun c16 => have v18 := v27.1 c16; (show wp mX11_viewsWith 1 rc rs Q 37 [some (vr 0), some (vi x1), some (vi x2), some (vi x3)] [] h13 from xGo k_X11_viewsWith_37 (have c20 := v18.1; have v21 := v18.2; (And.intro c20 (And.intro rfl v21))))) (fun c17 => have v19 := v27.2 c17; (show wp mX11_viewsWith 1 rc rs Q 34 [some (vr 0), some (vi x1), some (vi x2), some (vi x3)] [] h13 from xGo k_X11_viewsWith_34 (have c22 := v19.1; have v25 := v19.2; (And.intro c22 (And.intro rfl (have c23 := v25.1; have v24 := v25.2; (And.intro c23 (And.intro rfl v24))))))))))))))))))))))))))))))))))))))))))))))
theorem l_where {h g : AH} {da sa : Nat → Nat} (hL : LayL h) {key : Int} (hp : cRd h g da sa ∧ cBuf h g da) : Ct 2 0 0 mX11_where [vr 0, vi key] h (QI fun x h' => x = a_where g key ∧ h' = h) := by
  obtain ⟨hc, hb⟩ := hp
  have hbp := m_bp_bd (key := key) (cBuf_m hc.1 hb)
  refine e_X11_where (g := g) (da := da) (sa := sa) hL ⟨fun c => ⟨⟨hc.1, hb⟩, fun c2 => ⟨hc, _, rfl, ?_, rfl⟩, fun c2 => ⟨by omega, _, rfl, ?_, rfl⟩⟩, fun c => ⟨_, rfl, (if_pos c).symm, rfl⟩⟩
  · unfold a_where; rw [if_neg (fun q => q c), if_pos c2]
  · unfold a_where; rw [if_neg (fun q => q c), if_neg c2]
/-- a segment that stands now -/
theorem now_seg {h g : AH} {da sa : Nat → Nat} (hc : cRd h g da sa) {s : Int} (hs : 0 ≤ s ∧ s < iH g 89 13) : ∃ x : Nat, iH g 1155 s.toNat = (x : Int) ∧ (x : Int) < iH g 89 5 ∧ rH h 6 s.toNat = some (sa x) ∧ cSeg1 h g da sa x ∧ ∀ k : Nat, bt (jH h 7 s.toNat) k ↔ (k : Int) < iH g 615 x ∧ iH g 613 (iH g (617 + x) k).toNat ≠ 0 := by
  obtain ⟨q1, q2, q3⟩ := hc.2.2.2.2 s.toNat (by omega)
  have q1' : 0 ≤ iH g 1155 s.toNat ∧ iH g 1155 s.toNat < iH g 89 5 := q1
  have e : (nRow g s.toNat).toNat = (iH g 1155 s.toNat).toNat := rfl
  refine ⟨(iH g 1155 s.toNat).toNat, by omega, by omega, by rw [← e]; exact q2, hc.2.1 _ (by omega), fun k => ?_⟩
  rw [← e]; exact q3 k
theorem l_doc {h g : AH} {da sa : Nat → Nat} (hL : LayL h) {s p w : Int} (hc : cRd h g da sa) : Ct 1 0 0 mX11_doc [vr 0, vi s, vi p, vi w] h (QI fun x h' => x = a_doc g s p w ∧ h' = h) := by
  have hn : iH h 5 2 = iH g 89 13 := hc.2.2.1
  have h8 := hc.2.2.2.1
  refine e_X11_doc hL ?_
  rw [hn]
  refine ⟨fun c => ⟨_, rfl, (if_pos (Or.inl (by omega))).symm, rfl⟩, fun c => ⟨fun c2 => ⟨_, rfl, (if_pos (Or.inr (by omega))).symm, rfl⟩, fun c2 => ⟨fun c3 => ?_, fun c3 => ⟨_, rfl, (if_pos (Or.inr (by omega))).symm, rfl⟩⟩⟩⟩
  obtain ⟨x, e1, e2, e3, ⟨m1, m2, m3, ⟨r, m4, m5⟩, m6⟩, e5⟩ := now_seg hc c
  have hl := m1.1.1.2.1
  rw [Int.toNat_natCast] at hl
  have e0 : a_doc g s p w = (if ¬ (0 ≤ p ∧ p ≤ iH g 615 x - 1) then -12 else if w = 0 then iH g 90 (iH g (617 + x) p.toNat).toNat else if w = 1 then b01 (¬ iH g 613 (iH g (617 + x) p.toNat).toNat = 0) else iH g 91 (iH g (617 + x) p.toNat).toNat) := by
    unfold a_doc
    rw [if_neg (by omega), e1, Int.toNat_natCast]
  rw [e0]
  refine ⟨by omega, sa x, _, r, ⟨e3, m4⟩, fun c4 => ⟨_, rfl, (if_pos (by omega)).symm, rfl⟩, fun c4 => ⟨fun c5 => ?_, fun c5 => ⟨_, rfl, (if_pos (by omega)).symm, rfl⟩⟩⟩
  rw [if_neg (by omega)]
  have hm := m6 p.toNat (by omega)
  have hm0 := m1.1.1.2.2 p.toNat (by rw [Int.toNat_natCast]; omega)
  rw [Int.toNat_natCast] at hm0
  obtain ⟨d1, d2, d3, d4⟩ := hc.1 (iH g (617 + x) p.toNat).toNat (by omega)
  refine ⟨fun c6 => ⟨fun c7 => ⟨by omega, _, _, ⟨hm.1, d2⟩, _, rfl, ?_, rfl⟩, fun c7 => ⟨⟨Or.inl rfl, by omega, by omega⟩, ?_⟩⟩, fun c6 => ⟨by omega, _, _, ⟨hm.1, d2⟩, _, rfl, by rw [if_pos c6]; exact d3, rfl⟩⟩
  · rw [if_neg c6, if_neg c7]
    have := d1.2.1
    rw [Int.toNat_natCast] at this
    omega
  · rw [if_neg c6, if_pos c7]
    have q := e5 p.toNat
    have lt : ((p.toNat : Nat) : Int) < iH g 615 x := by omega
    refine ⟨fun c8 => ⟨_, rfl, (b01_f fun u => c8 (q.mpr ⟨lt, u⟩)).symm, rfl⟩, fun c8 => ⟨_, rfl, (b01_t (q.mp c8).2).symm, rfl⟩⟩
theorem l_word {h g : AH} {da sa : Nat → Nat} (hL : LayL h) {s k w : Int} (hc : cRd h g da sa) : Ct 1 0 0 mX11_word [vr 0, vi s, vi k, vi w] h (QI fun x h' => x = a_word g s k w ∧ h' = h) := by
  have hn : iH h 5 2 = iH g 89 13 := hc.2.2.1
  have h8 := hc.2.2.2.1
  refine e_X11_word hL ?_
  rw [hn]
  refine ⟨fun c => ⟨_, rfl, (if_pos (Or.inl (by omega))).symm, rfl⟩, fun c => ⟨fun c2 => ⟨_, rfl, (if_pos (Or.inr (by omega))).symm, rfl⟩, fun c2 => ⟨fun c3 => ?_, fun c3 => ⟨_, rfl, (if_pos (Or.inr (by omega))).symm, rfl⟩⟩⟩⟩
  obtain ⟨x, e1, e2, e3, ⟨m1, m2, m3, ⟨r, m4, n1, n2, n3, n4⟩, m6⟩, e5⟩ := now_seg hc c
  have e0 : a_word g s k w = (if k < 0 ∨ (m_dn g x : Int) ≤ k then -12 else if w = 0 then m_pl 6 (m_dw g x k.toNat) else if w = 1 then m_post g x (m_dw g x k.toNat) else m_ps g x (m_dw g x k.toNat)) := by
    unfold a_word
    rw [if_neg (by omega), e1]
  rw [e0]
  refine ⟨by omega, sa x, _, r, ⟨e3, m4⟩, fun c4 => ⟨_, rfl, (if_pos (by omega)).symm, rfl⟩, fun c4 => ?_⟩
  rw [n1]
  refine ⟨fun c5 => ?_, fun c5 => ⟨_, rfl, (if_pos (by omega)).symm, rfl⟩⟩
  rw [if_neg (by omega)]
  obtain ⟨o1, o2, o3⟩ := n4 k.toNat (by omega)
  have hb := m_dw_bd m1 (j := k.toNat) (by omega)
  rw [o1, o2, o3]
  refine ⟨fun c6 => ⟨fun c7 => ⟨by omega, _, rfl, ?_, rfl⟩, fun c7 => ⟨by omega, _, rfl, ?_, rfl⟩⟩, fun c6 => ⟨by omega, hb, _, rfl, by rw [if_pos c6], rfl⟩⟩
  · rw [if_neg c6, if_neg c7]
  · rw [if_neg c6, if_pos c7]
theorem l_taken {h g : AH} (hL : LayL h) {k : Int} (hc : cPol h g) : Ct 1 0 0 mX11_taken [vr 0, vi k] h (QI fun x h' => x = a_taken g k ∧ h' = h) := by
  refine e_X11_taken (g := g) hL ⟨fun c => ⟨_, rfl, (if_pos (by omega)).symm, rfl⟩, fun c => ⟨fun c2 => ⟨⟨hc, by omega, by omega⟩, fun c3 => ⟨_, rfl, ?_, rfl⟩, fun c3 => ⟨_, rfl, ?_, rfl⟩⟩, fun c2 => ⟨_, rfl, (if_pos (by omega)).symm, rfl⟩⟩⟩
  · unfold a_taken; rw [if_neg (by omega), if_neg c3]
  · unfold a_taken; rw [if_neg (by omega), if_pos c3]; exact hc.2.2.1
theorem l_choice {h g : AH} {da sa : Nat → Nat} (hL : LayL h) {w : Int} (hp : cPol h g ∧ cRd h g da sa) : Ct 7 0 0 mX11_choice [vr 0, vi w] h (QI fun x h' => x = a_choice g w ∧ h' = h) := by
  obtain ⟨hp, hc⟩ := hp
  have h1 := m_ch_bd (h := g)
  have h8 := hc.2.2.2.1
  have hw := m_width_bd g
  refine e_X11_choice (g := g) (da := da) (sa := sa) hL ⟨fun c => ⟨_, rfl, (if_pos (by omega)).symm, rfl⟩, fun c => ⟨fun c2 => ?_, fun c2 => ⟨_, rfl, (if_pos (by omega)).symm, rfl⟩⟩⟩
  have e0 : a_choice g w = (if w = 0 then m_ch g else if m_ch g = -1 then 0 else if w = 1 then m_width g else m_liveIn g (m_ch g) (m_width g)) := if_neg (by omega)
  rw [e0]
  refine ⟨⟨rfl, hp, hc⟩, fun c3 => ⟨fun c4 => ⟨fun c5 => ⟨hp, by omega, ⟨rfl, hc, by omega, by omega, by have := h1.2 c4; omega⟩, _, rfl, ?_, rfl⟩, fun c5 => ⟨hp, _, rfl, ?_, rfl⟩⟩, fun c4 => ⟨_, rfl, ?_, rfl⟩⟩, fun c3 => ⟨_, rfl, by rw [if_pos c3], rfl⟩⟩
  · rw [if_neg c3, if_neg c4, if_neg c5, show m_ch g + m_width g - m_ch g = m_width g by omega]
  · rw [if_neg c3, if_neg c4, if_pos c5]
  · rw [if_neg c3, if_pos c4]
theorem l_viewsWith {h g : AH} {da sa : Nat → Nat} (hL : LayL h) {w : Int} (hp : cSegs h g da sa ∧ (∀ t : Nat, t < 6 → kV h g sa t) ∧ kF h g) : Ct 1 0 0 mX11_viewsWith [vr 0, vi w] h (QI fun x h' => x = m_opv g (w - 1) ∧ h' = h) := by
  obtain ⟨hs, hv, hf⟩ := hp
  refine e_X11_viewsWith hL (up (P := fun k => wp mX11_viewsWith 1 _ _ _ 4 [some (vr 0), some (vi w), some (vi (cnt (fun v => m_stands g v (w - 1)) k)), some (vi k)] [] h) 4 ?_ ?_)
  · exact t_X11_viewsWith_4 hL ⟨fun _ => ⟨_, rfl, rfl, rfl⟩, fun c => absurd c (by omega)⟩
  · intro k hk ih
    have hb := cnt_bd (fun v => m_stands g v (w - 1)) k
    have hfk := (hf.1 k (by omega)).1
    rw [avT_v hk] at hfk
    refine t_X11_viewsWith_4 hL ⟨fun c => absurd c (by omega), fun _ => ⟨by omega, ?_⟩⟩
    rw [Int.toNat_natCast, hfk, show (k : Int) + 1 = ((k + 1 : Nat) : Int) by omega]
    refine ⟨fun c => ⟨by omega, ?_⟩, fun c => ⟨_, l_hasName hL (da := da) ⟨by rw [← avT_v hk]; exact iSt_av (by omega), hs, by rw [← avT_v hk]; exact hv k (by omega)⟩, fun v h1 _ hv1 => ?_⟩⟩
    · rw [← cnt_n (p := fun v => m_stands g v (w - 1)) (n := k) (fun q => q.1 (by rw [Int.toNat_natCast]; exact c))]; exact ih
    · obtain ⟨rfl, rfl⟩ := hv1
      have e : m_stands g k (w - 1) ↔ ∃ s : Nat, (s : Int) < iH g 1138 k ∧ tRow g k s = w - 1 := by
        unfold m_stands
        rw [Int.toNat_natCast]
        exact ⟨fun q => q.2, fun q => ⟨c, q⟩⟩
      refine ⟨hL, fun c2 => ⟨by omega, ?_⟩, fun c2 => ⟨by omega, by omega, ?_⟩⟩
      · rw [← cnt_n (p := fun v => m_stands g v (w - 1)) (n := k) (fun q => b01_n.mp c2 (e.mp q))]; exact ih
      · rw [← cnt_s (p := fun v => m_stands g v (w - 1)) (n := k) (e.mpr (b01_p.mp c2))]; exact ih
