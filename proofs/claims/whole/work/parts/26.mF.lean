/-! THE REFERENCE: SEGMENTS, STANDS -/
theorem orI_b (p q : Prop) : orI (b01 p) (b01 q) = b01 (p ∨ q) := by
  rcases b01_01 q with e | e
  · rw [e, orI_0 (b01_01 p), show (p ∨ q) = p from propext ⟨fun r => r.elim id fun r => absurd r (b01_n.mp e), Or.inl⟩]
  · rw [e, orI_1 (b01_01 p)]
    refine (b01_t (Or.inr ?_)).symm
    exact b01_p.mp (by omega)
def m_fill (A : AH) (g : Int) (M : Nat → Int) (j : Int) : AH := sI (sW A (617 + g.toNat) M) 615 g.toNat j
theorem m_join_fill {A : AH} {g d : Int} {M M' : Nat → Int} {j : Nat} (hg : g.toNat < 520) (e : ∀ k, M' k = if k = j then d else M k) : m_join (m_fill A g M j) g d = m_fill A g M' ((j : Int) + 1) := by
  have e1 : iH (m_fill A g M j) 615 g.toNat = (j : Int) := rI_same
  unfold m_join
  rw [e1]
  unfold m_fill
  rw [sI_sI_ne (b := 617 + g.toNat) (by omega), sI_sI, show ((j : Int)).toNat = j from rfl, sI_sW e]
/-- a new segment, with nothing said of its length -/
def m_ns0 (h : AH) : AH := sI (sI h 614 (iH h 89 5).toNat (iH h 89 5 + 1)) 89 5 (iH h 89 5 + 1)
theorem m_nseg_fill (h : AH) {M : Nat → Int} (hg : (iH h 89 5).toNat < 520) (e : ∀ k, M k = iH h (617 + (iH h 89 5).toNat) k) : m_nseg h = m_fill (m_ns0 h) (iH h 89 5) M ((0 : Nat) : Int) := by
  unfold m_fill
  rw [sW_id (fun k => by
    rw [e]
    unfold m_ns0
    rw [rI_ne (by omega), rI_ne (by omega)])]
  unfold m_nseg m_ns0
  rw [sI_sI_ne (a := 615) (b := 89) (by decide)]
  rfl
def b_X12_flush_0 : List IE := [(.aload_n 0, 1, 0, 0, 0, 0), (.getfield 140, 3, 0, 12, 15, 0)]
theorem k_X12_flush_0 : ckIf mX12_flush 12 0 b_X12_flush_0 4 1 6 10 7 = true := by decide +kernel
def b_X12_flush_7 : List IE := [(.bipush (-3), 2, (-3), 0, 0, 0)]
theorem k_X12_flush_7 : ckI mX12_flush 12 7 b_X12_flush_7 9 = true := by decide +kernel
def b_X12_flush_10 : List IE := [(.aload_n 0, 1, 0, 0, 0, 0), (.getfield 106, 3, 0, 12, 13, 0), (.bipush 8, 2, 8, 0, 0, 0)]
theorem k_X12_flush_10 : ckIc mX12_flush 12 10 b_X12_flush_10 16 0 17 33 19 = true := by decide +kernel
def b_X12_flush_19 : List IE := [(.aload_n 0, 1, 0, 0, 0, 0)]
theorem k_X12_flush_19 : ckB mX12_flush 12 19 b_X12_flush_19 20 = true := by decide +kernel
def b_X12_flush_23 : List IE := [(.aload_n 0, 1, 0, 0, 0, 0), (.getfield 140, 3, 0, 12, 15, 0), (.iadd, 1, 0, 0, 0, 0), (.bipush 64, 2, 64, 0, 0, 0)]
theorem k_X12_flush_23 : ckIc mX12_flush 12 23 b_X12_flush_23 30 5 6 36 33 = true := by decide +kernel
def b_X12_flush_33 : List IE := [(.bipush (-4), 2, (-4), 0, 0, 0)]
theorem k_X12_flush_33 : ckI mX12_flush 12 33 b_X12_flush_33 35 = true := by decide +kernel
def b_X12_flush_36 : List IE := [(.aload_n 0, 1, 0, 0, 0, 0)]
theorem k_X12_flush_36 : ckB mX12_flush 12 36 b_X12_flush_36 37 = true := by decide +kernel
def b_X12_flush_40 : List IE := [(.istore_n 1, 1, 0, 0, 1, 0), (.iconst 0, 1, 0, 0, 0, 0), (.istore_n 2, 1, 0, 0, 2, 0)]
theorem k_X12_flush_40 : ckB mX12_flush 12 40 b_X12_flush_40 43 = true := by decide +kernel
def b_X12_flush_43 : List IE := [(.iload_n 2, 1, 0, 0, 2, 0), (.aload_n 0, 1, 0, 0, 0, 0), (.getfield 140, 3, 0, 12, 15, 0)]
theorem k_X12_flush_43 : ckIc mX12_flush 12 43 b_X12_flush_43 48 3 20 68 51 = true := by decide +kernel
def b_X12_flush_51 : List IE := [(.aload_n 0, 1, 0, 0, 0, 0), (.iload_n 1, 1, 0, 0, 1, 0), (.aload_n 0, 1, 0, 0, 0, 0), (.getfield 51, 3, 0, 12, 16, 1), (.iload_n 2, 1, 0, 0, 2, 0), (.iaload, 1, 0, 0, 0, 0)]
theorem k_X12_flush_51 : ckB mX12_flush 12 51 b_X12_flush_51 59 = true := by decide +kernel
def b_X12_flush_62 : List IE := [(.iinc 2 1, 3, 1, 0, 2, 0)]
theorem k_X12_flush_62 : ckGo mX12_flush 12 62 b_X12_flush_62 65 (-22) 43 = true := by decide +kernel
def b_X12_flush_68 : List IE := [(.aload_n 0, 1, 0, 0, 0, 0), (.iconst 0, 1, 0, 0, 0, 0), (.putfield 140, 3, 0, 12, 15, 0), (.aload_n 0, 1, 0, 0, 0, 0), (.getfield 48, 3, 0, 12, 14, 1), (.aload_n 0, 1, 0, 0, 0, 0), (.getfield 106, 3, 0, 12, 13, 0), (.iload_n 1, 1, 0, 0, 1, 0), (.iastore, 1, 0, 0, 0, 0), (.aload_n 0, 1, 0, 0, 0, 0), (.dup, 1, 0, 0, 0, 0), (.getfield 106, 3, 0, 12, 13, 0), (.iconst 1, 1, 1, 0, 0, 0), (.iadd, 1, 0, 0, 0, 0), (.putfield 106, 3, 0, 12, 13, 0), (.aload_n 0, 1, 0, 0, 0, 0), (.getfield 25, 3, 0, 12, 6, 1), (.iload_n 1, 1, 0, 0, 1, 0), (.iaload, 1, 0, 0, 0, 0)]
theorem k_X12_flush_68 : ckI mX12_flush 12 68 b_X12_flush_68 99 = true := by decide +kernel
theorem s_X12_flush_20 : cV mX12_flush 20 mX12_held 171 0 12 := ⟨by decide +kernel, ⟨ml_X12_held, li_RX12_171, im_X12_held, se_X12_held⟩, ⟨by decide +kernel, by decide +kernel⟩, by decide +kernel⟩
theorem s_X12_flush_37 : cV mX12_flush 37 mX12_newSegment 174 0 12 := ⟨by decide +kernel, ⟨ml_X12_newSegment, li_RX12_174, im_X12_newSegment, se_X12_newSegment⟩, ⟨by decide +kernel, by decide +kernel⟩, by decide +kernel⟩
theorem s_X12_flush_59 : cV mX12_flush 59 mX12_joins 177 2 12 := ⟨by decide +kernel, ⟨ml_X12_joins, li_RX12_177, im_X12_joins, se_X12_joins⟩, ⟨by decide +kernel, by decide +kernel⟩, by decide +kernel⟩
theorem t_X12_flush_0 {rc rs : Nat} {Q : Option AV → AH → Prop} {h : AH}  (hL : LayM h) (hv : (((iH h 89 15) ≠ 0 → (((iH h 89 13) = 8 → Q (some (vi (-4))) h) ∧ ((iH h 89 13) ≠ 8 → (m_now h) ∧ (-2147483648 ≤ ((m_held h) + iH h 89 15) ∧ ((m_held h) + iH h 89 15) < 2147483648) ∧ ((((m_held h) + iH h 89 15) ≤ 64 → (0 ≤ iH h 89 5 ∧ iH h 89 5 < 520) ∧ LayM (m_nseg h) ∧ wp mX12_flush 1 rc rs Q 43 [some (vr 89), some (vi (iH h 89 5)), some (vi 0)] [] (m_nseg h)) ∧ (64 < ((m_held h) + iH h 89 15) → Q (some (vi (-4))) h))))) ∧ ((iH h 89 15) = 0 → Q (some (vi (-3))) h))) : wp mX12_flush 1 rc rs Q 0 [some (vr 89), none, none] [] h :=
  (show wp mX12_flush 1 rc rs Q 0 [some (vr 89), none, none] [] h from xIf k_X12_flush_0 (And.intro (lm_89 hL) (And.intro (fun c1 => have v3 := hv.1 c1; (show wp mX12_flush 1 rc rs Q 10 [some (vr 89), none, none] [] h from xIc k_X12_flush_10 (And.intro (lm_89 hL) (And.intro (fun c5 => have v7 := v3.1 c5; (show wp mX12_flush 1 rc rs Q 33 [some (vr 89), none, none] [] h from xI k_X12_flush_33 (And.intro rfl v7))) (fun c6 => have v8 := v3.2 c6; (show wp mX12_flush 1 rc rs Q 19 [some (vr 89), none, none] [] h from xcV k_X12_flush_19 s_X12_flush_20 (have c21 := v8.1; have v22 := v8.2; (Exists.intro [] (Exists.intro 89 (Exists.intro [] (And.intro (And.intro rfl (And.intro rfl (Nat.le_of_ble_eq_true rfl))) (And.intro (lm_89 hL) (Exists.intro 0 (Exists.intro 0 (Exists.intro 0 (Exists.intro _ (And.intro (c_held (h := h) hL c21) (And.intro (And.intro (by decide) (And.intro (Nat.zero_le _) (Nat.zero_le _))) (eQP (show wp mX12_flush 1 rc rs Q 23 [some (vr 89), none, none] [vi (m_held h)] h from xIc k_X12_flush_23 (And.intro (lm_89 hL) (have c9 := v22.1; have v20 := v22.2; (And.intro c9 (And.intro (fun c10 => have v12 := v20.1 c10; (show wp mX12_flush 1 rc rs Q 36 [some (vr 89), none, none] [] h from xcV k_X12_flush_36 s_X12_flush_37 (have c18 := v12.1; have v19 := v12.2; (Exists.intro [] (Exists.intro 89 (Exists.intro [] (And.intro (And.intro rfl (And.intro rfl (Nat.le_of_ble_eq_true rfl))) (And.intro (lm_89 hL) (Exists.intro 0 (Exists.intro 0 (Exists.intro 0 (Exists.intro _ (And.intro (c_newSegment (h := h) hL c18) (And.intro (And.intro (by decide) (And.intro (Nat.zero_le _) (Nat.zero_le _))) (eQP (have hL := v19.1; have v17 := v19.2; (show wp mX12_flush 1 rc rs Q 40 [some (vr 89), none, none] [vi (iH h 89 5)] (m_nseg h) from xB k_X12_flush_40 (And.intro rfl (And.intro rfl v17))))))))))))))))))) (fun c11 => have v13 := v20.2 (Int.not_le.mp c11); (show wp mX12_flush 1 rc rs Q 33 [some (vr 89), none, none] [] h from xI k_X12_flush_33 (And.intro rfl v13))))))))))))))))))))))))))) (fun c2 => have v4 := hv.2 (Decidable.not_not.mp c2); (show wp mX12_flush 1 rc rs Q 7 [some (vr 89), none, none] [] h from xI k_X12_flush_7 (And.intro rfl v4))))))
theorem e_X12_flush {mc ms : Nat} {Q : Option AV → AH → Prop} {h : AH}  (hL : LayM h) (hv : (((iH h 89 15) ≠ 0 → (((iH h 89 13) = 8 → Q (some (vi (-4))) h) ∧ ((iH h 89 13) ≠ 8 → (m_now h) ∧ (-2147483648 ≤ ((m_held h) + iH h 89 15) ∧ ((m_held h) + iH h 89 15) < 2147483648) ∧ ((((m_held h) + iH h 89 15) ≤ 64 → (0 ≤ iH h 89 5 ∧ iH h 89 5 < 520) ∧ LayM (m_nseg h) ∧ wp mX12_flush 1 mc ms Q 43 [some (vr 89), some (vi (iH h 89 5)), some (vi 0)] [] (m_nseg h)) ∧ (64 < ((m_held h) + iH h 89 15) → Q (some (vi (-4))) h))))) ∧ ((iH h 89 15) = 0 → Q (some (vi (-3))) h))) : Ct 1 mc ms mX12_flush [vr 89] h Q := Ct.of (by decide +kernel) (Nat.le_of_ble_eq_true rfl) (t_X12_flush_0 hL hv)
theorem t_X12_flush_43 {rc rs : Nat} {Q : Option AV → AH → Prop} {h : AH} {x1 x2 : Int} (hL : LayM h) (hv : (((iH h 89 15) ≤ x2 → (0 ≤ iH h 89 13 ∧ iH h 89 13 < 8) ∧ (-2147483648 ≤ (iH h 89 13 + 1) ∧ (iH h 89 13 + 1) < 2147483648) ∧ (0 ≤ x1 ∧ x1 < 520) ∧ Q (some (vi (iH h 614 x1.toNat))) (sI (sI (sI h 89 15 0) 1155 ((iH h 89 13).toNat) x1) 89 13 (iH h 89 13 + 1))) ∧ (x2 < (iH h 89 15) → (0 ≤ x2 ∧ x2 < 4) ∧ ((0 ≤ x1 ∧ x1 < 520) ∧ (0 ≤ iH h 615 (x1).toNat ∧ iH h 615 (x1).toNat < 64)) ∧ LayM (m_join h x1 (iH h 1156 x2.toNat)) ∧ (-2147483648 ≤ (x2 + 1) ∧ (x2 + 1) < 2147483648) ∧ wp mX12_flush 1 rc rs Q 43 [some (vr 89), some (vi x1), some (vi (x2 + 1))] [] (m_join h x1 (iH h 1156 x2.toNat))))) : wp mX12_flush 1 rc rs Q 43 [some (vr 89), some (vi x1), some (vi x2)] [] h :=
  (show wp mX12_flush 1 rc rs Q 43 [some (vr 89), some (vi x1), some (vi x2)] [] h from xIc k_X12_flush_43 (And.intro (lm_89 hL) (And.intro (fun c1 => have v3 := hv.1 c1; (show wp mX12_flush 1 rc rs Q 68 [some (vr 89), some (vi x1), some (vi x2)] [] h from xI k_X12_flush_68 (And.intro (lm_89 hL) (And.intro (lm_89 hL) (Exists.intro 1155 (And.intro (lf_89_14 hL) (And.intro (lm_89 hL) (have c5 := v3.1; have v10 := v3.2; (And.intro (sdI (lm_1155 hL) c5) (And.intro rfl (And.intro (lm_89 hL) (have c6 := v10.1; have v9 := v10.2; (And.intro c6 (And.intro (lm_89 hL) (And.intro (lm_89 hL) (Exists.intro 614 (And.intro (lf_89_6 hL) (have c7 := v9.1; have v8 := v9.2; (And.intro (sdI (lm_614 hL) c7) (And.intro rfl v8)))))))))))))))))))) (fun c2 => have v4 := hv.2 (Int.not_le.mp c2); (show wp mX12_flush 1 rc rs Q 51 [some (vr 89), some (vi x1), some (vi x2)] [] h from xcV k_X12_flush_51 s_X12_flush_59 (And.intro (lm_89 hL) (Exists.intro 1156 (And.intro (lf_89_16 hL) (have c11 := v4.1; have v20 := v4.2; (And.intro (sdI (lm_1156 hL) c11) (have c18 := v20.1; have v19 := v20.2; (Exists.intro [vi x1, vi (iH h 1156 x2.toNat)] (Exists.intro 89 (Exists.intro [] (And.intro (And.intro rfl (And.intro rfl (Nat.le_of_ble_eq_true rfl))) (And.intro (lm_89 hL) (Exists.intro 0 (Exists.intro 0 (Exists.intro 0 (Exists.intro _ (And.intro (c_joins (h := h) hL c18) (And.intro (And.intro (by decide) (And.intro (Nat.zero_le _) (Nat.zero_le _))) (eQPV (have hL := v19.1; have v15 := v19.2; (show wp mX12_flush 1 rc rs Q 62 [some (vr 89), some (vi x1), some (vi x2)] [] (m_join h x1 (iH h 1156 x2.toNat)) from xGo k_X12_flush_62 (have c16 := v15.1; have v17 := v15.2; (And.intro c16 (And.intro rfl v17))))))))))))))))))))))))))))
def m_flM (h : AH) (j k : Nat) : Int := if k < j then iH h 1156 k else iH h (617 + (iH h 89 5).toNat) k
def m_flush (h : AH) : AH := sI (sI (sI (m_fill (m_ns0 h) (iH h 89 5) (m_flM h (iH h 89 15).toNat) (iH h 89 15)) 89 15 0) 1155 (iH h 89 13).toNat (iH h 89 5)) 89 13 (iH h 89 13 + 1)
def p_flush (h : AH) (x : Int) (h' : AH) : Prop := (iH h 89 15 = 0 ∧ x = -3 ∧ h' = h) ∨ (iH h 89 15 ≠ 0 ∧ (iH h 89 13 = 8 ∨ 64 < m_held h + iH h 89 15) ∧ x = -4 ∧ h' = h) ∨ (iH h 89 15 ≠ 0 ∧ iH h 89 13 < 8 ∧ m_held h + iH h 89 15 ≤ 64 ∧ x = iH h 89 5 + 1 ∧ h' = m_flush h)
theorem m_held_bd {h : AH} (hn : m_now h) : 0 ≤ m_held h ∧ m_held h ≤ 512 := by
  have h1 := hn.1
  have hb := sumN_bd (fun s => iH h 615 (iH h 1155 s).toNat) 64 (by omega) (iH h 89 13).toNat (fun j hj => (hn.2 j (by omega)).2.1)
  unfold m_held; omega
theorem c_flush {h : AH} (hL : LayM h) (hn : m_now h) (hb : 0 ≤ iH h 89 15 ∧ iH h 89 15 ≤ 4) (hs : 0 ≤ iH h 89 5 ∧ iH h 89 5 < 520) : Ct 1 0 0 mX12_flush [vr 89] h (QI (p_flush h)) := by
  have h1 := hn.1
  have h2 := m_held_bd hn
  refine e_X12_flush hL ⟨fun c => ⟨fun c2 => ⟨_, rfl, Or.inr (Or.inl ⟨c, Or.inl c2, rfl, rfl⟩)⟩, fun c2 => ⟨hn, by omega, fun c3 => ⟨hs, by exact hL, ?_⟩, fun c3 => ⟨_, rfl, Or.inr (Or.inl ⟨c, Or.inr c3, rfl, rfl⟩)⟩⟩⟩, fun c => ⟨_, rfl, Or.inl ⟨c, rfl, rfl⟩⟩⟩
  rw [m_nseg_fill h (M := m_flM h 0) (by omega) (fun k => if_neg (by omega))]
  refine up (P := fun j => wp mX12_flush 1 _ _ _ 43 [some (vr 89), some (vi (iH h 89 5)), some (vi j)] [] (m_fill (m_ns0 h) (iH h 89 5) (m_flM h j) j)) (iH h 89 15).toNat ?_ ?_
  · have r1 : iH (m_fill (m_ns0 h) (iH h 89 5) (m_flM h (iH h 89 15).toNat) ((iH h 89 15).toNat : Int)) 89 15 = iH h 89 15 := by
      unfold m_fill m_ns0
      rw [rI_ne (by decide), rW_ne (by omega), rI_nk (by decide), rI_ne (by decide)]
    have r2 : iH (m_fill (m_ns0 h) (iH h 89 5) (m_flM h (iH h 89 15).toNat) ((iH h 89 15).toNat : Int)) 89 13 = iH h 89 13 := by
      unfold m_fill m_ns0
      rw [rI_ne (by decide), rW_ne (by omega), rI_nk (by decide), rI_ne (by decide)]
    have r3 : iH (m_fill (m_ns0 h) (iH h 89 5) (m_flM h (iH h 89 15).toNat) ((iH h 89 15).toNat : Int)) 614 (iH h 89 5).toNat = iH h 89 5 + 1 := by
      unfold m_fill m_ns0
      rw [rI_ne (by decide), rW_ne (by omega), rI_ne (by decide), rI_same]
    refine t_X12_flush_43 (by exact hL) ?_
    rw [r1, r2, r3]
    refine ⟨fun _ => ⟨by omega, by omega, by omega, _, rfl, Or.inr (Or.inr ⟨c, by omega, c3, rfl, ?_⟩)⟩, fun q => absurd q (by omega)⟩
    rw [show (((iH h 89 15).toNat : Nat) : Int) = iH h 89 15 by omega]
    rfl
  · intro j hj ih
    have r1 : iH (m_fill (m_ns0 h) (iH h 89 5) (m_flM h j) (j : Int)) 89 15 = iH h 89 15 := by
      unfold m_fill m_ns0
      rw [rI_ne (by decide), rW_ne (by omega), rI_nk (by decide), rI_ne (by decide)]
    have r2 : iH (m_fill (m_ns0 h) (iH h 89 5) (m_flM h j) (j : Int)) 615 (iH h 89 5).toNat = (j : Int) := rI_same
    have r3 : iH (m_fill (m_ns0 h) (iH h 89 5) (m_flM h j) (j : Int)) 1156 j = iH h 1156 j := by
      unfold m_fill m_ns0
      rw [rI_ne (by decide), rW_ne (by omega), rI_ne (by decide), rI_ne (by decide)]
    refine t_X12_flush_43 (by exact hL) ?_
    rw [r1, r2, show ((j : Int)).toNat = j from rfl, r3, m_join_fill (M' := m_flM h (j + 1)) (by omega) (fun k => by
      unfold m_flM
      by_cases q : k = j
      · subst q; rw [if_pos rfl, if_pos (by omega)]
      · rw [if_neg q]
        by_cases q2 : k < j
        · rw [if_pos q2, if_pos (by omega)]
        · rw [if_neg q2, if_neg (by omega)])]
    exact ⟨fun q => absurd q (by omega), fun _ => ⟨by omega, ⟨by omega, by omega⟩, by exact hL, by omega, ih⟩⟩
def b_X12_set_0 : List IE := [(.iload_n 1, 1, 0, 0, 1, 0), (.iconst 0, 1, 0, 0, 0, 0), (.iconst 2, 1, 2, 0, 0, 0)]
theorem k_X12_set_0 : ckB mX12_set 12 0 b_X12_set_0 3 = true := by decide +kernel
def b_X12_set_6 : List IE := []
theorem k_X12_set_6 : ckIf mX12_set 12 6 b_X12_set_6 6 0 32 38 9 = true := by decide +kernel
def b_X12_set_9 : List IE := [(.iload_n 2, 1, 0, 0, 2, 0), (.iconst 0, 1, 0, 0, 0, 0), (.iload_n 1, 1, 0, 0, 1, 0)]
theorem k_X12_set_9 : ckIf mX12_set 12 9 b_X12_set_9 12 1 7 19 15 = true := by decide +kernel
def b_X12_set_15 : List IE := [(.iconst 5, 1, 5, 0, 0, 0)]
theorem k_X12_set_15 : ckGo mX12_set 12 15 b_X12_set_15 16 16 32 = true := by decide +kernel
def b_X12_set_19 : List IE := [(.iload_n 1, 1, 0, 0, 1, 0), (.iconst 1, 1, 1, 0, 0, 0)]
theorem k_X12_set_19 : ckIc mX12_set 12 19 b_X12_set_19 21 1 8 29 24 = true := by decide +kernel
def b_X12_set_24 : List IE := [(.bipush 9, 2, 9, 0, 0, 0)]
theorem k_X12_set_24 : ckGo mX12_set 12 24 b_X12_set_24 26 6 32 = true := by decide +kernel
def b_X12_set_29 : List IE := [(.sipush 9999, 3, 9999, 0, 0, 0)]
theorem k_X12_set_29 : ckB mX12_set 12 29 b_X12_set_29 32 = true := by decide +kernel
def b_X12_set_32 : List IE := []
theorem k_X12_set_32 : ckB mX12_set 12 32 b_X12_set_32 32 = true := by decide +kernel
def b_X12_set_35 : List IE := []
theorem k_X12_set_35 : ckIf mX12_set 12 35 b_X12_set_35 35 1 6 41 38 = true := by decide +kernel
def b_X12_set_38 : List IE := [(.bipush (-2), 2, (-2), 0, 0, 0)]
theorem k_X12_set_38 : ckI mX12_set 12 38 b_X12_set_38 40 = true := by decide +kernel
def b_X12_set_41 : List IE := [(.iload_n 1, 1, 0, 0, 1, 0)]
theorem k_X12_set_41 : ckIf mX12_set 12 41 b_X12_set_41 42 1 10 52 45 = true := by decide +kernel
def b_X12_set_45 : List IE := [(.aload_n 0, 1, 0, 0, 0, 0), (.getfield 197, 3, 0, 12, 21, 0)]
theorem k_X12_set_45 : ckGo mX12_set 12 45 b_X12_set_45 49 19 68 = true := by decide +kernel
def b_X12_set_52 : List IE := [(.iload_n 1, 1, 0, 0, 1, 0), (.iconst 1, 1, 1, 0, 0, 0)]
theorem k_X12_set_52 : ckIc mX12_set 12 52 b_X12_set_52 54 1 10 64 57 = true := by decide +kernel
def b_X12_set_57 : List IE := [(.aload_n 0, 1, 0, 0, 0, 0), (.getfield 203, 3, 0, 12, 22, 0)]
theorem k_X12_set_57 : ckGo mX12_set 12 57 b_X12_set_57 61 7 68 = true := by decide +kernel
def b_X12_set_64 : List IE := [(.aload_n 0, 1, 0, 0, 0, 0), (.getfield 60, 3, 0, 12, 23, 0), (.istore_n 3, 1, 0, 0, 3, 0), (.iload_n 1, 1, 0, 0, 1, 0)]
theorem k_X12_set_64 : ckIf mX12_set 12 64 b_X12_set_64 70 1 11 81 73 = true := by decide +kernel
def b_X12_set_68 : List IE := [(.istore_n 3, 1, 0, 0, 3, 0), (.iload_n 1, 1, 0, 0, 1, 0)]
theorem k_X12_set_68 : ckIf mX12_set 12 68 b_X12_set_68 70 1 11 81 73 = true := by decide +kernel
def b_X12_set_73 : List IE := [(.aload_n 0, 1, 0, 0, 0, 0), (.iload_n 2, 1, 0, 0, 2, 0), (.putfield 197, 3, 0, 12, 21, 0)]
theorem k_X12_set_73 : ckGo mX12_set 12 73 b_X12_set_73 78 21 99 = true := by decide +kernel
def b_X12_set_81 : List IE := [(.iload_n 1, 1, 0, 0, 1, 0), (.iconst 1, 1, 1, 0, 0, 0)]
theorem k_X12_set_81 : ckIc mX12_set 12 81 b_X12_set_81 83 1 11 94 86 = true := by decide +kernel
def b_X12_set_86 : List IE := [(.aload_n 0, 1, 0, 0, 0, 0), (.iload_n 2, 1, 0, 0, 2, 0), (.putfield 203, 3, 0, 12, 22, 0)]
theorem k_X12_set_86 : ckGo mX12_set 12 86 b_X12_set_86 91 8 99 = true := by decide +kernel
def b_X12_set_94 : List IE := [(.aload_n 0, 1, 0, 0, 0, 0), (.iload_n 2, 1, 0, 0, 2, 0), (.putfield 60, 3, 0, 12, 23, 0), (.iload_n 3, 1, 0, 0, 3, 0)]
theorem k_X12_set_94 : ckI mX12_set 12 94 b_X12_set_94 100 = true := by decide +kernel
def b_X12_set_99 : List IE := [(.iload_n 3, 1, 0, 0, 3, 0)]
theorem k_X12_set_99 : ckI mX12_set 12 99 b_X12_set_99 100 = true := by decide +kernel
theorem s_X12_set_3 : cS mX12_set 3 mX12_in 109 3 := ⟨by decide +kernel, ⟨ml_X12_in, li_RX12_109, st_X12_in⟩, by decide +kernel⟩
theorem s_X12_set_32 : cS mX12_set 32 mX12_in 109 3 := ⟨by decide +kernel, ⟨ml_X12_in, li_RX12_109, st_X12_in⟩, by decide +kernel⟩
theorem t_X12_set_0 {rc rs : Nat} {Q : Option AV → AH → Prop} {h : AH} {x1 x2 : Int} (hL : LayM h) (hv : ((¬ ((0 : Int) ≤ x1 ∧ x1 ≤ (2 : Int)) → Q (some (vi (-2))) h) ∧ (((0 : Int) ≤ x1 ∧ x1 ≤ (2 : Int)) → ((x1 ≠ 0 → ((x1 ≠ 1 → ((((0 : Int) ≤ x2 ∧ x2 ≤ (9999 : Int)) → Q (some (vi (iH h 89 23))) (sI h 89 23 x2)) ∧ (¬ ((0 : Int) ≤ x2 ∧ x2 ≤ (9999 : Int)) → Q (some (vi (-2))) h))) ∧ (x1 = 1 → ((((0 : Int) ≤ x2 ∧ x2 ≤ (9 : Int)) → Q (some (vi (iH h 89 22))) (sI h 89 22 x2)) ∧ (¬ ((0 : Int) ≤ x2 ∧ x2 ≤ (9 : Int)) → Q (some (vi (-2))) h))))) ∧ (x1 = 0 → ((((0 : Int) ≤ x2 ∧ x2 ≤ (5 : Int)) → Q (some (vi (iH h 89 21))) (sI h 89 21 x2)) ∧ (¬ ((0 : Int) ≤ x2 ∧ x2 ≤ (5 : Int)) → Q (some (vi (-2))) h))))))) : wp mX12_set 1 rc rs Q 0 [some (vr 89), some (vi x1), some (vi x2), none] [] h :=
  (show wp mX12_set 1 rc rs Q 0 [some (vr 89), some (vi x1), some (vi x2), none] [] h from xcS k_X12_set_0 s_X12_set_3 ((Exists.intro [vi x1, vi 0, vi 2] (Exists.intro [] (And.intro (And.intro rfl (And.intro rfl (Nat.le_of_ble_eq_true rfl))) (Exists.intro 0 (Exists.intro 0 (Exists.intro 0 (Exists.intro _ (And.intro c_in (And.intro (And.intro (by decide) (And.intro (Nat.zero_le _) (Nat.zero_le _))) (eQP (show wp mX12_set 1 rc rs Q 6 [some (vr 89), some (vi x1), some (vi x2), none] [vi (b01 ((0 : Int) ≤ x1 ∧ x1 ≤ (2 : Int)))] h from xIf k_X12_set_6 (And.intro (fun c1 => have v3 := hv.1 (b01_n.mp c1); (show wp mX12_set 1 rc rs Q 38 [some (vr 89), some (vi x1), some (vi x2), none] [] h from xI k_X12_set_38 (And.intro rfl v3))) (fun c2 => have v4 := hv.2 (b01_p.mp c2); (show wp mX12_set 1 rc rs Q 9 [some (vr 89), some (vi x1), some (vi x2), none] [] h from xIf k_X12_set_9 (And.intro (fun c5 => have v7 := v4.1 c5; (show wp mX12_set 1 rc rs Q 19 [some (vr 89), some (vi x1), some (vi x2), none] [vi 0, vi x2] h from xIc k_X12_set_19 (And.intro (fun c9 => have v11 := v7.1 c9; (show wp mX12_set 1 rc rs Q 29 [some (vr 89), some (vi x1), some (vi x2), none] [vi 0, vi x2] h from xcS k_X12_set_29 s_X12_set_32 ((Exists.intro [vi x2, vi 0, vi 9999] (Exists.intro [] (And.intro (And.intro rfl (And.intro rfl (Nat.le_of_ble_eq_true rfl))) (Exists.intro 0 (Exists.intro 0 (Exists.intro 0 (Exists.intro _ (And.intro c_in (And.intro (And.intro (by decide) (And.intro (Nat.zero_le _) (Nat.zero_le _))) (eQP (show wp mX12_set 1 rc rs Q 35 [some (vr 89), some (vi x1), some (vi x2), none] [vi (b01 ((0 : Int) ≤ x2 ∧ x2 ≤ (9999 : Int)))] h from xIf k_X12_set_35 (And.intro (fun c13 => have v15 := v11.1 (b01_p.mp c13); (show wp mX12_set 1 rc rs Q 41 [some (vr 89), some (vi x1), some (vi x2), none] [] h from xIf k_X12_set_41 (And.intro (fun _ => (show wp mX12_set 1 rc rs Q 52 [some (vr 89), some (vi x1), some (vi x2), none] [] h from xIc k_X12_set_52 (And.intro (fun _ => (show wp mX12_set 1 rc rs Q 64 [some (vr 89), some (vi x1), some (vi x2), none] [] h from xIf k_X12_set_64 (And.intro (lm_89 hL) (And.intro rfl (And.intro (fun _ => (show wp mX12_set 1 rc rs Q 81 [some (vr 89), some (vi x1), some (vi x2), some (vi (iH h 89 23))] [] h from xIc k_X12_set_81 (And.intro (fun _ => (show wp mX12_set 1 rc rs Q 94 [some (vr 89), some (vi x1), some (vi x2), some (vi (iH h 89 23))] [] h from xI k_X12_set_94 (And.intro (lm_89 hL) (And.intro rfl v15)))) (fun c => absurd (show x1 ≠ 1 from c9) c)))) (fun c => absurd (show x1 ≠ 0 from c5) c)))))) (fun c => absurd (show x1 ≠ 1 from c9) c)))) (fun c => absurd (show x1 ≠ 0 from c5) c)))) (fun c14 => have v16 := v11.2 (b01_nn.mp c14); (show wp mX12_set 1 rc rs Q 38 [some (vr 89), some (vi x1), some (vi x2), none] [] h from xI k_X12_set_38 (And.intro rfl v16)))))))))))))))))) (fun c10 => have v12 := v7.2 (Decidable.not_not.mp c10); (show wp mX12_set 1 rc rs Q 24 [some (vr 89), some (vi x1), some (vi x2), none] [vi 0, vi x2] h from xGo k_X12_set_24 (show wp mX12_set 1 rc rs Q 32 [some (vr 89), some (vi x1), some (vi x2), none] [vi 9, vi 0, vi x2] h from xcS k_X12_set_32 s_X12_set_32 ((Exists.intro [vi x2, vi 0, vi 9] (Exists.intro [] (And.intro (And.intro rfl (And.intro rfl (Nat.le_of_ble_eq_true rfl))) (Exists.intro 0 (Exists.intro 0 (Exists.intro 0 (Exists.intro _ (And.intro c_in (And.intro (And.intro (by decide) (And.intro (Nat.zero_le _) (Nat.zero_le _))) (eQP (show wp mX12_set 1 rc rs Q 35 [some (vr 89), some (vi x1), some (vi x2), none] [vi (b01 ((0 : Int) ≤ x2 ∧ x2 ≤ (9 : Int)))] h from xIf k_X12_set_35 (And.intro (fun c20 => have v22 := v12.1 (b01_p.mp c20); (show wp mX12_set 1 rc rs Q 41 [some (vr 89), some (vi x1), some (vi x2), none] [] h from xIf k_X12_set_41 (And.intro (fun _ => (show wp mX12_set 1 rc rs Q 52 [some (vr 89), some (vi x1), some (vi x2), none] [] h from xIc k_X12_set_52 (And.intro (fun c => absurd (show x1 = 1 from (Decidable.not_not.mp c10)) c) (fun _ => (show wp mX12_set 1 rc rs Q 57 [some (vr 89), some (vi x1), some (vi x2), none] [] h from xGo k_X12_set_57 (And.intro (lm_89 hL) (show wp mX12_set 1 rc rs Q 68 [some (vr 89), some (vi x1), some (vi x2), none] [vi (iH h 89 22)] h from xIf k_X12_set_68 (And.intro rfl (And.intro (fun _ => (show wp mX12_set 1 rc rs Q 81 [some (vr 89), some (vi x1), some (vi x2), some (vi (iH h 89 22))] [] h from xIc k_X12_set_81 (And.intro (fun c => absurd (show x1 = 1 from (Decidable.not_not.mp c10)) c) (fun _ => (show wp mX12_set 1 rc rs Q 86 [some (vr 89), some (vi x1), some (vi x2), some (vi (iH h 89 22))] [] h from xGo k_X12_set_86 (And.intro (lm_89 hL) (show wp mX12_set 1 rc rs Q 99 [some (vr 89), some (vi x1), some (vi x2), some (vi (iH h 89 22))] [] (sI h 89 22 x2) from xI k_X12_set_99 (And.intro rfl v22)))))))) (fun c => absurd (show x1 ≠ 0 from c5) c)))))))))) (fun c => absurd (show x1 ≠ 0 from c5) c)))) (fun c21 => have v23 := v12.2 (b01_nn.mp c21); (show wp mX12_set 1 rc rs Q 38 [some (vr 89), some (vi x1), some (vi x2), none] [] h from xI k_X12_set_38 (And.intro rfl v23)))))))))))))))))))))) (fun c6 => have v8 := v4.2 (Decidable.not_not.mp c6); (show wp mX12_set 1 rc rs Q 15 [some (vr 89), some (vi x1), some (vi x2), none] [vi 0, vi x2] h from xGo k_X12_set_15 (show wp mX12_set 1 rc rs Q 32 [some (vr 89), some (vi x1), some (vi x2), none] [vi 5, vi 0, vi x2] h from xcS k_X12_set_32 s_X12_set_32 ((Exists.intro [vi x2, vi 0, vi 5] (Exists.intro [] (And.intro (And.intro rfl (And.intro rfl (Nat.le_of_ble_eq_true rfl))) (Exists.intro 0 (Exists.intro 0 (Exists.intro 0 (Exists.intro _ (And.intro c_in (And.intro (And.intro (by decide) (And.intro (Nat.zero_le _) (Nat.zero_le _))) (eQP (show wp mX12_set 1 rc rs Q 35 [some (vr 89), some (vi x1), some (vi x2), none] [vi (b01 ((0 : Int) ≤ x2 ∧ x2 ≤ (5 : Int)))] h from xIf k_X12_set_35 (And.intro (fun c27 => have v29 := v8.1 (b01_p.mp c27); (show wp mX12_set 1 rc rs Q 41 [some (vr 89), some (vi x1), some (vi x2), none] [] h from xIf k_X12_set_41 (And.intro (fun c => absurd (show x1 = 0 from (Decidable.not_not.mp c6)) c) (fun _ => (show wp mX12_set 1 rc rs Q 45 [some (vr 89), some (vi x1), some (vi x2), none] [] h from xGo k_X12_set_45 (And.intro (lm_89 hL) (show wp mX12_set 1 rc rs Q 68 [some (vr 89), some (vi x1), some (vi x2), none] [vi (iH h 89 21)] h from xIf k_X12_set_68 (And.intro rfl (And.intro (fun c => absurd (show x1 = 0 from (Decidable.not_not.mp c6)) c) (fun _ => (show wp mX12_set 1 rc rs Q 73 [some (vr 89), some (vi x1), some (vi x2), some (vi (iH h 89 21))] [] h from xGo k_X12_set_73 (And.intro (lm_89 hL) (show wp mX12_set 1 rc rs Q 99 [some (vr 89), some (vi x1), some (vi x2), some (vi (iH h 89 21))] [] (sI h 89 21 x2) from xI k_X12_set_99 (And.intro rfl v29)))))))))))))) (fun c28 => have v30 := v8.2 (b01_nn.mp c28); (show wp mX12_set 1 rc rs Q 38 [some (vr 89), some (vi x1), some (vi x2), none] [] h from xI k_X12_set_38 (And.intro rfl v30))))))))))))))))))))))))))))))))))))
theorem e_X12_set {mc ms : Nat} {Q : Option AV → AH → Prop} {h : AH} {x1 x2 : Int} (hL : LayM h) (hv : ((¬ ((0 : Int) ≤ x1 ∧ x1 ≤ (2 : Int)) → Q (some (vi (-2))) h) ∧ (((0 : Int) ≤ x1 ∧ x1 ≤ (2 : Int)) → ((x1 ≠ 0 → ((x1 ≠ 1 → ((((0 : Int) ≤ x2 ∧ x2 ≤ (9999 : Int)) → Q (some (vi (iH h 89 23))) (sI h 89 23 x2)) ∧ (¬ ((0 : Int) ≤ x2 ∧ x2 ≤ (9999 : Int)) → Q (some (vi (-2))) h))) ∧ (x1 = 1 → ((((0 : Int) ≤ x2 ∧ x2 ≤ (9 : Int)) → Q (some (vi (iH h 89 22))) (sI h 89 22 x2)) ∧ (¬ ((0 : Int) ≤ x2 ∧ x2 ≤ (9 : Int)) → Q (some (vi (-2))) h))))) ∧ (x1 = 0 → ((((0 : Int) ≤ x2 ∧ x2 ≤ (5 : Int)) → Q (some (vi (iH h 89 21))) (sI h 89 21 x2)) ∧ (¬ ((0 : Int) ≤ x2 ∧ x2 ≤ (5 : Int)) → Q (some (vi (-2))) h))))))) : Ct 1 mc ms mX12_set [vr 89, vi x1, vi x2] h Q := Ct.of (by decide +kernel) (Nat.le_of_ble_eq_true rfl) (t_X12_set_0 hL hv)
def b_X12_leave_0 : List IE := [(.aload_n 0, 1, 0, 0, 0, 0), (.getfield 229, 3, 0, 12, 24, 0)]
theorem k_X12_leave_0 : ckIf mX12_leave 12 0 b_X12_leave_0 4 1 6 10 7 = true := by decide +kernel
def b_X12_leave_7 : List IE := [(.bipush (-3), 2, (-3), 0, 0, 0)]
theorem k_X12_leave_7 : ckI mX12_leave 12 7 b_X12_leave_7 9 = true := by decide +kernel
def b_X12_leave_10 : List IE := [(.aload_n 0, 1, 0, 0, 0, 0), (.iconst 0, 1, 0, 0, 0, 0), (.putfield 229, 3, 0, 12, 24, 2), (.iconst 1, 1, 1, 0, 0, 0)]
theorem k_X12_leave_10 : ckI mX12_leave 12 10 b_X12_leave_10 16 = true := by decide +kernel
theorem t_X12_leave_0 {rc rs : Nat} {Q : Option AV → AH → Prop} {h : AH}  (hL : LayM h) (hv : (((iH h 89 24) ≠ 0 → Q (some (vi 1)) (sI h 89 24 0)) ∧ ((iH h 89 24) = 0 → Q (some (vi (-3))) h))) : wp mX12_leave 0 rc rs Q 0 [some (vr 89)] [] h :=
  (show wp mX12_leave 0 rc rs Q 0 [some (vr 89)] [] h from xIf k_X12_leave_0 (And.intro (lm_89 hL) (And.intro (fun c1 => have v3 := hv.1 c1; (show wp mX12_leave 0 rc rs Q 10 [some (vr 89)] [] h from xI k_X12_leave_10 (And.intro (lm_89 hL) (And.intro (Or.inl rfl) (And.intro rfl v3))))) (fun c2 => have v4 := hv.2 (Decidable.not_not.mp c2); (show wp mX12_leave 0 rc rs Q 7 [some (vr 89)] [] h from xI k_X12_leave_7 (And.intro rfl v4))))))
theorem e_X12_leave {mc ms : Nat} {Q : Option AV → AH → Prop} {h : AH}  (hL : LayM h) (hv : (((iH h 89 24) ≠ 0 → Q (some (vi 1)) (sI h 89 24 0)) ∧ ((iH h 89 24) = 0 → Q (some (vi (-3))) h))) : Ct 0 mc ms mX12_leave [vr 89] h Q := Ct.of (by decide +kernel) (Nat.le_of_ble_eq_true rfl) (t_X12_leave_0 hL hv)
def p_set (h : AH) (w v : Int) (x : Int) (h' : AH) : Prop := (w = 0 ∧ 0 ≤ v ∧ v ≤ 5 ∧ x = iH h 89 21 ∧ h' = sI h 89 21 v) ∨ (w = 1 ∧ 0 ≤ v ∧ v ≤ 9 ∧ x = iH h 89 22 ∧ h' = sI h 89 22 v) ∨ (w = 2 ∧ 0 ≤ v ∧ v ≤ 9999 ∧ x = iH h 89 23 ∧ h' = sI h 89 23 v) ∨ (¬ ((w = 0 ∧ 0 ≤ v ∧ v ≤ 5) ∨ (w = 1 ∧ 0 ≤ v ∧ v ≤ 9) ∨ (w = 2 ∧ 0 ≤ v ∧ v ≤ 9999)) ∧ x = -2 ∧ h' = h)
theorem c_set {h : AH} (hL : LayM h) {w v : Int} : Ct 1 0 0 mX12_set [vr 89, vi w, vi v] h (QI (p_set h w v)) :=
  e_X12_set hL ⟨fun c => ⟨_, rfl, Or.inr (Or.inr (Or.inr ⟨by omega, rfl, rfl⟩))⟩, fun c => ⟨fun c0 => ⟨fun c1 => ⟨fun c2 => ⟨_, rfl, Or.inr (Or.inr (Or.inl ⟨by omega, by omega, by omega, rfl, rfl⟩))⟩, fun c2 => ⟨_, rfl, Or.inr (Or.inr (Or.inr ⟨by omega, rfl, rfl⟩))⟩⟩, fun c1 => ⟨fun c2 => ⟨_, rfl, Or.inr (Or.inl ⟨by omega, by omega, by omega, rfl, rfl⟩)⟩, fun c2 => ⟨_, rfl, Or.inr (Or.inr (Or.inr ⟨by omega, rfl, rfl⟩))⟩⟩⟩, fun c0 => ⟨fun c2 => ⟨_, rfl, Or.inl ⟨by omega, by omega, by omega, rfl, rfl⟩⟩, fun c2 => ⟨_, rfl, Or.inr (Or.inr (Or.inr ⟨by omega, rfl, rfl⟩))⟩⟩⟩⟩
theorem c_leave {h : AH} (hL : LayM h) : Ct 0 0 0 mX12_leave [vr 89] h (QI fun x h' => (iH h 89 24 ≠ 0 ∧ x = 1 ∧ h' = sI h 89 24 0) ∨ (iH h 89 24 = 0 ∧ x = -3 ∧ h' = h)) :=
  e_X12_leave hL ⟨fun c => ⟨_, rfl, Or.inl ⟨c, rfl, rfl⟩⟩, fun c => ⟨_, rfl, Or.inr ⟨c, rfl, rfl⟩⟩⟩
def b_X12_lay_0 : List IE := [(.aload_n 0, 1, 0, 0, 0, 0), (.getfield 34, 3, 0, 12, 9, 1), (.iload_n 1, 1, 0, 0, 1, 0), (.iconst 1, 1, 1, 0, 0, 0), (.bastore, 1, 0, 0, 0, 0), (.aload_n 0, 1, 0, 0, 0, 0), (.getfield 37, 3, 0, 12, 10, 1), (.iload_n 1, 1, 0, 0, 1, 0), (.aload_n 0, 1, 0, 0, 0, 0), (.getfield 106, 3, 0, 12, 13, 0), (.iastore, 1, 0, 0, 0, 0), (.iconst 0, 1, 0, 0, 0, 0), (.istore_n 2, 1, 0, 0, 2, 0), (.iconst 0, 1, 0, 0, 0, 0), (.istore_n 3, 1, 0, 0, 3, 0)]
theorem k_X12_lay_0 : ckB mX12_lay 12 0 b_X12_lay_0 21 = true := by decide +kernel
def b_X12_lay_21 : List IE := [(.iload_n 3, 1, 0, 0, 3, 0), (.aload_n 0, 1, 0, 0, 0, 0), (.getfield 106, 3, 0, 12, 13, 0)]
theorem k_X12_lay_21 : ckIc mX12_lay 12 21 b_X12_lay_21 26 3 78 104 29 = true := by decide +kernel
def b_X12_lay_29 : List IE := [(.aload_n 0, 1, 0, 0, 0, 0), (.getfield 40, 3, 0, 12, 11, 1), (.iload_n 1, 1, 0, 0, 1, 0), (.aaload, 1, 0, 0, 0, 0), (.iload_n 3, 1, 0, 0, 3, 0), (.aload_n 0, 1, 0, 0, 0, 0), (.getfield 48, 3, 0, 12, 14, 1), (.iload_n 3, 1, 0, 0, 3, 0), (.iaload, 1, 0, 0, 0, 0), (.iastore, 1, 0, 0, 0, 0), (.iconst 0, 1, 0, 0, 0, 0), (.istore 4, 2, 0, 0, 4, 0)]
theorem k_X12_lay_29 : ckB mX12_lay 12 29 b_X12_lay_29 46 = true := by decide +kernel
def b_X12_lay_46 : List IE := [(.iload 4, 2, 0, 0, 4, 0), (.aload_n 0, 1, 0, 0, 0, 0), (.getfield 28, 3, 0, 12, 7, 1), (.aload_n 0, 1, 0, 0, 0, 0), (.getfield 48, 3, 0, 12, 14, 1), (.iload_n 3, 1, 0, 0, 3, 0), (.iaload, 1, 0, 0, 0, 0), (.iaload, 1, 0, 0, 0, 0)]
theorem k_X12_lay_46 : ckIc mX12_lay 12 46 b_X12_lay_46 59 3 39 98 62 = true := by decide +kernel
def b_X12_lay_62 : List IE := [(.aload_n 0, 1, 0, 0, 0, 0), (.getfield 45, 3, 0, 12, 12, 1), (.iload_n 1, 1, 0, 0, 1, 0), (.aaload, 1, 0, 0, 0, 0), (.iload_n 2, 1, 0, 0, 2, 0), (.aload_n 0, 1, 0, 0, 0, 0), (.getfield 21, 3, 0, 12, 4, 1), (.aload_n 0, 1, 0, 0, 0, 0), (.getfield 31, 3, 0, 12, 8, 1), (.aload_n 0, 1, 0, 0, 0, 0), (.getfield 48, 3, 0, 12, 14, 1), (.iload_n 3, 1, 0, 0, 3, 0), (.iaload, 1, 0, 0, 0, 0), (.aaload, 1, 0, 0, 0, 0), (.iload 4, 2, 0, 0, 4, 0), (.iaload, 1, 0, 0, 0, 0), (.baload, 1, 0, 0, 0, 0), (.bastore, 1, 0, 0, 0, 0), (.iinc 2 1, 3, 1, 0, 2, 0), (.iinc 4 1, 3, 1, 0, 4, 0)]
theorem k_X12_lay_62 : ckGo mX12_lay 12 62 b_X12_lay_62 95 (-49) 46 = true := by decide +kernel
def b_X12_lay_98 : List IE := [(.iinc 3 1, 3, 1, 0, 3, 0)]
theorem k_X12_lay_98 : ckGo mX12_lay 12 98 b_X12_lay_98 101 (-80) 21 = true := by decide +kernel
def b_X12_lay_104 : List IE := []
theorem k_X12_lay_104 : ckV mX12_lay 12 104 b_X12_lay_104 104 = true := by decide +kernel
theorem t_X12_lay_0 {rc rs : Nat} {Q : Option AV → AH → Prop} {h : AH} {x1 : Int} (hL : LayM h) (hv : (0 ≤ x1 ∧ x1 < 7) ∧ wp mX12_lay 0 rc rs Q 21 [some (vr 89), some (vi x1), some (vi 0), some (vi 0), none] [] (sI (sI h 1137 x1.toNat 1) 1138 x1.toNat (iH h 89 13))) : wp mX12_lay 0 rc rs Q 0 [some (vr 89), some (vi x1), none, none, none] [] h :=
  (show wp mX12_lay 0 rc rs Q 0 [some (vr 89), some (vi x1), none, none, none] [] h from xB k_X12_lay_0 (And.intro (lm_89 hL) (Exists.intro 1137 (And.intro (lf_89_9 hL) (have c1 := hv.1; have v3 := hv.2; (And.intro (sdZs (lm_1137 hL) c1 (Or.inr rfl)) (And.intro (lm_89 hL) (Exists.intro 1138 (And.intro (lf_89_10 hL) (And.intro (lm_89 hL) (And.intro (sdI (lm_1138 hL) c1) (And.intro rfl (And.intro rfl v3)))))))))))))
theorem e_X12_lay {mc ms : Nat} {Q : Option AV → AH → Prop} {h : AH} {x1 : Int} (hL : LayM h) (hv : (0 ≤ x1 ∧ x1 < 7) ∧ wp mX12_lay 0 mc ms Q 21 [some (vr 89), some (vi x1), some (vi 0), some (vi 0), none] [] (sI (sI h 1137 x1.toNat 1) 1138 x1.toNat (iH h 89 13))) : Ct 0 mc ms mX12_lay [vr 89, vi x1] h Q := Ct.of (by decide +kernel) (Nat.le_of_ble_eq_true rfl) (t_X12_lay_0 hL hv)
theorem t_X12_lay_21 {rc rs : Nat} {Q : Option AV → AH → Prop} {h : AH} {x1 x2 x3 : Int} (hL : LayM h) (hv : (((iH h 89 13) ≤ x3 → Q none h) ∧ (x3 < (iH h 89 13) → (0 ≤ x1 ∧ x1 < 7) ∧ (0 ≤ x3 ∧ x3 < 8) ∧ wp mX12_lay 0 rc rs Q 46 [some (vr 89), some (vi x1), some (vi x2), some (vi x3), some (vi 0)] [] (sI h (1140 + x1.toNat) x3.toNat (iH h 1155 x3.toNat))))) : wp mX12_lay 0 rc rs Q 21 [some (vr 89), some (vi x1), some (vi x2), some (vi x3), none] [] h :=
  (show wp mX12_lay 0 rc rs Q 21 [some (vr 89), some (vi x1), some (vi x2), some (vi x3), none] [] h from xIc k_X12_lay_21 (And.intro (lm_89 hL) (And.intro (fun c1 => have v3 := hv.1 c1; (show wp mX12_lay 0 rc rs Q 104 [some (vr 89), some (vi x1), some (vi x2), some (vi x3), none] [] h from xV k_X12_lay_104 (And.intro rfl v3))) (fun c2 => have v4 := hv.2 (Int.not_le.mp c2); (show wp mX12_lay 0 rc rs Q 29 [some (vr 89), some (vi x1), some (vi x2), some (vi x3), none] [] h from xB k_X12_lay_29 (And.intro (lm_89 hL) (Exists.intro 1139 (And.intro (lf_89_11 hL) (have c5 := v4.1; have v9 := v4.2; (And.intro (sdQ (lm_1139 hL) c5) (Exists.intro (1140 + x1.toNat) (And.intro (lr_rows hL (tnl c5)) (And.intro (lm_89 hL) (Exists.intro 1155 (And.intro (lf_89_14 hL) (have c6 := v9.1; have v8 := v9.2; (And.intro (sdI (lm_1155 hL) c6) (And.intro (sdI (lk_rows hL (tnl c5)) c6) (And.intro rfl v8)))))))))))))))))))
theorem t_X12_lay_46 {rc rs : Nat} {Q : Option AV → AH → Prop} {h : AH} {x1 x2 x3 x4 : Int} (hL : LayM h) (hv : (0 ≤ x3 ∧ x3 < 8) ∧ (0 ≤ iH h 1155 x3.toNat ∧ iH h 1155 x3.toNat < 520) ∧ (((iH h 615 ((iH h 1155 x3.toNat).toNat)) ≤ x4 → (-2147483648 ≤ (x3 + 1) ∧ (x3 + 1) < 2147483648) ∧ wp mX12_lay 0 rc rs Q 21 [some (vr 89), some (vi x1), some (vi x2), some (vi (x3 + 1)), none] [] h) ∧ (x4 < (iH h 615 ((iH h 1155 x3.toNat).toNat)) → (0 ≤ x1 ∧ x1 < 7) ∧ (0 ≤ x4 ∧ x4 < 64) ∧ (0 ≤ iH h (617 + (iH h 1155 x3.toNat).toNat) x4.toNat ∧ iH h (617 + (iH h 1155 x3.toNat).toNat) x4.toNat < 520) ∧ ((0 ≤ x2 ∧ x2 < 64) ∧ (iH h 613 ((iH h (617 + (iH h 1155 x3.toNat).toNat) x4.toNat).toNat) = 0 ∨ iH h 613 ((iH h (617 + (iH h 1155 x3.toNat).toNat) x4.toNat).toNat) = 1)) ∧ (-2147483648 ≤ (x2 + 1) ∧ (x2 + 1) < 2147483648) ∧ (-2147483648 ≤ (x4 + 1) ∧ (x4 + 1) < 2147483648) ∧ wp mX12_lay 0 rc rs Q 46 [some (vr 89), some (vi x1), some (vi (x2 + 1)), some (vi x3), some (vi (x4 + 1))] [] (sI h (1148 + x1.toNat) x2.toNat (iH h 613 ((iH h (617 + (iH h 1155 x3.toNat).toNat) x4.toNat).toNat)))))) : wp mX12_lay 0 rc rs Q 46 [some (vr 89), some (vi x1), some (vi x2), some (vi x3), some (vi x4)] [] h :=
  (show wp mX12_lay 0 rc rs Q 46 [some (vr 89), some (vi x1), some (vi x2), some (vi x3), some (vi x4)] [] h from xIc k_X12_lay_46 (And.intro (lm_89 hL) (Exists.intro 615 (And.intro (lf_89_7 hL) (And.intro (lm_89 hL) (Exists.intro 1155 (And.intro (lf_89_14 hL) (have c1 := hv.1; have v24 := hv.2; (And.intro (sdI (lm_1155 hL) c1) (have c2 := v24.1; have v23 := v24.2; (And.intro (sdI (lm_615 hL) c2) (And.intro (fun c3 => have v5 := v23.1 c3; (show wp mX12_lay 0 rc rs Q 98 [some (vr 89), some (vi x1), some (vi x2), some (vi x3), some (vi x4)] [] h from xGo k_X12_lay_98 (have c7 := v5.1; have v8 := v5.2; (And.intro c7 (And.intro rfl (w_fg [true, true, true, true, false] v8)))))) (fun c4 => have v6 := v23.2 (Int.not_le.mp c4); (show wp mX12_lay 0 rc rs Q 62 [some (vr 89), some (vi x1), some (vi x2), some (vi x3), some (vi x4)] [] h from xGo k_X12_lay_62 (And.intro (lm_89 hL) (Exists.intro 1147 (And.intro (lf_89_12 hL) (have c9 := v6.1; have v22 := v6.2; (And.intro (sdQ (lm_1147 hL) c9) (Exists.intro (1148 + x1.toNat) (And.intro (lr_wasDropped hL (tnl c9)) (And.intro (lm_89 hL) (Exists.intro 613 (And.intro (lf_89_4 hL) (And.intro (lm_89 hL) (Exists.intro 616 (And.intro (lf_89_8 hL) (And.intro (lm_89 hL) (Exists.intro 1155 (And.intro (lf_89_14 hL) (And.intro (sdI (lm_1155 hL) c1) (And.intro (sdQ (lm_616 hL) c2) (Exists.intro (617 + (iH h 1155 x3.toNat).toNat) (And.intro (lr_members hL (tnl c2)) (have c12 := v22.1; have v21 := v22.2; (And.intro (sdI (lk_members hL (tnl c2)) c12) (have c13 := v21.1; have v20 := v21.2; (And.intro (sdZ (lm_613 hL) c13) (have c14 := v20.1; have v19 := v20.2; (And.intro (sdZs (lk_wasDropped hL (tnl c9)) c14.1 c14.2) (have c15 := v19.1; have v18 := v19.2; (And.intro c15 (And.intro rfl (have c16 := v18.1; have v17 := v18.2; (And.intro c16 (And.intro rfl v17))))))))))))))))))))))))))))))))))))))))))))))
def m_off (h : AH) (s : Nat) : Int := sumN (fun s => iH h 615 (iH h 1155 s).toNat) s
def m_drD (h : AH) (s k : Nat) : Int := iH h 613 (iH h (617 + (iH h 1155 s).toNat) k).toNat
def m_layI (h : AH) (W : Nat → Int) (s k n : Nat) : Int := if (m_off h s).toNat ≤ n ∧ n < (m_off h s).toNat + k then m_drD h s (n - (m_off h s).toNat) else W n
def m_layW (h : AH) (W : Nat → Int) : Nat → Nat → Int
  | 0 => W
  | s + 1 => m_layI h (m_layW h W s) s (iH h 615 (iH h 1155 s).toNat).toNat
def m_layR (h : AH) (t s k : Nat) : Int := if k < s then iH h 1155 k else iH h (1140 + t) k
def m_layB (h : AH) (t : Nat) : AH := sI (sI h 1137 t 1) 1138 t (iH h 89 13)
def m_lay (h : AH) (t : Int) : AH := sW (sW (m_layB h t.toNat) (1140 + t.toNat) (m_layR h t.toNat (iH h 89 13).toNat)) (1148 + t.toNat) (m_layW h (iH h (1148 + t.toNat)) (iH h 89 13).toNat)
def m_nowL (h : AH) : Prop := m_now h ∧ m_held h ≤ 64 ∧ ∀ d : Nat, d < 520 → iH h 613 d = 0 ∨ iH h 613 d = 1
theorem m_off_le {h : AH} (hn : m_now h) : ∀ (n s : Nat), (n : Int) ≤ iH h 89 13 → s ≤ n → 0 ≤ m_off h s ∧ m_off h s ≤ m_off h n
  | 0, s, _, hs => by
    have : s = 0 := by omega
    subst this
    exact ⟨Int.le_refl 0, Int.le_refl _⟩
  | n + 1, s, hn', hs => by
    have hl := (hn.2 n (by omega)).2.1
    have e : m_off h (n + 1) = m_off h n + iH h 615 (iH h 1155 n).toNat := rfl
    by_cases q : s = n + 1
    · subst q
      have := m_off_le hn n n (by omega) (Nat.le_refl n)
      omega
    · have := m_off_le hn n s (by omega) (by omega)
      omega
theorem c_lay {h : AH} (hL : LayM h) {t : Int} (hp : m_nowL h ∧ (0 ≤ t ∧ t < 7)) : Ct 0 0 0 mX12_lay [vr 89, vi t] h (QV fun h' => h' = m_lay h t) := by
  obtain ⟨⟨hn, hh, hd⟩, ht⟩ := hp
  have h1 := hn.1
  refine e_X12_lay hL ⟨ht, ?_⟩
  have e0 : m_layB h t.toNat = sW (sW (m_layB h t.toNat) (1140 + t.toNat) (m_layR h t.toNat 0)) (1148 + t.toNat) (m_layW h (iH h (1148 + t.toNat)) 0) := by
    rw [sW_id (h := m_layB h t.toNat) (fun k => by
      unfold m_layR m_layB
      rw [if_neg (by omega), rI_ne (by omega), rI_ne (by omega)]), sW_id (fun k => by
      unfold m_layB
      rw [rI_ne (by omega), rI_ne (by omega)]; rfl)]
  show wp mX12_lay 0 0 0 (QV fun h' => h' = m_lay h t) 21 [some (vr 89), some (vi t), some (vi (m_off h 0)), some (vi ((0 : Nat) : Int)), none] [] (m_layB h t.toNat)
  rw [e0]
  refine up (P := fun s => wp mX12_lay 0 _ _ _ 21 [some (vr 89), some (vi t), some (vi (m_off h s)), some (vi s), none] [] (sW (sW (m_layB h t.toNat) (1140 + t.toNat) (m_layR h t.toNat s)) (1148 + t.toNat) (m_layW h (iH h (1148 + t.toNat)) s))) (iH h 89 13).toNat ?_ ?_
  · refine t_X12_lay_21 (by exact hL) ?_
    unfold m_layB
    simp (disch := omega) only [rW_ne, rI_ne]
    exact ⟨fun _ => ⟨rfl, rfl⟩, fun q => absurd q (by omega)⟩
  · intro s hs ih
    have hg := hn.2 s (by omega)
    have hg1 := hg.1
    have hg2 := hg.2.1
    have ho := m_off_le hn (iH h 89 13).toNat s (by omega) (by omega)
    have ho2 := m_off_le hn (iH h 89 13).toNat (s + 1) (by omega) (by omega)
    have ho3 : m_off h (s + 1) = m_off h s + iH h 615 (iH h 1155 s).toNat := rfl
    have ho4 : m_off h (iH h 89 13).toNat = m_held h := rfl
    refine t_X12_lay_21 (by exact hL) ?_
    unfold m_layB
    simp (disch := omega) only [rW_ne, rI_ne, Int.toNat_natCast]
    refine ⟨fun q => absurd q (by omega), fun _ => ⟨ht, by omega, ?_⟩⟩
    rw [sI_sW_ne (by omega), sI_sW (g' := m_layR h t.toNat (s + 1)) (fun k => by
      unfold m_layR
      by_cases q : k = s
      · subst q; rw [if_pos rfl, if_pos (by omega)]
      · rw [if_neg q]
        by_cases q2 : k < s
        · rw [if_pos q2, if_pos (by omega)]
        · rw [if_neg q2, if_neg (by omega)])]
    have e1 : m_layW h (iH h (1148 + t.toNat)) s = m_layI h (m_layW h (iH h (1148 + t.toNat)) s) s 0 := by
      funext n; unfold m_layI; rw [if_neg (by omega)]
    rw [e1]
    have e2 : m_off h s = m_off h s + ((0 : Nat) : Int) := by omega
    have main : wp mX12_lay 0 0 0 (QV fun h' => h' = m_lay h t) 46 [some (vr 89), some (vi t), some (vi (m_off h s + ((0 : Nat) : Int))), some (vi s), some (vi ((0 : Nat) : Int))] [] (sW (sW (m_layB h t.toNat) (1140 + t.toNat) (m_layR h t.toNat (s + 1))) (1148 + t.toNat) (m_layI h (m_layW h (iH h (1148 + t.toNat)) s) s 0)) := by
      refine up (P := fun k => wp mX12_lay 0 _ _ _ 46 [some (vr 89), some (vi t), some (vi (m_off h s + (k : Int))), some (vi s), some (vi k)] [] (sW (sW (m_layB h t.toNat) (1140 + t.toNat) (m_layR h t.toNat (s + 1))) (1148 + t.toNat) (m_layI h (m_layW h (iH h (1148 + t.toNat)) s) s k))) (iH h 615 (iH h 1155 s).toNat).toNat ?_ ?_
      · refine t_X12_lay_46 (by exact hL) ?_
        unfold m_layB
        simp (disch := omega) only [rW_ne, rI_ne, Int.toNat_natCast]
        refine ⟨by omega, hg1, fun _ => ⟨by omega, ?_⟩, fun q => absurd q (by omega)⟩
        rw [show m_off h s + ((iH h 615 (iH h 1155 s).toNat).toNat : Int) = m_off h (s + 1) by omega]
        exact ih
      · intro k hk ih2
        have hm := hg.2.2 k (by omega)
        have hdd := hd (iH h (617 + (iH h 1155 s).toNat) k).toNat (by omega)
        refine t_X12_lay_46 (by exact hL) ?_
        unfold m_layB
        simp (disch := omega) only [rW_ne, rI_ne, Int.toNat_natCast]
        refine ⟨by omega, hg1, fun q => absurd q (by omega), fun _ => ⟨ht, by omega, hm, ⟨by omega, hdd⟩, by omega, by omega, ?_⟩⟩
        rw [sI_sW (g' := m_layI h (m_layW h (iH h (1148 + t.toNat)) s) s (k + 1)) (fun n => by
          unfold m_layI
          by_cases q : n = (m_off h s + (k : Int)).toNat
          · rw [if_pos q, if_pos (by omega), show n - (m_off h s).toNat = k by omega]; rfl
          · rw [if_neg q]
            by_cases q2 : (m_off h s).toNat ≤ n ∧ n < (m_off h s).toNat + k
            · rw [if_pos q2, if_pos (by omega)]
            · rw [if_neg q2, if_neg (by omega)])]
        rw [show m_off h s + (k : Int) + 1 = m_off h s + ((k + 1 : Nat) : Int) by omega]
        exact ih2
    rw [← e2] at main
    exact main
/-- what lay leaves as it is -/
theorem rL {h : AH} {t : Int} {a k : Nat} (h1 : a ≠ 1137) (h2 : a ≠ 1138) (h3 : a ≠ 1140 + t.toNat) (h4 : a ≠ 1148 + t.toNat) : iH (m_lay h t) a k = iH h a k := by
  unfold m_lay m_layB
  rw [rW_ne h4, rW_ne h3, rI_ne h2, rI_ne h1]
theorem m_live_cg {h h' : AH} {g : Int} (e1 : ∀ k, iH h' 613 k = iH h 613 k) (e2 : iH h' 615 g.toNat = iH h 615 g.toNat) (e3 : ∀ k, iH h' (617 + g.toNat) k = iH h (617 + g.toNat) k) : m_live h' g = m_live h g := by
  unfold m_live
  rw [e2]
  refine cnt_cg fun k _ => ?_
  unfold m_liveP
  rw [e3, e1]
theorem m_liveIn_cg {h h' : AH} {a n : Int} (hr : m_rng h a n) (e1 : ∀ k, iH h' 613 k = iH h 613 k) (e2 : ∀ k, iH h' 615 k = iH h 615 k) (e3 : ∀ g k, g < 520 → iH h' (617 + g) k = iH h (617 + g) k) (e4 : ∀ k, iH h' 1155 k = iH h 1155 k) : m_liveIn h' a n = m_liveIn h a n := by
  have h1 := hr.1
  have h2 := hr.2.1
  unfold m_liveIn
  refine sumN_cg fun i hi => ?_
  have hg := (hr.2.2.2 (a.toNat + i) (by omega) (by omega)).1
  rw [e4]
  exact m_live_cg e1 (e2 _) (fun k => e3 _ k (by omega))
theorem m_seg_cg {h h' : AH} {g : Int} (hg : m_seg h g) (e2 : ∀ k, iH h' 615 k = iH h 615 k) (e3 : ∀ g k, g < 520 → iH h' (617 + g) k = iH h (617 + g) k) : m_seg h' g := by
  have h1 := hg.1
  unfold m_seg
  rw [e2]
  refine ⟨hg.1, hg.2.1, fun k hk => ?_⟩
  rw [e3 _ _ (by omega)]
  exact hg.2.2 k hk
theorem m_rng_cg {h h' : AH} {a n : Int} (hr : m_rng h a n) (e2 : ∀ k, iH h' 615 k = iH h 615 k) (e3 : ∀ g k, g < 520 → iH h' (617 + g) k = iH h (617 + g) k) (e4 : ∀ k, iH h' 1155 k = iH h 1155 k) : m_rng h' a n :=
  ⟨hr.1, hr.2.1, hr.2.2.1, fun s h1 h2 => by rw [e4]; exact m_seg_cg (hr.2.2.2 s h1 h2) e2 e3⟩
def b_X12_write_0 : List IE := [(.aload_n 0, 1, 0, 0, 0, 0), (.iconst 4, 1, 4, 0, 0, 0)]
theorem k_X12_write_0 : ckB mX12_write 12 0 b_X12_write_0 2 = true := by decide +kernel
def b_X12_write_5 : List IE := [(.aload_n 0, 1, 0, 0, 0, 0), (.getfield 106, 3, 0, 12, 13, 0)]
theorem k_X12_write_5 : ckI mX12_write 12 5 b_X12_write_5 9 = true := by decide +kernel
theorem s_X12_write_2 : cV mX12_write 2 mX12_lay 246 1 12 := ⟨by decide +kernel, ⟨ml_X12_lay, li_RX12_246, im_X12_lay, se_X12_lay⟩, ⟨by decide +kernel, by decide +kernel⟩, by decide +kernel⟩
theorem t_X12_write_0 {rc rs : Nat} {Q : Option AV → AH → Prop} {h : AH}  (hL : LayM h) (hv : (m_nowL h ∧ (0 ≤ (4 : Int) ∧ (4 : Int) < 7)) ∧ LayM (m_lay h (4 : Int)) ∧ Q (some (vi (iH (m_lay h (4 : Int)) 89 13))) (m_lay h (4 : Int))) : wp mX12_write 1 rc rs Q 0 [some (vr 89)] [] h :=
  (show wp mX12_write 1 rc rs Q 0 [some (vr 89)] [] h from xcV k_X12_write_0 s_X12_write_2 (have c5 := hv.1; have v6 := hv.2; (Exists.intro [vi 4] (Exists.intro 89 (Exists.intro [] (And.intro (And.intro rfl (And.intro rfl (Nat.le_of_ble_eq_true rfl))) (And.intro (lm_89 hL) (Exists.intro 0 (Exists.intro 0 (Exists.intro 0 (Exists.intro _ (And.intro (c_lay (h := h) hL c5) (And.intro (And.intro (by decide) (And.intro (Nat.zero_le _) (Nat.zero_le _))) (eQPV (have hL := v6.1; have v4 := v6.2; (show wp mX12_write 1 rc rs Q 5 [some (vr 89)] [] (m_lay h (4 : Int)) from xI k_X12_write_5 (And.intro (lm_89 hL) (And.intro rfl v4))))))))))))))))))
theorem e_X12_write {mc ms : Nat} {Q : Option AV → AH → Prop} {h : AH}  (hL : LayM h) (hv : (m_nowL h ∧ (0 ≤ (4 : Int) ∧ (4 : Int) < 7)) ∧ LayM (m_lay h (4 : Int)) ∧ Q (some (vi (iH (m_lay h (4 : Int)) 89 13))) (m_lay h (4 : Int))) : Ct 1 mc ms mX12_write [vr 89] h Q := Ct.of (by decide +kernel) (Nat.le_of_ble_eq_true rfl) (t_X12_write_0 hL hv)
def b_X12_open_0 : List IE := [(.iload_n 1, 1, 0, 0, 1, 0)]
theorem k_X12_open_0 : ckB mX12_open 12 0 b_X12_open_0 1 = true := by decide +kernel
def b_X12_open_4 : List IE := []
theorem k_X12_open_4 : ckIf mX12_open 12 4 b_X12_open_4 4 1 6 10 7 = true := by decide +kernel
def b_X12_open_7 : List IE := [(.bipush (-2), 2, (-2), 0, 0, 0)]
theorem k_X12_open_7 : ckI mX12_open 12 7 b_X12_open_7 9 = true := by decide +kernel
def b_X12_open_10 : List IE := [(.aload_n 0, 1, 0, 0, 0, 0), (.getfield 34, 3, 0, 12, 9, 1), (.iload_n 1, 1, 0, 0, 1, 0), (.baload, 1, 0, 0, 0, 0)]
theorem k_X12_open_10 : ckIf mX12_open 12 10 b_X12_open_10 16 0 6 22 19 = true := by decide +kernel
def b_X12_open_19 : List IE := [(.bipush (-3), 2, (-3), 0, 0, 0)]
theorem k_X12_open_19 : ckI mX12_open 12 19 b_X12_open_19 21 = true := by decide +kernel
def b_X12_open_22 : List IE := [(.aload_n 0, 1, 0, 0, 0, 0), (.iload_n 1, 1, 0, 0, 1, 0)]
theorem k_X12_open_22 : ckB mX12_open 12 22 b_X12_open_22 24 = true := by decide +kernel
def b_X12_open_27 : List IE := [(.aload_n 0, 1, 0, 0, 0, 0), (.iconst 0, 1, 0, 0, 0, 0), (.aload_n 0, 1, 0, 0, 0, 0), (.getfield 106, 3, 0, 12, 13, 0)]
theorem k_X12_open_27 : ckB mX12_open 12 27 b_X12_open_27 33 = true := by decide +kernel
def b_X12_open_36 : List IE := []
theorem k_X12_open_36 : ckI mX12_open 12 36 b_X12_open_36 36 = true := by decide +kernel
theorem s_X12_open_1 : cS mX12_open 1 mX12_isView 263 1 := ⟨by decide +kernel, ⟨ml_X12_isView, li_RX12_263, st_X12_isView⟩, by decide +kernel⟩
theorem s_X12_open_24 : cV mX12_open 24 mX12_lay 246 1 12 := ⟨by decide +kernel, ⟨ml_X12_lay, li_RX12_246, im_X12_lay, se_X12_lay⟩, ⟨by decide +kernel, by decide +kernel⟩, by decide +kernel⟩
theorem s_X12_open_33 : cV mX12_open 33 mX12_liveIn 226 2 12 := ⟨by decide +kernel, ⟨ml_X12_liveIn, li_RX12_226, im_X12_liveIn, se_X12_liveIn⟩, ⟨by decide +kernel, by decide +kernel⟩, by decide +kernel⟩
theorem t_X12_open_0 {rc rs : Nat} {Q : Option AV → AH → Prop} {h : AH} {x1 : Int} (hL : LayM h) (hv : (((0 ≤ x1 ∧ x1 ≤ 3) → (0 ≤ x1 ∧ x1 < 7) ∧ (((iH h 1137 x1.toNat) = 0 → (m_nowL h ∧ (0 ≤ x1 ∧ x1 < 7)) ∧ LayM (m_lay h x1) ∧ (m_rng (m_lay h x1) (0 : Int) (iH (m_lay h x1) 89 13)) ∧ Q (some (vi (m_liveIn (m_lay h x1) (0 : Int) (iH (m_lay h x1) 89 13)))) (m_lay h x1)) ∧ ((iH h 1137 x1.toNat) ≠ 0 → Q (some (vi (-3))) h))) ∧ (¬ (0 ≤ x1 ∧ x1 ≤ 3) → Q (some (vi (-2))) h))) : wp mX12_open 2 rc rs Q 0 [some (vr 89), some (vi x1)] [] h :=
  (show wp mX12_open 2 rc rs Q 0 [some (vr 89), some (vi x1)] [] h from xcS k_X12_open_0 s_X12_open_1 ((Exists.intro [vi x1] (Exists.intro [] (And.intro (And.intro rfl (And.intro rfl (Nat.le_of_ble_eq_true rfl))) (Exists.intro 1 (Exists.intro 0 (Exists.intro 0 (Exists.intro _ (And.intro c_isView (And.intro (And.intro (by decide) (And.intro (Nat.zero_le _) (Nat.zero_le _))) (eQP (show wp mX12_open 2 rc rs Q 4 [some (vr 89), some (vi x1)] [vi (b01 (0 ≤ x1 ∧ x1 ≤ 3))] h from xIf k_X12_open_4 (And.intro (fun c1 => have v3 := hv.1 (b01_p.mp c1); (show wp mX12_open 2 rc rs Q 10 [some (vr 89), some (vi x1)] [] h from xIf k_X12_open_10 (And.intro (lm_89 hL) (Exists.intro 1137 (And.intro (lf_89_9 hL) (have c5 := v3.1; have v19 := v3.2; (And.intro (sdZ (lm_1137 hL) c5) (And.intro (fun c6 => have v8 := v19.1 c6; (show wp mX12_open 2 rc rs Q 22 [some (vr 89), some (vi x1)] [] h from xcV k_X12_open_22 s_X12_open_24 (have c17 := v8.1; have v18 := v8.2; (Exists.intro [vi x1] (Exists.intro 89 (Exists.intro [] (And.intro (And.intro rfl (And.intro rfl (Nat.le_of_ble_eq_true rfl))) (And.intro (lm_89 hL) (Exists.intro 0 (Exists.intro 0 (Exists.intro 0 (Exists.intro _ (And.intro (c_lay (h := h) hL c17) (And.intro (And.intro (by decide) (And.intro (Nat.zero_le _) (Nat.zero_le _))) (eQPV (have hL := v18.1; have v13 := v18.2; (show wp mX12_open 2 rc rs Q 27 [some (vr 89), some (vi x1)] [] (m_lay h x1) from xcV k_X12_open_27 s_X12_open_33 (And.intro (lm_89 hL) (have c14 := v13.1; have v15 := v13.2; (Exists.intro [vi 0, vi (iH (m_lay h x1) 89 13)] (Exists.intro 89 (Exists.intro [] (And.intro (And.intro rfl (And.intro rfl (Nat.le_of_ble_eq_true rfl))) (And.intro (lm_89 hL) (Exists.intro 1 (Exists.intro 0 (Exists.intro 0 (Exists.intro _ (And.intro (c_liveIn (h := (m_lay h x1)) hL c14) (And.intro (And.intro (by decide) (And.intro (Nat.zero_le _) (Nat.zero_le _))) (eQP (show wp mX12_open 2 rc rs Q 36 [some (vr 89), some (vi x1)] [vi (m_liveIn (m_lay h x1) (0 : Int) (iH (m_lay h x1) 89 13))] (m_lay h x1) from xI k_X12_open_36 (And.intro rfl v15))))))))))))))))))))))))))))))))) (fun c7 => have v9 := v19.2 c7; (show wp mX12_open 2 rc rs Q 19 [some (vr 89), some (vi x1)] [] h from xI k_X12_open_19 (And.intro rfl v9))))))))))) (fun c2 => have v4 := hv.2 (b01_nn.mp c2); (show wp mX12_open 2 rc rs Q 7 [some (vr 89), some (vi x1)] [] h from xI k_X12_open_7 (And.intro rfl v4)))))))))))))))))
theorem e_X12_open {mc ms : Nat} {Q : Option AV → AH → Prop} {h : AH} {x1 : Int} (hL : LayM h) (hv : (((0 ≤ x1 ∧ x1 ≤ 3) → (0 ≤ x1 ∧ x1 < 7) ∧ (((iH h 1137 x1.toNat) = 0 → (m_nowL h ∧ (0 ≤ x1 ∧ x1 < 7)) ∧ LayM (m_lay h x1) ∧ (m_rng (m_lay h x1) (0 : Int) (iH (m_lay h x1) 89 13)) ∧ Q (some (vi (m_liveIn (m_lay h x1) (0 : Int) (iH (m_lay h x1) 89 13)))) (m_lay h x1)) ∧ ((iH h 1137 x1.toNat) ≠ 0 → Q (some (vi (-3))) h))) ∧ (¬ (0 ≤ x1 ∧ x1 ≤ 3) → Q (some (vi (-2))) h))) : Ct 2 mc ms mX12_open [vr 89, vi x1] h Q := Ct.of (by decide +kernel) (Nat.le_of_ble_eq_true rfl) (t_X12_open_0 hL hv)
def b_X12_handOn_0 : List IE := [(.aload_n 0, 1, 0, 0, 0, 0), (.getfield 34, 3, 0, 12, 9, 1), (.iload_n 2, 1, 0, 0, 2, 0), (.iconst 1, 1, 1, 0, 0, 0), (.bastore, 1, 0, 0, 0, 0), (.aload_n 0, 1, 0, 0, 0, 0), (.getfield 37, 3, 0, 12, 10, 1), (.iload_n 2, 1, 0, 0, 2, 0), (.aload_n 0, 1, 0, 0, 0, 0), (.getfield 37, 3, 0, 12, 10, 1), (.iload_n 1, 1, 0, 0, 1, 0), (.iaload, 1, 0, 0, 0, 0), (.iastore, 1, 0, 0, 0, 0), (.aload_n 0, 1, 0, 0, 0, 0), (.getfield 40, 3, 0, 12, 11, 1), (.iload_n 1, 1, 0, 0, 1, 0), (.aaload, 1, 0, 0, 0, 0), (.iconst 0, 1, 0, 0, 0, 0), (.aload_n 0, 1, 0, 0, 0, 0), (.getfield 40, 3, 0, 12, 11, 1), (.iload_n 2, 1, 0, 0, 2, 0), (.aaload, 1, 0, 0, 0, 0), (.iconst 0, 1, 0, 0, 0, 0), (.bipush 8, 2, 8, 0, 0, 0)]
theorem k_X12_handOn_0 : ckB mX12_handOn 12 0 b_X12_handOn_0 35 = true := by decide +kernel
def b_X12_handOn_38 : List IE := [(.aload_n 0, 1, 0, 0, 0, 0), (.getfield 45, 3, 0, 12, 12, 1), (.iload_n 1, 1, 0, 0, 1, 0), (.aaload, 1, 0, 0, 0, 0), (.iconst 0, 1, 0, 0, 0, 0), (.aload_n 0, 1, 0, 0, 0, 0), (.getfield 45, 3, 0, 12, 12, 1), (.iload_n 2, 1, 0, 0, 2, 0), (.aaload, 1, 0, 0, 0, 0), (.iconst 0, 1, 0, 0, 0, 0), (.bipush 64, 2, 64, 0, 0, 0)]
theorem k_X12_handOn_38 : ckB mX12_handOn 12 38 b_X12_handOn_38 54 = true := by decide +kernel
def b_X12_handOn_57 : List IE := []
theorem k_X12_handOn_57 : ckV mX12_handOn 12 57 b_X12_handOn_57 57 = true := by decide +kernel
theorem s_X12_handOn_35 : cCp mX12_handOn 35 162 := ⟨by decide +kernel, gt_ok (List.mem_of_getElem? (i := 1193) (by decide +kernel)) (by decide +kernel), gt_ok (List.mem_of_getElem? (i := 456) (by decide +kernel)) (by decide +kernel), gt_ok (List.mem_of_getElem? (i := 455) (by decide +kernel)) (by decide +kernel), gt_ok (List.mem_of_getElem? (i := 102) (by decide +kernel)) (by decide +kernel)⟩
theorem s_X12_handOn_54 : cCp mX12_handOn 54 162 := ⟨by decide +kernel, gt_ok (List.mem_of_getElem? (i := 1193) (by decide +kernel)) (by decide +kernel), gt_ok (List.mem_of_getElem? (i := 456) (by decide +kernel)) (by decide +kernel), gt_ok (List.mem_of_getElem? (i := 455) (by decide +kernel)) (by decide +kernel), gt_ok (List.mem_of_getElem? (i := 102) (by decide +kernel)) (by decide +kernel)⟩
theorem t_X12_handOn_0 {rc rs : Nat} {Q : Option AV → AH → Prop} {h : AH} {x1 x2 : Int} (hL : LayM h) (hv : (0 ≤ x2 ∧ x2 < 7) ∧ (0 ≤ x1 ∧ x1 < 7) ∧ (0 ≤ (0 : Int) ∧ 0 ≤ (0 : Int) ∧ 0 ≤ (8 : Int) ∧ (0 : Int) + (8 : Int) ≤ 8 ∧ (0 : Int) + (8 : Int) ≤ 8) ∧ ((0 ≤ (0 : Int) ∧ 0 ≤ (0 : Int) ∧ 0 ≤ (64 : Int) ∧ (0 : Int) + (64 : Int) ≤ 64 ∧ (0 : Int) + (64 : Int) ≤ 64) ∧ ∀ i, i < (64 : Int).toNat → iH (cpI (sI (sI h 1137 x2.toNat 1) 1138 x2.toNat (iH h 1138 x1.toNat)) (1140 + x1.toNat) 0 (1140 + x2.toNat) 0 8) (1148 + x1.toNat) ((0 : Int).toNat + i) = 0 ∨ iH (cpI (sI (sI h 1137 x2.toNat 1) 1138 x2.toNat (iH h 1138 x1.toNat)) (1140 + x1.toNat) 0 (1140 + x2.toNat) 0 8) (1148 + x1.toNat) ((0 : Int).toNat + i) = 1) ∧ Q none (cpI (cpI (sI (sI h 1137 x2.toNat 1) 1138 x2.toNat (iH h 1138 x1.toNat)) (1140 + x1.toNat) 0 (1140 + x2.toNat) 0 8) (1148 + x1.toNat) 0 (1148 + x2.toNat) 0 64)) : wp mX12_handOn 1 rc rs Q 0 [some (vr 89), some (vi x1), some (vi x2)] [] h :=
  (show wp mX12_handOn 1 rc rs Q 0 [some (vr 89), some (vi x1), some (vi x2)] [] h from xcp k_X12_handOn_0 s_X12_handOn_35 (And.intro (lm_89 hL) (Exists.intro 1137 (And.intro (lf_89_9 hL) (have c1 := hv.1; have v13 := hv.2; (And.intro (sdZs (lm_1137 hL) c1 (Or.inr rfl)) (And.intro (lm_89 hL) (Exists.intro 1138 (And.intro (lf_89_10 hL) (And.intro (lm_89 hL) (Exists.intro 1138 (And.intro (lf_89_10 hL) (have c2 := v13.1; have v12 := v13.2; (And.intro (sdI (lm_1138 hL) c2) (And.intro (sdI (lm_1138 hL) c1) (And.intro (lm_89 hL) (Exists.intro 1139 (And.intro (lf_89_11 hL) (And.intro (sdQ (lm_1139 hL) c2) (Exists.intro (1140 + x1.toNat) (And.intro (lr_rows hL (tnl c2)) (And.intro (lm_89 hL) (Exists.intro 1139 (And.intro (lf_89_11 hL) (And.intro (sdQ (lm_1139 hL) c1) (Exists.intro (1140 + x2.toNat) (And.intro (lr_rows hL (tnl c1)) (have c10 := v12.1; have v11 := v12.2; Exists.intro _ (Exists.intro _ (Exists.intro 13 (And.intro (lk_rows hL (tnl c2)) (And.intro (lk_rows hL (tnl c1)) (And.intro (Or.inl rfl) (And.intro c10 (And.intro (And.intro (Nat.le_of_ble_eq_true rfl) (Nat.le_of_ble_eq_true rfl)) (show wp mX12_handOn 1 rc rs Q 38 [some (vr 89), some (vi x1), some (vi x2)] [] (cpI (sI (sI h 1137 x2.toNat 1) 1138 x2.toNat (iH h 1138 x1.toNat)) (1140 + x1.toNat) 0 (1140 + x2.toNat) 0 8) from xcp k_X12_handOn_38 s_X12_handOn_54 (And.intro (lm_89 hL) (Exists.intro 1147 (And.intro (lf_89_12 hL) (And.intro (sdQ (lm_1147 hL) c2) (Exists.intro (1148 + x1.toNat) (And.intro (lr_wasDropped hL (tnl c2)) (And.intro (lm_89 hL) (Exists.intro 1147 (And.intro (lf_89_12 hL) (And.intro (sdQ (lm_1147 hL) c1) (Exists.intro (1148 + x2.toNat) (And.intro (lr_wasDropped hL (tnl c1)) (have c8 := v11.1; have v9 := v11.2; Exists.intro _ (Exists.intro _ (Exists.intro 15 (And.intro (lk_wasDropped hL (tnl c2)) (And.intro (lk_wasDropped hL (tnl c1)) (And.intro (Or.inr (And.intro rfl c8.2)) (And.intro c8.1 (And.intro (And.intro (Nat.le_of_ble_eq_true rfl) (Nat.le_of_ble_eq_true rfl)) (show wp mX12_handOn 1 rc rs Q 57 [some (vr 89), some (vi x1), some (vi x2)] [] (cpI (cpI (sI (sI h 1137 x2.toNat 1) 1138 x2.toNat (iH h 1138 x1.toNat)) (1140 + x1.toNat) 0 (1140 + x2.toNat) 0 8) (1148 + x1.toNat) 0 (1148 + x2.toNat) 0 64) from xV k_X12_handOn_57 (And.intro rfl v9))))))))))))))))))))))))))))))))))))))))))))))))))))))))))
theorem e_X12_handOn {mc ms : Nat} {Q : Option AV → AH → Prop} {h : AH} {x1 x2 : Int} (hL : LayM h) (hv : (0 ≤ x2 ∧ x2 < 7) ∧ (0 ≤ x1 ∧ x1 < 7) ∧ (0 ≤ (0 : Int) ∧ 0 ≤ (0 : Int) ∧ 0 ≤ (8 : Int) ∧ (0 : Int) + (8 : Int) ≤ 8 ∧ (0 : Int) + (8 : Int) ≤ 8) ∧ ((0 ≤ (0 : Int) ∧ 0 ≤ (0 : Int) ∧ 0 ≤ (64 : Int) ∧ (0 : Int) + (64 : Int) ≤ 64 ∧ (0 : Int) + (64 : Int) ≤ 64) ∧ ∀ i, i < (64 : Int).toNat → iH (cpI (sI (sI h 1137 x2.toNat 1) 1138 x2.toNat (iH h 1138 x1.toNat)) (1140 + x1.toNat) 0 (1140 + x2.toNat) 0 8) (1148 + x1.toNat) ((0 : Int).toNat + i) = 0 ∨ iH (cpI (sI (sI h 1137 x2.toNat 1) 1138 x2.toNat (iH h 1138 x1.toNat)) (1140 + x1.toNat) 0 (1140 + x2.toNat) 0 8) (1148 + x1.toNat) ((0 : Int).toNat + i) = 1) ∧ Q none (cpI (cpI (sI (sI h 1137 x2.toNat 1) 1138 x2.toNat (iH h 1138 x1.toNat)) (1140 + x1.toNat) 0 (1140 + x2.toNat) 0 8) (1148 + x1.toNat) 0 (1148 + x2.toNat) 0 64)) : Ct 1 mc ms mX12_handOn [vr 89, vi x1, vi x2] h Q := Ct.of (by decide +kernel) (Nat.le_of_ble_eq_true rfl) (t_X12_handOn_0 hL hv)
def b_X12_heldSegments_0 : List IE := [(.aload_n 0, 1, 0, 0, 0, 0), (.bipush 6, 2, 6, 0, 0, 0)]
theorem k_X12_heldSegments_0 : ckB mX12_heldSegments 12 0 b_X12_heldSegments_0 3 = true := by decide +kernel
def b_X12_heldSegments_6 : List IE := [(.iconst 0, 1, 0, 0, 0, 0), (.istore_n 1, 1, 0, 0, 1, 0), (.iconst 0, 1, 0, 0, 0, 0), (.istore_n 2, 1, 0, 0, 2, 0)]
theorem k_X12_heldSegments_6 : ckB mX12_heldSegments 12 6 b_X12_heldSegments_6 10 = true := by decide +kernel
def b_X12_heldSegments_10 : List IE := [(.iload_n 2, 1, 0, 0, 2, 0), (.aload_n 0, 1, 0, 0, 0, 0), (.getfield 168, 3, 0, 12, 5, 0)]
theorem k_X12_heldSegments_10 : ckIc mX12_heldSegments 12 10 b_X12_heldSegments_10 15 3 44 59 18 = true := by decide +kernel
def b_X12_heldSegments_18 : List IE := [(.iconst 0, 1, 0, 0, 0, 0), (.istore_n 3, 1, 0, 0, 3, 0), (.iconst 0, 1, 0, 0, 0, 0), (.istore 4, 2, 0, 0, 4, 0)]
theorem k_X12_heldSegments_18 : ckB mX12_heldSegments 12 18 b_X12_heldSegments_18 23 = true := by decide +kernel
def b_X12_heldSegments_23 : List IE := [(.iload 4, 2, 0, 0, 4, 0), (.bipush 6, 2, 6, 0, 0, 0)]
theorem k_X12_heldSegments_23 : ckIc mX12_heldSegments 12 23 b_X12_heldSegments_23 27 4 19 46 30 = true := by decide +kernel
def b_X12_heldSegments_30 : List IE := [(.iload_n 3, 1, 0, 0, 3, 0), (.aload_n 0, 1, 0, 0, 0, 0), (.iload 4, 2, 0, 0, 4, 0), (.iload_n 2, 1, 0, 0, 2, 0)]
theorem k_X12_heldSegments_30 : ckB mX12_heldSegments 12 30 b_X12_heldSegments_30 35 = true := by decide +kernel
def b_X12_heldSegments_38 : List IE := [(.ior, 1, 0, 0, 0, 0), (.istore_n 3, 1, 0, 0, 3, 0), (.iinc 4 1, 3, 1, 0, 4, 0)]
theorem k_X12_heldSegments_38 : ckGo mX12_heldSegments 12 38 b_X12_heldSegments_38 43 (-20) 23 = true := by decide +kernel
def b_X12_heldSegments_46 : List IE := [(.iload_n 3, 1, 0, 0, 3, 0)]
theorem k_X12_heldSegments_46 : ckIf mX12_heldSegments 12 46 b_X12_heldSegments_46 47 0 6 53 50 = true := by decide +kernel
def b_X12_heldSegments_50 : List IE := [(.iinc 1 1, 3, 1, 0, 1, 0), (.iinc 2 1, 3, 1, 0, 2, 0)]
theorem k_X12_heldSegments_50 : ckGo mX12_heldSegments 12 50 b_X12_heldSegments_50 56 (-46) 10 = true := by decide +kernel
def b_X12_heldSegments_53 : List IE := [(.iinc 2 1, 3, 1, 0, 2, 0)]
theorem k_X12_heldSegments_53 : ckGo mX12_heldSegments 12 53 b_X12_heldSegments_53 56 (-46) 10 = true := by decide +kernel
def b_X12_heldSegments_59 : List IE := [(.iload_n 1, 1, 0, 0, 1, 0)]
theorem k_X12_heldSegments_59 : ckI mX12_heldSegments 12 59 b_X12_heldSegments_59 60 = true := by decide +kernel
theorem s_X12_heldSegments_3 : cV mX12_heldSegments 3 mX12_lay 246 1 12 := ⟨by decide +kernel, ⟨ml_X12_lay, li_RX12_246, im_X12_lay, se_X12_lay⟩, ⟨by decide +kernel, by decide +kernel⟩, by decide +kernel⟩
theorem s_X12_heldSegments_35 : cV mX12_heldSegments 35 mX12_stands 250 2 12 := ⟨by decide +kernel, ⟨ml_X12_stands, li_RX12_250, im_X12_stands, se_X12_stands⟩, ⟨by decide +kernel, by decide +kernel⟩, by decide +kernel⟩
theorem t_X12_heldSegments_0 {rc rs : Nat} {Q : Option AV → AH → Prop} {h : AH}  (hL : LayM h) (hv : (m_nowL h ∧ (0 ≤ (6 : Int) ∧ (6 : Int) < 7)) ∧ LayM (m_lay h (6 : Int)) ∧ wp mX12_heldSegments 1 rc rs Q 10 [some (vr 89), some (vi 0), some (vi 0), none, none] [] (m_lay h (6 : Int))) : wp mX12_heldSegments 1 rc rs Q 0 [some (vr 89), none, none, none, none] [] h :=
  (show wp mX12_heldSegments 1 rc rs Q 0 [some (vr 89), none, none, none, none] [] h from xcV k_X12_heldSegments_0 s_X12_heldSegments_3 (have c5 := hv.1; have v6 := hv.2; (Exists.intro [vi 6] (Exists.intro 89 (Exists.intro [] (And.intro (And.intro rfl (And.intro rfl (Nat.le_of_ble_eq_true rfl))) (And.intro (lm_89 hL) (Exists.intro 0 (Exists.intro 0 (Exists.intro 0 (Exists.intro _ (And.intro (c_lay (h := h) hL c5) (And.intro (And.intro (by decide) (And.intro (Nat.zero_le _) (Nat.zero_le _))) (eQPV (have hL := v6.1; have v4 := v6.2; (show wp mX12_heldSegments 1 rc rs Q 6 [some (vr 89), none, none, none, none] [] (m_lay h (6 : Int)) from xB k_X12_heldSegments_6 (And.intro rfl (And.intro rfl v4))))))))))))))))))
theorem e_X12_heldSegments {mc ms : Nat} {Q : Option AV → AH → Prop} {h : AH}  (hL : LayM h) (hv : (m_nowL h ∧ (0 ≤ (6 : Int) ∧ (6 : Int) < 7)) ∧ LayM (m_lay h (6 : Int)) ∧ wp mX12_heldSegments 1 mc ms Q 10 [some (vr 89), some (vi 0), some (vi 0), none, none] [] (m_lay h (6 : Int))) : Ct 1 mc ms mX12_heldSegments [vr 89] h Q := Ct.of (by decide +kernel) (Nat.le_of_ble_eq_true rfl) (t_X12_heldSegments_0 hL hv)
theorem t_X12_heldSegments_10 {rc rs : Nat} {Q : Option AV → AH → Prop} {h : AH} {x1 x2 : Int} (hL : LayM h) (hv : (((iH h 89 5) ≤ x2 → Q (some (vi x1)) h) ∧ (x2 < (iH h 89 5) → wp mX12_heldSegments 1 rc rs Q 23 [some (vr 89), some (vi x1), some (vi x2), some (vi 0), some (vi 0)] [] h))) : wp mX12_heldSegments 1 rc rs Q 10 [some (vr 89), some (vi x1), some (vi x2), none, none] [] h :=
  (show wp mX12_heldSegments 1 rc rs Q 10 [some (vr 89), some (vi x1), some (vi x2), none, none] [] h from xIc k_X12_heldSegments_10 (And.intro (lm_89 hL) (And.intro (fun c1 => have v3 := hv.1 c1; (show wp mX12_heldSegments 1 rc rs Q 59 [some (vr 89), some (vi x1), some (vi x2), none, none] [] h from xI k_X12_heldSegments_59 (And.intro rfl v3))) (fun c2 => have v4 := hv.2 (Int.not_le.mp c2); (show wp mX12_heldSegments 1 rc rs Q 18 [some (vr 89), some (vi x1), some (vi x2), none, none] [] h from xB k_X12_heldSegments_18 (And.intro rfl (And.intro rfl v4)))))))
theorem t_X12_heldSegments_23 {rc rs : Nat} {Q : Option AV → AH → Prop} {h : AH} {x1 x2 x3 x4 : Int} (hL : LayM h) (hv : ((6 < x4 → ((x3 = 0 → (-2147483648 ≤ (x2 + 1) ∧ (x2 + 1) < 2147483648) ∧ wp mX12_heldSegments 1 rc rs Q 10 [some (vr 89), some (vi x1), some (vi (x2 + 1)), none, none] [] h) ∧ (x3 ≠ 0 → (-2147483648 ≤ (x1 + 1) ∧ (x1 + 1) < 2147483648) ∧ (-2147483648 ≤ (x2 + 1) ∧ (x2 + 1) < 2147483648) ∧ wp mX12_heldSegments 1 rc rs Q 10 [some (vr 89), some (vi (x1 + 1)), some (vi (x2 + 1)), none, none] [] h))) ∧ (x4 ≤ 6 → (m_std h x4) ∧ (-2147483648 ≤ (x4 + 1) ∧ (x4 + 1) < 2147483648) ∧ wp mX12_heldSegments 1 rc rs Q 23 [some (vr 89), some (vi x1), some (vi x2), some (vi (orI x3 (b01 (m_stands h x4 x2)))), some (vi (x4 + 1))] [] h))) : wp mX12_heldSegments 1 rc rs Q 23 [some (vr 89), some (vi x1), some (vi x2), some (vi x3), some (vi x4)] [] h :=
  (show wp mX12_heldSegments 1 rc rs Q 23 [some (vr 89), some (vi x1), some (vi x2), some (vi x3), some (vi x4)] [] h from xIc k_X12_heldSegments_23 (And.intro (fun c1 => have v3 := hv.1 c1; (show wp mX12_heldSegments 1 rc rs Q 46 [some (vr 89), some (vi x1), some (vi x2), some (vi x3), some (vi x4)] [] h from xIf k_X12_heldSegments_46 (And.intro (fun c5 => have v7 := v3.1 c5; (show wp mX12_heldSegments 1 rc rs Q 53 [some (vr 89), some (vi x1), some (vi x2), some (vi x3), some (vi x4)] [] h from xGo k_X12_heldSegments_53 (have c9 := v7.1; have v10 := v7.2; (And.intro c9 (And.intro rfl (w_fg [true, true, true, false, false] v10)))))) (fun c6 => have v8 := v3.2 c6; (show wp mX12_heldSegments 1 rc rs Q 50 [some (vr 89), some (vi x1), some (vi x2), some (vi x3), some (vi x4)] [] h from xGo k_X12_heldSegments_50 (have c11 := v8.1; have v14 := v8.2; (And.intro c11 (And.intro rfl (have c12 := v14.1; have v13 := v14.2; (And.intro c12 (And.intro rfl (w_fg [true, true, true, false, false] v13)))))))))))) (fun c2 => have v4 := hv.2 (Int.not_lt.mp c2); (show wp mX12_heldSegments 1 rc rs Q 30 [some (vr 89), some (vi x1), some (vi x2), some (vi x3), some (vi x4)] [] h from xcV k_X12_heldSegments_30 s_X12_heldSegments_35 (have c17 := v4.1; have v18 := v4.2; (Exists.intro [vi x4, vi x2] (Exists.intro 89 (Exists.intro [vi x3] (And.intro (And.intro rfl (And.intro rfl (Nat.le_of_ble_eq_true rfl))) (And.intro (lm_89 hL) (Exists.intro 0 (Exists.intro 0 (Exists.intro 0 (Exists.intro _ (And.intro (c_stands (h := h) hL c17) (And.intro (And.intro (by decide) (And.intro (Nat.zero_le _) (Nat.zero_le _))) (eQP (show wp mX12_heldSegments 1 rc rs Q 38 [some (vr 89), some (vi x1), some (vi x2), some (vi x3), some (vi x4)] [vi (b01 (m_stands h x4 x2)), vi x3] h from xGo k_X12_heldSegments_38 (And.intro rfl (have c15 := v18.1; have v16 := v18.2; (And.intro c15 (And.intro rfl v16))))))))))))))))))))))
theorem c_write {h : AH} (hL : LayM h) (hn : m_nowL h) : Ct 1 0 0 mX12_write [vr 89] h (QI fun x h' => x = iH h 89 13 ∧ h' = m_lay h 4) :=
  e_X12_write hL ⟨⟨hn, by omega⟩, by exact hL, _, rfl, rL (by decide) (by decide) (by decide) (by decide), rfl⟩
def p_open (h : AH) (v : Int) (x : Int) (h' : AH) : Prop := (¬ (0 ≤ v ∧ v ≤ 3) ∧ x = -2 ∧ h' = h) ∨ ((0 ≤ v ∧ v ≤ 3) ∧ iH h 1137 v.toNat ≠ 0 ∧ x = -3 ∧ h' = h) ∨ ((0 ≤ v ∧ v ≤ 3) ∧ iH h 1137 v.toNat = 0 ∧ x = m_liveIn h 0 (iH h 89 13) ∧ h' = m_lay h v)
theorem c_open {h : AH} (hL : LayM h) {v : Int} (hn : m_nowL h) : Ct 2 0 0 mX12_open [vr 89, vi v] h (QI (p_open h v)) := by
  refine e_X12_open hL ⟨fun c => ⟨by omega, fun c2 => ⟨⟨hn, by omega⟩, by exact hL, ?_⟩, fun c2 => ⟨_, rfl, Or.inr (Or.inl ⟨c, c2, rfl, rfl⟩)⟩⟩, fun c => ⟨_, rfl, Or.inl ⟨c, rfl, rfl⟩⟩⟩
  have r1 : iH (m_lay h v) 89 13 = iH h 89 13 := rL (by decide) (by decide) (by omega) (by omega)
  have e1 : ∀ k, iH (m_lay h v) 613 k = iH h 613 k := fun k => rL (by decide) (by decide) (by omega) (by omega)
  have e2 : ∀ k, iH (m_lay h v) 615 k = iH h 615 k := fun k => rL (by decide) (by decide) (by omega) (by omega)
  have e3 : ∀ g k, g < 520 → iH (m_lay h v) (617 + g) k = iH h (617 + g) k := fun g k hg => rL (by omega) (by omega) (by omega) (by omega)
  have e4 : ∀ k, iH (m_lay h v) 1155 k = iH h 1155 k := fun k => rL (by decide) (by decide) (by omega) (by omega)
  have hr := m_rng_all hn.1
  rw [r1]
  exact ⟨m_rng_cg hr e2 e3 e4, _, rfl, Or.inr (Or.inr ⟨c, c2, m_liveIn_cg hr e1 e2 e3 e4, rfl⟩)⟩
def m_hand (h : AH) (a b : Nat) : AH := cpI (cpI (sI (sI h 1137 b 1) 1138 b (iH h 1138 a)) (1140 + a) 0 (1140 + b) 0 8) (1148 + a) 0 (1148 + b) 0 64
theorem c_handOn {h : AH} (hL : LayM h) {a b : Int} (hp : (0 ≤ a ∧ a < 7) ∧ (0 ≤ b ∧ b < 7) ∧ ∀ k : Nat, k < 64 → iH h (1148 + a.toNat) k = 0 ∨ iH h (1148 + a.toNat) k = 1) : Ct 1 0 0 mX12_handOn [vr 89, vi a, vi b] h (QV fun h' => h' = m_hand h a.toNat b.toNat) := by
  refine e_X12_handOn hL ⟨hp.2.1, hp.1, by omega, ⟨by omega, fun i hi => ?_⟩, rfl, rfl⟩
  have := hp.2.2 i (by omega)
  unfold cpI
  simp (disch := omega) only [rW_ne, rI_ne]
  simpa using this
def m_heldP (h : AH) (g : Nat) : Prop := ∃ t : Nat, t < 7 ∧ m_stands h t g
noncomputable def m_hs (h : AH) : Int := cnt (m_heldP (m_lay h 6)) (iH h 89 5).toNat
theorem m_std_lay {h : AH} {t : Int} (hn : m_now h) (ht : 0 ≤ t ∧ t < 7) (hs : ∀ v : Nat, v < 7 → m_std h v) (v : Nat) (hv : v < 7) : m_std (m_lay h t) v := by
  have h1 := hs v hv
  have h2 := hn.1
  refine ⟨h1.1, ?_⟩
  have e : iH (m_lay h t) 1138 v = if v = t.toNat then iH h 89 13 else iH h 1138 v := by
    unfold m_lay m_layB
    rw [rW_ne (by omega), rW_ne (by omega), rI_if, rI_ne (by decide)]
  show 0 ≤ iH (m_lay h t) 1138 v ∧ iH (m_lay h t) 1138 v ≤ 8
  rw [e]
  have h3 : 0 ≤ iH h 1138 v ∧ iH h 1138 v ≤ 8 := h1.2
  split
  · exact h2
  · exact h3
theorem c_heldSegments {h : AH} (hL : LayM h) (hp : m_nowL h ∧ (0 ≤ iH h 89 5 ∧ iH h 89 5 ≤ 520) ∧ ∀ v : Nat, v < 7 → m_std h v) : Ct 1 0 0 mX12_heldSegments [vr 89] h (QI fun x h' => x = m_hs h ∧ h' = m_lay h 6) := by
  obtain ⟨hn, hse, hv⟩ := hp
  refine e_X12_heldSegments hL ⟨⟨hn, by omega⟩, by exact hL, ?_⟩
  have r1 : iH (m_lay h 6) 89 5 = iH h 89 5 := rL (by decide) (by decide) (by decide) (by decide)
  have hv' := m_std_lay (t := 6) hn.1 (by omega) hv
  refine up (P := fun g => wp mX12_heldSegments 1 _ _ _ 10 [some (vr 89), some (vi (cnt (m_heldP (m_lay h 6)) g)), some (vi g), none, none] [] (m_lay h 6)) (iH h 89 5).toNat ?_ ?_
  · refine t_X12_heldSegments_10 (by exact hL) ?_
    rw [r1]
    exact ⟨fun _ => ⟨_, rfl, rfl, rfl⟩, fun q => absurd q (by omega)⟩
  · intro g hg ih
    have hb := cnt_bd (m_heldP (m_lay h 6)) g
    refine t_X12_heldSegments_10 (by exact hL) ?_
    rw [r1]
    refine ⟨fun q => absurd q (by omega), fun _ => ?_⟩
    have e0 : (0 : Int) = b01 (∃ t : Nat, t < 0 ∧ m_stands (m_lay h 6) t g) := (b01_f (fun ⟨t, ht, _⟩ => by omega)).symm
    have main : wp mX12_heldSegments 1 0 0 (QI fun x h' => x = m_hs h ∧ h' = m_lay h 6) 23 [some (vr 89), some (vi (cnt (m_heldP (m_lay h 6)) g)), some (vi g), some (vi (b01 (∃ t : Nat, t < 0 ∧ m_stands (m_lay h 6) t g))), some (vi ((0 : Nat) : Int))] [] (m_lay h 6) := by
      refine up (P := fun t => wp mX12_heldSegments 1 _ _ _ 23 [some (vr 89), some (vi (cnt (m_heldP (m_lay h 6)) g)), some (vi g), some (vi (b01 (∃ u : Nat, u < t ∧ m_stands (m_lay h 6) u g))), some (vi t)] [] (m_lay h 6)) 7 ?_ ?_
      · refine t_X12_heldSegments_23 (by exact hL) ⟨fun _ => ⟨fun q => ⟨by omega, ?_⟩, fun q => ⟨by omega, by omega, ?_⟩⟩, fun q => absurd q (by omega)⟩
        · rw [← cnt_n (p := m_heldP (m_lay h 6)) (n := g) (b01_n.mp q)]; exact ih
        · rw [← cnt_s (p := m_heldP (m_lay h 6)) (n := g) (b01_p.mp q)]; exact ih
      · intro t ht ih2
        refine t_X12_heldSegments_23 (by exact hL) ⟨fun q => absurd q (by omega), fun _ => ⟨hv' t ht, by omega, ?_⟩⟩
        rw [orI_b, show ((∃ u : Nat, u < t ∧ m_stands (m_lay h 6) u g) ∨ m_stands (m_lay h 6) t g) = (∃ u : Nat, u < t + 1 ∧ m_stands (m_lay h 6) u g) from propext ⟨fun q => by
          rcases q with ⟨u, hu, q⟩ | q
          · exact ⟨u, by omega, q⟩
          · exact ⟨t, by omega, q⟩, fun ⟨u, hu, q⟩ => by
          by_cases e : u = t
          · subst e; exact Or.inr q
          · exact Or.inl ⟨u, by omega, q⟩⟩]
        exact ih2
    rw [← e0] at main
    exact main
def b_X12_commit_0 : List IE := [(.aload_n 0, 1, 0, 0, 0, 0), (.getfield 34, 3, 0, 12, 9, 1), (.iconst 4, 1, 4, 0, 0, 0), (.baload, 1, 0, 0, 0, 0)]
theorem k_X12_commit_0 : ckIf mX12_commit 12 0 b_X12_commit_0 6 1 6 12 9 = true := by decide +kernel
def b_X12_commit_9 : List IE := [(.bipush (-3), 2, (-3), 0, 0, 0)]
theorem k_X12_commit_9 : ckI mX12_commit 12 9 b_X12_commit_9 11 = true := by decide +kernel
def b_X12_commit_12 : List IE := [(.aload_n 0, 1, 0, 0, 0, 0), (.iconst 4, 1, 4, 0, 0, 0), (.iconst 5, 1, 5, 0, 0, 0)]
theorem k_X12_commit_12 : ckB mX12_commit 12 12 b_X12_commit_12 15 = true := by decide +kernel
def b_X12_commit_18 : List IE := [(.aload_n 0, 1, 0, 0, 0, 0), (.getfield 34, 3, 0, 12, 9, 1), (.iconst 4, 1, 4, 0, 0, 0), (.iconst 0, 1, 0, 0, 0, 0), (.bastore, 1, 0, 0, 0, 0), (.aload_n 0, 1, 0, 0, 0, 0), (.getfield 37, 3, 0, 12, 10, 1), (.iconst 5, 1, 5, 0, 0, 0), (.iaload, 1, 0, 0, 0, 0)]
theorem k_X12_commit_18 : ckI mX12_commit 12 18 b_X12_commit_18 31 = true := by decide +kernel
theorem s_X12_commit_15 : cV mX12_commit 15 mX12_handOn 253 2 12 := ⟨by decide +kernel, ⟨ml_X12_handOn, li_RX12_253, im_X12_handOn, se_X12_handOn⟩, ⟨by decide +kernel, by decide +kernel⟩, by decide +kernel⟩
theorem t_X12_commit_0 {rc rs : Nat} {Q : Option AV → AH → Prop} {h : AH}  (hL : LayM h) (hv : (((iH h 1137 4) ≠ 0 → ((0 ≤ (4 : Int) ∧ (4 : Int) < 7) ∧ (0 ≤ (5 : Int) ∧ (5 : Int) < 7) ∧ ∀ k : Nat, k < 64 → iH h (1148 + ((4 : Int)).toNat) k = 0 ∨ iH h (1148 + ((4 : Int)).toNat) k = 1) ∧ LayM (m_hand h ((4 : Int)).toNat ((5 : Int)).toNat) ∧ Q (some (vi (iH (m_hand h ((4 : Int)).toNat ((5 : Int)).toNat) 1138 5))) (sI (m_hand h ((4 : Int)).toNat ((5 : Int)).toNat) 1137 4 0)) ∧ ((iH h 1137 4) = 0 → Q (some (vi (-3))) h))) : wp mX12_commit 2 rc rs Q 0 [some (vr 89)] [] h :=
  (show wp mX12_commit 2 rc rs Q 0 [some (vr 89)] [] h from xIf k_X12_commit_0 (And.intro (lm_89 hL) (Exists.intro 1137 (And.intro (lf_89_9 hL) (And.intro (sdZ (lm_1137 hL) (by decide)) (And.intro (fun c1 => have v3 := hv.1 c1; (show wp mX12_commit 2 rc rs Q 12 [some (vr 89)] [] h from xcV k_X12_commit_12 s_X12_commit_15 (have c9 := v3.1; have v10 := v3.2; (Exists.intro [vi 4, vi 5] (Exists.intro 89 (Exists.intro [] (And.intro (And.intro rfl (And.intro rfl (Nat.le_of_ble_eq_true rfl))) (And.intro (lm_89 hL) (Exists.intro 1 (Exists.intro 0 (Exists.intro 0 (Exists.intro _ (And.intro (c_handOn (h := h) hL c9) (And.intro (And.intro (by decide) (And.intro (Nat.zero_le _) (Nat.zero_le _))) (eQPV (have hL := v10.1; have v8 := v10.2; (show wp mX12_commit 2 rc rs Q 18 [some (vr 89)] [] (m_hand h ((4 : Int)).toNat ((5 : Int)).toNat) from xI k_X12_commit_18 (And.intro (lm_89 hL) (Exists.intro 1137 (And.intro (lf_89_9 hL) (And.intro (sdZs (lm_1137 hL) (by decide) (Or.inl rfl)) (And.intro (lm_89 hL) (Exists.intro 1138 (And.intro (lf_89_10 hL) (And.intro (sdI (lm_1138 hL) (by decide)) (And.intro rfl v8)))))))))))))))))))))))))) (fun c2 => have v4 := hv.2 (Decidable.not_not.mp c2); (show wp mX12_commit 2 rc rs Q 9 [some (vr 89)] [] h from xI k_X12_commit_9 (And.intro rfl v4)))))))))
theorem e_X12_commit {mc ms : Nat} {Q : Option AV → AH → Prop} {h : AH}  (hL : LayM h) (hv : (((iH h 1137 4) ≠ 0 → ((0 ≤ (4 : Int) ∧ (4 : Int) < 7) ∧ (0 ≤ (5 : Int) ∧ (5 : Int) < 7) ∧ ∀ k : Nat, k < 64 → iH h (1148 + ((4 : Int)).toNat) k = 0 ∨ iH h (1148 + ((4 : Int)).toNat) k = 1) ∧ LayM (m_hand h ((4 : Int)).toNat ((5 : Int)).toNat) ∧ Q (some (vi (iH (m_hand h ((4 : Int)).toNat ((5 : Int)).toNat) 1138 5))) (sI (m_hand h ((4 : Int)).toNat ((5 : Int)).toNat) 1137 4 0)) ∧ ((iH h 1137 4) = 0 → Q (some (vi (-3))) h))) : Ct 2 mc ms mX12_commit [vr 89] h Q := Ct.of (by decide +kernel) (Nat.le_of_ble_eq_true rfl) (t_X12_commit_0 hL hv)
def b_X12_shut_0 : List IE := [(.iload_n 1, 1, 0, 0, 1, 0)]
theorem k_X12_shut_0 : ckB mX12_shut 12 0 b_X12_shut_0 1 = true := by decide +kernel
def b_X12_shut_4 : List IE := []
theorem k_X12_shut_4 : ckIf mX12_shut 12 4 b_X12_shut_4 4 1 6 10 7 = true := by decide +kernel
def b_X12_shut_7 : List IE := [(.bipush (-2), 2, (-2), 0, 0, 0)]
theorem k_X12_shut_7 : ckI mX12_shut 12 7 b_X12_shut_7 9 = true := by decide +kernel
def b_X12_shut_10 : List IE := [(.aload_n 0, 1, 0, 0, 0, 0), (.getfield 34, 3, 0, 12, 9, 1), (.iload_n 1, 1, 0, 0, 1, 0), (.baload, 1, 0, 0, 0, 0)]
theorem k_X12_shut_10 : ckIf mX12_shut 12 10 b_X12_shut_10 16 1 6 22 19 = true := by decide +kernel
def b_X12_shut_19 : List IE := [(.bipush (-3), 2, (-3), 0, 0, 0)]
theorem k_X12_shut_19 : ckI mX12_shut 12 19 b_X12_shut_19 21 = true := by decide +kernel
def b_X12_shut_22 : List IE := [(.aload_n 0, 1, 0, 0, 0, 0), (.getfield 34, 3, 0, 12, 9, 1), (.iload_n 1, 1, 0, 0, 1, 0), (.iconst 0, 1, 0, 0, 0, 0), (.bastore, 1, 0, 0, 0, 0), (.aload_n 0, 1, 0, 0, 0, 0)]
theorem k_X12_shut_22 : ckB mX12_shut 12 22 b_X12_shut_22 30 = true := by decide +kernel
def b_X12_shut_33 : List IE := []
theorem k_X12_shut_33 : ckI mX12_shut 12 33 b_X12_shut_33 33 = true := by decide +kernel
theorem s_X12_shut_1 : cS mX12_shut 1 mX12_isView 263 1 := ⟨by decide +kernel, ⟨ml_X12_isView, li_RX12_263, st_X12_isView⟩, by decide +kernel⟩
theorem s_X12_shut_30 : cV mX12_shut 30 mX12_heldSegments 266 0 12 := ⟨by decide +kernel, ⟨ml_X12_heldSegments, li_RX12_266, im_X12_heldSegments, se_X12_heldSegments⟩, ⟨by decide +kernel, by decide +kernel⟩, by decide +kernel⟩
theorem t_X12_shut_0 {rc rs : Nat} {Q : Option AV → AH → Prop} {h : AH} {x1 : Int} (hL : LayM h) (hv : (((0 ≤ x1 ∧ x1 ≤ 3) → (0 ≤ x1 ∧ x1 < 7) ∧ (((iH h 1137 x1.toNat) ≠ 0 → (m_nowL (sI h 1137 x1.toNat 0) ∧ (0 ≤ iH (sI h 1137 x1.toNat 0) 89 5 ∧ iH (sI h 1137 x1.toNat 0) 89 5 ≤ 520) ∧ ∀ v : Nat, v < 7 → m_std (sI h 1137 x1.toNat 0) v) ∧ LayM (m_lay (sI h 1137 x1.toNat 0) 6) ∧ Q (some (vi (m_hs (sI h 1137 x1.toNat 0)))) (m_lay (sI h 1137 x1.toNat 0) 6)) ∧ ((iH h 1137 x1.toNat) = 0 → Q (some (vi (-3))) h))) ∧ (¬ (0 ≤ x1 ∧ x1 ≤ 3) → Q (some (vi (-2))) h))) : wp mX12_shut 2 rc rs Q 0 [some (vr 89), some (vi x1)] [] h :=
  (show wp mX12_shut 2 rc rs Q 0 [some (vr 89), some (vi x1)] [] h from xcS k_X12_shut_0 s_X12_shut_1 ((Exists.intro [vi x1] (Exists.intro [] (And.intro (And.intro rfl (And.intro rfl (Nat.le_of_ble_eq_true rfl))) (Exists.intro 1 (Exists.intro 0 (Exists.intro 0 (Exists.intro _ (And.intro c_isView (And.intro (And.intro (by decide) (And.intro (Nat.zero_le _) (Nat.zero_le _))) (eQP (show wp mX12_shut 2 rc rs Q 4 [some (vr 89), some (vi x1)] [vi (b01 (0 ≤ x1 ∧ x1 ≤ 3))] h from xIf k_X12_shut_4 (And.intro (fun c1 => have v3 := hv.1 (b01_p.mp c1); (show wp mX12_shut 2 rc rs Q 10 [some (vr 89), some (vi x1)] [] h from xIf k_X12_shut_10 (And.intro (lm_89 hL) (Exists.intro 1137 (And.intro (lf_89_9 hL) (have c5 := v3.1; have v17 := v3.2; (And.intro (sdZ (lm_1137 hL) c5) (And.intro (fun c6 => have v8 := v17.1 c6; (show wp mX12_shut 2 rc rs Q 22 [some (vr 89), some (vi x1)] [] h from xcV k_X12_shut_22 s_X12_shut_30 (And.intro (lm_89 hL) (Exists.intro 1137 (And.intro (lf_89_9 hL) (And.intro (sdZs (lm_1137 hL) c5 (Or.inl rfl)) (have c15 := v8.1; have v16 := v8.2; (Exists.intro [] (Exists.intro 89 (Exists.intro [] (And.intro (And.intro rfl (And.intro rfl (Nat.le_of_ble_eq_true rfl))) (And.intro (lm_89 hL) (Exists.intro 1 (Exists.intro 0 (Exists.intro 0 (Exists.intro _ (And.intro (c_heldSegments (h := (sI h 1137 x1.toNat 0)) hL c15) (And.intro (And.intro (by decide) (And.intro (Nat.zero_le _) (Nat.zero_le _))) (eQP (have hL := v16.1; have v14 := v16.2; (show wp mX12_shut 2 rc rs Q 33 [some (vr 89), some (vi x1)] [vi (m_hs (sI h 1137 x1.toNat 0))] (m_lay (sI h 1137 x1.toNat 0) 6) from xI k_X12_shut_33 (And.intro rfl v14)))))))))))))))))))))) (fun c7 => have v9 := v17.2 (Decidable.not_not.mp c7); (show wp mX12_shut 2 rc rs Q 19 [some (vr 89), some (vi x1)] [] h from xI k_X12_shut_19 (And.intro rfl v9))))))))))) (fun c2 => have v4 := hv.2 (b01_nn.mp c2); (show wp mX12_shut 2 rc rs Q 7 [some (vr 89), some (vi x1)] [] h from xI k_X12_shut_7 (And.intro rfl v4)))))))))))))))))
theorem e_X12_shut {mc ms : Nat} {Q : Option AV → AH → Prop} {h : AH} {x1 : Int} (hL : LayM h) (hv : (((0 ≤ x1 ∧ x1 ≤ 3) → (0 ≤ x1 ∧ x1 < 7) ∧ (((iH h 1137 x1.toNat) ≠ 0 → (m_nowL (sI h 1137 x1.toNat 0) ∧ (0 ≤ iH (sI h 1137 x1.toNat 0) 89 5 ∧ iH (sI h 1137 x1.toNat 0) 89 5 ≤ 520) ∧ ∀ v : Nat, v < 7 → m_std (sI h 1137 x1.toNat 0) v) ∧ LayM (m_lay (sI h 1137 x1.toNat 0) 6) ∧ Q (some (vi (m_hs (sI h 1137 x1.toNat 0)))) (m_lay (sI h 1137 x1.toNat 0) 6)) ∧ ((iH h 1137 x1.toNat) = 0 → Q (some (vi (-3))) h))) ∧ (¬ (0 ≤ x1 ∧ x1 ≤ 3) → Q (some (vi (-2))) h))) : Ct 2 mc ms mX12_shut [vr 89, vi x1] h Q := Ct.of (by decide +kernel) (Nat.le_of_ble_eq_true rfl) (t_X12_shut_0 hL hv)
theorem c_commit {h : AH} (hL : LayM h) (hp : ∀ k : Nat, k < 64 → iH h (1148 + 4) k = 0 ∨ iH h (1148 + 4) k = 1) : Ct 2 0 0 mX12_commit [vr 89] h (QI fun x h' => (iH h 1137 4 = 0 ∧ x = -3 ∧ h' = h) ∨ (iH h 1137 4 ≠ 0 ∧ x = iH h 1138 4 ∧ h' = sI (m_hand h 4 5) 1137 4 0)) := by
  refine e_X12_commit hL ⟨fun c => ⟨⟨by omega, by omega, hp⟩, by exact hL, _, rfl, Or.inr ⟨c, ?_, rfl⟩⟩, fun c => ⟨_, rfl, Or.inl ⟨c, rfl, rfl⟩⟩⟩
  show iH (m_hand h 4 5) 1138 5 = _
  unfold m_hand cpI
  simp (disch := omega) only [rW_ne, rI_same]
def p_shut (h : AH) (v : Int) (x : Int) (h' : AH) : Prop := (¬ (0 ≤ v ∧ v ≤ 3) ∧ x = -2 ∧ h' = h) ∨ ((0 ≤ v ∧ v ≤ 3) ∧ iH h 1137 v.toNat = 0 ∧ x = -3 ∧ h' = h) ∨ ((0 ≤ v ∧ v ≤ 3) ∧ iH h 1137 v.toNat ≠ 0 ∧ x = m_hs (sI h 1137 v.toNat 0) ∧ h' = m_lay (sI h 1137 v.toNat 0) 6)
theorem c_shut {h : AH} (hL : LayM h) {v : Int} (hn : ∀ v : Nat, m_nowL (sI h 1137 v 0)) (hse : 0 ≤ iH h 89 5 ∧ iH h 89 5 ≤ 520) (hv : ∀ v : Nat, v < 7 → m_std h v) : Ct 2 0 0 mX12_shut [vr 89, vi v] h (QI (p_shut h v)) :=
  e_X12_shut hL ⟨fun c => ⟨by omega, fun c2 => ⟨⟨hn _, by rw [rI_ne (by decide)]; exact hse, fun u hu => ⟨(hv u hu).1, by rw [rI_ne (by decide)]; exact (hv u hu).2⟩⟩, by exact hL, _, rfl, Or.inr (Or.inr ⟨c, c2, rfl, rfl⟩)⟩, fun c2 => ⟨_, rfl, Or.inr (Or.inl ⟨c, c2, rfl, rfl⟩)⟩⟩, fun c => ⟨_, rfl, Or.inl ⟨c, rfl, rfl⟩⟩⟩
