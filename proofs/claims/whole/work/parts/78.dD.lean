/-! THE INDEX: FLUSH -/
theorem w0 {y : MI} {d rc rs pc : Nat} {Q : Option AV → AH → Prop} {lo : List (Option AV)} {st : List AV} {h : AH} (k : wp y d rc rs Q pc lo st h) : wp y d (rc - 0) (rs - 0) Q pc lo st h := k
def b_X11_flush_0 : List IE := [(.aload_n 0, 1, 0, 0, 0, 0), (.getfield 122, 3, 0, 11, 2, 0)]
theorem k_X11_flush_0 : ckIf mX11_flush 11 0 b_X11_flush_0 4 1 6 10 7 = true := by decide +kernel
def b_X11_flush_7 : List IE := [(.bipush (-3), 2, (-3), 0, 0, 0)]
theorem k_X11_flush_7 : ckI mX11_flush 11 7 b_X11_flush_7 9 = true := by decide +kernel
def b_X11_flush_10 : List IE := [(.aload_n 0, 1, 0, 0, 0, 0), (.getfield 25, 3, 0, 11, 3, 1), (.getfield 153, 3, 0, 9, 2, 0), (.bipush 8, 2, 8, 0, 0, 0)]
theorem k_X11_flush_10 : ckIc mX11_flush 11 10 b_X11_flush_10 19 3 20 39 22 = true := by decide +kernel
def b_X11_flush_22 : List IE := [(.aload_n 0, 1, 0, 0, 0, 0), (.getfield 25, 3, 0, 11, 3, 1)]
theorem k_X11_flush_22 : ckB mX11_flush 11 22 b_X11_flush_22 26 = true := by decide +kernel
def b_X11_flush_29 : List IE := [(.aload_n 0, 1, 0, 0, 0, 0), (.getfield 122, 3, 0, 11, 2, 0), (.iadd, 1, 0, 0, 0, 0), (.bipush 64, 2, 64, 0, 0, 0)]
theorem k_X11_flush_29 : ckIc mX11_flush 11 29 b_X11_flush_29 36 5 6 42 39 = true := by decide +kernel
def b_X11_flush_39 : List IE := [(.bipush (-4), 2, (-4), 0, 0, 0)]
theorem k_X11_flush_39 : ckI mX11_flush 11 39 b_X11_flush_39 41 = true := by decide +kernel
def b_X11_flush_42 : List IE := [(.aload_n 0, 1, 0, 0, 0, 0), (.getfield 122, 3, 0, 11, 2, 0)]
theorem k_X11_flush_42 : ckAnew mX11_flush 11 42 b_X11_flush_42 46 16 16 = true := by decide +kernel
def b_X11_flush_49 : List IE := [(.astore_n 1, 1, 0, 0, 1, 0), (.iconst 0, 1, 0, 0, 0, 0), (.istore_n 2, 1, 0, 0, 2, 0)]
theorem k_X11_flush_49 : ckB mX11_flush 11 49 b_X11_flush_49 52 = true := by decide +kernel
def b_X11_flush_52 : List IE := [(.iload_n 2, 1, 0, 0, 2, 0), (.aload_n 0, 1, 0, 0, 0, 0), (.getfield 122, 3, 0, 11, 2, 0)]
theorem k_X11_flush_52 : ckIc mX11_flush 11 52 b_X11_flush_52 57 3 18 75 60 = true := by decide +kernel
def b_X11_flush_60 : List IE := [(.aload_n 1, 1, 0, 0, 1, 0), (.iload_n 2, 1, 0, 0, 2, 0), (.aload_n 0, 1, 0, 0, 0, 0), (.getfield 18, 3, 0, 11, 1, 1), (.iload_n 2, 1, 0, 0, 2, 0), (.aaload, 1, 0, 0, 0, 0), (.aastore, 1, 0, 0, 0, 0), (.iinc 2 1, 3, 1, 0, 2, 0)]
theorem k_X11_flush_60 : ckGo mX11_flush 11 60 b_X11_flush_60 72 (-20) 52 = true := by decide +kernel
def b_X11_flush_75 : List IE := [(.aload_n 0, 1, 0, 0, 0, 0), (.iconst 0, 1, 0, 0, 0, 0), (.putfield 122, 3, 0, 11, 2, 0), (.aload_n 0, 1, 0, 0, 0, 0), (.dup, 1, 0, 0, 0, 0), (.getfield 165, 3, 0, 11, 8, 0), (.iconst 1, 1, 1, 0, 0, 0), (.iadd, 1, 0, 0, 0, 0), (.putfield 165, 3, 0, 11, 8, 0), (.aload_n 0, 1, 0, 0, 0, 0), (.getfield 25, 3, 0, 11, 3, 1)]
theorem k_X11_flush_75 : ckNew mX11_flush 11 75 b_X11_flush_75 94 168 7 = true := by decide +kernel
def b_X11_flush_97 : List IE := [(.dup, 1, 0, 0, 0, 0), (.aload_n 0, 1, 0, 0, 0, 0), (.getfield 165, 3, 0, 11, 8, 0), (.aload_n 1, 1, 0, 0, 1, 0)]
theorem k_X11_flush_97 : ckB mX11_flush 11 97 b_X11_flush_97 103 = true := by decide +kernel
def b_X11_flush_106 : List IE := []
theorem k_X11_flush_106 : ckB mX11_flush 11 106 b_X11_flush_106 106 = true := by decide +kernel
def b_X11_flush_109 : List IE := [(.aload_n 0, 1, 0, 0, 0, 0), (.getfield 165, 3, 0, 11, 8, 0)]
theorem k_X11_flush_109 : ckI mX11_flush 11 109 b_X11_flush_109 113 = true := by decide +kernel
theorem s_X11_flush_26 : cV mX11_flush 26 mX9_allDocs 162 0 9 := ⟨by decide +kernel, ⟨ml_X9_allDocs, li_RX11_162, im_X9_allDocs, se_X9_allDocs⟩, ⟨by decide +kernel, by decide +kernel⟩, by decide +kernel⟩
theorem s_X11_flush_46 : Cond.classLink mX11_flush.1.cls 16 (rx (elK 16)) ∈ gt := gt_ok (List.mem_of_getElem? (i := 141) (by decide +kernel)) (by decide +kernel)
theorem s_X11_flush_94 : Cond.classLink mX11_flush.1.cls 168 (rx 7) ∈ gt ∧ Cond.instantiable (rx 7) (nf 7) ∈ gt ∧ Cond.initialized (rx 7) ∈ gt := ⟨gt_ok (List.mem_of_getElem? (i := 526) (by decide +kernel)) (by decide +kernel), gt_ok (List.mem_of_getElem? (i := 527) (by decide +kernel)) (by decide +kernel), gt_ok (List.mem_of_getElem? (i := 104) (by decide +kernel)) (by decide +kernel)⟩
theorem s_X11_flush_103 : cI mX11_flush 103 mX7_init 170 2 := ⟨by decide +kernel, Or.inl ⟨ml_X7_init, li_RX11_170, im_X7_init, rfl, rfl⟩, by decide +kernel⟩
theorem s_X11_flush_106 : cV mX11_flush 106 mX9_append 173 1 9 := ⟨by decide +kernel, ⟨ml_X9_append, li_RX11_173, im_X9_append, se_X9_append⟩, ⟨by decide +kernel, by decide +kernel⟩, by decide +kernel⟩
theorem t_X11_flush_0 {rc rs : Nat} {Q : Option AV → AH → Prop} {h : AH} {sa : Nat → Nat} {da : Nat → Nat} {g : AH}  (hL : LayL h) (hv : (((iH h 0 2) ≠ 0 → ((8 ≤ (iH h 5 2) → Q (some (vi (-4))) h) ∧ ((iH h 5 2) < 8 → (5 = 5 ∧ cRd h g da sa) ∧ (-2147483648 ≤ ((m_held g) + iH h 0 2) ∧ ((m_held g) + iH h 0 2) < 2147483648) ∧ ((((m_held g) + iH h 0 2) ≤ 64 → (0 ≤ (iH h 0 2 : Int) ∧ (iH h 0 2 : Int) ≤ 100000 ∧ 1 ≤ rc ∧ (iH h 0 2 : Int).toNat ≤ rs) ∧ wp mX11_flush 3 (rc - 1) (rs - (iH h 0 2 : Int).toNat) Q 52 [some (vr 0), some (vr (nH h)), some (vi 0)] [] (nw h 16 ((iH h 0 2 : Int).toNat))) ∧ (64 < ((m_held g) + iH h 0 2) → Q (some (vi (-4))) h))))) ∧ ((iH h 0 2) = 0 → Q (some (vi (-3))) h))) : wp mX11_flush 3 rc rs Q 0 [some (vr 0), none, none] [] h :=
  (show wp mX11_flush 3 rc rs Q 0 [some (vr 0), none, none] [] h from xIf k_X11_flush_0 (And.intro (ll_0 hL) (And.intro (fun c1 => have v3 := hv.1 c1; (show wp mX11_flush 3 rc rs Q 10 [some (vr 0), none, none] [] h from xIc k_X11_flush_10 (And.intro (ll_0 hL) (Exists.intro 5 (And.intro (lg_0_3 hL) (And.intro (ll_5 hL) (And.intro (fun c5 => have v7 := v3.1 c5; (show wp mX11_flush 3 rc rs Q 39 [some (vr 0), none, none] [] h from xI k_X11_flush_39 (And.intro rfl v7))) (fun c6 => have v8 := v3.2 (Int.not_le.mp c6); (show wp mX11_flush 3 rc rs Q 22 [some (vr 0), none, none] [] h from xcV k_X11_flush_22 s_X11_flush_26 (And.intro (ll_0 hL) (Exists.intro 5 (And.intro (lg_0_3 hL) (have c17 := v8.1; have v18 := v8.2; (Exists.intro [] (Exists.intro 5 (Exists.intro [] (And.intro (And.intro rfl (And.intro rfl (Nat.le_of_ble_eq_true rfl))) (And.intro (ll_5 hL) (Exists.intro 0 (Exists.intro 0 (Exists.intro 0 (Exists.intro _ (And.intro (l_allDocs (h := h) hL c17) (And.intro (And.intro (by decide) (And.intro (Nat.zero_le _) (Nat.zero_le _))) (eQP (show wp mX11_flush 3 rc rs Q 29 [some (vr 0), none, none] [vi (m_held g)] h from xIc k_X11_flush_29 (And.intro (ll_0 hL) (have c9 := v18.1; have v16 := v18.2; (And.intro c9 (And.intro (fun c10 => have v12 := v16.1 c10; (show wp mX11_flush 3 rc rs Q 42 [some (vr 0), none, none] [] h from xAnew k_X11_flush_42 s_X11_flush_46 (And.intro (ll_0 hL) (have c14 := v12.1; have v15 := v12.2; And.intro c14 (have hL := LayL_nw (t := 16) (n := (iH h 0 2 : Int).toNat) hL; (show wp mX11_flush 3 (rc - 1) (rs - (iH h 0 2 : Int).toNat) Q 49 [some (vr 0), none, none] [vr (nH h)] (nw h 16 ((iH h 0 2 : Int).toNat)) from xB k_X11_flush_49 (And.intro rfl (And.intro rfl v15)))))))) (fun c11 => have v13 := v16.2 (Int.not_le.mp c11); (show wp mX11_flush 3 rc rs Q 39 [some (vr 0), none, none] [] h from xI k_X11_flush_39 (And.intro rfl v13))))))))))))))))))))))))))))))))) (fun c2 => have v4 := hv.2 (Decidable.not_not.mp c2); (show wp mX11_flush 3 rc rs Q 7 [some (vr 0), none, none] [] h from xI k_X11_flush_7 (And.intro rfl v4))))))
theorem e_X11_flush {mc ms : Nat} {Q : Option AV → AH → Prop} {h : AH} {sa : Nat → Nat} {da : Nat → Nat} {g : AH}  (hL : LayL h) (hv : (((iH h 0 2) ≠ 0 → ((8 ≤ (iH h 5 2) → Q (some (vi (-4))) h) ∧ ((iH h 5 2) < 8 → (5 = 5 ∧ cRd h g da sa) ∧ (-2147483648 ≤ ((m_held g) + iH h 0 2) ∧ ((m_held g) + iH h 0 2) < 2147483648) ∧ ((((m_held g) + iH h 0 2) ≤ 64 → (0 ≤ (iH h 0 2 : Int) ∧ (iH h 0 2 : Int) ≤ 100000 ∧ 1 ≤ mc ∧ (iH h 0 2 : Int).toNat ≤ ms) ∧ wp mX11_flush 3 (mc - 1) (ms - (iH h 0 2 : Int).toNat) Q 52 [some (vr 0), some (vr (nH h)), some (vi 0)] [] (nw h 16 ((iH h 0 2 : Int).toNat))) ∧ (64 < ((m_held g) + iH h 0 2) → Q (some (vi (-4))) h))))) ∧ ((iH h 0 2) = 0 → Q (some (vi (-3))) h))) : Ct 3 mc ms mX11_flush [vr 0] h Q := Ct.of (by decide +kernel) (Nat.le_of_ble_eq_true rfl) (t_X11_flush_0 hL hv)
theorem t_X11_flush_52 {rc rs : Nat} {Q : Option AV → AH → Prop} {h : AH} {a1 n1 : Nat} {x2 : Int} (hL : LayL h) (hA1 : a1 < nH h ∧ kH h a1 = (16, n1)) (hv : (((iH h 0 2) ≤ x2 → (-2147483648 ≤ (iH h 0 8 + 1) ∧ (iH h 0 8 + 1) < 2147483648) ∧ (1 ≤ rc ∧ 7 ≤ rs) ∧ (∃ P10 : AH → Prop, ((nH (sI (sI h 0 2 0) 0 8 (iH h 0 8 + 1))) < nH (nw (sI (sI h 0 2 0) 0 8 (iH h 0 8 + 1)) 7 0)) ∧ Ct 2 3 2304 mX7_init [vr (nH (sI (sI h 0 2 0) 0 8 (iH h 0 8 + 1))), vi (iH (nw (sI (sI h 0 2 0) 0 8 (iH h 0 8 + 1)) 7 0) 0 8), vr a1] (nw (sI (sI h 0 2 0) 0 8 (iH h 0 8 + 1)) 7 0) (QV P10) ∧ (3 ≤ (rc - 1) ∧ 2304 ≤ (rs - 7)) ∧ ∀ h8 : AH, P10 h8 → LayL h8 ∧ (∃ P14 : AH → Prop, Ct 0 0 0 mX9_append [vr 5, vr (nH (sI (sI h 0 2 0) 0 8 (iH h 0 8 + 1)))] h8 (QV P14) ∧ ∀ h12 : AH, P14 h12 → LayL h12 ∧ Q (some (vi (iH h12 0 8))) h12))) ∧ (x2 < (iH h 0 2) → (0 ≤ x2 ∧ x2 < 4) ∧ (∃ q27 n28 : Nat, (rH h 4 x2.toNat = some q27 ∧ iD h q27 n28) ∧ (0 ≤ x2 ∧ x2 < n1) ∧ LayL (sR h a1 x2.toNat (some q27)) ∧ (-2147483648 ≤ (x2 + 1) ∧ (x2 + 1) < 2147483648) ∧ wp mX11_flush 3 rc rs Q 52 [some (vr 0), some (vr a1), some (vi (x2 + 1))] [] (sR h a1 x2.toNat (some q27)))))) : wp mX11_flush 3 rc rs Q 52 [some (vr 0), some (vr a1), some (vi x2)] [] h :=
  (show wp mX11_flush 3 rc rs Q 52 [some (vr 0), some (vr a1), some (vi x2)] [] h from xIc k_X11_flush_52 (And.intro (ll_0 hL) (And.intro (fun c1 => have v3 := hv.1 c1; (show wp mX11_flush 3 rc rs Q 75 [some (vr 0), some (vr a1), some (vi x2)] [] h from xNew k_X11_flush_75 s_X11_flush_94 (And.intro (ll_0 hL) (And.intro rfl (And.intro (ll_0 hL) (have c5 := v3.1; have v25 := v3.2; (And.intro c5 (And.intro (ll_0 hL) (And.intro (ll_0 hL) (Exists.intro 5 (And.intro (lg_0_3 hL) (have c6 := v25.1; have v7 := v25.2; And.intro c6 (have hL := LayL_nw (t := 7) (n := 0) hL; (show wp mX11_flush 3 (rc - 1) (rs - 7) Q 97 [some (vr 0), some (vr a1), some (vi x2)] [vr (nH (sI (sI h 0 2 0) 0 8 (iH h 0 8 + 1))), vr 5] (nw (sI (sI h 0 2 0) 0 8 (iH h 0 8 + 1)) 7 0) from xcI k_X11_flush_97 s_X11_flush_103 (And.intro rfl (And.intro (ll_0 hL) (Exists.elim v7 (fun P10 v20 => have c11 := v20.1; have v20 := v20.2; have c24 := v20.1; have v20 := v20.2; have c23 := v20.1; have v20 := v20.2; (Exists.intro [vi (iH (nw (sI (sI h 0 2 0) 0 8 (iH h 0 8 + 1)) 7 0) 0 8), vr a1] (Exists.intro (nH (sI (sI h 0 2 0) 0 8 (iH h 0 8 + 1))) (Exists.intro [vr (nH (sI (sI h 0 2 0) 0 8 (iH h 0 8 + 1))), vr 5] (And.intro (And.intro rfl (And.intro rfl (Nat.le_of_ble_eq_true rfl))) (And.intro c11 (Exists.intro 2 (Exists.intro 3 (Exists.intro 2304 (Exists.intro (QV P10) (And.intro c24 (And.intro (And.intro (by decide) (And.intro c23.1 c23.2)) (eQV (fun h8 e22 => have v21 := v20 h8 e22; have hL := v21.1; have v21 := v21.2; (show wp mX11_flush 3 ((rc - 1) - 3) ((rs - 7) - 2304) Q 106 [some (vr 0), some (vr a1), some (vi x2)] [vr (nH (sI (sI h 0 2 0) 0 8 (iH h 0 8 + 1))), vr 5] h8 from xcV k_X11_flush_106 s_X11_flush_106 (Exists.elim v21 (fun P14 v15 => have c19 := v15.1; have v15 := v15.2; (Exists.intro [vr (nH (sI (sI h 0 2 0) 0 8 (iH h 0 8 + 1)))] (Exists.intro 5 (Exists.intro [] (And.intro (And.intro rfl (And.intro rfl (Nat.le_of_ble_eq_true rfl))) (And.intro (ll_5 hL) (Exists.intro 0 (Exists.intro 0 (Exists.intro 0 (Exists.intro (QV P14) (And.intro c19 (And.intro (And.intro (by decide) (And.intro (Nat.zero_le _) (Nat.zero_le _))) (eQV (fun h12 e17 => have v16 := v15 h12 e17; have hL := v16.1; have v16 := v16.2; (w0 (show wp mX11_flush 3 ((rc - 1) - 3) ((rs - 7) - 2304) Q 109 [some (vr 0), some (vr a1), some (vi x2)] [] h12 from xI k_X11_flush_109 (And.intro (ll_0 hL) (And.intro rfl v16))))))))))))))))))))))))))))))))))))))))))))))))))) (fun c2 => have v4 := hv.2 (Int.not_le.mp c2); (show wp mX11_flush 3 rc rs Q 60 [some (vr 0), some (vr a1), some (vi x2)] [] h from xGo k_X11_flush_60 (And.intro (ll_0 hL) (Exists.intro 4 (And.intro (lg_0_1 hL) (have c26 := v4.1; have v39 := v4.2; (And.intro (sdQ (ll_4 hL) c26) (Exists.elim v39 (fun q27 v37_0 => (Exists.elim v37_0 (fun n28 v37 => have c30 := v37.1; have v38 := v37.2; (Exists.intro _ (And.intro c30.1 (have c31 := v38.1; have v36 := v38.2; (And.intro (sdA hA1 c31 (dc_o c30.2)) (have c32 := v36.1; have v35 := v36.2; (have hL := c32; (have c33 := v35.1; have v34 := v35.2; (And.intro c33 (And.intro rfl v34)))))))))))))))))))))))
/-- the buffer becomes a segment -/
theorem flush_K {h g H : AH} {da sa : Nat → Nat} {S X b N1 r c : Nat} (hp : kSta h g da sa) (hb : kB h g da) (hS : iH g 89 13 = (S : Int)) (hS8 : S < 8) (hX : iH g 89 5 = (X : Int)) (hX5 : X < 520) (hbb : iH g 89 15 = (b : Int)) (h64 : m_held g + (b : Int) ≤ 64)
    (ag : agD h H) (hSg : iSg H N1 b r) (hcr : c ≤ r) (hdD : dD H N1 c (MW (fun k => (iH g 91 (iH g 1156 k).toNat).toNat) (fun k i => iH g (93 + (iH g 1156 k).toNat) i) b 0) (cpW (fun k => (iH g 91 (iH g 1156 k).toNat).toNat) (fun k i => iH g (93 + (iH g 1156 k).toNat) i) b 0) (spW (fun k => (iH g 91 (iH g 1156 k).toNat).toNat) (fun k i => iH g (93 + (iH g 1156 k).toNat) i) b 0)) (hnm : iH H N1 0 = (X : Int) + 1) (hrow : ∀ k : Nat, k < b → rH H (N1 - 1) k = some (da (iH g 1156 k).toNat))
    (h5 : iH H 5 2 = (S : Int) + 1) (h6 : ∀ k, rH H 6 k = if k = S then some N1 else rH h 6 k) (h7 : ∀ k, jH H 7 k = if k = S then 0 else jH h 7 k) (hst : ∀ c, iSt c → c ≠ 5 → (∀ k, iH H c k = iH h c k) ∧ (∀ k, rH H (c + 1) k = rH h (c + 1) k) ∧ ∀ k, jH H (c + 2) k = jH h (c + 2) k) (h53 : iH H 5 3 = iH h 5 3) (h02 : iH H 0 2 = 0) :
    kSta H (m_flush g) da (fun x => if x = X then N1 else sa x) ∧ kB H (m_flush g) da := by
  obtain ⟨G, hG⟩ : ∃ G, G = m_flush g := ⟨_, rfl⟩
  rw [← hG]
  have hG2 : G = sI (sI (sI (sI (sW (sI (sI g 614 X (X + 1)) 89 5 (X + 1)) (617 + X) (m_flM g b)) 615 X b) 89 15 0) 1155 S X) 89 13 (S + 1) := by
    rw [hG]; unfold m_flush m_fill m_ns0; rw [hX, hS, hbb]; simp only [Int.toNat_natCast]
  have st : ∀ (h : AH) (x k a i : Nat) (v : Int), (x ≠ a ∨ k ≠ i) → iH (sI h a i v) x k = iH h x k := fun h x k a i v q => by
    by_cases e : x = a
    · subst e; exact rI_nk (q.elim (fun u => absurd rfl u) id)
    · exact rI_ne e
  have x0 : ∀ x k, x ≠ 89 → (x ≠ 1155 ∨ k ≠ S) → (x ≠ 615 ∨ k ≠ X) → x ≠ 617 + X → (x ≠ 614 ∨ k ≠ X) → iH G x k = iH g x k := fun x k h1 h2 h3 h4 h5 => by
    rw [hG2, rI_ne h1, st _ _ _ _ _ _ h2, rI_ne h1, st _ _ _ _ _ _ h3, rW_ne h4, rI_ne h1, st _ _ _ _ _ _ h5]
  have x7 : ∀ k, k ≠ 5 → k ≠ 13 → k ≠ 15 → iH G 89 k = iH g 89 k := fun k h1 h2 h3 => by
    rw [hG2, rI_nk h2, rI_ne (by decide), rI_nk h3, rI_ne (by decide), rW_ne (by omega), rI_nk h1, rI_ne (by decide)]
  have xs : iH G 89 5 = (X : Int) + 1 := by
    rw [hG2, rI_nk (by decide), rI_ne (by decide), rI_nk (by decide), rI_ne (by decide), rW_ne (by omega)]; exact rI_same
  have xn : iH G 89 13 = (S : Int) + 1 := by rw [hG2]; exact rI_same
  have xb : iH G 89 15 = 0 := by rw [hG2, rI_nk (by decide), rI_ne (by decide)]; exact rI_same
  have xS : ∀ s, iH G 1155 s = if s = S then (X : Int) else iH g 1155 s := fun s => by
    rw [hG2, rI_ne (by decide), rI_if]
    by_cases e : s = S
    · rw [if_pos e, if_pos e]
    · rw [if_neg e, if_neg e, rI_ne (by decide), rI_ne (by decide), rW_ne (by omega), rI_ne (by decide), rI_ne (by decide)]
  have xL : iH G 615 X = (b : Int) := by
    rw [hG2, rI_ne (by decide), rI_ne (by decide), rI_ne (by decide)]; exact rI_same
  have xM : ∀ k, k < b → iH G (617 + X) k = iH g 1156 k := fun k hk => by
    rw [hG2, rI_ne (by omega), rI_ne (by omega), rI_ne (by omega), rI_ne (by omega), rW_same]
    exact if_pos hk
  have xN : iH G 614 X = (X : Int) + 1 := by
    rw [hG2, rI_ne (by decide), rI_ne (by decide), rI_ne (by decide), rI_ne (by decide), rW_ne (by omega), rI_ne (by decide)]; exact rI_same
  obtain ⟨hk, hr, hU⟩ := hp
  have rb := fun (j : Nat) (hj : j < 7) (s : Nat) hs => row_bd hk hj (s := s) hs
  obtain ⟨⟨hd, hs, hno⟩, hv, q1, q2, q3, q4⟩ := hk
  have d520 := docs_520 hd
  have b4 := hb.1.2.1
  have eD : agDs g G := ⟨by rw [x7 0 (by decide) (by decide) (by decide)]; exact Int.le_refl _, fun d hd1 => ⟨⟨x0 _ _ (by decide) (Or.inl (by decide)) (Or.inl (by decide)) (by omega) (Or.inl (by decide)), fun i => x0 _ _ (by omega) (Or.inl (by omega)) (Or.inl (by omega)) (by omega) (Or.inl (by omega))⟩, x0 _ _ (by decide) (Or.inl (by decide)) (Or.inl (by decide)) (by omega) (Or.inl (by decide))⟩⟩
  have eS : agSs g G := ⟨by rw [xs, hX]; omega, fun x hx => ⟨x0 _ _ (by decide) (Or.inl (by decide)) (Or.inl (by decide)) (by omega) (Or.inr (by omega)), x0 _ _ (by decide) (Or.inl (by decide)) (Or.inr (by omega)) (by omega) (Or.inl (by decide)), fun k => x0 _ _ (by omega) (Or.inl (by omega)) (Or.inl (by omega)) (by omega) (Or.inl (by omega))⟩⟩
  have ey : exS g sa (fun x => if x = X then N1 else sa x) := fun x hx => if_neg (by omega)
  have ed : iH G 89 0 = iH g 89 0 := x7 0 (by decide) (by decide) (by decide)
  have hdR : cDocs H G da := cDocs_mv eD ed (fun _ _ => rfl) (cDocs_ag ag hd)
  have xI : ∀ d, iH G 613 d = iH g 613 d := fun d => x0 _ _ (by decide) (Or.inl (by decide)) (Or.inl (by decide)) (by omega) (Or.inl (by decide))
  have bu : ∀ k, k < b → (0 ≤ iH g 1156 k ∧ iH g 1156 k < iH g 89 0) := fun k hk1 => (hb.1.2.2 k (by omega)).1
  have hi : ∀ x, x ≥ 1137 → x < 1155 → ∀ k, iH G x k = iH g x k := fun x h1 h2 k => x0 x k (by omega) (Or.inl (by omega)) (Or.inl (by omega)) (by omega) (Or.inl (by omega))
  have eo : ∀ t s, t < 6 → (s : Nat) ≤ (iH g 1138 t).toNat → m_offT G (t : Nat) s = m_offT g (t : Nat) s := fun t s ht hs1 => by
    unfold m_offT
    refine sumN_cg fun i hi1 => ?_
    have u := ((hv t ht).2.2 i (by omega)).1
    have u' : 0 ≤ iH g (1140 + t) i ∧ iH g (1140 + t) i < iH g 89 5 := u
    rw [Int.toNat_natCast, hi (1140 + t) (by omega) (by omega), (eS.2 _ (show (((iH g (1140 + t) i).toNat : Nat) : Int) < iH g 89 5 by omega)).2.1]
  have hsg : m_segd G X := by
    refine ⟨⟨by omega, by rw [Int.toNat_natCast, xL]; omega, fun k hk1 => ?_⟩, fun k hk1 => ?_⟩
    · rw [Int.toNat_natCast] at hk1 ⊢
      rw [xL] at hk1
      rw [xM k (by omega)]
      have := bu k (by omega)
      omega
    · rw [Int.toNat_natCast] at hk1 ⊢
      rw [xL] at hk1
      rw [xM k (by omega)]
      have u := bu k (by omega)
      have := (hdR (iH g 1156 k).toNat (by omega)).1
      rw [Int.toNat_of_nonneg u.1] at this
      exact this
  have hw : sgW G X b (fun k => (iH g 91 (iH g 1156 k).toNat).toNat) (fun k i => iH g (93 + (iH g 1156 k).toNat) i) := by
    refine ⟨xL, fun k hk1 => ?_⟩
    have u := bu k hk1
    have v := (hd (iH g 1156 k).toNat (by omega)).1.2.1
    rw [Int.toNat_natCast] at v
    have w := (eD.2 (iH g 1156 k).toNat (by omega)).1
    refine ⟨by dsimp only; rw [xM k hk1, w.1]; omega, fun i _ => ?_⟩
    unfold m_wd
    rw [Int.toNat_natCast, xM k hk1, w.2]
  obtain ⟨m1, m2⟩ := sgW_dict hw hsg hSg.2.2.2.2.2 hcr hdD
  have hsR : cSegs H G da (fun x => if x = X then N1 else sa x) := by
    intro x hx
    rw [xs] at hx
    by_cases e : x = X
    · subst e
      refine ⟨m1, xN, ?_, ⟨r, ?_, ?_⟩, fun k hk1 => ?_⟩ <;> dsimp only <;> rw [if_pos rfl]
      · exact hnm
      · rw [xL, Int.toNat_natCast]; exact hSg
      · exact m2
      · rw [xL] at hk1
        rw [xM k (by omega), hrow k (by omega), ed]
        exact ⟨rfl, (bu k (by omega)).2⟩
    · exact cSegsO_mv eD eS (fun _ _ => rfl) ey (cSegs_ag ag hs) (by omega)
  have nb : ∀ s : Nat, s < S → (0 ≤ iH g 1155 s ∧ iH g 1155 s < iH g 89 5) := fun s hs1 => (hno.2.2 s (by omega)).1
  have hnR : cNow H G (fun x => if x = X then N1 else sa x) := by
    refine ⟨by rw [xn]; exact h5, by rw [xn]; omega, fun s hs1 => ?_⟩
    rw [xn] at hs1
    have rw1 : nRow G s = if s = S then (X : Int) else iH g 1155 s := xS s
    rw [rw1, h6, show 5 + 2 = 7 from rfl, h7]
    by_cases e : s = S
    · subst e
      dsimp only
      rw [if_pos rfl, if_pos rfl, if_pos rfl, Int.toNat_natCast, if_pos rfl, xL]
      refine ⟨by omega, rfl, fun k => ⟨fun u => absurd u bt_0, fun ⟨u1, u2⟩ => ?_⟩⟩
      unfold nDr at u2
      rw [xS, if_pos rfl, Int.toNat_natCast, xM k (by omega), xI] at u2
      exact absurd (hb.2 k (by omega)).1 u2
    · have u := nb s (by omega)
      obtain ⟨p1, p2, p3⟩ := hno.2.2 s (by omega)
      dsimp only
      rw [if_neg e, if_neg e, if_neg e, if_neg (by omega), (eS.2 (iH g 1155 s).toNat (by omega)).2.1]
      refine ⟨by omega, p2, fun k => ?_⟩
      have p3' := p3 k
      rw [show 5 + 2 = 7 from rfl] at p3'
      rw [p3']
      unfold nDr nRow
      rw [xS, if_neg e, (eS.2 (iH g 1155 s).toNat (by omega)).2.2, xI]
  have hvR : ∀ t : Nat, t < 6 → kV H G (fun x => if x = X then N1 else sa x) t := fun t ht => by
    have n5 : avT t ≠ 5 := by unfold avT; (repeat' split) <;> omega
    obtain ⟨t1, t2, t3⟩ := hst _ (iSt_av ht) n5
    refine cStd_mv eS ey (hi _ (by decide) (by decide) t) (fun s _ => hi _ (by omega) (by omega) s) (fun s k hs1 _ => ?_) (t1 2) t2 t3 (hv t ht)
    unfold tDr
    rw [eo t s ht (by omega), hi (1148 + t) (by omega) (by omega)]
  obtain ⟨r1, r2, r3, r4⟩ := hr
  have c0 : ∀ g, cntH g 0 = iH g 89 13 := fun _ => rfl
  have ro0 : ∀ g s, rowH g 0 s = iH g 1155 s := fun _ _ => rfl
  have cj : ∀ j : Nat, j ≠ 0 → j < 7 → cntH G j = cntH g j ∧ ∀ s, rowH G j s = rowH g j s := fun j e0 hj => by
    have := (hld_av e0 hj).2
    unfold cntH rowH tRow
    rw [if_neg e0, if_neg e0]
    refine ⟨hi 1138 (by decide) (by decide) _, fun s => ?_⟩
    rw [if_neg e0, if_neg e0]
    exact hi _ (by omega) (by omega) s
  refine ⟨⟨⟨⟨hdR, hsR, hnR⟩, hvR, fun t ht => ?_, ?_, ?_, ?_⟩, ⟨fun j hj s s' hs1 hs2 => ?_, ?_, fun t ht => ⟨?_, fun k hk1 => ?_⟩, fun d hd1 => ?_⟩, fun j hj s s' hs1 hs2 k k' hk1 hk2 => ?_, fun x hx5 hx i j hij hj => ?_⟩, ⟨by rw [xb]; exact h02, by rw [xb]; omega, fun k hk1 => by rw [xb] at hk1; omega⟩, fun i hi1 => by rw [xb] at hi1; omega⟩
  · have n5 : avT t ≠ 5 := by unfold avT; (repeat' split) <;> omega
    rw [(hst _ (iSt_av (t := t) (by omega)) n5).1, hi 1137 (by decide) (by decide)]; exact q1 t ht
  · rw [h53]; exact q2
  · rw [(hst 11 (iSt_av (t := 5) (by omega)) (by decide)).1]; exact q3
  · rw [hi 1137 (by decide) (by decide), hi 1138 (by decide) (by decide)]; exact q4
  · by_cases e0 : j = 0
    · subst e0
      rw [c0, xn] at hs2
      rw [ro0, ro0, xS, xS, if_neg (by omega)]
      have u := nb s (by omega)
      by_cases e : s' = S
      · rw [if_pos e]; omega
      · rw [if_neg e]
        exact r1 0 (by omega) s s' hs1 (by rw [c0]; omega)
    · obtain ⟨a1, a2⟩ := cj j e0 hj
      rw [a1] at hs2
      rw [a2, a2]
      exact r1 j hj s s' hs1 hs2
  · have : m_held G = m_held g + (b : Int) := by
      unfold m_held
      rw [xn, hS, show ((S : Int) + 1).toNat = S + 1 by omega, Int.toNat_natCast]
      show sumN _ S + iH G 615 (iH G 1155 S).toNat = _
      rw [xS, if_pos rfl, Int.toNat_natCast, xL]
      have : sumN (fun s => iH G 615 (iH G 1155 s).toNat) S = sumN (fun s => iH g 615 (iH g 1155 s).toNat) S := sumN_cg fun s hs1 => by
        have u := nb s hs1
        rw [xS, if_neg (by omega), (eS.2 (iH g 1155 s).toNat (by omega)).2.1]
      rw [this]
    rw [this]; exact h64
  · have := (hv t ht).2.1
    rw [hi 1138 (by decide) (by decide), eo t _ ht (Nat.le_refl _)]; exact (r3 t ht).1
  · rw [hi (1148 + t) (by omega) (by omega)]; exact (r3 t ht).2 k hk1
  · rw [xI]; exact r4 d hd1
  · by_cases e0 : j = 0
    · subst e0
      rw [c0, xn] at hs2
      rw [ro0, xS, if_neg (by omega)] at hk1
      rw [ro0, xS] at hk2
      rw [ro0, ro0, xS, xS, if_neg (show ¬ s = S by omega)]
      have u := nb s (by omega)
      rw [(eS.2 (iH g 1155 s).toNat (by omega)).2.1] at hk1
      rw [(eS.2 (iH g 1155 s).toNat (by omega)).2.2]
      by_cases e : s' = S
      · rw [if_pos e, Int.toNat_natCast, xL] at hk2
        rw [if_pos e, Int.toNat_natCast, xM k' (by omega)]
        exact (hb.2 k' (by omega)).2.2 _ (by omega) (by omega) k hk1
      · have u' := nb s' (by omega)
        rw [if_neg e, (eS.2 (iH g 1155 s').toNat (by omega)).2.1] at hk2
        rw [if_neg e, (eS.2 (iH g 1155 s').toNat (by omega)).2.2]
        exact hU.1 0 (by omega) s s' hs1 (by rw [c0]; omega) k k' hk1 hk2
    · obtain ⟨a1, a2⟩ := cj j e0 hj
      rw [a1] at hs2
      have u := rb j hj s (by omega)
      have u' := rb j hj s' hs2
      rw [a2, (eS.2 (rowH g j s).toNat (by omega)).2.1] at hk1
      rw [a2, (eS.2 (rowH g j s').toNat (by omega)).2.1] at hk2
      rw [a2, a2, (eS.2 (rowH g j s).toNat (by omega)).2.2, (eS.2 (rowH g j s').toNat (by omega)).2.2]
      exact hU.1 j hj s s' hs1 hs2 k k' hk1 hk2
  · rw [xs] at hx
    by_cases e : x = X
    · subst e
      rw [xL] at hj
      rw [xM i (by omega), xM j (by omega)]
      exact (hb.2 j (by omega)).2.1 i hij
    · obtain ⟨-, c2, c3⟩ := eS.2 x (by omega)
      rw [c2] at hj
      rw [c3, c3]
      exact hU.2 x hx5 (by omega) i j hij hj
theorem nw_o {h : AH} {t n x : Nat} (hx : x < nH h) : kH (nw h t n) x = kH h x ∧ (∀ k, iH (nw h t n) x k = iH h x k) ∧ (∀ k, jH (nw h t n) x k = jH h x k) ∧ ∀ k, rH (nw h t n) x k = rH h x k := by
  have e : x ≠ h.1 := Nat.ne_of_lt hx
  refine ⟨?_, fun k => ?_, fun k => ?_, fun k => ?_⟩ <;> simp [kH, iH, jH, rH, nw, r2, e]
theorem dD_cg {h h' : AH} {a c : Nat} {M : Int → Prop} {cp sp : Int → Int} (e : ∀ x k, a ≤ x → iH h' x k = iH h x k) (hd : dD h a c M cp sp) : dD h' a c M cp sp := by
  obtain ⟨d1, d2, d3, d4, d5⟩ := hd
  refine ⟨by rw [e _ _ (by omega)]; exact d1, fun i j q1 q2 => by rw [e _ _ (by omega), e _ _ (by omega)]; exact d2 i j q1 q2, fun j hj => by rw [e _ _ (by omega), e _ _ (by omega), e _ _ (by omega)]; exact d3 j hj, fun w hw => ?_, ?_⟩
  · obtain ⟨j, q1, q2⟩ := d4 w hw
    exact ⟨j, q1, by rw [e _ _ (by omega)]; exact q2⟩
  · rw [e _ _ (by omega), d5]
    exact sumN_cg fun j _ => (e _ _ (by omega)).symm
def flR (h : AH) (j k : Nat) : Option Nat := if k < j then rH h 4 k else none
/-- the buffer's documents in a new row -/
def hFl (h : AH) (b j : Nat) : AH := sRW (nw h 16 b) (nH h) (flR h j)
theorem hFl_0 {h : AH} {b : Nat} : nw h 16 b = hFl h b 0 := by
  unfold hFl
  have : flR h 0 = rH (nw h 16 b) (nH h) := by funext k; unfold flR; rw [if_neg (by omega), rH_nw]
  rw [this, rw_id]
theorem hFl_s {h : AH} {b j : Nat} {w : Option Nat} (hw : rH h 4 j = w) : sR (hFl h b j) (nH h) j w = hFl h b (j + 1) := by
  unfold hFl
  rw [rw_sR]
  have : updR (flR h j) j w = flR h (j + 1) := by
    funext k
    unfold updR flR
    by_cases e : k = j
    · subst e; rw [if_pos rfl, if_pos (by omega), hw]
    · rw [if_neg e]
      by_cases e2 : k < j
      · rw [if_pos e2, if_pos (by omega)]
      · rw [if_neg e2, if_neg (by omega)]
  rw [this]
theorem hFl_o {h : AH} {b j x : Nat} (hx : x < nH h) : kH (hFl h b j) x = kH h x ∧ (∀ k, iH (hFl h b j) x k = iH h x k) ∧ (∀ k, jH (hFl h b j) x k = jH h x k) ∧ ∀ k, rH (hFl h b j) x k = rH h x k := by
  obtain ⟨a1, a2, a3, a4⟩ := nw_o (t := 16) (n := b) hx
  exact ⟨a1, a2, a3, fun k => (rw_o (by omega)).trans (a4 k)⟩
theorem hFl_L {h : AH} {b j : Nat} (hL : LayL h) : LayL (hFl h b j) := LayL_rw (by have := (ll_88 hL).1; omega) (LayL_nw hL)
/-- what a new segment at the end leaves of the class's cells -/
def hFlF (h h' : AH) : Prop := nH h ≤ nH h' ∧ ∀ x, x < nH h → kH h' x = kH h x ∧ (∀ k, (x ≠ 0 ∨ (k ≠ 2 ∧ k ≠ 8)) → (x ≠ 5 ∨ k ≠ 2) → iH h' x k = iH h x k) ∧ (∀ k, x ≠ 7 → jH h' x k = jH h x k) ∧ ∀ k, x ≠ 6 → rH h' x k = rH h x k
theorem l_flush {h g : AH} {da sa : Nat → Nat} (hL : LayL h) (hN : 1191 ≤ nH h) (hp : kSta h g da sa) (hb : kB h g da) (hse : iH h 0 8 = iH g 89 5 ∧ 0 ≤ iH g 89 5 ∧ iH g 89 5 < 520) : Ct 3 5 2315 mX11_flush [vr 0] h (QI fun x h' => ∃ g' sa', p_flush g x g' ∧ exS g sa sa' ∧ LayL h' ∧ kSta h' g' da sa' ∧ kB h' g' da ∧ iH h' 0 8 = iH g' 89 5 ∧ hFlF h h') := by
  have nf : hFlF h h := ⟨Nat.le_refl _, fun x _ => ⟨rfl, fun _ _ _ => rfl, fun _ _ => rfl, fun _ _ => rfl⟩⟩
  have hc := hp.1.1
  have hn := nowOf hc
  have b4 := hb.1.2.1
  have hh := m_held_bd hn
  obtain ⟨b, hbN⟩ := Int.eq_ofNat_of_zero_le b4.1
  obtain ⟨S, hSN⟩ := Int.eq_ofNat_of_zero_le hc.2.2.2.1.1
  obtain ⟨X, hXN⟩ := Int.eq_ofNat_of_zero_le hse.2.1
  have e02 : iH h 0 2 = (b : Int) := by rw [hb.1.1, hbN]
  have e52 : iH h 5 2 = (S : Int) := by rw [hc.2.2.1, hSN]
  have e08 : iH h 0 8 = (X : Int) := by rw [hse.1, hXN]
  have same : ∀ x, p_flush g x g → QI (fun x h' => ∃ g' sa', p_flush g x g' ∧ exS g sa sa' ∧ LayL h' ∧ kSta h' g' da sa' ∧ kB h' g' da ∧ iH h' 0 8 = iH g' 89 5 ∧ hFlF h h') (some (vi x)) h := fun x hx => ⟨_, rfl, g, sa, hx, fun _ _ => rfl, hL, hp, hb, hse.1, nf⟩
  refine e_X11_flush (g := g) (da := da) (sa := sa) hL ?_
  rw [e02, e52, Int.toNat_natCast]
  refine ⟨fun c0 => ⟨fun c1 => same _ (Or.inr (Or.inl ⟨by omega, Or.inl (by have := hc.2.2.2.1.2; omega), rfl, rfl⟩)), fun c1 => ⟨⟨rfl, hc⟩, by omega, fun c2 => ⟨by omega, ?_⟩, fun c2 => same _ (Or.inr (Or.inl ⟨by omega, Or.inr (by omega), rfl, rfl⟩))⟩⟩, fun c0 => same _ (Or.inl ⟨by omega, rfl, rfl⟩)⟩
  have nF : ∀ j, nH (hFl h b j) = nH h + 1 := fun j => rfl
  have kF1 : ∀ j, kH (hFl h b j) (nH h) = (16, b) := fun j => kH_nw h 16 b
  have bu : ∀ k, k < b → rH h 4 k = some (da (iH g 1156 k).toNat) ∧ (0 ≤ iH g 1156 k ∧ iH g 1156 k < iH g 89 0) := fun k hk => by
    obtain ⟨u1, u2⟩ := hb.1.2.2 k (by omega)
    exact ⟨u2, u1⟩
  have docF : ∀ j k, k < b → iD (hFl h b j) (da (iH g 1156 k).toNat) (iH g 91 (iH g 1156 k).toNat).toNat := fun j k hk => by
    have u := bu k hk
    refine iD_ag (h := h) ⟨by rw [nF]; omega, fun x hx _ => ?_⟩ (hc.1 _ (by omega)).2.1
    obtain ⟨a1, a2, -, a4⟩ := hFl_o (b := b) (j := j) hx
    exact ⟨a1, a2, a4⟩
  rw [hFl_0]
  refine up (P := fun j => wp mX11_flush 3 (5 - 1) (2315 - b) (QI fun x h' => ∃ g' sa', p_flush g x g' ∧ exS g sa sa' ∧ LayL h' ∧ kSta h' g' da sa' ∧ kB h' g' da ∧ iH h' 0 8 = iH g' 89 5 ∧ hFlF h h') 52 [some (vr 0), some (vr (nH h)), some (vi j)] [] (hFl h b j)) b ?_ ?_
  · refine t_X11_flush_52 (hFl_L hL) ⟨by rw [nF]; omega, kF1 b⟩ ?_
    have g02 : iH (hFl h b b) 0 2 = (b : Int) := by rw [(hFl_o (by omega)).2.1]; exact e02
    have g08 : iH (hFl h b b) 0 8 = (X : Int) := by rw [(hFl_o (by omega)).2.1]; exact e08
    rw [g02, g08]
    refine ⟨fun _ => ⟨by omega, by omega, ?_⟩, fun c => absurd c (by omega)⟩
    obtain ⟨h4, hh4⟩ : ∃ h4, h4 = sI (sI (hFl h b b) 0 2 0) 0 8 ((X : Int) + 1) := ⟨_, rfl⟩
    rw [← hh4]
    have n4 : nH h4 = nH h + 1 := by rw [hh4]; rfl
    have L4 : LayL h4 := by rw [hh4]; exact hFl_L hL
    have o4 : ∀ x, x < nH h → x ≠ 0 → kH h4 x = kH h x ∧ (∀ k, iH h4 x k = iH h x k) ∧ (∀ k, jH h4 x k = jH h x k) ∧ ∀ k, rH h4 x k = rH h x k := fun x hx h0 => by
      obtain ⟨a1, a2, a3, a4⟩ := hFl_o (b := b) (j := b) hx
      rw [hh4]
      exact ⟨a1, fun k => by rw [rI_ne h0, rI_ne h0, a2], a3, a4⟩
    have o40 : kH h4 0 = kH h 0 ∧ (∀ k, k ≠ 2 → k ≠ 8 → iH h4 0 k = iH h 0 k) ∧ (∀ k, jH h4 0 k = jH h 0 k) ∧ ∀ k, rH h4 0 k = rH h 0 k := by
      obtain ⟨a1, a2, a3, a4⟩ := hFl_o (h := h) (b := b) (j := b) (x := 0) (by omega)
      rw [hh4]
      exact ⟨a1, fun k h2 h8 => by rw [rI_nk h8, rI_nk h2, a2], a3, a4⟩
    have i08 : iH h4 0 8 = (X : Int) + 1 := by rw [hh4]; exact rI_same
    have i02 : iH h4 0 2 = 0 := by rw [hh4, rI_nk (by decide)]; exact rI_same
    have r4 : ∀ k, k < b → rH h4 (nH h) k = some (da (iH g 1156 k).toNat) := fun k hk => by
      rw [hh4]
      show rH (sRW (nw h 16 b) (nH h) (flR h b)) (nH h) k = _
      rw [rw_s]
      unfold flR
      rw [if_pos hk]
      exact (bu k hk).1
    have k4 : kH h4 (nH h) = (16, b) := by rw [hh4]; exact kF1 b
    obtain ⟨h7, hh7⟩ : ∃ h7, h7 = nw h4 7 0 := ⟨_, rfl⟩
    rw [← hh7]
    have n7 : nH h7 = nH h + 1 + 1 := by rw [hh7]; show nH h4 + 1 = _; omega
    have o7 : ∀ x, x < nH h4 → kH h7 x = kH h4 x ∧ (∀ k, iH h7 x k = iH h4 x k) ∧ (∀ k, jH h7 x k = jH h4 x k) ∧ ∀ k, rH h7 x k = rH h4 x k := fun x hx => by rw [hh7]; exact nw_o hx
    have L7 : LayL h7 := by rw [hh7]; exact LayL_nw L4
    have ag7 : agD h h7 := ⟨by omega, fun x hx hx2 => by
      obtain ⟨a1, a2, -, a4⟩ := o7 x (by omega)
      obtain ⟨c1, c2, -, c4⟩ := o4 x hx (by omega)
      exact ⟨by rw [a1, c1], fun k => by rw [a2, c2], fun k => by rw [a4, c4]⟩⟩
    rw [(o7 0 (by omega)).2.1, i08]
    have hsz : ∀ k, k < b → (iH g 91 (iH g 1156 k).toNat).toNat ≤ 12 := fun k hk => by
      have u := bu k hk
      have := (hc.1 (iH g 1156 k).toNat (by omega)).1.2.1
      rw [Int.toNat_natCast] at this
      omega
    have hsd : segD h7 (nH h) b (fun k => (iH g 91 (iH g 1156 k).toNat).toNat) (fun k i => iH g (93 + (iH g 1156 k).toNat) i) := fun k hk => by
      have u := bu k hk
      obtain ⟨p1, p2, p3, p4⟩ := hc.1 (iH g 1156 k).toNat (by omega)
      have q1 := p2.2.2.1.1
      refine ⟨da (iH g 1156 k).toNat, by rw [(o7 _ (by omega)).2.2.2, r4 k hk], q1, iD_ag ag7 p2, fun i hi => ?_⟩
      rw [(ag7.2 _ q1 (by have := p2.2.2.2.1; omega)).2.1]
      exact p4 i hi
    have seg := l_segment L7 (a := nH h + 1) (d := nH h) (n := b) (r := (szS (fun k => (iH g 91 (iH g 1156 k).toNat).toNat) b).toNat) (x := (X : Int) + 1) rfl n7 (by omega) (by rw [hh7, ← n4]; exact kH_nw h4 7 0) (by rw [(o7 _ (by omega)).1]; exact k4) (by omega) (fun k => by rw [hh7, ← n4]; exact iH_nw h4 7 0 k) (Int.toNat_of_nonneg szS_nn) hsz hsd
    rw [n4]
    refine ⟨_, by omega, seg, by omega, fun h8 hx8 => ?_⟩
    obtain ⟨⟨m1, m2, m3, m4⟩, c, m5, m6⟩ := hx8
    have c8 : ∀ x, x < nH h → kH h8 x = kH h4 x ∧ (∀ k, iH h8 x k = iH h4 x k) ∧ (∀ k, jH h8 x k = jH h4 x k) ∧ ∀ k, rH h8 x k = rH h4 x k := fun x hx => by
      obtain ⟨u1, u2, u3⟩ := m2 x (by omega)
      obtain ⟨v1, v2⟩ := u2 (by omega)
      obtain ⟨w1, w2, w3, w4⟩ := o7 x (by omega)
      exact ⟨by rw [u1, w1], fun k => by rw [v1, w2], fun k => by rw [u3, w3], fun k => by rw [v2, w4]⟩
    have d8 : ∀ x, x < nH h → x ≠ 0 → kH h8 x = kH h x ∧ (∀ k, iH h8 x k = iH h x k) ∧ (∀ k, jH h8 x k = jH h x k) ∧ ∀ k, rH h8 x k = rH h x k := fun x hx h0 => by
      obtain ⟨u1, u2, u3, u4⟩ := c8 x hx
      obtain ⟨v1, v2, v3, v4⟩ := o4 x hx h0
      exact ⟨by rw [u1, v1], fun k => by rw [u2, v2], fun k => by rw [u3, v3], fun k => by rw [u4, v4]⟩
    have L8 : LayL h8 := ⟨fun q hq => by
      have : ∀ q ∈ tabL, q.1 ≤ 88 := by decide
      have := this q hq
      obtain ⟨-, u2⟩ := L4.1 q hq
      exact ⟨by omega, by rw [(c8 q.1 (by omega)).1]; exact u2⟩, fun q hq => by
      have : ∀ q ∈ refL, q.1 ≤ 88 := by decide
      have := this q hq
      rw [(c8 q.1 (by omega)).2.2.2]; exact L4.2 q hq⟩
    have e8 : iH h8 5 2 = (S : Int) := by rw [(d8 5 (by omega) (by decide)).2.1, e52]
    refine ⟨L8, _, l_appendS L8 (Or.inl rfl) m3 (by rw [e8]; omega), fun h12 hx12 => ?_⟩
    rw [e8, Int.toNat_natCast] at hx12
    have L12 : LayL h12 := by rw [hx12]; exact LayL_hSt (Or.inl rfl) L8
    have n12 : nH h12 = nH h + 5 := by rw [hx12]; show nH h8 = _; omega
    have io : ∀ x k, (x ≠ 5 ∨ k ≠ 2) → iH h12 x k = iH h8 x k := fun x k q => by
      rw [hx12]
      by_cases e : x = 5
      · exact st_ik (q.elim (fun u => absurd e u) id)
      · exact st_io e
    have ro : ∀ x k, x ≠ 6 → rH h12 x k = rH h8 x k := fun x k q => by rw [hx12]; exact st_Ro q
    have jo : ∀ x k, x ≠ 7 → jH h12 x k = jH h8 x k := fun x k q => by rw [hx12]; exact st_Jo q
    have ko : ∀ x, kH h12 x = kH h8 x := fun x => by rw [hx12]; rfl
    have i128 : iH h12 0 8 = (X : Int) + 1 := by rw [io _ _ (Or.inl (by decide)), (c8 0 (by omega)).2.1, i08]
    have sg12 : iSg h12 (nH h + 1) b (szS (fun k => (iH g 91 (iH g 1156 k).toNat).toNat) b).toNat := iSg_ag ⟨by omega, fun x _ hx => ⟨ko x, fun k => io x k (Or.inl (by omega)), fun k => ro x k (by omega)⟩⟩ m3
    have K := flush_K (H := h12) (N1 := nH h + 1) (r := (szS (fun k => (iH g 91 (iH g 1156 k).toNat).toNat) b).toNat) (c := c) hp hb hSN (by omega) hXN (by omega) hbN (by omega)
      ⟨by omega, fun x hx hx2 => by
        obtain ⟨u1, u2, u3, u4⟩ := d8 x hx (by omega)
        exact ⟨by rw [ko, u1], fun k => by rw [io _ _ (Or.inl (by omega)), u2], fun k => by rw [ro _ _ (by omega), u4]⟩⟩
      sg12 m5 (dD_cg (fun x k hx => io x k (Or.inl (by omega))) m6) (by rw [io _ _ (Or.inl (by omega)), m4])
      (fun k hk => by rw [show nH h + 1 - 1 = nH h by omega, ro _ _ (by omega), ((m2 (nH h) (by omega)).2.1 (by omega)).2, (o7 _ (by omega)).2.2.2, r4 k hk])
      (by rw [hx12, st_n])
      (fun k => by rw [hx12]; refine st_R.trans ?_; unfold updR; rw [(d8 6 (by omega) (by decide)).2.2.2])
      (fun k => by rw [hx12]; refine st_J.trans ?_; unfold updJ; rw [(d8 7 (by omega) (by decide)).2.2.1])
      (fun y hy h5 => by
        have ly := iSt_lt hy
        have ap := iSt_ap (Or.inl rfl : iSt 5) hy (fun q => h5 q.symm)
        exact ⟨fun k => by rw [io _ _ (Or.inl h5), (d8 y (by omega) (by omega)).2.1], fun k => by rw [ro _ _ (by omega), (d8 _ (by omega) (by omega)).2.2.2], fun k => by rw [jo _ _ (by omega), (d8 _ (by omega) (by omega)).2.2.1]⟩)
      (by rw [io _ _ (Or.inr (by decide)), (d8 5 (by omega) (by decide)).2.1]) (by rw [io _ _ (Or.inl (by decide)), (c8 0 (by omega)).2.1, i02])
    refine ⟨L12, _, rfl, m_flush g, _, Or.inr (Or.inr ⟨by omega, by omega, by omega, by rw [i128, hXN], rfl⟩), fun x hx => if_neg (by omega), L12, K.1, K.2, ?_, ⟨by omega, fun x hx => ?_⟩⟩
    · rw [i128]
      unfold m_flush m_fill m_ns0
      rw [rI_nk (by decide), rI_ne (by decide), rI_nk (by decide), rI_ne (by decide), rW_ne (by omega), rI_same, hXN]
    · by_cases e0 : x = 0
      · subst e0
        obtain ⟨u1, u2, u3, u4⟩ := c8 0 (by omega)
        obtain ⟨v1, v2, v3, v4⟩ := o40
        exact ⟨by rw [ko, u1, v1], fun k q _ => by rw [io _ _ (Or.inl (by decide)), u2]; exact q.elim (fun w => absurd rfl w) fun w => v2 k w.1 w.2, fun k q => by rw [jo _ _ q, u3, v3], fun k q => by rw [ro _ _ q, u4, v4]⟩
      · obtain ⟨u1, u2, u3, u4⟩ := d8 x hx e0
        exact ⟨by rw [ko, u1], fun k _ q => by rw [io _ _ q, u2], fun k q => by rw [jo _ _ q, u3], fun k q => by rw [ro _ _ q, u4]⟩
  · intro j hj ih
    refine t_X11_flush_52 (hFl_L hL) ⟨by rw [nF]; omega, kF1 j⟩ ?_
    rw [(hFl_o (by omega)).2.1, e02, Int.toNat_natCast]
    refine ⟨fun c => absurd c (by omega), fun _ => ⟨by omega, _, _, ⟨by rw [(hFl_o (by omega)).2.2.2]; exact (bu j hj).1, docF j j hj⟩, by omega, LayL_sR (by omega) (hFl_L hL), by omega, ?_⟩⟩
    rw [hFl_s (bu j hj).1, show (j : Int) + 1 = ((j + 1 : Nat) : Int) by omega]
    exact ih
