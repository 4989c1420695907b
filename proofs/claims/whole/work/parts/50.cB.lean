/-! THE CLASS AND THE REFERENCE, PIECE BY PIECE: h holds the class's cells, g the reference's; da: where a document stands, sa: where a segment -/
section
def cDocs (h g : AH) (da : Nat → Nat) : Prop := ∀ d : Nat, (d : Int) < iH g 89 0 → m_doc g d ∧ iD h (da d) (iH g 91 d).toNat ∧ iH h (da d) 0 = iH g 90 d ∧ ∀ i : Nat, i < (iH g 91 d).toNat → iH h (da d + 1) i = iH g (93 + d) i
def cDict (h g : AH) (a : Nat) (x : Int) (r : Nat) : Prop := iH h a 5 = (m_dn g x : Int) ∧ m_dn g x ≤ r ∧ iH h a 6 = m_dic g x 1 ∧ ∀ j : Nat, j < m_dn g x → iH h (a + 1) j = m_dw g x j ∧ iH h (a + 2) j = m_post g x (m_dw g x j) ∧ iH h (a + 3) j = m_ps g x (m_dw g x j)
def cSeg1 (h g : AH) (da sa : Nat → Nat) (x : Nat) : Prop := m_dict g x ∧ iH g 614 x = (x : Int) + 1 ∧ iH h (sa x) 0 = (x : Int) + 1 ∧ (∃ r, iSg h (sa x) (iH g 615 x).toNat r ∧ cDict h g (sa x) x r) ∧ ∀ k : Nat, (k : Int) < iH g 615 x → rH h (sa x - 1) k = some (da (iH g (617 + x) k).toNat) ∧ iH g (617 + x) k < iH g 89 0
def cSegs (h g : AH) (da sa : Nat → Nat) : Prop := ∀ x : Nat, (x : Int) < iH g 89 5 → cSeg1 h g da sa x
def cStd (h g : AH) (sa : Nat → Nat) (a : Nat) (n : Int) (row : Nat → Int) (dr : Nat → Nat → Prop) : Prop := iH h a 2 = n ∧ (0 ≤ n ∧ n ≤ 8) ∧ ∀ s : Nat, (s : Int) < n → (0 ≤ row s ∧ row s < iH g 89 5) ∧ rH h (a + 1) s = some (sa (row s).toNat) ∧ ∀ k : Nat, bt (jH h (a + 2) s) k ↔ (k : Int) < iH g 615 (row s).toNat ∧ dr s k
def nRow (g : AH) (s : Nat) : Int := iH g 1155 s
def nDr (g : AH) (s k : Nat) : Prop := iH g 613 (iH g (617 + (iH g 1155 s).toNat) k).toNat ≠ 0
def cNow (h g : AH) (sa : Nat → Nat) : Prop := cStd h g sa 5 (iH g 89 13) (nRow g) (nDr g)
def cRd (h g : AH) (da sa : Nat → Nat) : Prop := cDocs h g da ∧ cSegs h g da sa ∧ cNow h g sa
theorem cnt_neg (p : Nat → Prop) : ∀ n : Nat, cnt p n + cnt (fun k => ¬ p k) n = (n : Int)
  | 0 => rfl
  | n + 1 => by
    have ih := cnt_neg p n
    by_cases c : p n
    · rw [cnt_s c, cnt_n (p := fun k => ¬ p k) (fun q => q c)]; omega
    · rw [cnt_n c, cnt_s (p := fun k => ¬ p k) c]; omega
theorem cnt_cut {p : Nat → Prop} {n : Nat} : ∀ {m : Nat}, n ≤ m → (∀ k, n ≤ k → k < m → ¬ p k) → cnt p m = cnt p n
  | 0, h, _ => by rw [show n = 0 by omega]
  | m + 1, h, q => by
    by_cases e : n = m + 1
    · rw [e]
    · rw [cnt_n (q m (by omega) (by omega))]; exact cnt_cut (by omega) (fun k h1 h2 => q k h1 (by omega))
/-- how many aren't dropped, by the bits -/
theorem pc_live {x : Int64} {n : Int} {p : Nat → Prop} (hn : 0 ≤ n ∧ n ≤ 64) (e : ∀ k : Nat, bt x k ↔ (k : Int) < n ∧ p k) : n - pcL x = cnt (fun k => ¬ p k) n.toNat := by
  have h1 : pcL x = cnt p n.toNat := by
    unfold pcL
    rw [cnt_cut (n := n.toNat) (by omega) (fun k h1 h2 q => by have := ((e k).mp q).1; omega)]
    exact cnt_cg fun k hk => ⟨fun q => ((e k).mp q).2, fun q => (e k).mpr ⟨by omega, q⟩⟩
  have h2 := cnt_neg p n.toNat
  omega
/-- what stands at a place of the stand that is now -/
theorem cRd_s {h g : AH} {da sa : Nat → Nat} (hc : cRd h g da sa) {s : Int} (hs : 0 ≤ s ∧ s < iH g 89 13) : (0 ≤ s ∧ s < 8) ∧ ∃ x : Nat, iH g 1155 s.toNat = (x : Int) ∧ rH h 6 s.toNat = some (sa x) ∧ cSeg1 h g da sa x ∧ (∀ k : Nat, bt (jH h 7 s.toNat) k ↔ (k : Int) < iH g 615 x ∧ nDr g s.toNat k) ∧ m_seg g (x : Int) ∧ (x : Int) < iH g 89 5 := by
  obtain ⟨h1, h2, h3⟩ := hc.2.2
  obtain ⟨⟨q1, q2⟩, q3, q4⟩ := h3 s.toNat (by omega)
  obtain ⟨x, e⟩ := Int.eq_ofNat_of_zero_le q1
  rw [e] at q2 q3 q4
  have e : iH g 1155 s.toNat = (x : Int) := e
  rw [Int.toNat_natCast] at q3 q4
  have hx := hc.2.1 x q2
  exact ⟨by omega, x, e, q3, hx, q4, hx.1.1.1, q2⟩
theorem pc_now {h g : AH} {da sa : Nat → Nat} (hc : cRd h g da sa) {s : Int} (hs : 0 ≤ s ∧ s < iH g 89 13) : iH g 615 (iH g 1155 s.toNat).toNat - pcL (jH h 7 s.toNat) = m_live g (iH g 1155 s.toNat) ∧ m_live g (iH g 1155 s.toNat) ≤ 64 ∧ 0 ≤ m_live g (iH g 1155 s.toNat) := by
  obtain ⟨-, x, e, h1, h2, h3, h4, -⟩ := cRd_s hc hs
  have hb := m_live_bd h4
  have hl := h4.2.1
  rw [Int.toNat_natCast] at hl hb
  rw [e, Int.toNat_natCast, pc_live (by omega) h3]
  have e2 : cnt (fun k => ¬ nDr g s.toNat k) (iH g 615 x).toNat = m_live g x := by
    unfold m_live
    refine cnt_cg fun k _ => ?_
    unfold nDr m_liveP
    rw [e]
    exact Classical.not_not
  rw [e2]
  omega
end
def b_X9_isDropped_0 : List IE := [(.aload_n 0, 1, 0, 0, 0, 0), (.getfield 17, 3, 0, 9, 1, 1), (.iload_n 1, 1, 0, 0, 1, 0), (.laload, 1, 0, 0, 0, 0), (.iload_n 2, 1, 0, 0, 2, 0), (.lushr, 1, 0, 0, 0, 0), (.lconst 1, 1, 0, 0, 1, 0), (.land, 1, 0, 0, 0, 0), (.lconst 0, 1, 0, 0, 0, 0), (.lcmp, 1, 0, 0, 0, 0)]
theorem k_X9_isDropped_0 : ckIf mX9_isDropped 9 0 b_X9_isDropped_0 12 0 7 19 15 = true := by decide +kernel
def b_X9_isDropped_15 : List IE := [(.iconst 1, 1, 1, 0, 0, 0)]
theorem k_X9_isDropped_15 : ckGo mX9_isDropped 9 15 b_X9_isDropped_15 16 4 20 = true := by decide +kernel
def b_X9_isDropped_19 : List IE := [(.iconst 0, 1, 0, 0, 0, 0)]
theorem k_X9_isDropped_19 : ckZ mX9_isDropped 9 19 b_X9_isDropped_19 20 = true := by decide +kernel
def b_X9_isDropped_20 : List IE := []
theorem k_X9_isDropped_20 : ckZ mX9_isDropped 9 20 b_X9_isDropped_20 20 = true := by decide +kernel
theorem t_X9_isDropped_0 {rc rs : Nat} {Q : Option AV → AH → Prop} {h : AH} {a0 : Nat} {x1 x2 : Int} (hL : LayL h) (hA0 : iSt a0) (hv : (0 ≤ x1 ∧ x1 < 8) ∧ (((lcI ((shr6 (jH h (a0 + 2) x1.toNat) x2) &&& 1) 0) = 0 → Q (some (vi 0)) h) ∧ ((lcI ((shr6 (jH h (a0 + 2) x1.toNat) x2) &&& 1) 0) ≠ 0 → Q (some (vi 1)) h))) : wp mX9_isDropped 0 rc rs Q 0 [some (vr a0), some (vi x1), some (vi x2)] [] h :=
  (show wp mX9_isDropped 0 rc rs Q 0 [some (vr a0), some (vi x1), some (vi x2)] [] h from xIf k_X9_isDropped_0 (And.intro (st_o hL hA0) (Exists.intro (a0 + 2) (And.intro (st_r1 hL hA0) (have c1 := hv.1; have v6 := hv.2; (And.intro (sdJ (st_a1 hL hA0) c1) (And.intro (fun c2 => have v4 := v6.1 c2; (show wp mX9_isDropped 0 rc rs Q 19 [some (vr a0), some (vi x1), some (vi x2)] [] h from xZ k_X9_isDropped_19 (And.intro rfl (And.intro (Or.inl rfl) v4)))) (fun c3 => have v5 := v6.2 c3; (show wp mX9_isDropped 0 rc rs Q 15 [some (vr a0), some (vi x1), some (vi x2)] [] h from xGo k_X9_isDropped_15 (show wp mX9_isDropped 0 rc rs Q 20 [some (vr a0), some (vi x1), some (vi x2)] [vi 1] h from xZ k_X9_isDropped_20 (And.intro rfl (And.intro (Or.inr rfl) v5))))))))))))
theorem e_X9_isDropped {mc ms : Nat} {Q : Option AV → AH → Prop} {h : AH} {a0 : Nat} {x1 x2 : Int} (hL : LayL h) (hA0 : iSt a0) (hv : (0 ≤ x1 ∧ x1 < 8) ∧ (((lcI ((shr6 (jH h (a0 + 2) x1.toNat) x2) &&& 1) 0) = 0 → Q (some (vi 0)) h) ∧ ((lcI ((shr6 (jH h (a0 + 2) x1.toNat) x2) &&& 1) 0) ≠ 0 → Q (some (vi 1)) h))) : Ct 0 mc ms mX9_isDropped [vr a0, vi x1, vi x2] h Q := Ct.of (by decide +kernel) (Nat.le_of_ble_eq_true rfl) (t_X9_isDropped_0 hL hA0 hv)
def b_X9_liveIn_0 : List IE := [(.aload_n 0, 1, 0, 0, 0, 0), (.getfield 11, 3, 0, 9, 0, 1), (.iload_n 1, 1, 0, 0, 1, 0), (.aaload, 1, 0, 0, 0, 0), (.getfield 25, 3, 0, 7, 1, 1), (.arraylength, 1, 0, 0, 0, 0), (.aload_n 0, 1, 0, 0, 0, 0), (.getfield 17, 3, 0, 9, 1, 1), (.iload_n 1, 1, 0, 0, 1, 0), (.laload, 1, 0, 0, 0, 0)]
theorem k_X9_liveIn_0 : ckB mX9_liveIn 9 0 b_X9_liveIn_0 16 = true := by decide +kernel
def b_X9_liveIn_19 : List IE := [(.isub, 1, 0, 0, 0, 0)]
theorem k_X9_liveIn_19 : ckI mX9_liveIn 9 19 b_X9_liveIn_19 20 = true := by decide +kernel
theorem s_X9_liveIn_16 : cS mX9_liveIn 16 mJ13_bitCount_95d88 29 1 := ⟨by decide +kernel, ⟨ml_J13_bitCount_95d88, li_RX9_29, st_J13_bitCount_95d88⟩, by decide +kernel⟩
theorem t_X9_liveIn_0 {rc rs : Nat} {Q : Option AV → AH → Prop} {h : AH} {a0 : Nat} {x1 : Int} (hL : LayL h) (hA0 : iSt a0) (hv : (0 ≤ x1 ∧ x1 < 8) ∧ (∃ q2 n3 r4 : Nat, (rH h (a0 + 1) x1.toNat = some q2 ∧ iSg h q2 n3 r4) ∧ (-2147483648 ≤ ((n3 : Int) - pcL (jH h (a0 + 2) x1.toNat)) ∧ ((n3 : Int) - pcL (jH h (a0 + 2) x1.toNat)) < 2147483648) ∧ Q (some (vi ((n3 : Int) - pcL (jH h (a0 + 2) x1.toNat)))) h)) : wp mX9_liveIn 1 rc rs Q 0 [some (vr a0), some (vi x1)] [] h :=
  (show wp mX9_liveIn 1 rc rs Q 0 [some (vr a0), some (vi x1)] [] h from xcS k_X9_liveIn_0 s_X9_liveIn_16 (And.intro (st_o hL hA0) (Exists.intro (a0 + 1) (And.intro (st_r0 hL hA0) (have c1 := hv.1; have v14 := hv.2; (And.intro (sdQ (st_a0 hL hA0) c1) (Exists.elim v14 (fun q2 v12_0 => (Exists.elim v12_0 (fun n3 v12_1 => (Exists.elim v12_1 (fun r4 v12 => have c5 := v12.1; have v13 := v12.2; (Exists.intro _ (And.intro c5.1 (And.intro (sg_o c5.2) (Exists.intro (q2 - 1) (And.intro (sg_r1 c5.2) (And.intro (sdL (sg_a1 c5.2) (And.intro (by decide) (And.intro (by decide) (sg_n c5.2)))) (len_r (sg_a1 c5.2) (And.intro (st_o hL hA0) (Exists.intro (a0 + 2) (And.intro (st_r1 hL hA0) (And.intro (sdJ (st_a1 hL hA0) c1) ((Exists.intro [vl (jH h (a0 + 2) x1.toNat)] (Exists.intro [vi (n3 : Int)] (And.intro (And.intro rfl (And.intro rfl (Nat.le_of_ble_eq_true rfl))) (Exists.intro 0 (Exists.intro 0 (Exists.intro 0 (Exists.intro _ (And.intro c_bitCount (And.intro (And.intro (by decide) (And.intro (Nat.zero_le _) (Nat.zero_le _))) (eQP (show wp mX9_liveIn 1 rc rs Q 19 [some (vr a0), some (vi x1)] [vi (pcL (jH h (a0 + 2) x1.toNat)), vi (n3 : Int)] h from xI k_X9_liveIn_19 (have c7 := v13.1; have v8 := v13.2; (And.intro c7 (And.intro rfl v8))))))))))))))))))))))))))))))))))))))
theorem e_X9_liveIn {mc ms : Nat} {Q : Option AV → AH → Prop} {h : AH} {a0 : Nat} {x1 : Int} (hL : LayL h) (hA0 : iSt a0) (hv : (0 ≤ x1 ∧ x1 < 8) ∧ (∃ q2 n3 r4 : Nat, (rH h (a0 + 1) x1.toNat = some q2 ∧ iSg h q2 n3 r4) ∧ (-2147483648 ≤ ((n3 : Int) - pcL (jH h (a0 + 2) x1.toNat)) ∧ ((n3 : Int) - pcL (jH h (a0 + 2) x1.toNat)) < 2147483648) ∧ Q (some (vi ((n3 : Int) - pcL (jH h (a0 + 2) x1.toNat)))) h)) : Ct 1 mc ms mX9_liveIn [vr a0, vi x1] h Q := Ct.of (by decide +kernel) (Nat.le_of_ble_eq_true rfl) (t_X9_liveIn_0 hL hA0 hv)
def b_X9_hasName_0 : List IE := [(.iconst 0, 1, 0, 0, 0, 0), (.istore_n 2, 1, 0, 0, 2, 0)]
theorem k_X9_hasName_0 : ckB mX9_hasName 9 0 b_X9_hasName_0 2 = true := by decide +kernel
def b_X9_hasName_2 : List IE := [(.iload_n 2, 1, 0, 0, 2, 0), (.aload_n 0, 1, 0, 0, 0, 0), (.getfield 21, 3, 0, 9, 2, 0)]
theorem k_X9_hasName_2 : ckIc mX9_hasName 9 2 b_X9_hasName_2 7 3 24 31 10 = true := by decide +kernel
def b_X9_hasName_10 : List IE := [(.aload_n 0, 1, 0, 0, 0, 0), (.getfield 11, 3, 0, 9, 0, 1), (.iload_n 2, 1, 0, 0, 2, 0), (.aaload, 1, 0, 0, 0, 0), (.getfield 39, 3, 0, 7, 0, 0), (.iload_n 1, 1, 0, 0, 1, 0)]
theorem k_X9_hasName_10 : ckIc mX9_hasName 9 10 b_X9_hasName_10 20 1 5 25 23 = true := by decide +kernel
def b_X9_hasName_23 : List IE := [(.iconst 1, 1, 1, 0, 0, 0)]
theorem k_X9_hasName_23 : ckZ mX9_hasName 9 23 b_X9_hasName_23 24 = true := by decide +kernel
def b_X9_hasName_25 : List IE := [(.iinc 2 1, 3, 1, 0, 2, 0)]
theorem k_X9_hasName_25 : ckGo mX9_hasName 9 25 b_X9_hasName_25 28 (-26) 2 = true := by decide +kernel
def b_X9_hasName_31 : List IE := [(.iconst 0, 1, 0, 0, 0, 0)]
theorem k_X9_hasName_31 : ckZ mX9_hasName 9 31 b_X9_hasName_31 32 = true := by decide +kernel
theorem t_X9_hasName_0 {rc rs : Nat} {Q : Option AV → AH → Prop} {h : AH} {a0 : Nat} {x1 : Int} (hL : LayL h) (hA0 : iSt a0) (hv : wp mX9_hasName 0 rc rs Q 2 [some (vr a0), some (vi x1), some (vi 0)] [] h) : wp mX9_hasName 0 rc rs Q 0 [some (vr a0), some (vi x1), none] [] h :=
  (show wp mX9_hasName 0 rc rs Q 0 [some (vr a0), some (vi x1), none] [] h from xB k_X9_hasName_0 (And.intro rfl hv))
theorem e_X9_hasName {mc ms : Nat} {Q : Option AV → AH → Prop} {h : AH} {a0 : Nat} {x1 : Int} (hL : LayL h) (hA0 : iSt a0) (hv : wp mX9_hasName 0 mc ms Q 2 [some (vr a0), some (vi x1), some (vi 0)] [] h) : Ct 0 mc ms mX9_hasName [vr a0, vi x1] h Q := Ct.of (by decide +kernel) (Nat.le_of_ble_eq_true rfl) (t_X9_hasName_0 hL hA0 hv)
theorem t_X9_hasName_2 {rc rs : Nat} {Q : Option AV → AH → Prop} {h : AH} {a0 : Nat} {x1 x2 : Int} (hL : LayL h) (hA0 : iSt a0) (hv : (((iH h a0 2) ≤ x2 → Q (some (vi 0)) h) ∧ (x2 < (iH h a0 2) → (0 ≤ x2 ∧ x2 < 8) ∧ (∃ q6 n7 r8 : Nat, (rH h (a0 + 1) x2.toNat = some q6 ∧ iSg h q6 n7 r8) ∧ (((iH h q6 0) ≠ x1 → (-2147483648 ≤ (x2 + 1) ∧ (x2 + 1) < 2147483648) ∧ wp mX9_hasName 0 rc rs Q 2 [some (vr a0), some (vi x1), some (vi (x2 + 1))] [] h) ∧ ((iH h q6 0) = x1 → Q (some (vi 1)) h)))))) : wp mX9_hasName 0 rc rs Q 2 [some (vr a0), some (vi x1), some (vi x2)] [] h :=
  (show wp mX9_hasName 0 rc rs Q 2 [some (vr a0), some (vi x1), some (vi x2)] [] h from xIc k_X9_hasName_2 (And.intro (st_o hL hA0) (And.intro (fun c1 => have v3 := hv.1 c1; (show wp mX9_hasName 0 rc rs Q 31 [some (vr a0), some (vi x1), some (vi x2)] [] h from xZ k_X9_hasName_31 (And.intro rfl (And.intro (Or.inl rfl) v3)))) (fun c2 => have v4 := hv.2 (Int.not_le.mp c2); (show wp mX9_hasName 0 rc rs Q 10 [some (vr a0), some (vi x1), some (vi x2)] [] h from xIc k_X9_hasName_10 (And.intro (st_o hL hA0) (Exists.intro (a0 + 1) (And.intro (st_r0 hL hA0) (have c5 := v4.1; have v18 := v4.2; (And.intro (sdQ (st_a0 hL hA0) c5) (Exists.elim v18 (fun q6 v16_0 => (Exists.elim v16_0 (fun n7 v16_1 => (Exists.elim v16_1 (fun r8 v16 => have c9 := v16.1; have v17 := v16.2; (Exists.intro _ (And.intro c9.1 (And.intro (sg_o c9.2) (And.intro (fun c10 => have v12 := v17.1 c10; (show wp mX9_hasName 0 rc rs Q 25 [some (vr a0), some (vi x1), some (vi x2)] [] h from xGo k_X9_hasName_25 (have c14 := v12.1; have v15 := v12.2; (And.intro c14 (And.intro rfl v15))))) (fun c11 => have v13 := v17.2 (Decidable.not_not.mp c11); (show wp mX9_hasName 0 rc rs Q 23 [some (vr a0), some (vi x1), some (vi x2)] [] h from xZ k_X9_hasName_23 (And.intro rfl (And.intro (Or.inr rfl) v13))))))))))))))))))))))))
def b_X9_allDocs_0 : List IE := [(.iconst 0, 1, 0, 0, 0, 0), (.istore_n 1, 1, 0, 0, 1, 0), (.iconst 0, 1, 0, 0, 0, 0), (.istore_n 2, 1, 0, 0, 2, 0)]
theorem k_X9_allDocs_0 : ckB mX9_allDocs 9 0 b_X9_allDocs_0 4 = true := by decide +kernel
def b_X9_allDocs_4 : List IE := [(.iload_n 2, 1, 0, 0, 2, 0), (.aload_n 0, 1, 0, 0, 0, 0), (.getfield 21, 3, 0, 9, 2, 0)]
theorem k_X9_allDocs_4 : ckIc mX9_allDocs 9 4 b_X9_allDocs_4 9 3 22 31 12 = true := by decide +kernel
def b_X9_allDocs_12 : List IE := [(.iload_n 1, 1, 0, 0, 1, 0), (.aload_n 0, 1, 0, 0, 0, 0), (.getfield 11, 3, 0, 9, 0, 1), (.iload_n 2, 1, 0, 0, 2, 0), (.aaload, 1, 0, 0, 0, 0), (.getfield 25, 3, 0, 7, 1, 1), (.arraylength, 1, 0, 0, 0, 0), (.iadd, 1, 0, 0, 0, 0), (.istore_n 1, 1, 0, 0, 1, 0), (.iinc 2 1, 3, 1, 0, 2, 0)]
theorem k_X9_allDocs_12 : ckGo mX9_allDocs 9 12 b_X9_allDocs_12 28 (-24) 4 = true := by decide +kernel
def b_X9_allDocs_31 : List IE := [(.iload_n 1, 1, 0, 0, 1, 0)]
theorem k_X9_allDocs_31 : ckI mX9_allDocs 9 31 b_X9_allDocs_31 32 = true := by decide +kernel
theorem t_X9_allDocs_0 {rc rs : Nat} {Q : Option AV → AH → Prop} {h : AH} {a0 : Nat} (hL : LayL h) (hA0 : iSt a0) (hv : wp mX9_allDocs 0 rc rs Q 4 [some (vr a0), some (vi 0), some (vi 0)] [] h) : wp mX9_allDocs 0 rc rs Q 0 [some (vr a0), none, none] [] h :=
  (show wp mX9_allDocs 0 rc rs Q 0 [some (vr a0), none, none] [] h from xB k_X9_allDocs_0 (And.intro rfl (And.intro rfl hv)))
theorem e_X9_allDocs {mc ms : Nat} {Q : Option AV → AH → Prop} {h : AH} {a0 : Nat} (hL : LayL h) (hA0 : iSt a0) (hv : wp mX9_allDocs 0 mc ms Q 4 [some (vr a0), some (vi 0), some (vi 0)] [] h) : Ct 0 mc ms mX9_allDocs [vr a0] h Q := Ct.of (by decide +kernel) (Nat.le_of_ble_eq_true rfl) (t_X9_allDocs_0 hL hA0 hv)
theorem t_X9_allDocs_4 {rc rs : Nat} {Q : Option AV → AH → Prop} {h : AH} {a0 : Nat} {x1 x2 : Int} (hL : LayL h) (hA0 : iSt a0) (hv : (((iH h a0 2) ≤ x2 → Q (some (vi x1)) h) ∧ (x2 < (iH h a0 2) → (0 ≤ x2 ∧ x2 < 8) ∧ (∃ q6 n7 r8 : Nat, (rH h (a0 + 1) x2.toNat = some q6 ∧ iSg h q6 n7 r8) ∧ (-2147483648 ≤ (x1 + (n7 : Int)) ∧ (x1 + (n7 : Int)) < 2147483648) ∧ (-2147483648 ≤ (x2 + 1) ∧ (x2 + 1) < 2147483648) ∧ wp mX9_allDocs 0 rc rs Q 4 [some (vr a0), some (vi (x1 + (n7 : Int))), some (vi (x2 + 1))] [] h)))) : wp mX9_allDocs 0 rc rs Q 4 [some (vr a0), some (vi x1), some (vi x2)] [] h :=
  (show wp mX9_allDocs 0 rc rs Q 4 [some (vr a0), some (vi x1), some (vi x2)] [] h from xIc k_X9_allDocs_4 (And.intro (st_o hL hA0) (And.intro (fun c1 => have v3 := hv.1 c1; (show wp mX9_allDocs 0 rc rs Q 31 [some (vr a0), some (vi x1), some (vi x2)] [] h from xI k_X9_allDocs_31 (And.intro rfl v3))) (fun c2 => have v4 := hv.2 (Int.not_le.mp c2); (show wp mX9_allDocs 0 rc rs Q 12 [some (vr a0), some (vi x1), some (vi x2)] [] h from xGo k_X9_allDocs_12 (And.intro (st_o hL hA0) (Exists.intro (a0 + 1) (And.intro (st_r0 hL hA0) (have c5 := v4.1; have v16 := v4.2; (And.intro (sdQ (st_a0 hL hA0) c5) (Exists.elim v16 (fun q6 v14_0 => (Exists.elim v14_0 (fun n7 v14_1 => (Exists.elim v14_1 (fun r8 v14 => have c9 := v14.1; have v15 := v14.2; (Exists.intro _ (And.intro c9.1 (And.intro (sg_o c9.2) (Exists.intro (q6 - 1) (And.intro (sg_r1 c9.2) (And.intro (sdL (sg_a1 c9.2) (And.intro (by decide) (And.intro (by decide) (sg_n c9.2)))) (len_r (sg_a1 c9.2) (have c10 := v15.1; have v13 := v15.2; (And.intro c10 (And.intro rfl (have c11 := v13.1; have v12 := v13.2; (And.intro c11 (And.intro rfl v12)))))))))))))))))))))))))))))
theorem l_isDropped {h : AH} (hL : LayL h) {a : Nat} {s p : Int} (hp : iSt a ∧ (0 ≤ s ∧ s < 8) ∧ (0 ≤ p ∧ p < 64)) : Ct 0 0 0 mX9_isDropped [vr a, vi s, vi p] h (QI fun x h' => x = b01 (bt (jH h (a + 2) s.toNat) p.toNat) ∧ h' = h) :=
  e_X9_isDropped hL hp.1 ⟨hp.2.1, fun c => ⟨_, rfl, (b01_f ((lc_bt hp.2.2).mp c)).symm, rfl⟩, fun c => ⟨_, rfl, (b01_t (Classical.not_not.mp fun q => c ((lc_bt hp.2.2).mpr q))).symm, rfl⟩⟩
theorem l_liveIn {h g : AH} {da sa : Nat → Nat} (hL : LayL h) {a : Nat} {s : Int} (hp : a = 5 ∧ cRd h g da sa ∧ 0 ≤ s ∧ s < iH g 89 13) : Ct 1 0 0 mX9_liveIn [vr a, vi s] h (QI fun x h' => x = m_live g (iH g 1155 s.toNat) ∧ h' = h) := by
  obtain ⟨rfl, hc, hs⟩ := hp
  obtain ⟨h8, x, e, h1, h2, h3, h4, -⟩ := cRd_s hc hs
  obtain ⟨e2, b1, b2⟩ := pc_now hc hs
  obtain ⟨r, hS, -⟩ := h2.2.2.2.1
  have hl := h4.2.1
  rw [Int.toNat_natCast] at hl
  have e3 : ((iH g 615 x).toNat : Int) - pcL (jH h (5 + 2) s.toNat) = m_live g (iH g 1155 s.toNat) := by
    rw [← e2, e, Int.toNat_natCast, show ((iH g 615 x).toNat : Int) = iH g 615 x by omega]
  refine e_X9_liveIn hL (Or.inl rfl) ⟨h8, _, _, r, ⟨h1, hS⟩, ?_⟩
  rw [e3]
  exact ⟨by omega, _, rfl, rfl, rfl⟩
def b_X9_liveBetween_0 : List IE := [(.iconst 0, 1, 0, 0, 0, 0), (.istore_n 3, 1, 0, 0, 3, 0), (.iload_n 1, 1, 0, 0, 1, 0), (.istore 4, 2, 0, 0, 4, 0)]
theorem k_X9_liveBetween_0 : ckB mX9_liveBetween 9 0 b_X9_liveBetween_0 5 = true := by decide +kernel
def b_X9_liveBetween_5 : List IE := [(.iload 4, 2, 0, 0, 4, 0), (.iload_n 2, 1, 0, 0, 2, 0)]
theorem k_X9_liveBetween_5 : ckIc mX9_liveBetween 9 5 b_X9_liveBetween_5 8 3 18 26 11 = true := by decide +kernel
def b_X9_liveBetween_11 : List IE := [(.iload_n 3, 1, 0, 0, 3, 0), (.aload_n 0, 1, 0, 0, 0, 0), (.iload 4, 2, 0, 0, 4, 0)]
theorem k_X9_liveBetween_11 : ckB mX9_liveBetween 9 11 b_X9_liveBetween_11 15 = true := by decide +kernel
def b_X9_liveBetween_18 : List IE := [(.iadd, 1, 0, 0, 0, 0), (.istore_n 3, 1, 0, 0, 3, 0), (.iinc 4 1, 3, 1, 0, 4, 0)]
theorem k_X9_liveBetween_18 : ckGo mX9_liveBetween 9 18 b_X9_liveBetween_18 23 (-18) 5 = true := by decide +kernel
def b_X9_liveBetween_26 : List IE := [(.iload_n 3, 1, 0, 0, 3, 0)]
theorem k_X9_liveBetween_26 : ckI mX9_liveBetween 9 26 b_X9_liveBetween_26 27 = true := by decide +kernel
theorem s_X9_liveBetween_15 : cV mX9_liveBetween 15 mX9_liveIn 35 1 9 := ⟨by decide +kernel, ⟨ml_X9_liveIn, li_RX9_35, im_X9_liveIn, se_X9_liveIn⟩, ⟨by decide +kernel, by decide +kernel⟩, by decide +kernel⟩
theorem t_X9_liveBetween_0 {rc rs : Nat} {Q : Option AV → AH → Prop} {h : AH} {a0 : Nat} {x1 x2 : Int} (hL : LayL h) (hA0 : iSt a0) (hv : wp mX9_liveBetween 2 rc rs Q 5 [some (vr a0), none, some (vi x2), some (vi 0), some (vi x1)] [] h) : wp mX9_liveBetween 2 rc rs Q 0 [some (vr a0), some (vi x1), some (vi x2), none, none] [] h :=
  (show wp mX9_liveBetween 2 rc rs Q 0 [some (vr a0), some (vi x1), some (vi x2), none, none] [] h from xB k_X9_liveBetween_0 (And.intro rfl (And.intro rfl (w_fg [true, false, true, true, true] hv))))
theorem e_X9_liveBetween {mc ms : Nat} {Q : Option AV → AH → Prop} {h : AH} {a0 : Nat} {x1 x2 : Int} (hL : LayL h) (hA0 : iSt a0) (hv : wp mX9_liveBetween 2 mc ms Q 5 [some (vr a0), none, some (vi x2), some (vi 0), some (vi x1)] [] h) : Ct 2 mc ms mX9_liveBetween [vr a0, vi x1, vi x2] h Q := Ct.of (by decide +kernel) (Nat.le_of_ble_eq_true rfl) (t_X9_liveBetween_0 hL hA0 hv)
theorem t_X9_liveBetween_5 {rc rs : Nat} {Q : Option AV → AH → Prop} {h : AH} {sa : Nat → Nat} {da : Nat → Nat} {g : AH} {a0 : Nat} {x2 x3 x4 : Int} (hL : LayL h) (hA0 : iSt a0) (hv : ((x2 ≤ x4 → Q (some (vi x3)) h) ∧ (x4 < x2 → (a0 = 5 ∧ cRd h g da sa ∧ 0 ≤ x4 ∧ x4 < iH g 89 13) ∧ (-2147483648 ≤ (x3 + (m_live g (iH g 1155 (x4).toNat))) ∧ (x3 + (m_live g (iH g 1155 (x4).toNat))) < 2147483648) ∧ (-2147483648 ≤ (x4 + 1) ∧ (x4 + 1) < 2147483648) ∧ wp mX9_liveBetween 2 rc rs Q 5 [some (vr a0), none, some (vi x2), some (vi (x3 + (m_live g (iH g 1155 (x4).toNat)))), some (vi (x4 + 1))] [] h))) : wp mX9_liveBetween 2 rc rs Q 5 [some (vr a0), none, some (vi x2), some (vi x3), some (vi x4)] [] h :=
  (show wp mX9_liveBetween 2 rc rs Q 5 [some (vr a0), none, some (vi x2), some (vi x3), some (vi x4)] [] h from xIc k_X9_liveBetween_5 (And.intro (fun c1 => have v3 := hv.1 c1; (show wp mX9_liveBetween 2 rc rs Q 26 [some (vr a0), none, some (vi x2), some (vi x3), some (vi x4)] [] h from xI k_X9_liveBetween_26 (And.intro rfl v3))) (fun c2 => have v4 := hv.2 (Int.not_le.mp c2); (show wp mX9_liveBetween 2 rc rs Q 11 [some (vr a0), none, some (vi x2), some (vi x3), some (vi x4)] [] h from xcV k_X9_liveBetween_11 s_X9_liveBetween_15 (have c9 := v4.1; have v10 := v4.2; (Exists.intro [vi x4] (Exists.intro a0 (Exists.intro [vi x3] (And.intro (And.intro rfl (And.intro rfl (Nat.le_of_ble_eq_true rfl))) (And.intro (st_o hL hA0) (Exists.intro 1 (Exists.intro 0 (Exists.intro 0 (Exists.intro _ (And.intro (l_liveIn (h := h) hL c9) (And.intro (And.intro (by decide) (And.intro (Nat.zero_le _) (Nat.zero_le _))) (eQP (show wp mX9_liveBetween 2 rc rs Q 18 [some (vr a0), none, some (vi x2), some (vi x3), some (vi x4)] [vi (m_live g (iH g 1155 (x4).toNat)), vi x3] h from xGo k_X9_liveBetween_18 (have c5 := v10.1; have v8 := v10.2; (And.intro c5 (And.intro rfl (have c6 := v8.1; have v7 := v8.2; (And.intro c6 (And.intro rfl v7))))))))))))))))))))))))
theorem l_liveBetween {h g : AH} {da sa : Nat → Nat} (hL : LayL h) {a : Nat} {f t : Int} (hp : a = 5 ∧ cRd h g da sa ∧ 0 ≤ f ∧ f ≤ t ∧ t ≤ iH g 89 13) : Ct 2 0 0 mX9_liveBetween [vr a, vi f, vi t] h (QI fun x h' => x = m_liveIn g f (t - f) ∧ h' = h) := by
  obtain ⟨rfl, hc, h0, h1, h2⟩ := hp
  have h8 : iH g 89 13 ≤ 8 := hc.2.2.2.1.2
  have ef : f + ((0 : Nat) : Int) = f := by omega
  have main := up (P := fun k => wp mX9_liveBetween 2 0 0 (QI fun x h' => x = m_liveIn g f (t - f) ∧ h' = h) 5 [some (vr 5), none, some (vi t), some (vi (sumN (fun i => m_live g (iH g 1155 (f.toNat + i))) k)), some (vi (f + (k : Int)))] [] h) (t - f).toNat ?_ ?_
  · rw [ef] at main
    exact e_X9_liveBetween hL (Or.inl rfl) main
  · exact t_X9_liveBetween_5 (g := g) (da := da) (sa := sa) hL (Or.inl rfl) ⟨fun _ => ⟨_, rfl, rfl, rfl⟩, fun c => absurd c (by omega)⟩
  · intro k hk ih
    have hb := sumN_bd (fun i => m_live g (iH g 1155 (f.toNat + i))) 64 (by omega) k (fun j hj => by
      have := (pc_now hc (s := f + (j : Int)) (by omega)).2
      rw [show (f + (j : Int)).toNat = f.toNat + j by omega] at this
      omega)
    have hb2 := (pc_now hc (s := f + (k : Int)) (by omega)).2
    have e1 : (f + (k : Int)).toNat = f.toNat + k := by omega
    refine t_X9_liveBetween_5 (g := g) (da := da) (sa := sa) hL (Or.inl rfl) ⟨fun c => absurd c (by omega), fun c => ⟨⟨rfl, hc, by omega, by omega⟩, ?_⟩⟩
    rw [e1] at hb2 ⊢
    refine ⟨by omega, by omega, ?_⟩
    rw [show f + (k : Int) + 1 = f + ((k + 1 : Nat) : Int) by omega]
    exact ih
theorem l_allDocs {h g : AH} {da sa : Nat → Nat} (hL : LayL h) {a : Nat} (hp : a = 5 ∧ cRd h g da sa) : Ct 0 0 0 mX9_allDocs [vr a] h (QI fun x h' => x = m_held g ∧ h' = h) := by
  obtain ⟨rfl, hc⟩ := hp
  have hn := hc.2.2.1
  have h8 := hc.2.2.2.1
  have hb : ∀ s : Nat, (s : Int) < iH g 89 13 → 0 ≤ iH g 615 (iH g 1155 s).toNat ∧ iH g 615 (iH g 1155 s).toNat ≤ 64 := fun s hs => by
    obtain ⟨-, x, e, -, -, -, h4, -⟩ := cRd_s hc (s := s) (by omega)
    rw [Int.toNat_natCast] at e
    rw [e]; exact h4.2.1
  refine e_X9_allDocs hL (Or.inl rfl) (up (P := fun k => wp mX9_allDocs 0 _ _ _ 4 [some (vr 5), some (vi (sumN (fun s => iH g 615 (iH g 1155 s).toNat) k)), some (vi k)] [] h) (iH g 89 13).toNat ?_ ?_)
  · exact t_X9_allDocs_4 hL (Or.inl rfl) ⟨fun _ => ⟨_, rfl, rfl, rfl⟩, fun c => absurd c (by omega)⟩
  · intro k hk ih
    have hb1 := sumN_bd (fun s => iH g 615 (iH g 1155 s).toNat) 64 (by omega) k (fun j hj => hb j (by omega))
    obtain ⟨-, x, e, q1, q2, -, h4, -⟩ := cRd_s hc (s := k) (by omega)
    obtain ⟨r, hS, -⟩ := q2.2.2.2.1
    have hbk := hb k (by omega)
    rw [Int.toNat_natCast] at e q1
    have ex : ((iH g 615 x).toNat : Int) = iH g 615 (iH g 1155 k).toNat := by rw [e] at hbk ⊢; rw [Int.toNat_natCast] at hbk ⊢; omega
    refine t_X9_allDocs_4 hL (Or.inl rfl) ⟨fun c => absurd c (by omega), fun c => ⟨by omega, _, _, r, ⟨q1, hS⟩, ?_⟩⟩
    rw [ex]
    exact ⟨by omega, by omega, ih⟩
/-- has a stand a segment of a name -/
theorem l_hasName {h g : AH} {da sa : Nat → Nat} (hL : LayL h) {a : Nat} {w : Int} {n : Int} {row : Nat → Int} {dr : Nat → Nat → Prop} (hp : iSt a ∧ cSegs h g da sa ∧ cStd h g sa a n row dr) : Ct 0 0 0 mX9_hasName [vr a, vi w] h (QI fun x h' => x = b01 (∃ s : Nat, (s : Int) < n ∧ row s = w - 1) ∧ h' = h) := by
  obtain ⟨ha, hs, h1, h2, h3⟩ := hp
  have main : ∀ k : Nat, (∀ s : Nat, s < k → row s ≠ w - 1) → (k : Int) ≤ n → wp mX9_hasName 0 0 0 (QI fun x h' => x = b01 (∃ s : Nat, (s : Int) < n ∧ row s = w - 1) ∧ h' = h) 2 [some (vr a), some (vi w), some (vi k)] [] h := by
    refine dn n.toNat (fun k hk q1 q2 => ?_) (fun k hk ih q1 q2 => ?_)
    · exact t_X9_hasName_2 hL ha ⟨fun _ => ⟨_, rfl, (b01_f (fun ⟨s, w1, w2⟩ => q1 s (by omega) w2)).symm, rfl⟩, fun c => absurd c (by omega)⟩
    · obtain ⟨⟨p1, p2⟩, p3, -⟩ := h3 k (by omega)
      obtain ⟨x, e⟩ := Int.eq_ofNat_of_zero_le p1
      rw [e] at p2 p3
      rw [Int.toNat_natCast] at p3
      obtain ⟨-, -, nm, ⟨r, hS, -⟩, -⟩ := hs x p2
      refine t_X9_hasName_2 hL ha ⟨fun c => absurd c (by omega), fun c => ⟨by omega, _, _, r, ⟨p3, hS⟩, fun c2 => ⟨by omega, ?_⟩, fun c2 => ⟨_, rfl, (b01_t ⟨k, by omega, by omega⟩).symm, rfl⟩⟩⟩
      refine ih (fun s hs => ?_) (by omega)
      by_cases e3 : s = k
      · subst e3; omega
      · exact q1 s (by omega)
  exact e_X9_hasName hL ha (main 0 (fun s hs => absurd hs (Nat.not_lt_zero _)) h2.1)
