/-! THE CLASS: WORTH OF A QUERY -/
def b_X5_leafWorth_0 : List IE := [(.aload_n 0, 1, 0, 0, 0, 0), (.getfield 9, 3, 0, 5, 0, 1), (.iload_n 2, 1, 0, 0, 2, 0), (.iaload, 1, 0, 0, 0, 0)]
theorem k_X5_leafWorth_0 : ckLs mX5_leafWorth 5 0 b_X5_leafWorth_0 6 60 #[(0, 26), (1, 43)] 26 66 [(0, 32), (1, 49)] = true := by decide +kernel
def b_X5_leafWorth_32 : List IE := [(.aload_n 1, 1, 0, 0, 1, 0), (.aload_n 0, 1, 0, 0, 0, 0), (.getfield 15, 3, 0, 5, 1, 1), (.iload_n 2, 1, 0, 0, 2, 0), (.iaload, 1, 0, 0, 0, 0), (.aload_n 0, 1, 0, 0, 0, 0), (.getfield 18, 3, 0, 5, 2, 1), (.iload_n 2, 1, 0, 0, 2, 0), (.iaload, 1, 0, 0, 0, 0)]
theorem k_X5_leafWorth_32 : ckB mX5_leafWorth 5 32 b_X5_leafWorth_32 45 = true := by decide +kernel
def b_X5_leafWorth_48 : List IE := []
theorem k_X5_leafWorth_48 : ckI mX5_leafWorth 5 48 b_X5_leafWorth_48 48 = true := by decide +kernel
def b_X5_leafWorth_49 : List IE := [(.aload_n 1, 1, 0, 0, 1, 0), (.aload_n 0, 1, 0, 0, 0, 0), (.getfield 15, 3, 0, 5, 1, 1), (.iload_n 2, 1, 0, 0, 2, 0), (.iaload, 1, 0, 0, 0, 0), (.aload_n 0, 1, 0, 0, 0, 0), (.getfield 18, 3, 0, 5, 2, 1), (.iload_n 2, 1, 0, 0, 2, 0), (.iaload, 1, 0, 0, 0, 0)]
theorem k_X5_leafWorth_49 : ckB mX5_leafWorth 5 49 b_X5_leafWorth_49 62 = true := by decide +kernel
def b_X5_leafWorth_65 : List IE := []
theorem k_X5_leafWorth_65 : ckI mX5_leafWorth 5 65 b_X5_leafWorth_65 65 = true := by decide +kernel
def b_X5_leafWorth_66 : List IE := [(.aload_n 0, 1, 0, 0, 0, 0), (.getfield 18, 3, 0, 5, 2, 1), (.iload_n 2, 1, 0, 0, 2, 0), (.iaload, 1, 0, 0, 0, 0), (.aload_n 0, 1, 0, 0, 0, 0), (.aload_n 1, 1, 0, 0, 1, 0), (.aload_n 0, 1, 0, 0, 0, 0), (.getfield 15, 3, 0, 5, 1, 1), (.iload_n 2, 1, 0, 0, 2, 0), (.iaload, 1, 0, 0, 0, 0), (.aload_n 0, 1, 0, 0, 0, 0), (.getfield 18, 3, 0, 5, 2, 1), (.iload_n 2, 1, 0, 0, 2, 0), (.iaload, 1, 0, 0, 0, 0)]
theorem k_X5_leafWorth_66 : ckB mX5_leafWorth 5 66 b_X5_leafWorth_66 86 = true := by decide +kernel
def b_X5_leafWorth_89 : List IE := [(.imul, 1, 0, 0, 0, 0)]
theorem k_X5_leafWorth_89 : ckI mX5_leafWorth 5 89 b_X5_leafWorth_89 90 = true := by decide +kernel
theorem s_X5_leafWorth_45 : cS mX5_leafWorth 45 mX5_placesBetween 59 3 := ⟨by decide +kernel, ⟨ml_X5_placesBetween, li_RX5_59, st_X5_placesBetween⟩, by decide +kernel⟩
theorem s_X5_leafWorth_62 : cS mX5_leafWorth 62 mX5_nearTwos 63 3 := ⟨by decide +kernel, ⟨ml_X5_nearTwos, li_RX5_63, st_X5_nearTwos⟩, by decide +kernel⟩
theorem s_X5_leafWorth_86 : cV mX5_leafWorth 86 mX5_phrasesIn 66 3 5 := ⟨by decide +kernel, ⟨ml_X5_phrasesIn, li_RX5_66, im_X5_phrasesIn, se_X5_phrasesIn⟩, ⟨by decide +kernel, by decide +kernel⟩, by decide +kernel⟩
theorem t_X5_leafWorth_0 {rc rs : Nat} {Q : Option AV → AH → Prop} {h : AH} {a0 a1 n1 : Nat} {x2 : Int} (hL : LayL h) (hA0 : iQu a0) (hA1 : a1 < nH h ∧ kH h a1 = (13, n1)) (hv : (0 ≤ x2 ∧ x2 < 64) ∧ (((iH h (a0 + 1) x2.toNat) = 0 → (∃ P31 : Int → AH → Prop, Ct 0 0 0 mX5_placesBetween [vr a1, vi (iH h (a0 + 2) x2.toNat), vi (iH h (a0 + 3) x2.toNat)] h (QI P31) ∧ ∀ (r30 : Int) (h29 : AH), (-2147483648 ≤ r30 ∧ r30 < 2147483648) → P31 r30 h29 → LayL h29 ∧ (a1 < nH h29 ∧ kH h29 a1 = (13, n1)) ∧ Q (some (vi r30)) h29)) ∧ ((iH h (a0 + 1) x2.toNat) ≠ 0 → (((iH h (a0 + 1) x2.toNat) = 1 → (∃ P18 : Int → AH → Prop, Ct 1 0 0 mX5_nearTwos [vr a1, vi (iH h (a0 + 2) x2.toNat), vi (iH h (a0 + 3) x2.toNat)] h (QI P18) ∧ ∀ (r17 : Int) (h16 : AH), (-2147483648 ≤ r17 ∧ r17 < 2147483648) → P18 r17 h16 → LayL h16 ∧ (a1 < nH h16 ∧ kH h16 a1 = (13, n1)) ∧ Q (some (vi r17)) h16)) ∧ ((iH h (a0 + 1) x2.toNat) ≠ 1 → (∃ P7 : Int → AH → Prop, Ct 0 0 0 mX5_phrasesIn [vr a0, vr a1, vi (iH h (a0 + 2) x2.toNat), vi (iH h (a0 + 3) x2.toNat)] h (QI P7) ∧ ∀ (r6 : Int) (h5 : AH), (-2147483648 ≤ r6 ∧ r6 < 2147483648) → P7 r6 h5 → LayL h5 ∧ (a1 < nH h5 ∧ kH h5 a1 = (13, n1)) ∧ (-2147483648 ≤ (iH h (a0 + 3) x2.toNat * r6) ∧ (iH h (a0 + 3) x2.toNat * r6) < 2147483648) ∧ Q (some (vi (iH h (a0 + 3) x2.toNat * r6))) h5)))))) : wp mX5_leafWorth 2 rc rs Q 0 [some (vr a0), some (vr a1), some (vi x2)] [] h :=
  (show wp mX5_leafWorth 2 rc rs Q 0 [some (vr a0), some (vr a1), some (vi x2)] [] h from xLs k_X5_leafWorth_0 (And.intro (qu_o hL hA0) (Exists.intro (a0 + 1) (And.intro (qu_r0 hL hA0) (have c1 := hv.1; have v40 := hv.2; (And.intro (sdI (qu_a0 hL hA0) c1) (And.intro (fun c36 => have v38 := v40.1 c36; (show wp mX5_leafWorth 2 rc rs Q 32 [some (vr a0), some (vr a1), some (vi x2)] [] h from xcS k_X5_leafWorth_32 s_X5_leafWorth_45 (And.intro (qu_o hL hA0) (Exists.intro (a0 + 2) (And.intro (qu_r1 hL hA0) (And.intro (sdI (qu_a1 hL hA0) c1) (And.intro (qu_o hL hA0) (Exists.intro (a0 + 3) (And.intro (qu_r2 hL hA0) (And.intro (sdI (qu_a2 hL hA0) c1) (Exists.elim v38 (fun P31 v32 => (Exists.intro [vr a1, vi (iH h (a0 + 2) x2.toNat), vi (iH h (a0 + 3) x2.toNat)] (Exists.intro [] (And.intro (And.intro rfl (And.intro rfl (Nat.le_of_ble_eq_true rfl))) (Exists.intro 0 (Exists.intro 0 (Exists.intro 0 (Exists.intro (QI P31) (And.intro v32.1 (And.intro (And.intro (by decide) (And.intro (Nat.zero_le _) (Nat.zero_le _))) (eQI (fun r30 h29 q35 e34 => have v33 := v32.2 r30 h29 q35 e34; have hL := v33.1; have v33 := v33.2; have hA1 := v33.1; have v33 := v33.2; (show wp mX5_leafWorth 2 rc rs Q 48 [some (vr a0), some (vr a1), some (vi x2)] [vi r30] h29 from xI k_X5_leafWorth_48 (And.intro rfl v33))))))))))))))))))))))))) (fun c37 => have v39 := v40.2 c37; (And.intro (fun c23 => have v25 := v39.1 c23; (show wp mX5_leafWorth 2 rc rs Q 49 [some (vr a0), some (vr a1), some (vi x2)] [] h from xcS k_X5_leafWorth_49 s_X5_leafWorth_62 (And.intro (qu_o hL hA0) (Exists.intro (a0 + 2) (And.intro (qu_r1 hL hA0) (And.intro (sdI (qu_a1 hL hA0) c1) (And.intro (qu_o hL hA0) (Exists.intro (a0 + 3) (And.intro (qu_r2 hL hA0) (And.intro (sdI (qu_a2 hL hA0) c1) (Exists.elim v25 (fun P18 v19 => (Exists.intro [vr a1, vi (iH h (a0 + 2) x2.toNat), vi (iH h (a0 + 3) x2.toNat)] (Exists.intro [] (And.intro (And.intro rfl (And.intro rfl (Nat.le_of_ble_eq_true rfl))) (Exists.intro 1 (Exists.intro 0 (Exists.intro 0 (Exists.intro (QI P18) (And.intro v19.1 (And.intro (And.intro (by decide) (And.intro (Nat.zero_le _) (Nat.zero_le _))) (eQI (fun r17 h16 q22 e21 => have v20 := v19.2 r17 h16 q22 e21; have hL := v20.1; have v20 := v20.2; have hA1 := v20.1; have v20 := v20.2; (show wp mX5_leafWorth 2 rc rs Q 65 [some (vr a0), some (vr a1), some (vi x2)] [vi r17] h16 from xI k_X5_leafWorth_65 (And.intro rfl v20))))))))))))))))))))))))) (fun c24 => have v26 := v39.2 c24; (show wp mX5_leafWorth 2 rc rs Q 66 [some (vr a0), some (vr a1), some (vi x2)] [] h from xcV k_X5_leafWorth_66 s_X5_leafWorth_86 (And.intro (qu_o hL hA0) (Exists.intro (a0 + 3) (And.intro (qu_r2 hL hA0) (And.intro (sdI (qu_a2 hL hA0) c1) (And.intro (qu_o hL hA0) (Exists.intro (a0 + 2) (And.intro (qu_r1 hL hA0) (And.intro (sdI (qu_a1 hL hA0) c1) (And.intro (qu_o hL hA0) (Exists.intro (a0 + 3) (And.intro (qu_r2 hL hA0) (And.intro (sdI (qu_a2 hL hA0) c1) (Exists.elim v26 (fun P7 v10 => (Exists.intro [vr a1, vi (iH h (a0 + 2) x2.toNat), vi (iH h (a0 + 3) x2.toNat)] (Exists.intro a0 (Exists.intro [vi (iH h (a0 + 3) x2.toNat)] (And.intro (And.intro rfl (And.intro rfl (Nat.le_of_ble_eq_true rfl))) (And.intro (qu_o hL hA0) (Exists.intro 0 (Exists.intro 0 (Exists.intro 0 (Exists.intro (QI P7) (And.intro v10.1 (And.intro (And.intro (by decide) (And.intro (Nat.zero_le _) (Nat.zero_le _))) (eQI (fun r6 h5 q13 e12 => have v11 := v10.2 r6 h5 q13 e12; have hL := v11.1; have v11 := v11.2; have hA1 := v11.1; have v11 := v11.2; (show wp mX5_leafWorth 2 rc rs Q 89 [some (vr a0), some (vr a1), some (vi x2)] [vi r6, vi (iH h (a0 + 3) x2.toNat)] h5 from xI k_X5_leafWorth_89 (have c8 := v11.1; have v9 := v11.2; (And.intro c8 (And.intro rfl v9))))))))))))))))))))))))))))))))))))))))))
theorem e_X5_leafWorth {mc ms : Nat} {Q : Option AV → AH → Prop} {h : AH} {a0 a1 n1 : Nat} {x2 : Int} (hL : LayL h) (hA0 : iQu a0) (hA1 : a1 < nH h ∧ kH h a1 = (13, n1)) (hv : (0 ≤ x2 ∧ x2 < 64) ∧ (((iH h (a0 + 1) x2.toNat) = 0 → (∃ P31 : Int → AH → Prop, Ct 0 0 0 mX5_placesBetween [vr a1, vi (iH h (a0 + 2) x2.toNat), vi (iH h (a0 + 3) x2.toNat)] h (QI P31) ∧ ∀ (r30 : Int) (h29 : AH), (-2147483648 ≤ r30 ∧ r30 < 2147483648) → P31 r30 h29 → LayL h29 ∧ (a1 < nH h29 ∧ kH h29 a1 = (13, n1)) ∧ Q (some (vi r30)) h29)) ∧ ((iH h (a0 + 1) x2.toNat) ≠ 0 → (((iH h (a0 + 1) x2.toNat) = 1 → (∃ P18 : Int → AH → Prop, Ct 1 0 0 mX5_nearTwos [vr a1, vi (iH h (a0 + 2) x2.toNat), vi (iH h (a0 + 3) x2.toNat)] h (QI P18) ∧ ∀ (r17 : Int) (h16 : AH), (-2147483648 ≤ r17 ∧ r17 < 2147483648) → P18 r17 h16 → LayL h16 ∧ (a1 < nH h16 ∧ kH h16 a1 = (13, n1)) ∧ Q (some (vi r17)) h16)) ∧ ((iH h (a0 + 1) x2.toNat) ≠ 1 → (∃ P7 : Int → AH → Prop, Ct 0 0 0 mX5_phrasesIn [vr a0, vr a1, vi (iH h (a0 + 2) x2.toNat), vi (iH h (a0 + 3) x2.toNat)] h (QI P7) ∧ ∀ (r6 : Int) (h5 : AH), (-2147483648 ≤ r6 ∧ r6 < 2147483648) → P7 r6 h5 → LayL h5 ∧ (a1 < nH h5 ∧ kH h5 a1 = (13, n1)) ∧ (-2147483648 ≤ (iH h (a0 + 3) x2.toNat * r6) ∧ (iH h (a0 + 3) x2.toNat * r6) < 2147483648) ∧ Q (some (vi (iH h (a0 + 3) x2.toNat * r6))) h5)))))) : Ct 2 mc ms mX5_leafWorth [vr a0, vr a1, vi x2] h Q := Ct.of (by decide +kernel) (Nat.le_of_ble_eq_true rfl) (t_X5_leafWorth_0 hL hA0 hA1 hv)
theorem l_leafWorth {h g : AH} (hL : LayL h) {a b n : Nat} {q d : Int} {j : Nat} (ha : iQu a) (hc : cQry h g a q) (hw : cRow h g b n d) (hd : m_doc g d) (hj : j < m_nop g q) (h3 : m_row g q (q_pos (m_row g q) j) ≤ 3) : Ct 2 0 0 mX5_leafWorth [vr a, vr b, vi j] h (QI fun x h' => x = m_leaf g q d (q_pos (m_row g q) j) ∧ h' = h) := by
  obtain ⟨hq, e1, h2, hop⟩ := hc
  obtain ⟨ho, -, -, -⟩ := (m_nop_ok hq).2.2.2 j hj
  have h4 := hop j hj
  have hm : ∀ i, m_row g q i = iH g (1170 + q.toNat) i := fun i => rfl
  unfold m_leaf
  generalize q_pos (m_row g q) j = k at *
  generalize hr : m_row g q = r at *
  obtain ⟨o0, o1, o2, o3, o4⟩ := h4
  have hr0 := ho.1.1
  have hA := hw.1
  have hbb := v_bt_tb (g := g) (d := d) (b := r (k + 1)) (l := r (k + 2)) hd
  have hb6 := v_bt_tb (g := g) (d := d) (b := r (k + 1)) (l := 6) hd
  have w1 := ho.2.1
  refine e_X5_leafWorth hL ha hA ?_
  rw [Int.toNat_natCast]
  show _ ∧ (cT h a 1 j = 0 → _) ∧ (cT h a 1 j ≠ 0 → (cT h a 1 j = 1 → _) ∧ (cT h a 1 j ≠ 1 → _))
  refine ⟨by omega, fun c => ?_, fun c => ⟨fun c1 => ?_, fun c1 => ?_⟩⟩
  · refine ⟨_, l_placesBetween (lo := cT h a 2 j) (hi := cT h a 3 j) hw, fun x h' _ hx => ?_⟩
    obtain ⟨rfl, rfl⟩ := hx
    refine ⟨hL, hA, _, rfl, ?_, rfl⟩
    by_cases e : r k = 0
    · obtain ⟨q1, q2, q3⟩ := o0 e
      rw [if_pos e, q2, q3]
      exact hb6 (by omega) (Int.emod_one _)
    · have f1 : r k = 1 := by
        rcases (show r k = 1 ∨ r k = 2 ∨ r k = 3 by omega) with q | q | q
        · exact q
        · have := (o2 q).1; omega
        · have := (o3 q).1; omega
      obtain ⟨q1, q2, q3, q4⟩ := o1 f1
      rw [if_neg e, if_pos f1, q2, q3]
      exact hbb (by omega) q4
  · have e : r k = 2 := by
      rcases (show r k = 0 ∨ r k = 1 ∨ r k = 2 ∨ r k = 3 by omega) with q | q | q | q
      · have := (o0 q).1; omega
      · have := (o1 q).1; omega
      · exact q
      · have := (o3 q).1; omega
    obtain ⟨q1, q2, q3⟩ := o2 e
    refine ⟨_, l_nearTwos (x := cT h a 2 j) (z := cT h a 3 j) hw, fun x h' _ hx => ?_⟩
    obtain ⟨rfl, rfl⟩ := hx
    exact ⟨hL, hA, _, rfl, by rw [if_neg (by omega), if_neg (by omega), if_pos e, q2, q3], rfl⟩
  · have e : r k = 3 := by
      rcases (show r k = 0 ∨ r k = 1 ∨ r k = 2 ∨ r k = 3 by omega) with q | q | q | q
      · have := (o0 q).1; omega
      · have := (o1 q).1; omega
      · have := (o2 q).1; omega
      · exact q
    obtain ⟨q1, q2, f, q3, q5, q4⟩ := o3 e
    have h8 := ho.2.2.2.2 e
    have q2' : iH h (a + 3) j = r (k + 1) := q2
    have q3' : iH h (a + 2) j = f := q3
    rw [q2', q3']
    refine ⟨_, l_phrasesIn hL ha hw (by omega) q5, fun x h' _ hx => ?_⟩
    obtain ⟨rfl, rfl⟩ := hx
    have ev : v_ph g d (iH h' (a + 4)) f (r (k + 1)) = m_ph g d (1170 + q.toNat) ((k : Int) + 2) (r (k + 1)) := by
      unfold v_ph m_ph
      refine cnt_cg fun i _ => ?_
      unfold v_phP m_phP m_phE
      have q4' : ∀ i : Nat, (i : Int) < r (k + 1) → iH h' (a + 4) (f + i) = r (k + 2 + i) := q4
      constructor <;> intro w j hj
      · rw [w j hj, q4' j (by omega), show ((k : Int) + 2).toNat + j = k + 2 + j by omega]; exact hm _
      · rw [w j hj, q4' j (by omega), show ((k : Int) + 2).toNat + j = k + 2 + j by omega]; exact (hm _).symm
    have hp := m_ph_bd (a := 1170 + q.toNat) (f := (k : Int) + 2) hd h8.1
    have m1 : 0 ≤ r (k + 1) * m_ph g d (1170 + q.toNat) ((k : Int) + 2) (r (k + 1)) := Int.mul_nonneg (by omega) hp.1
    have m2 : r (k + 1) * m_ph g d (1170 + q.toNat) ((k : Int) + 2) (r (k + 1)) ≤ 6 * 12 := Int.mul_le_mul (by omega) hp.2 hp.1 (by omega)
    rw [ev]
    refine ⟨hL, hA, ?_⟩
    exact ⟨by omega, _, rfl, by rw [if_neg (by omega), if_neg (by omega), if_neg (by omega)], rfl⟩
theorem cQry_w {h g : AH} {a : Nat} {q : Int} {w : Nat → Int} (hc : cQry h g a q) : cQry (sW h (a + 5) w) g a q := cQry_cg (fun k => rW_ne (by omega)) (fun i _ _ k => rW_ne (by omega)) hc
theorem cRow_w {h g : AH} {a b n : Nat} {d : Int} {w : Nat → Int} (hc : cRow h g b n d) (hb : b ≠ a) : cRow (sW h a w) g b n d :=
  ⟨hc.1, hc.2.1, hc.2.2.1, fun i hi => by rw [rW_ne hb]; exact hc.2.2.2 i hi⟩
theorem l_op_k {T : Nat → Nat → Int} {p : Nat} {r : Nat → Int} {k : Nat} (h : l_op T p r k) (hr : 0 ≤ r k) : (T 1 p ≤ 2 ↔ r k ≤ 3) ∧ (4 ≤ r k → T 1 p = r k - 1) := by
  obtain ⟨o0, o1, o2, o3, o4⟩ := h
  refine ⟨?_, o4⟩
  rcases (show r k = 0 ∨ r k = 1 ∨ r k = 2 ∨ r k = 3 ∨ 4 ≤ r k by omega) with q | q | q | q | q
  · have := (o0 q).1; omega
  · have := (o1 q).1; omega
  · have := (o2 q).1; omega
  · have := (o3 q).1; omega
  · have := o4 q; omega
def b_X5_worthIn_0 : List IE := [(.iconst (-1), 1, (-1), 0, 0, 0), (.istore_n 2, 1, 0, 0, 2, 0), (.iconst 0, 1, 0, 0, 0, 0), (.istore_n 3, 1, 0, 0, 3, 0)]
theorem k_X5_worthIn_0 : ckB mX5_worthIn 5 0 b_X5_worthIn_0 4 = true := by decide +kernel
def b_X5_worthIn_4 : List IE := [(.iload_n 3, 1, 0, 0, 3, 0), (.aload_n 0, 1, 0, 0, 0, 0), (.getfield 27, 3, 0, 5, 3, 0)]
theorem k_X5_worthIn_4 : ckIc mX5_worthIn 5 4 b_X5_worthIn_4 9 3 156 165 12 = true := by decide +kernel
def b_X5_worthIn_12 : List IE := [(.aload_n 0, 1, 0, 0, 0, 0), (.getfield 9, 3, 0, 5, 0, 1), (.iload_n 3, 1, 0, 0, 3, 0), (.iaload, 1, 0, 0, 0, 0), (.istore 4, 2, 0, 0, 4, 0), (.iload 4, 2, 0, 0, 4, 0), (.iconst 2, 1, 2, 0, 0, 0)]
theorem k_X5_worthIn_12 : ckIc mX5_worthIn 5 12 b_X5_worthIn_12 23 4 32 55 26 = true := by decide +kernel
def b_X5_worthIn_26 : List IE := [(.iload_n 2, 1, 0, 0, 2, 0), (.iconst 1, 1, 1, 0, 0, 0), (.iadd, 1, 0, 0, 0, 0), (.aload_n 0, 1, 0, 0, 0, 0), (.getfield 24, 3, 0, 5, 6, 1), (.arraylength, 1, 0, 0, 0, 0)]
theorem k_X5_worthIn_26 : ckIc mX5_worthIn 5 26 b_X5_worthIn_26 34 3 21 55 37 = true := by decide +kernel
def b_X5_worthIn_37 : List IE := [(.iinc 2 1, 3, 1, 0, 2, 0), (.aload_n 0, 1, 0, 0, 0, 0), (.getfield 24, 3, 0, 5, 6, 1), (.iload_n 2, 1, 0, 0, 2, 0), (.aload_n 0, 1, 0, 0, 0, 0), (.aload_n 1, 1, 0, 0, 1, 0), (.iload_n 3, 1, 0, 0, 3, 0)]
theorem k_X5_worthIn_37 : ckB mX5_worthIn 5 37 b_X5_worthIn_37 48 = true := by decide +kernel
def b_X5_worthIn_51 : List IE := [(.iastore, 1, 0, 0, 0, 0)]
theorem k_X5_worthIn_51 : ckGo mX5_worthIn 5 51 b_X5_worthIn_51 52 107 159 = true := by decide +kernel
def b_X5_worthIn_55 : List IE := [(.iload 4, 2, 0, 0, 4, 0), (.iconst 3, 1, 3, 0, 0, 0)]
theorem k_X5_worthIn_55 : ckIc mX5_worthIn 5 55 b_X5_worthIn_55 58 1 30 88 61 = true := by decide +kernel
def b_X5_worthIn_61 : List IE := [(.iload_n 2, 1, 0, 0, 2, 0)]
theorem k_X5_worthIn_61 : ckIf mX5_worthIn 5 61 b_X5_worthIn_61 62 2 26 88 65 = true := by decide +kernel
def b_X5_worthIn_65 : List IE := [(.aload_n 0, 1, 0, 0, 0, 0), (.getfield 24, 3, 0, 5, 6, 1), (.iload_n 2, 1, 0, 0, 2, 0), (.aload_n 0, 1, 0, 0, 0, 0), (.getfield 24, 3, 0, 5, 6, 1), (.iload_n 2, 1, 0, 0, 2, 0), (.iaload, 1, 0, 0, 0, 0)]
theorem k_X5_worthIn_65 : ckIf mX5_worthIn 5 65 b_X5_worthIn_65 76 1 7 83 79 = true := by decide +kernel
def b_X5_worthIn_79 : List IE := [(.iconst 1, 1, 1, 0, 0, 0)]
theorem k_X5_worthIn_79 : ckGo mX5_worthIn 5 79 b_X5_worthIn_79 80 4 84 = true := by decide +kernel
def b_X5_worthIn_83 : List IE := [(.iconst 0, 1, 0, 0, 0, 0), (.iastore, 1, 0, 0, 0, 0)]
theorem k_X5_worthIn_83 : ckGo mX5_worthIn 5 83 b_X5_worthIn_83 85 74 159 = true := by decide +kernel
def b_X5_worthIn_84 : List IE := [(.iastore, 1, 0, 0, 0, 0)]
theorem k_X5_worthIn_84 : ckGo mX5_worthIn 5 84 b_X5_worthIn_84 85 74 159 = true := by decide +kernel
def b_X5_worthIn_88 : List IE := [(.iload_n 2, 1, 0, 0, 2, 0), (.iconst 1, 1, 1, 0, 0, 0)]
theorem k_X5_worthIn_88 : ckIc mX5_worthIn 5 88 b_X5_worthIn_88 90 2 69 159 93 = true := by decide +kernel
def b_X5_worthIn_93 : List IE := [(.iinc 2 (-1), 3, (-1), 0, 2, 0), (.iload 4, 2, 0, 0, 4, 0), (.iconst 5, 1, 5, 0, 0, 0)]
theorem k_X5_worthIn_93 : ckIc mX5_worthIn 5 93 b_X5_worthIn_93 99 0 23 122 102 = true := by decide +kernel
def b_X5_worthIn_102 : List IE := [(.aload_n 0, 1, 0, 0, 0, 0), (.getfield 24, 3, 0, 5, 6, 1), (.iload_n 2, 1, 0, 0, 2, 0), (.iaload, 1, 0, 0, 0, 0)]
theorem k_X5_worthIn_102 : ckIf mX5_worthIn 5 102 b_X5_worthIn_102 108 0 18 126 111 = true := by decide +kernel
def b_X5_worthIn_111 : List IE := [(.aload_n 0, 1, 0, 0, 0, 0), (.getfield 24, 3, 0, 5, 6, 1), (.iload_n 2, 1, 0, 0, 2, 0), (.iconst 1, 1, 1, 0, 0, 0), (.iadd, 1, 0, 0, 0, 0), (.iaload, 1, 0, 0, 0, 0)]
theorem k_X5_worthIn_111 : ckIf mX5_worthIn 5 111 b_X5_worthIn_111 119 0 7 126 122 = true := by decide +kernel
def b_X5_worthIn_122 : List IE := [(.iconst 1, 1, 1, 0, 0, 0)]
theorem k_X5_worthIn_122 : ckGo mX5_worthIn 5 122 b_X5_worthIn_122 123 4 127 = true := by decide +kernel
def b_X5_worthIn_126 : List IE := [(.iconst 0, 1, 0, 0, 0, 0), (.istore 5, 2, 0, 0, 5, 0)]
theorem k_X5_worthIn_126 : ckB mX5_worthIn 5 126 b_X5_worthIn_126 129 = true := by decide +kernel
def b_X5_worthIn_127 : List IE := [(.istore 5, 2, 0, 0, 5, 0)]
theorem k_X5_worthIn_127 : ckB mX5_worthIn 5 127 b_X5_worthIn_127 129 = true := by decide +kernel
def b_X5_worthIn_129 : List IE := [(.aload_n 0, 1, 0, 0, 0, 0), (.getfield 24, 3, 0, 5, 6, 1), (.iload_n 2, 1, 0, 0, 2, 0), (.iload 5, 2, 0, 0, 5, 0)]
theorem k_X5_worthIn_129 : ckIf mX5_worthIn 5 129 b_X5_worthIn_129 136 0 21 157 139 = true := by decide +kernel
def b_X5_worthIn_139 : List IE := [(.aload_n 0, 1, 0, 0, 0, 0), (.getfield 24, 3, 0, 5, 6, 1), (.iload_n 2, 1, 0, 0, 2, 0), (.iaload, 1, 0, 0, 0, 0), (.aload_n 0, 1, 0, 0, 0, 0), (.getfield 24, 3, 0, 5, 6, 1), (.iload_n 2, 1, 0, 0, 2, 0), (.iconst 1, 1, 1, 0, 0, 0), (.iadd, 1, 0, 0, 0, 0), (.iaload, 1, 0, 0, 0, 0), (.iadd, 1, 0, 0, 0, 0)]
theorem k_X5_worthIn_139 : ckGo mX5_worthIn 5 139 b_X5_worthIn_139 154 4 158 = true := by decide +kernel
def b_X5_worthIn_157 : List IE := [(.iconst 0, 1, 0, 0, 0, 0), (.iastore, 1, 0, 0, 0, 0)]
theorem k_X5_worthIn_157 : ckB mX5_worthIn 5 157 b_X5_worthIn_157 159 = true := by decide +kernel
def b_X5_worthIn_158 : List IE := [(.iastore, 1, 0, 0, 0, 0)]
theorem k_X5_worthIn_158 : ckB mX5_worthIn 5 158 b_X5_worthIn_158 159 = true := by decide +kernel
def b_X5_worthIn_159 : List IE := [(.iinc 3 1, 3, 1, 0, 3, 0)]
theorem k_X5_worthIn_159 : ckGo mX5_worthIn 5 159 b_X5_worthIn_159 162 (-158) 4 = true := by decide +kernel
def b_X5_worthIn_165 : List IE := [(.iload_n 2, 1, 0, 0, 2, 0)]
theorem k_X5_worthIn_165 : ckIf mX5_worthIn 5 165 b_X5_worthIn_165 166 3 7 173 169 = true := by decide +kernel
def b_X5_worthIn_169 : List IE := [(.iconst 0, 1, 0, 0, 0, 0)]
theorem k_X5_worthIn_169 : ckGo mX5_worthIn 5 169 b_X5_worthIn_169 170 15 185 = true := by decide +kernel
def b_X5_worthIn_173 : List IE := [(.aload_n 0, 1, 0, 0, 0, 0), (.getfield 24, 3, 0, 5, 6, 1), (.iconst 0, 1, 0, 0, 0, 0), (.iaload, 1, 0, 0, 0, 0), (.sipush 999, 3, 999, 0, 0, 0)]
theorem k_X5_worthIn_173 : ckB mX5_worthIn 5 173 b_X5_worthIn_173 182 = true := by decide +kernel
def b_X5_worthIn_185 : List IE := []
theorem k_X5_worthIn_185 : ckI mX5_worthIn 5 185 b_X5_worthIn_185 185 = true := by decide +kernel
theorem s_X5_worthIn_48 : cV mX5_worthIn 48 mX5_leafWorth 38 2 5 := ⟨by decide +kernel, ⟨ml_X5_leafWorth, li_RX5_38, im_X5_leafWorth, se_X5_leafWorth⟩, ⟨by decide +kernel, by decide +kernel⟩, by decide +kernel⟩
theorem s_X5_worthIn_182 : cMx mX5_worthIn 182 42 Lib.Math.min.name Lib.Math.min.code 2 := ⟨by decide +kernel, gt_ok (List.mem_of_getElem? (i := 504) (by decide +kernel)) (by decide +kernel), gt_ok (List.mem_of_getElem? (i := 505) (by decide +kernel)) (by decide +kernel), gt_ok (List.mem_of_getElem? (i := 103) (by decide +kernel)) (by decide +kernel), gt_ok (List.mem_of_getElem? (i := 506) (by decide +kernel)) (by decide +kernel)⟩
theorem t_X5_worthIn_0 {rc rs : Nat} {Q : Option AV → AH → Prop} {h : AH} {a0 a1 n1 : Nat} (hL : LayL h) (hA0 : iQu a0) (hA1 : a1 < nH h ∧ kH h a1 = (13, n1)) (hv : wp mX5_worthIn 3 rc rs Q 4 [some (vr a0), some (vr a1), some (vi (-1)), some (vi 0), none, none] [] h) : wp mX5_worthIn 3 rc rs Q 0 [some (vr a0), some (vr a1), none, none, none, none] [] h :=
  (show wp mX5_worthIn 3 rc rs Q 0 [some (vr a0), some (vr a1), none, none, none, none] [] h from xB k_X5_worthIn_0 (And.intro rfl (And.intro rfl hv)))
theorem e_X5_worthIn {mc ms : Nat} {Q : Option AV → AH → Prop} {h : AH} {a0 a1 n1 : Nat} (hL : LayL h) (hA0 : iQu a0) (hA1 : a1 < nH h ∧ kH h a1 = (13, n1)) (hv : wp mX5_worthIn 3 mc ms Q 4 [some (vr a0), some (vr a1), some (vi (-1)), some (vi 0), none, none] [] h) : Ct 3 mc ms mX5_worthIn [vr a0, vr a1] h Q := Ct.of (by decide +kernel) (Nat.le_of_ble_eq_true rfl) (t_X5_worthIn_0 hL hA0 hA1 hv)
theorem t_X5_worthIn_4 {rc rs : Nat} {Q : Option AV → AH → Prop} {h : AH} {a0 a1 n1 : Nat} {x2 x3 : Int} (hL : LayL h) (hA0 : iQu a0) (hA1 : a1 < nH h ∧ kH h a1 = (13, n1)) (hv : (((iH h a0 3) ≤ x3 → ((0 ≤ x2 → Q (some (vi (min (iH h (a0 + 5) 0) 999))) h) ∧ (x2 < 0 → Q (some (vi 0)) h))) ∧ (x3 < (iH h a0 3) → (0 ≤ x3 ∧ x3 < 64) ∧ ((2 < (iH h (a0 + 1) x3.toNat) → wp mX5_worthIn 3 rc rs Q 55 [some (vr a0), some (vr a1), some (vi x2), some (vi x3), some (vi (iH h (a0 + 1) x3.toNat)), none] [] h) ∧ ((iH h (a0 + 1) x3.toNat) ≤ 2 → (-2147483648 ≤ (x2 + 1) ∧ (x2 + 1) < 2147483648) ∧ ((16 ≤ (x2 + 1) → wp mX5_worthIn 3 rc rs Q 55 [some (vr a0), some (vr a1), some (vi x2), some (vi x3), some (vi (iH h (a0 + 1) x3.toNat)), none] [] h) ∧ ((x2 + 1) < 16 → (∃ P22 : Int → AH → Prop, Ct 2 0 0 mX5_leafWorth [vr a0, vr a1, vi x3] h (QI P22) ∧ ∀ (r21 : Int) (h20 : AH), (-2147483648 ≤ r21 ∧ r21 < 2147483648) → P22 r21 h20 → LayL h20 ∧ (a1 < nH h20 ∧ kH h20 a1 = (13, n1)) ∧ (0 ≤ (x2 + 1) ∧ (x2 + 1) < 16) ∧ wp mX5_worthIn 3 rc rs Q 159 [some (vr a0), some (vr a1), some (vi (x2 + 1)), some (vi x3), none, none] [] (sI h20 (a0 + 5) ((x2 + 1).toNat) r21))))))))) : wp mX5_worthIn 3 rc rs Q 4 [some (vr a0), some (vr a1), some (vi x2), some (vi x3), none, none] [] h :=
  (show wp mX5_worthIn 3 rc rs Q 4 [some (vr a0), some (vr a1), some (vi x2), some (vi x3), none, none] [] h from xIc k_X5_worthIn_4 (And.intro (qu_o hL hA0) (And.intro (fun c1 => have v3 := hv.1 c1; (show wp mX5_worthIn 3 rc rs Q 165 [some (vr a0), some (vr a1), some (vi x2), some (vi x3), none, none] [] h from xIf k_X5_worthIn_165 (And.intro (fun c5 => have v7 := v3.1 c5; (show wp mX5_worthIn 3 rc rs Q 173 [some (vr a0), some (vr a1), some (vi x2), some (vi x3), none, none] [] h from xMin k_X5_worthIn_173 s_X5_worthIn_182 (And.intro (qu_o hL hA0) (Exists.intro (a0 + 5) (And.intro (qu_r6 hL hA0) (And.intro (sdI (qu_a6 hL hA0) (by decide)) (And.intro (And.intro (Nat.le_of_ble_eq_true rfl) (Nat.le_of_ble_eq_true rfl)) (show wp mX5_worthIn 3 rc rs Q 185 [some (vr a0), some (vr a1), some (vi x2), some (vi x3), none, none] [vi (min (iH h (a0 + 5) 0) 999)] h from xI k_X5_worthIn_185 (And.intro rfl v7))))))))) (fun c6 => have v8 := v3.2 (Int.not_le.mp c6); (show wp mX5_worthIn 3 rc rs Q 169 [some (vr a0), some (vr a1), some (vi x2), some (vi x3), none, none] [] h from xGo k_X5_worthIn_169 (show wp mX5_worthIn 3 rc rs Q 185 [some (vr a0), some (vr a1), some (vi x2), some (vi x3), none, none] [vi 0] h from xI k_X5_worthIn_185 (And.intro rfl v8))))))) (fun c2 => have v4 := hv.2 (Int.not_le.mp c2); (show wp mX5_worthIn 3 rc rs Q 12 [some (vr a0), some (vr a1), some (vi x2), some (vi x3), none, none] [] h from xIc k_X5_worthIn_12 (And.intro (qu_o hL hA0) (Exists.intro (a0 + 1) (And.intro (qu_r0 hL hA0) (have c9 := v4.1; have v30 := v4.2; (And.intro (sdI (qu_a0 hL hA0) c9) (And.intro rfl (And.intro (fun c10 => have v12 := v30.1 c10; v12) (fun c11 => have v13 := v30.2 (Int.not_lt.mp c11); (show wp mX5_worthIn 3 rc rs Q 26 [some (vr a0), some (vr a1), some (vi x2), some (vi x3), some (vi (iH h (a0 + 1) x3.toNat)), none] [] h from xIc k_X5_worthIn_26 (have c14 := v13.1; have v29 := v13.2; (And.intro c14 (And.intro (qu_o hL hA0) (Exists.intro (a0 + 5) (And.intro (qu_r6 hL hA0) (And.intro (sdL (qu_a6 hL hA0) (by decide)) (len_r (qu_a6 hL hA0) (And.intro (fun c15 => have v17 := v29.1 c15; v17) (fun c16 => have v18 := v29.2 (Int.not_le.mp c16); (show wp mX5_worthIn 3 rc rs Q 37 [some (vr a0), some (vr a1), some (vi x2), some (vi x3), some (vi (iH h (a0 + 1) x3.toNat)), none] [] h from xcV k_X5_worthIn_37 s_X5_worthIn_48 (And.intro c14 (And.intro rfl (And.intro (qu_o hL hA0) (Exists.intro (a0 + 5) (And.intro (qu_r6 hL hA0) (Exists.elim v18 (fun P22 v25 => (Exists.intro [vr a1, vi x3] (Exists.intro a0 (Exists.intro [vi (x2 + 1), vr (a0 + 5)] (And.intro (And.intro rfl (And.intro rfl (Nat.le_of_ble_eq_true rfl))) (And.intro (qu_o hL hA0) (Exists.intro 2 (Exists.intro 0 (Exists.intro 0 (Exists.intro (QI P22) (And.intro v25.1 (And.intro (And.intro (by decide) (And.intro (Nat.zero_le _) (Nat.zero_le _))) (eQI (fun r21 h20 q28 e27 => have v26 := v25.2 r21 h20 q28 e27; have hL := v26.1; have v26 := v26.2; have hA1 := v26.1; have v26 := v26.2; (show wp mX5_worthIn 3 rc rs Q 51 [some (vr a0), some (vr a1), some (vi (x2 + 1)), some (vi x3), some (vi (iH h (a0 + 1) x3.toNat)), none] [vi r21, vi (x2 + 1), vr (a0 + 5)] h20 from xGo k_X5_worthIn_51 (have c23 := v26.1; have v24 := v26.2; (And.intro (sdI (qu_a6 hL hA0) c23) (w_fg [true, true, true, true, false, false] v24))))))))))))))))))))))))))))))))))))))))))))))))
theorem t_X5_worthIn_55 {rc rs : Nat} {Q : Option AV → AH → Prop} {h : AH} {a0 a1 n1 : Nat} {x2 x3 x4 : Int} (hL : LayL h) (hA0 : iQu a0) (hA1 : a1 < nH h ∧ kH h a1 = (13, n1)) (hv : ((x4 ≠ 3 → wp mX5_worthIn 3 rc rs Q 88 [some (vr a0), some (vr a1), some (vi x2), some (vi x3), some (vi x4), none] [] h) ∧ (x4 = 3 → ((x2 < 0 → wp mX5_worthIn 3 rc rs Q 88 [some (vr a0), some (vr a1), some (vi x2), some (vi x3), some (vi x4), none] [] h) ∧ (0 ≤ x2 → (0 ≤ x2 ∧ x2 < 16) ∧ (((iH h (a0 + 5) x2.toNat) ≠ 0 → wp mX5_worthIn 3 rc rs Q 159 [some (vr a0), some (vr a1), some (vi x2), some (vi x3), none, none] [] (sI h (a0 + 5) x2.toNat 0)) ∧ ((iH h (a0 + 5) x2.toNat) = 0 → wp mX5_worthIn 3 rc rs Q 159 [some (vr a0), some (vr a1), some (vi x2), some (vi x3), none, none] [] (sI h (a0 + 5) x2.toNat 1)))))))) : wp mX5_worthIn 3 rc rs Q 55 [some (vr a0), some (vr a1), some (vi x2), some (vi x3), some (vi x4), none] [] h :=
  (show wp mX5_worthIn 3 rc rs Q 55 [some (vr a0), some (vr a1), some (vi x2), some (vi x3), some (vi x4), none] [] h from xIc k_X5_worthIn_55 (And.intro (fun c1 => have v3 := hv.1 c1; v3) (fun c2 => have v4 := hv.2 (Decidable.not_not.mp c2); (show wp mX5_worthIn 3 rc rs Q 61 [some (vr a0), some (vr a1), some (vi x2), some (vi x3), some (vi x4), none] [] h from xIf k_X5_worthIn_61 (And.intro (fun c5 => have v7 := v4.1 c5; v7) (fun c6 => have v8 := v4.2 (Int.not_lt.mp c6); (show wp mX5_worthIn 3 rc rs Q 65 [some (vr a0), some (vr a1), some (vi x2), some (vi x3), some (vi x4), none] [] h from xIf k_X5_worthIn_65 (And.intro (qu_o hL hA0) (Exists.intro (a0 + 5) (And.intro (qu_r6 hL hA0) (And.intro (qu_o hL hA0) (Exists.intro (a0 + 5) (And.intro (qu_r6 hL hA0) (have c9 := v8.1; have v16 := v8.2; (And.intro (sdI (qu_a6 hL hA0) c9) (And.intro (fun c10 => have v12 := v16.1 c10; (show wp mX5_worthIn 3 rc rs Q 83 [some (vr a0), some (vr a1), some (vi x2), some (vi x3), some (vi x4), none] [vi x2, vr (a0 + 5)] h from xGo k_X5_worthIn_83 (And.intro (sdI (qu_a6 hL hA0) c9) (w_fg [true, true, true, true, false, false] v12)))) (fun c11 => have v13 := v16.2 (Decidable.not_not.mp c11); (show wp mX5_worthIn 3 rc rs Q 79 [some (vr a0), some (vr a1), some (vi x2), some (vi x3), some (vi x4), none] [vi x2, vr (a0 + 5)] h from xGo k_X5_worthIn_79 (show wp mX5_worthIn 3 rc rs Q 84 [some (vr a0), some (vr a1), some (vi x2), some (vi x3), some (vi x4), none] [vi 1, vi x2, vr (a0 + 5)] h from xGo k_X5_worthIn_84 (And.intro (sdI (qu_a6 hL hA0) c9) (w_fg [true, true, true, true, false, false] v13)))))))))))))))))))))
theorem t_X5_worthIn_88 {rc rs : Nat} {Q : Option AV → AH → Prop} {h : AH} {a0 a1 n1 : Nat} {x2 x3 x4 : Int} (hL : LayL h) (hA0 : iQu a0) (hA1 : a1 < nH h ∧ kH h a1 = (13, n1)) (hv : ((x2 < 1 → wp mX5_worthIn 3 rc rs Q 159 [some (vr a0), some (vr a1), some (vi x2), some (vi x3), none, none] [] h) ∧ (1 ≤ x2 → (-2147483648 ≤ (x2 + (-1)) ∧ (x2 + (-1)) < 2147483648) ∧ ((x4 = 5 → wp mX5_worthIn 3 rc rs Q 129 [some (vr a0), some (vr a1), some (vi (x2 + (-1))), some (vi x3), none, some (vi 1)] [] h) ∧ (x4 ≠ 5 → (0 ≤ (x2 + (-1)) ∧ (x2 + (-1)) < 16) ∧ (((iH h (a0 + 5) ((x2 + (-1)).toNat)) = 0 → wp mX5_worthIn 3 rc rs Q 129 [some (vr a0), some (vr a1), some (vi (x2 + (-1))), some (vi x3), none, some (vi 0)] [] h) ∧ ((iH h (a0 + 5) ((x2 + (-1)).toNat)) ≠ 0 → (-2147483648 ≤ ((x2 + (-1)) + 1) ∧ ((x2 + (-1)) + 1) < 2147483648) ∧ (0 ≤ ((x2 + (-1)) + 1) ∧ ((x2 + (-1)) + 1) < 16) ∧ (((iH h (a0 + 5) (((x2 + (-1)) + 1).toNat)) = 0 → wp mX5_worthIn 3 rc rs Q 129 [some (vr a0), some (vr a1), some (vi (x2 + (-1))), some (vi x3), none, some (vi 0)] [] h) ∧ ((iH h (a0 + 5) (((x2 + (-1)) + 1).toNat)) ≠ 0 → wp mX5_worthIn 3 rc rs Q 129 [some (vr a0), some (vr a1), some (vi (x2 + (-1))), some (vi x3), none, some (vi 1)] [] h))))))))) : wp mX5_worthIn 3 rc rs Q 88 [some (vr a0), some (vr a1), some (vi x2), some (vi x3), some (vi x4), none] [] h :=
  (show wp mX5_worthIn 3 rc rs Q 88 [some (vr a0), some (vr a1), some (vi x2), some (vi x3), some (vi x4), none] [] h from xIc k_X5_worthIn_88 (And.intro (fun c1 => have v3 := hv.1 c1; (w_fg [true, true, true, true, false, false] v3)) (fun c2 => have v4 := hv.2 (Int.not_lt.mp c2); (show wp mX5_worthIn 3 rc rs Q 93 [some (vr a0), some (vr a1), some (vi x2), some (vi x3), some (vi x4), none] [] h from xIc k_X5_worthIn_93 (have c5 := v4.1; have v24 := v4.2; (And.intro c5 (And.intro rfl (And.intro (fun c6 => have v8 := v24.1 c6; (show wp mX5_worthIn 3 rc rs Q 122 [some (vr a0), some (vr a1), some (vi (x2 + (-1))), some (vi x3), some (vi x4), none] [] h from xGo k_X5_worthIn_122 (show wp mX5_worthIn 3 rc rs Q 127 [some (vr a0), some (vr a1), some (vi (x2 + (-1))), some (vi x3), some (vi x4), none] [vi 1] h from xB k_X5_worthIn_127 (And.intro rfl (w_fg [true, true, true, true, false, true] v8))))) (fun c7 => have v9 := v24.2 c7; (show wp mX5_worthIn 3 rc rs Q 102 [some (vr a0), some (vr a1), some (vi (x2 + (-1))), some (vi x3), some (vi x4), none] [] h from xIf k_X5_worthIn_102 (And.intro (qu_o hL hA0) (Exists.intro (a0 + 5) (And.intro (qu_r6 hL hA0) (have c10 := v9.1; have v23 := v9.2; (And.intro (sdI (qu_a6 hL hA0) c10) (And.intro (fun c11 => have v13 := v23.1 c11; (show wp mX5_worthIn 3 rc rs Q 126 [some (vr a0), some (vr a1), some (vi (x2 + (-1))), some (vi x3), some (vi x4), none] [] h from xB k_X5_worthIn_126 (And.intro rfl (w_fg [true, true, true, true, false, true] v13)))) (fun c12 => have v14 := v23.2 c12; (show wp mX5_worthIn 3 rc rs Q 111 [some (vr a0), some (vr a1), some (vi (x2 + (-1))), some (vi x3), some (vi x4), none] [] h from xIf k_X5_worthIn_111 (And.intro (qu_o hL hA0) (Exists.intro (a0 + 5) (And.intro (qu_r6 hL hA0) (have c15 := v14.1; have v22 := v14.2; (And.intro c15 (have c16 := v22.1; have v21 := v22.2; (And.intro (sdI (qu_a6 hL hA0) c16) (And.intro (fun c17 => have v19 := v21.1 c17; (show wp mX5_worthIn 3 rc rs Q 126 [some (vr a0), some (vr a1), some (vi (x2 + (-1))), some (vi x3), some (vi x4), none] [] h from xB k_X5_worthIn_126 (And.intro rfl (w_fg [true, true, true, true, false, true] v19)))) (fun c18 => have v20 := v21.2 c18; (show wp mX5_worthIn 3 rc rs Q 122 [some (vr a0), some (vr a1), some (vi (x2 + (-1))), some (vi x3), some (vi x4), none] [] h from xGo k_X5_worthIn_122 (show wp mX5_worthIn 3 rc rs Q 127 [some (vr a0), some (vr a1), some (vi (x2 + (-1))), some (vi x3), some (vi x4), none] [vi 1] h from xB k_X5_worthIn_127 (And.intro rfl (w_fg [true, true, true, true, false, true] v20)))))))))))))))))))))))))))))))
theorem t_X5_worthIn_129 {rc rs : Nat} {Q : Option AV → AH → Prop} {h : AH} {a0 a1 n1 : Nat} {x2 x3 x5 : Int} (hL : LayL h) (hA0 : iQu a0) (hA1 : a1 < nH h ∧ kH h a1 = (13, n1)) (hv : ((x5 = 0 → (0 ≤ x2 ∧ x2 < 16) ∧ wp mX5_worthIn 3 rc rs Q 159 [some (vr a0), some (vr a1), some (vi x2), some (vi x3), none, none] [] (sI h (a0 + 5) x2.toNat 0)) ∧ (x5 ≠ 0 → (0 ≤ x2 ∧ x2 < 16) ∧ (-2147483648 ≤ (x2 + 1) ∧ (x2 + 1) < 2147483648) ∧ (0 ≤ (x2 + 1) ∧ (x2 + 1) < 16) ∧ (-2147483648 ≤ (iH h (a0 + 5) x2.toNat + iH h (a0 + 5) ((x2 + 1).toNat)) ∧ (iH h (a0 + 5) x2.toNat + iH h (a0 + 5) ((x2 + 1).toNat)) < 2147483648) ∧ wp mX5_worthIn 3 rc rs Q 159 [some (vr a0), some (vr a1), some (vi x2), some (vi x3), none, none] [] (sI h (a0 + 5) x2.toNat (iH h (a0 + 5) x2.toNat + iH h (a0 + 5) ((x2 + 1).toNat)))))) : wp mX5_worthIn 3 rc rs Q 129 [some (vr a0), some (vr a1), some (vi x2), some (vi x3), none, some (vi x5)] [] h :=
  (show wp mX5_worthIn 3 rc rs Q 129 [some (vr a0), some (vr a1), some (vi x2), some (vi x3), none, some (vi x5)] [] h from xIf k_X5_worthIn_129 (And.intro (qu_o hL hA0) (Exists.intro (a0 + 5) (And.intro (qu_r6 hL hA0) (And.intro (fun c1 => have v3 := hv.1 c1; (show wp mX5_worthIn 3 rc rs Q 157 [some (vr a0), some (vr a1), some (vi x2), some (vi x3), none, some (vi x5)] [vi x2, vr (a0 + 5)] h from xB k_X5_worthIn_157 (have c5 := v3.1; have v6 := v3.2; (And.intro (sdI (qu_a6 hL hA0) c5) (w_fg [true, true, true, true, false, false] v6))))) (fun c2 => have v4 := hv.2 c2; (show wp mX5_worthIn 3 rc rs Q 139 [some (vr a0), some (vr a1), some (vi x2), some (vi x3), none, some (vi x5)] [vi x2, vr (a0 + 5)] h from xGo k_X5_worthIn_139 (And.intro (qu_o hL hA0) (Exists.intro (a0 + 5) (And.intro (qu_r6 hL hA0) (have c7 := v4.1; have v15 := v4.2; (And.intro (sdI (qu_a6 hL hA0) c7) (And.intro (qu_o hL hA0) (Exists.intro (a0 + 5) (And.intro (qu_r6 hL hA0) (have c8 := v15.1; have v14 := v15.2; (And.intro c8 (have c9 := v14.1; have v13 := v14.2; (And.intro (sdI (qu_a6 hL hA0) c9) (have c10 := v13.1; have v12 := v13.2; (And.intro c10 (show wp mX5_worthIn 3 rc rs Q 158 [some (vr a0), some (vr a1), some (vi x2), some (vi x3), none, some (vi x5)] [vi (iH h (a0 + 5) x2.toNat + iH h (a0 + 5) ((x2 + 1).toNat)), vi x2, vr (a0 + 5)] h from xB k_X5_worthIn_158 (And.intro (sdI (qu_a6 hL hA0) c7) (w_fg [true, true, true, true, false, false] v12))))))))))))))))))))))))
theorem t_X5_worthIn_159 {rc rs : Nat} {Q : Option AV → AH → Prop} {h : AH} {a0 a1 n1 : Nat} {x2 x3 : Int} (hL : LayL h) (hA0 : iQu a0) (hA1 : a1 < nH h ∧ kH h a1 = (13, n1)) (hv : (-2147483648 ≤ (x3 + 1) ∧ (x3 + 1) < 2147483648) ∧ wp mX5_worthIn 3 rc rs Q 4 [some (vr a0), some (vr a1), some (vi x2), some (vi (x3 + 1)), none, none] [] h) : wp mX5_worthIn 3 rc rs Q 159 [some (vr a0), some (vr a1), some (vi x2), some (vi x3), none, none] [] h :=
  (show wp mX5_worthIn 3 rc rs Q 159 [some (vr a0), some (vr a1), some (vi x2), some (vi x3), none, none] [] h from xGo k_X5_worthIn_159 (have c1 := hv.1; have v2 := hv.2; (And.intro c1 (And.intro rfl v2))))
theorem l_worthIn {h g : AH} (hL : LayL h) {a b n : Nat} {q d : Int} (ha : iQu a) (hc : cQry h g a q) (hw : cRow h g b n d) (hd : m_doc g d) (hb : 88 < b) : Ct 3 0 0 mX5_worthIn [vr a, vr b] h (QI fun x h' => x = m_worth g q d ∧ ∃ w, h' = sW h (a + 5) w) := by
  have hq := hc.1
  have hok := m_nop_ok hq
  have hab : b ≠ a + 5 := by unfold iQu at ha; omega
  have hLw : ∀ w, LayL (sW h (a + 5) w) := fun w => hL
  refine e_X5_worthIn hL ha hw.1 ?_
  have main := up (P := fun j => ∀ w : Nat → Int, (∀ i : Nat, (i : Int) < q_ht (m_row g q) j → w i = m_sv g q d j i) → wp mX5_worthIn 3 0 0 (QI fun x h' => x = m_worth g q d ∧ ∃ w, h' = sW h (a + 5) w) 4 [some (vr a), some (vr b), some (vi (q_ht (m_row g q) j - 1)), some (vi j), none, none] [] (sW h (a + 5) w)) (m_nop g q) ?_ ?_
  · have := main (iH h (a + 5)) (fun i hi => by have : q_ht (m_row g q) 0 = 0 := rfl; omega)
    rw [sW_id (fun k => rfl)] at this
    exact this
  · intro w hww
    have e1 := hc.2.1
    refine t_X5_worthIn_4 (h := sW h (a + 5) w) (hLw w) ha (cRow_w hw hab).1 ?_
    rw [rW_ne (by omega), e1]
    refine ⟨fun _ => ⟨fun _ => ⟨_, rfl, ?_, w, rfl⟩, fun c => absurd c (by rw [hok.2.2.1]; omega)⟩, fun c => absurd c (by omega)⟩
    have : w 0 = m_sv g q d (m_nop g q) 0 := hww 0 (by rw [hok.2.2.1]; decide)
    rw [rW_same, this]
    unfold m_worth
    omega
  · intro j hj ih w hww
    obtain ⟨ho, hh, h4, h5⟩ := hok.2.2.2 j hj
    obtain ⟨b1, b2⟩ := m_sv_bd hq hd j (Nat.le_of_lt hj)
    have h2 := hc.2.2.1
    have hop : (iH h (a + 1) j ≤ 2 ↔ m_row g q (q_pos (m_row g q) j) ≤ 3) ∧ (4 ≤ m_row g q (q_pos (m_row g q) j) → iH h (a + 1) j = m_row g q (q_pos (m_row g q) j) - 1) := l_op_k (hc.2.2.2 j hj) ho.1.1
    have eh : q_ht (m_row g q) (j + 1) = q_ht (m_row g q) j + q_dt (m_row g q) (q_pos (m_row g q) j) := rfl
    have es : m_sv g q d (j + 1) = m_st g q d (q_pos (m_row g q) j) (q_ht (m_row g q) j).toNat (m_sv g q d j) := rfl
    have rR : ∀ (w : Nat → Int) k, iH (sW h (a + 5) w) (a + 1) k = iH h (a + 1) k := fun w k => rW_ne (by omega)
    have hA : ∀ w, b < nH (sW h (a + 5) w) ∧ kH (sW h (a + 5) w) b = (13, n) := fun w => hw.1
    -- the end of a step
    have fin : ∀ (w' : Nat → Int) (t' : Int), t' = q_ht (m_row g q) (j + 1) - 1 → (∀ i : Nat, (i : Int) < q_ht (m_row g q) (j + 1) → w' i = m_sv g q d (j + 1) i) → wp mX5_worthIn 3 0 0 (QI fun x h' => x = m_worth g q d ∧ ∃ w, h' = sW h (a + 5) w) 159 [some (vr a), some (vr b), some (vi t'), some (vi j), none, none] [] (sW h (a + 5) w') := by
      intro w' t' et hww'
      subst et
      refine t_X5_worthIn_159 (h := sW h (a + 5) w') (hLw w') ha (hA w') ⟨by omega, ?_⟩
      exact ih w' hww'
    have ha1 := hc.2.1
    refine t_X5_worthIn_4 (h := sW h (a + 5) w) (hLw w) ha (hA w) ?_
    rw [rW_ne (by omega), ha1, Int.toNat_natCast, rR]
    have leafC := fun h3 => l_leafWorth (g := g) (q := q) (d := d) (j := j) (hLw w) ha (cQry_w hc) (cRow_w (a := a + 5) (w := w) hw hab) hd hj h3
    generalize hk : q_pos (m_row g q) j = k at *
    generalize hv : m_sv g q d j = v at *
    generalize ht : q_ht (m_row g q) j = t at *
    unfold m_st at es
    unfold q_dt at eh
    refine ⟨fun c => absurd c (by omega), fun _ => ⟨by omega, fun c3 => ?_, fun c3 => ⟨by omega, fun c => absurd c (by omega), fun _ => ⟨_, leafC (hop.1.mp c3), fun x h' _ hx => ?_⟩⟩⟩⟩
    · have c4 : 4 ≤ m_row g q k := by have := hop.1; omega
      have eR := hop.2 c4
      rw [eR]
      refine t_X5_worthIn_55 (h := sW h (a + 5) w) (hLw w) ha (hA w) ?_
      rw [rW_same]
      rw [if_neg (by omega)] at es eh
      refine ⟨fun c5 => ?_, fun c5 => ⟨fun c => absurd c (by have := h4 (by omega); omega), fun c => ⟨by omega, ?_⟩⟩⟩
      · -- and, or
        have c6 : 5 ≤ m_row g q k := by omega
        have h7 := h5 c6
        have h60 := ho.1.2
        have ew : w (t - 1 + -1).toNat = v (t.toNat - 2) := by rw [show (t - 1 + -1).toNat = t.toNat - 2 by omega]; exact hww _ (by omega)
        have ew1 : w (t - 1 + -1 + 1).toNat = v (t.toNat - 1) := by rw [show (t - 1 + -1 + 1).toNat = t.toNat - 1 by omega]; exact hww _ (by omega)
        have g1 : v (t.toNat - 1) ≤ sumN v t.toNat := sumN_ge (fun i hi => b1 i (by omega)) (by omega)
        have g2 : v (t.toNat - 2) ≤ sumN v t.toNat := sumN_ge (fun i hi => b1 i (by omega)) (by omega)
        have g3 := b1 (t.toNat - 1) (by omega)
        have g4 := b1 (t.toNat - 2) (by omega)
        rw [if_neg (by omega)] at es eh
        have bin : ∀ x, m_sv g q d (j + 1) = updF v (t.toNat - 2) x → wp mX5_worthIn 3 0 0 (QI fun x h' => x = m_worth g q d ∧ ∃ w, h' = sW h (a + 5) w) 159 [some (vr a), some (vr b), some (vi (t - 1 + -1)), some (vi j), none, none] [] (sI (sW h (a + 5) w) (a + 5) (t - 1 + -1).toNat x) := by
          intro x hx
          rw [sI_sW (g' := updF w (t.toNat - 2) x) (fun i => by unfold updF; rw [show (t - 1 + -1).toNat = t.toNat - 2 by omega])]
          refine fin _ _ (by omega) fun i hi => ?_
          rw [hx]
          unfold updF
          split
          · rfl
          · exact hww i (by omega)
        have s129 : ∀ z : Int, (z = 0 → m_sv g q d (j + 1) = updF v (t.toNat - 2) 0) → (z ≠ 0 → m_sv g q d (j + 1) = updF v (t.toNat - 2) (v (t.toNat - 2) + v (t.toNat - 1))) → wp mX5_worthIn 3 0 0 (QI fun x h' => x = m_worth g q d ∧ ∃ w, h' = sW h (a + 5) w) 129 [some (vr a), some (vr b), some (vi (t - 1 + -1)), some (vi j), none, some (vi z)] [] (sW h (a + 5) w) := by
          intro z z1 z2
          refine t_X5_worthIn_129 (h := sW h (a + 5) w) (hLw w) ha (hA w) ?_
          rw [rW_same, rW_same, ew, ew1]
          exact ⟨fun c => ⟨by omega, bin _ (z1 c)⟩, fun c => ⟨by omega, by omega, by omega, by omega, bin _ (z2 c)⟩⟩
        refine t_X5_worthIn_88 (h := sW h (a + 5) w) (hLw w) ha (hA w) ?_
        rw [rW_same, rW_same, ew, ew1]
        refine ⟨fun c => absurd c (by omega), fun _ => ⟨by omega, fun c7 => s129 1 (fun c => absurd c (by decide)) (fun _ => by rw [es, if_neg (by omega)]), fun c7 => ⟨by omega, fun c8 => s129 0 (fun _ => by rw [es, if_pos (by omega), if_pos c8]) (fun c => absurd rfl c), fun c8 => ⟨by omega, by omega, fun c9 => s129 0 (fun _ => by rw [es, if_pos (by omega), if_neg c8, if_pos c9]) (fun c => absurd rfl c), fun c9 => s129 1 (fun c => absurd c (by decide)) (fun _ => by rw [es, if_pos (by omega), if_neg c8, if_neg c9])⟩⟩⟩⟩
      · -- not
        have h7 := h4 (by omega)
        rw [if_pos (by omega)] at es eh
        have ew : w (t - 1).toNat = v (t.toNat - 1) := by rw [show (t - 1).toNat = t.toNat - 1 by omega]; exact hww _ (by omega)
        have nots : ∀ x, x = (if v (t.toNat - 1) = 0 then 1 else 0) → wp mX5_worthIn 3 0 0 (QI fun x h' => x = m_worth g q d ∧ ∃ w, h' = sW h (a + 5) w) 159 [some (vr a), some (vr b), some (vi (t - 1)), some (vi j), none, none] [] (sI (sW h (a + 5) w) (a + 5) (t - 1).toNat x) := by
          intro x hx
          rw [sI_sW (g' := updF w (t.toNat - 1) x) (fun i => by unfold updF; rw [show (t - 1).toNat = t.toNat - 1 by omega])]
          refine fin _ _ (by omega) fun i hi => ?_
          rw [es, hx]
          unfold updF
          split
          · rfl
          · exact hww i (by omega)
        rw [ew]
        exact ⟨fun c6 => nots 0 (by rw [if_neg c6]), fun c6 => nots 1 (by rw [if_pos c6])⟩
    · obtain ⟨rfl, rfl⟩ := hx
      have c4 := hop.1.mp c3
      rw [if_pos c4] at es eh
      refine ⟨hLw w, hA w, by omega, ?_⟩
      rw [show t - 1 + 1 = t by omega, sI_sW (g' := updF w t.toNat (m_leaf g q d k)) (fun i => rfl)]
      refine fin _ _ (by omega) fun i hi => ?_
      rw [es]
      unfold updF
      split
      · rfl
      · exact hww i (by omega)
