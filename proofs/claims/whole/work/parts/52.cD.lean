/-! THE CLASS: WHAT A QUERY IS WORTH -/
/-- a document's words in a row of the class -/
def cRow (h g : AH) (a n : Nat) (d : Int) : Prop := (a < nH h ∧ kH h a = (13, n)) ∧ (n : Int) = iH g 91 d.toNat ∧ n ≤ 12 ∧ ∀ i : Nat, i < n → iH h a i = iH g (93 + d.toNat) i
/-- one step of the class's rows at p against the reference's at k; T: steps, their two numbers, the phrase words -/
def l_op (T : Nat → Nat → Int) (p : Nat) (r : Nat → Int) (k : Nat) : Prop :=
  (r k = 0 → T 1 p = 0 ∧ T 2 p = r (k + 1) ∧ T 3 p = r (k + 1) + 1) ∧
  (r k = 1 → T 1 p = 0 ∧ T 2 p = r (k + 1) ∧ T 3 p = r (k + 1) + 27 ^ (6 - r (k + 2)).toNat ∧ r (k + 1) % 27 ^ (6 - r (k + 2)).toNat = 0) ∧
  (r k = 2 → T 1 p = 1 ∧ T 2 p = r (k + 1) ∧ T 3 p = r (k + 2)) ∧
  (r k = 3 → T 1 p = 2 ∧ T 3 p = r (k + 1) ∧ ∃ f : Nat, T 2 p = f ∧ (f : Int) + r (k + 1) ≤ 64 ∧ ∀ i : Nat, (i : Int) < r (k + 1) → T 4 (f + i) = r (k + 2 + i)) ∧
  (4 ≤ r k → T 1 p = r k - 1)
def cT (h : AH) (a : Nat) (i : Nat) : Nat → Int := iH h (a + i)
def cQry (h g : AH) (a : Nat) (q : Int) : Prop := m_qok g q ∧ iH h a 3 = (m_nop g q : Int) ∧ m_nop g q ≤ 64 ∧ ∀ j : Nat, j < m_nop g q → l_op (cT h a) j (m_row g q) (q_pos (m_row g q) j)
theorem l_op_cg {T T' : Nat → Nat → Int} {p : Nat} {r : Nat → Int} {k : Nat} (e : ∀ i, 1 ≤ i → i ≤ 4 → ∀ k, T' i k = T i k) (h : l_op T p r k) : l_op T' p r k := by
  obtain ⟨o0, o1, o2, o3, o4⟩ := h
  have f1 := e 1 (by omega) (by omega)
  have f2 := e 2 (by omega) (by omega)
  have f3 := e 3 (by omega) (by omega)
  have f4 := e 4 (by omega) (by omega)
  unfold l_op
  rw [f1, f2, f3]
  refine ⟨o0, o1, o2, fun c => ?_, o4⟩
  obtain ⟨p1, p2, f, p3, p4, p5⟩ := o3 c
  exact ⟨p1, p2, f, p3, p4, fun i hi => by rw [f4]; exact p5 i hi⟩
theorem cQry_cg {h h' g : AH} {a : Nat} {q : Int} (e0 : ∀ k, iH h' a k = iH h a k) (e : ∀ i, 1 ≤ i → i ≤ 4 → ∀ k, iH h' (a + i) k = iH h (a + i) k) (hc : cQry h g a q) : cQry h' g a q := by
  obtain ⟨q1, q2, q3, q4⟩ := hc
  exact ⟨q1, by rw [e0]; exact q2, q3, fun j hj => l_op_cg e (q4 j hj)⟩
section
noncomputable def v_bt (g : AH) (d lo hi : Int) : Int := cnt (fun k => lo ≤ iH g (93 + d.toNat) k ∧ iH g (93 + d.toNat) k < hi) (iH g 91 d.toNat).toNat
def v_phP (g : AH) (d : Int) (R : Nat → Int) (f n k : Nat) : Prop := ∀ i, i < n → iH g (93 + d.toNat) (k + i) = R (f + i)
noncomputable def v_ph (g : AH) (d : Int) (R : Nat → Int) (f : Nat) (n : Int) : Int := cnt (v_phP g d R f n.toNat) (iH g 91 d.toNat - n + 1).toNat
/-- words that begin so, as a range -/
theorem beg_rng {w b l : Int} (hw : 0 ≤ w) (hb : 0 ≤ b) (hd : b % 27 ^ (6 - l).toNat = 0) : m_beg w b l ↔ b ≤ w ∧ w < b + 27 ^ (6 - l).toNat := by
  unfold m_beg
  have hp : (0 : Int) < 27 ^ (6 - l).toNat := Int.pow_pos (by omega)
  generalize (27 : Int) ^ (6 - l).toNat = p at *
  have e1 := Int.emod_add_mul_ediv b p
  have e2 := Int.emod_add_mul_ediv w p
  have e3 := Int.emod_nonneg w (show p ≠ 0 by omega)
  have e4 := Int.emod_lt_of_pos w hp
  constructor
  · intro e; rw [e] at e2; omega
  · rintro ⟨q1, q2⟩
    have h1 : b / p ≤ w / p := Int.ediv_le_ediv hp q1
    have h2 : w / p < b / p + 1 := by
      rw [Int.ediv_lt_iff_lt_mul hp, Int.add_mul]
      rw [show b / p * p = p * (b / p) from Int.mul_comm _ _]
      omega
    omega
theorem v_bt_tb {g : AH} {d b l : Int} (hd : m_doc g d) (hb : 0 ≤ b) (hm : b % 27 ^ (6 - l).toNat = 0) : v_bt g d b (b + 27 ^ (6 - l).toNat) = m_tb g d b l := by
  unfold v_bt m_tb
  refine cnt_cg fun k hk => ?_
  have := hd.2.1
  have := hd.2.2 k (by omega)
  exact (beg_rng (by omega) hb hm).symm
end
def b_X5_placesBetween_0 : List IE := [(.iconst 0, 1, 0, 0, 0, 0), (.istore_n 3, 1, 0, 0, 3, 0), (.iconst 0, 1, 0, 0, 0, 0), (.istore 4, 2, 0, 0, 4, 0)]
theorem k_X5_placesBetween_0 : ckB mX5_placesBetween 5 0 b_X5_placesBetween_0 5 = true := by decide +kernel
def b_X5_placesBetween_5 : List IE := [(.iload 4, 2, 0, 0, 4, 0), (.aload_n 0, 1, 0, 0, 0, 0), (.arraylength, 1, 0, 0, 0, 0)]
theorem k_X5_placesBetween_5 : ckIc mX5_placesBetween 5 5 b_X5_placesBetween_5 9 3 28 37 12 = true := by decide +kernel
def b_X5_placesBetween_12 : List IE := [(.aload_n 0, 1, 0, 0, 0, 0), (.iload 4, 2, 0, 0, 4, 0), (.iaload, 1, 0, 0, 0, 0), (.iload_n 1, 1, 0, 0, 1, 0)]
theorem k_X5_placesBetween_12 : ckIc mX5_placesBetween 5 12 b_X5_placesBetween_12 17 2 14 31 20 = true := by decide +kernel
def b_X5_placesBetween_20 : List IE := [(.aload_n 0, 1, 0, 0, 0, 0), (.iload 4, 2, 0, 0, 4, 0), (.iaload, 1, 0, 0, 0, 0), (.iload_n 2, 1, 0, 0, 2, 0)]
theorem k_X5_placesBetween_20 : ckIc mX5_placesBetween 5 20 b_X5_placesBetween_20 25 3 6 31 28 = true := by decide +kernel
def b_X5_placesBetween_28 : List IE := [(.iinc 3 1, 3, 1, 0, 3, 0), (.iinc 4 1, 3, 1, 0, 4, 0)]
theorem k_X5_placesBetween_28 : ckGo mX5_placesBetween 5 28 b_X5_placesBetween_28 34 (-29) 5 = true := by decide +kernel
def b_X5_placesBetween_31 : List IE := [(.iinc 4 1, 3, 1, 0, 4, 0)]
theorem k_X5_placesBetween_31 : ckGo mX5_placesBetween 5 31 b_X5_placesBetween_31 34 (-29) 5 = true := by decide +kernel
def b_X5_placesBetween_37 : List IE := [(.iload_n 3, 1, 0, 0, 3, 0)]
theorem k_X5_placesBetween_37 : ckI mX5_placesBetween 5 37 b_X5_placesBetween_37 38 = true := by decide +kernel
theorem t_X5_placesBetween_0 {rc rs : Nat} {Q : Option AV → AH → Prop} {h : AH} {a0 n0 : Nat} {x1 x2 : Int} (hA0 : a0 < nH h ∧ kH h a0 = (13, n0)) (hv : wp mX5_placesBetween 0 rc rs Q 5 [some (vr a0), some (vi x1), some (vi x2), some (vi 0), some (vi 0)] [] h) : wp mX5_placesBetween 0 rc rs Q 0 [some (vr a0), some (vi x1), some (vi x2), none, none] [] h :=
  (show wp mX5_placesBetween 0 rc rs Q 0 [some (vr a0), some (vi x1), some (vi x2), none, none] [] h from xB k_X5_placesBetween_0 (And.intro rfl (And.intro rfl hv)))
theorem e_X5_placesBetween {mc ms : Nat} {Q : Option AV → AH → Prop} {h : AH} {a0 n0 : Nat} {x1 x2 : Int} (hA0 : a0 < nH h ∧ kH h a0 = (13, n0)) (hv : wp mX5_placesBetween 0 mc ms Q 5 [some (vr a0), some (vi x1), some (vi x2), some (vi 0), some (vi 0)] [] h) : Ct 0 mc ms mX5_placesBetween [vr a0, vi x1, vi x2] h Q := Ct.of (by decide +kernel) (Nat.le_of_ble_eq_true rfl) (t_X5_placesBetween_0 hA0 hv)
theorem t_X5_placesBetween_5 {rc rs : Nat} {Q : Option AV → AH → Prop} {h : AH} {a0 n0 : Nat} {x1 x2 x3 x4 : Int} (hA0 : a0 < nH h ∧ kH h a0 = (13, n0)) (hv : (n0 < 2147483648) ∧ (((n0 : Int) ≤ x4 → Q (some (vi x3)) h) ∧ (x4 < (n0 : Int) → (0 ≤ x4 ∧ x4 < n0) ∧ (((iH h a0 x4.toNat) < x1 → (-2147483648 ≤ (x4 + 1) ∧ (x4 + 1) < 2147483648) ∧ wp mX5_placesBetween 0 rc rs Q 5 [some (vr a0), some (vi x1), some (vi x2), some (vi x3), some (vi (x4 + 1))] [] h) ∧ (x1 ≤ (iH h a0 x4.toNat) → ((x2 ≤ (iH h a0 x4.toNat) → (-2147483648 ≤ (x4 + 1) ∧ (x4 + 1) < 2147483648) ∧ wp mX5_placesBetween 0 rc rs Q 5 [some (vr a0), some (vi x1), some (vi x2), some (vi x3), some (vi (x4 + 1))] [] h) ∧ ((iH h a0 x4.toNat) < x2 → (-2147483648 ≤ (x3 + 1) ∧ (x3 + 1) < 2147483648) ∧ (-2147483648 ≤ (x4 + 1) ∧ (x4 + 1) < 2147483648) ∧ wp mX5_placesBetween 0 rc rs Q 5 [some (vr a0), some (vi x1), some (vi x2), some (vi (x3 + 1)), some (vi (x4 + 1))] [] h))))))) : wp mX5_placesBetween 0 rc rs Q 5 [some (vr a0), some (vi x1), some (vi x2), some (vi x3), some (vi x4)] [] h :=
  (show wp mX5_placesBetween 0 rc rs Q 5 [some (vr a0), some (vi x1), some (vi x2), some (vi x3), some (vi x4)] [] h from xIc k_X5_placesBetween_5 (have c1 := hv.1; have v25 := hv.2; (And.intro (sdL hA0 (And.intro (by decide) (And.intro (by decide) c1))) (len_r hA0 (And.intro (fun c2 => have v4 := v25.1 c2; (show wp mX5_placesBetween 0 rc rs Q 37 [some (vr a0), some (vi x1), some (vi x2), some (vi x3), some (vi x4)] [] h from xI k_X5_placesBetween_37 (And.intro rfl v4))) (fun c3 => have v5 := v25.2 (Int.not_le.mp c3); (show wp mX5_placesBetween 0 rc rs Q 12 [some (vr a0), some (vi x1), some (vi x2), some (vi x3), some (vi x4)] [] h from xIc k_X5_placesBetween_12 (have c6 := v5.1; have v24 := v5.2; (And.intro (sdI hA0 c6) (And.intro (fun c7 => have v9 := v24.1 c7; (show wp mX5_placesBetween 0 rc rs Q 31 [some (vr a0), some (vi x1), some (vi x2), some (vi x3), some (vi x4)] [] h from xGo k_X5_placesBetween_31 (have c11 := v9.1; have v12 := v9.2; (And.intro c11 (And.intro rfl v12))))) (fun c8 => have v10 := v24.2 (Int.not_lt.mp c8); (show wp mX5_placesBetween 0 rc rs Q 20 [some (vr a0), some (vi x1), some (vi x2), some (vi x3), some (vi x4)] [] h from xIc k_X5_placesBetween_20 (And.intro (sdI hA0 c6) (And.intro (fun c14 => have v16 := v10.1 c14; (show wp mX5_placesBetween 0 rc rs Q 31 [some (vr a0), some (vi x1), some (vi x2), some (vi x3), some (vi x4)] [] h from xGo k_X5_placesBetween_31 (have c18 := v16.1; have v19 := v16.2; (And.intro c18 (And.intro rfl v19))))) (fun c15 => have v17 := v10.2 (Int.not_le.mp c15); (show wp mX5_placesBetween 0 rc rs Q 28 [some (vr a0), some (vi x1), some (vi x2), some (vi x3), some (vi x4)] [] h from xGo k_X5_placesBetween_28 (have c20 := v17.1; have v23 := v17.2; (And.intro c20 (And.intro rfl (have c21 := v23.1; have v22 := v23.2; (And.intro c21 (And.intro rfl v22))))))))))))))))))))))
def b_X5_nearTwos_0 : List IE := [(.iconst 0, 1, 0, 0, 0, 0), (.istore_n 3, 1, 0, 0, 3, 0), (.iconst 0, 1, 0, 0, 0, 0), (.istore 4, 2, 0, 0, 4, 0)]
theorem k_X5_nearTwos_0 : ckB mX5_nearTwos 5 0 b_X5_nearTwos_0 5 = true := by decide +kernel
def b_X5_nearTwos_5 : List IE := [(.iload 4, 2, 0, 0, 4, 0), (.aload_n 0, 1, 0, 0, 0, 0), (.arraylength, 1, 0, 0, 0, 0)]
theorem k_X5_nearTwos_5 : ckIc mX5_nearTwos 5 5 b_X5_nearTwos_5 9 3 71 80 12 = true := by decide +kernel
def b_X5_nearTwos_12 : List IE := [(.aload_n 0, 1, 0, 0, 0, 0), (.arraylength, 1, 0, 0, 0, 0), (.iconst 1, 1, 1, 0, 0, 0), (.isub, 1, 0, 0, 0, 0), (.iload 4, 2, 0, 0, 4, 0), (.iconst 3, 1, 3, 0, 0, 0), (.iadd, 1, 0, 0, 0, 0)]
theorem k_X5_nearTwos_12 : ckB mX5_nearTwos 5 12 b_X5_nearTwos_12 20 = true := by decide +kernel
def b_X5_nearTwos_23 : List IE := [(.istore 5, 2, 0, 0, 5, 0), (.iconst 0, 1, 0, 0, 0, 0), (.iload 4, 2, 0, 0, 4, 0), (.iconst 3, 1, 3, 0, 0, 0), (.isub, 1, 0, 0, 0, 0)]
theorem k_X5_nearTwos_23 : ckB mX5_nearTwos 5 23 b_X5_nearTwos_23 30 = true := by decide +kernel
def b_X5_nearTwos_33 : List IE := [(.istore 6, 2, 0, 0, 6, 0)]
theorem k_X5_nearTwos_33 : ckB mX5_nearTwos 5 33 b_X5_nearTwos_33 35 = true := by decide +kernel
def b_X5_nearTwos_35 : List IE := [(.iload 6, 2, 0, 0, 6, 0), (.iload 5, 2, 0, 0, 5, 0)]
theorem k_X5_nearTwos_35 : ckIc mX5_nearTwos 5 35 b_X5_nearTwos_35 39 4 35 74 42 = true := by decide +kernel
def b_X5_nearTwos_42 : List IE := [(.iload 4, 2, 0, 0, 4, 0), (.iload 6, 2, 0, 0, 6, 0)]
theorem k_X5_nearTwos_42 : ckIc mX5_nearTwos 5 42 b_X5_nearTwos_42 46 0 22 68 49 = true := by decide +kernel
def b_X5_nearTwos_49 : List IE := [(.aload_n 0, 1, 0, 0, 0, 0), (.iload 4, 2, 0, 0, 4, 0), (.iaload, 1, 0, 0, 0, 0), (.iload_n 1, 1, 0, 0, 1, 0)]
theorem k_X5_nearTwos_49 : ckIc mX5_nearTwos 5 49 b_X5_nearTwos_49 54 1 14 68 57 = true := by decide +kernel
def b_X5_nearTwos_57 : List IE := [(.aload_n 0, 1, 0, 0, 0, 0), (.iload 6, 2, 0, 0, 6, 0), (.iaload, 1, 0, 0, 0, 0), (.iload_n 2, 1, 0, 0, 2, 0)]
theorem k_X5_nearTwos_57 : ckIc mX5_nearTwos 5 57 b_X5_nearTwos_57 62 1 6 68 65 = true := by decide +kernel
def b_X5_nearTwos_65 : List IE := [(.iinc 3 1, 3, 1, 0, 3, 0), (.iinc 6 1, 3, 1, 0, 6, 0)]
theorem k_X5_nearTwos_65 : ckGo mX5_nearTwos 5 65 b_X5_nearTwos_65 71 (-36) 35 = true := by decide +kernel
def b_X5_nearTwos_68 : List IE := [(.iinc 6 1, 3, 1, 0, 6, 0)]
theorem k_X5_nearTwos_68 : ckGo mX5_nearTwos 5 68 b_X5_nearTwos_68 71 (-36) 35 = true := by decide +kernel
def b_X5_nearTwos_74 : List IE := [(.iinc 4 1, 3, 1, 0, 4, 0)]
theorem k_X5_nearTwos_74 : ckGo mX5_nearTwos 5 74 b_X5_nearTwos_74 77 (-72) 5 = true := by decide +kernel
def b_X5_nearTwos_80 : List IE := [(.iload_n 3, 1, 0, 0, 3, 0)]
theorem k_X5_nearTwos_80 : ckI mX5_nearTwos 5 80 b_X5_nearTwos_80 81 = true := by decide +kernel
theorem s_X5_nearTwos_20 : cMx mX5_nearTwos 20 42 Lib.Math.min.name Lib.Math.min.code 2 := ⟨by decide +kernel, gt_ok (List.mem_of_getElem? (i := 504) (by decide +kernel)) (by decide +kernel), gt_ok (List.mem_of_getElem? (i := 505) (by decide +kernel)) (by decide +kernel), gt_ok (List.mem_of_getElem? (i := 103) (by decide +kernel)) (by decide +kernel), gt_ok (List.mem_of_getElem? (i := 506) (by decide +kernel)) (by decide +kernel)⟩
theorem s_X5_nearTwos_30 : cMx mX5_nearTwos 30 82 Lib.Math.max.name Lib.Math.max.code 2 := ⟨by decide +kernel, gt_ok (List.mem_of_getElem? (i := 507) (by decide +kernel)) (by decide +kernel), gt_ok (List.mem_of_getElem? (i := 508) (by decide +kernel)) (by decide +kernel), gt_ok (List.mem_of_getElem? (i := 103) (by decide +kernel)) (by decide +kernel), gt_ok (List.mem_of_getElem? (i := 509) (by decide +kernel)) (by decide +kernel)⟩
theorem t_X5_nearTwos_0 {rc rs : Nat} {Q : Option AV → AH → Prop} {h : AH} {a0 n0 : Nat} {x1 x2 : Int} (hA0 : a0 < nH h ∧ kH h a0 = (13, n0)) (hv : wp mX5_nearTwos 1 rc rs Q 5 [some (vr a0), some (vi x1), some (vi x2), some (vi 0), some (vi 0), none, none] [] h) : wp mX5_nearTwos 1 rc rs Q 0 [some (vr a0), some (vi x1), some (vi x2), none, none, none, none] [] h :=
  (show wp mX5_nearTwos 1 rc rs Q 0 [some (vr a0), some (vi x1), some (vi x2), none, none, none, none] [] h from xB k_X5_nearTwos_0 (And.intro rfl (And.intro rfl hv)))
theorem e_X5_nearTwos {mc ms : Nat} {Q : Option AV → AH → Prop} {h : AH} {a0 n0 : Nat} {x1 x2 : Int} (hA0 : a0 < nH h ∧ kH h a0 = (13, n0)) (hv : wp mX5_nearTwos 1 mc ms Q 5 [some (vr a0), some (vi x1), some (vi x2), some (vi 0), some (vi 0), none, none] [] h) : Ct 1 mc ms mX5_nearTwos [vr a0, vi x1, vi x2] h Q := Ct.of (by decide +kernel) (Nat.le_of_ble_eq_true rfl) (t_X5_nearTwos_0 hA0 hv)
theorem t_X5_nearTwos_5 {rc rs : Nat} {Q : Option AV → AH → Prop} {h : AH} {a0 n0 : Nat} {x1 x2 x3 x4 : Int} (hA0 : a0 < nH h ∧ kH h a0 = (13, n0)) (hv : (n0 < 2147483648) ∧ (((n0 : Int) ≤ x4 → Q (some (vi x3)) h) ∧ (x4 < (n0 : Int) → (-2147483648 ≤ ((n0 : Int) - 1) ∧ ((n0 : Int) - 1) < 2147483648) ∧ (-2147483648 ≤ (x4 + 3) ∧ (x4 + 3) < 2147483648) ∧ (-2147483648 ≤ (x4 - 3) ∧ (x4 - 3) < 2147483648) ∧ wp mX5_nearTwos 1 rc rs Q 35 [some (vr a0), some (vi x1), some (vi x2), some (vi x3), some (vi x4), some (vi (min ((n0 : Int) - 1) (x4 + 3))), some (vi (max 0 (x4 - 3)))] [] h))) : wp mX5_nearTwos 1 rc rs Q 5 [some (vr a0), some (vi x1), some (vi x2), some (vi x3), some (vi x4), none, none] [] h :=
  (show wp mX5_nearTwos 1 rc rs Q 5 [some (vr a0), some (vi x1), some (vi x2), some (vi x3), some (vi x4), none, none] [] h from xIc k_X5_nearTwos_5 (have c1 := hv.1; have v13 := hv.2; (And.intro (sdL hA0 (And.intro (by decide) (And.intro (by decide) c1))) (len_r hA0 (And.intro (fun c2 => have v4 := v13.1 c2; (show wp mX5_nearTwos 1 rc rs Q 80 [some (vr a0), some (vi x1), some (vi x2), some (vi x3), some (vi x4), none, none] [] h from xI k_X5_nearTwos_80 (And.intro rfl v4))) (fun c3 => have v5 := v13.2 (Int.not_le.mp c3); (show wp mX5_nearTwos 1 rc rs Q 12 [some (vr a0), some (vi x1), some (vi x2), some (vi x3), some (vi x4), none, none] [] h from xMin k_X5_nearTwos_12 s_X5_nearTwos_20 (And.intro (sdL hA0 (And.intro (by decide) (And.intro (by decide) c1))) (len_r hA0 (have c7 := v5.1; have v12 := v5.2; (And.intro c7 (have c8 := v12.1; have v11 := v12.2; (And.intro c8 (And.intro (And.intro (Nat.le_of_ble_eq_true rfl) (Nat.le_of_ble_eq_true rfl)) (show wp mX5_nearTwos 1 rc rs Q 23 [some (vr a0), some (vi x1), some (vi x2), some (vi x3), some (vi x4), none, none] [vi (min ((n0 : Int) - 1) (x4 + 3))] h from xMax k_X5_nearTwos_23 s_X5_nearTwos_30 (And.intro rfl (have c9 := v11.1; have v10 := v11.2; (And.intro c9 (And.intro (And.intro (Nat.le_of_ble_eq_true rfl) (Nat.le_of_ble_eq_true rfl)) (show wp mX5_nearTwos 1 rc rs Q 33 [some (vr a0), some (vi x1), some (vi x2), some (vi x3), some (vi x4), some (vi (min ((n0 : Int) - 1) (x4 + 3))), none] [vi (max 0 (x4 - 3))] h from xB k_X5_nearTwos_33 (And.intro rfl v10)))))))))))))))))))))
theorem t_X5_nearTwos_35 {rc rs : Nat} {Q : Option AV → AH → Prop} {h : AH} {a0 n0 : Nat} {x1 x2 x3 x4 x5 x6 : Int} (hA0 : a0 < nH h ∧ kH h a0 = (13, n0)) (hv : ((x5 < x6 → (-2147483648 ≤ (x4 + 1) ∧ (x4 + 1) < 2147483648) ∧ wp mX5_nearTwos 1 rc rs Q 5 [some (vr a0), some (vi x1), some (vi x2), some (vi x3), some (vi (x4 + 1)), none, none] [] h) ∧ (x6 ≤ x5 → ((x4 = x6 → (-2147483648 ≤ (x6 + 1) ∧ (x6 + 1) < 2147483648) ∧ wp mX5_nearTwos 1 rc rs Q 35 [some (vr a0), some (vi x1), some (vi x2), some (vi x3), some (vi x4), some (vi x5), some (vi (x6 + 1))] [] h) ∧ (x4 ≠ x6 → (0 ≤ x4 ∧ x4 < n0) ∧ (((iH h a0 x4.toNat) ≠ x1 → (-2147483648 ≤ (x6 + 1) ∧ (x6 + 1) < 2147483648) ∧ wp mX5_nearTwos 1 rc rs Q 35 [some (vr a0), some (vi x1), some (vi x2), some (vi x3), some (vi x4), some (vi x5), some (vi (x6 + 1))] [] h) ∧ ((iH h a0 x4.toNat) = x1 → (0 ≤ x6 ∧ x6 < n0) ∧ (((iH h a0 x6.toNat) ≠ x2 → (-2147483648 ≤ (x6 + 1) ∧ (x6 + 1) < 2147483648) ∧ wp mX5_nearTwos 1 rc rs Q 35 [some (vr a0), some (vi x1), some (vi x2), some (vi x3), some (vi x4), some (vi x5), some (vi (x6 + 1))] [] h) ∧ ((iH h a0 x6.toNat) = x2 → (-2147483648 ≤ (x3 + 1) ∧ (x3 + 1) < 2147483648) ∧ (-2147483648 ≤ (x6 + 1) ∧ (x6 + 1) < 2147483648) ∧ wp mX5_nearTwos 1 rc rs Q 35 [some (vr a0), some (vi x1), some (vi x2), some (vi (x3 + 1)), some (vi x4), some (vi x5), some (vi (x6 + 1))] [] h))))))))) : wp mX5_nearTwos 1 rc rs Q 35 [some (vr a0), some (vi x1), some (vi x2), some (vi x3), some (vi x4), some (vi x5), some (vi x6)] [] h :=
  (show wp mX5_nearTwos 1 rc rs Q 35 [some (vr a0), some (vi x1), some (vi x2), some (vi x3), some (vi x4), some (vi x5), some (vi x6)] [] h from xIc k_X5_nearTwos_35 (And.intro (fun c1 => have v3 := hv.1 c1; (show wp mX5_nearTwos 1 rc rs Q 74 [some (vr a0), some (vi x1), some (vi x2), some (vi x3), some (vi x4), some (vi x5), some (vi x6)] [] h from xGo k_X5_nearTwos_74 (have c5 := v3.1; have v6 := v3.2; (And.intro c5 (And.intro rfl (w_fg [true, true, true, true, true, false, false] v6)))))) (fun c2 => have v4 := hv.2 (Int.not_lt.mp c2); (show wp mX5_nearTwos 1 rc rs Q 42 [some (vr a0), some (vi x1), some (vi x2), some (vi x3), some (vi x4), some (vi x5), some (vi x6)] [] h from xIc k_X5_nearTwos_42 (And.intro (fun c7 => have v9 := v4.1 c7; (show wp mX5_nearTwos 1 rc rs Q 68 [some (vr a0), some (vi x1), some (vi x2), some (vi x3), some (vi x4), some (vi x5), some (vi x6)] [] h from xGo k_X5_nearTwos_68 (have c11 := v9.1; have v12 := v9.2; (And.intro c11 (And.intro rfl v12))))) (fun c8 => have v10 := v4.2 c8; (show wp mX5_nearTwos 1 rc rs Q 49 [some (vr a0), some (vi x1), some (vi x2), some (vi x3), some (vi x4), some (vi x5), some (vi x6)] [] h from xIc k_X5_nearTwos_49 (have c13 := v10.1; have v32 := v10.2; (And.intro (sdI hA0 c13) (And.intro (fun c14 => have v16 := v32.1 c14; (show wp mX5_nearTwos 1 rc rs Q 68 [some (vr a0), some (vi x1), some (vi x2), some (vi x3), some (vi x4), some (vi x5), some (vi x6)] [] h from xGo k_X5_nearTwos_68 (have c18 := v16.1; have v19 := v16.2; (And.intro c18 (And.intro rfl v19))))) (fun c15 => have v17 := v32.2 (Decidable.not_not.mp c15); (show wp mX5_nearTwos 1 rc rs Q 57 [some (vr a0), some (vi x1), some (vi x2), some (vi x3), some (vi x4), some (vi x5), some (vi x6)] [] h from xIc k_X5_nearTwos_57 (have c20 := v17.1; have v31 := v17.2; (And.intro (sdI hA0 c20) (And.intro (fun c21 => have v23 := v31.1 c21; (show wp mX5_nearTwos 1 rc rs Q 68 [some (vr a0), some (vi x1), some (vi x2), some (vi x3), some (vi x4), some (vi x5), some (vi x6)] [] h from xGo k_X5_nearTwos_68 (have c25 := v23.1; have v26 := v23.2; (And.intro c25 (And.intro rfl v26))))) (fun c22 => have v24 := v31.2 (Decidable.not_not.mp c22); (show wp mX5_nearTwos 1 rc rs Q 65 [some (vr a0), some (vi x1), some (vi x2), some (vi x3), some (vi x4), some (vi x5), some (vi x6)] [] h from xGo k_X5_nearTwos_65 (have c27 := v24.1; have v30 := v24.2; (And.intro c27 (And.intro rfl (have c28 := v30.1; have v29 := v30.2; (And.intro c28 (And.intro rfl v29)))))))))))))))))))))))
def b_X5_phrasesIn_0 : List IE := [(.iconst 0, 1, 0, 0, 0, 0), (.istore 4, 2, 0, 0, 4, 0), (.iconst 0, 1, 0, 0, 0, 0), (.istore 5, 2, 0, 0, 5, 0)]
theorem k_X5_phrasesIn_0 : ckB mX5_phrasesIn 5 0 b_X5_phrasesIn_0 6 = true := by decide +kernel
def b_X5_phrasesIn_6 : List IE := [(.iload 5, 2, 0, 0, 5, 0), (.iload_n 3, 1, 0, 0, 3, 0), (.iadd, 1, 0, 0, 0, 0), (.aload_n 1, 1, 0, 0, 1, 0), (.arraylength, 1, 0, 0, 0, 0)]
theorem k_X5_phrasesIn_6 : ckIc mX5_phrasesIn 5 6 b_X5_phrasesIn_6 12 4 52 64 15 = true := by decide +kernel
def b_X5_phrasesIn_15 : List IE := [(.iconst 0, 1, 0, 0, 0, 0), (.istore 6, 2, 0, 0, 6, 0)]
theorem k_X5_phrasesIn_15 : ckB mX5_phrasesIn 5 15 b_X5_phrasesIn_15 18 = true := by decide +kernel
def b_X5_phrasesIn_18 : List IE := [(.iload 6, 2, 0, 0, 6, 0), (.iload_n 3, 1, 0, 0, 3, 0)]
theorem k_X5_phrasesIn_18 : ckIc mX5_phrasesIn 5 18 b_X5_phrasesIn_18 21 3 28 49 24 = true := by decide +kernel
def b_X5_phrasesIn_24 : List IE := [(.aload_n 1, 1, 0, 0, 1, 0), (.iload 5, 2, 0, 0, 5, 0), (.iload 6, 2, 0, 0, 6, 0), (.iadd, 1, 0, 0, 0, 0), (.iaload, 1, 0, 0, 0, 0), (.aload_n 0, 1, 0, 0, 0, 0), (.getfield 21, 3, 0, 5, 4, 1), (.iload_n 2, 1, 0, 0, 2, 0), (.iload 6, 2, 0, 0, 6, 0), (.iadd, 1, 0, 0, 0, 0), (.iaload, 1, 0, 0, 0, 0)]
theorem k_X5_phrasesIn_24 : ckIc mX5_phrasesIn 5 24 b_X5_phrasesIn_24 40 1 9 49 43 = true := by decide +kernel
def b_X5_phrasesIn_43 : List IE := [(.iinc 6 1, 3, 1, 0, 6, 0)]
theorem k_X5_phrasesIn_43 : ckGo mX5_phrasesIn 5 43 b_X5_phrasesIn_43 46 (-28) 18 = true := by decide +kernel
def b_X5_phrasesIn_49 : List IE := [(.iload 6, 2, 0, 0, 6, 0), (.iload_n 3, 1, 0, 0, 3, 0)]
theorem k_X5_phrasesIn_49 : ckIc mX5_phrasesIn 5 49 b_X5_phrasesIn_49 52 1 6 58 55 = true := by decide +kernel
def b_X5_phrasesIn_55 : List IE := [(.iinc 4 1, 3, 1, 0, 4, 0), (.iinc 5 1, 3, 1, 0, 5, 0)]
theorem k_X5_phrasesIn_55 : ckGo mX5_phrasesIn 5 55 b_X5_phrasesIn_55 61 (-55) 6 = true := by decide +kernel
def b_X5_phrasesIn_58 : List IE := [(.iinc 5 1, 3, 1, 0, 5, 0)]
theorem k_X5_phrasesIn_58 : ckGo mX5_phrasesIn 5 58 b_X5_phrasesIn_58 61 (-55) 6 = true := by decide +kernel
def b_X5_phrasesIn_64 : List IE := [(.iload 4, 2, 0, 0, 4, 0)]
theorem k_X5_phrasesIn_64 : ckI mX5_phrasesIn 5 64 b_X5_phrasesIn_64 66 = true := by decide +kernel
theorem t_X5_phrasesIn_0 {rc rs : Nat} {Q : Option AV → AH → Prop} {h : AH} {a0 a1 n1 : Nat} {x2 x3 : Int} (hL : LayL h) (hA0 : iQu a0) (hA1 : a1 < nH h ∧ kH h a1 = (13, n1)) (hv : wp mX5_phrasesIn 0 rc rs Q 6 [some (vr a0), some (vr a1), some (vi x2), some (vi x3), some (vi 0), some (vi 0), none] [] h) : wp mX5_phrasesIn 0 rc rs Q 0 [some (vr a0), some (vr a1), some (vi x2), some (vi x3), none, none, none] [] h :=
  (show wp mX5_phrasesIn 0 rc rs Q 0 [some (vr a0), some (vr a1), some (vi x2), some (vi x3), none, none, none] [] h from xB k_X5_phrasesIn_0 (And.intro rfl (And.intro rfl hv)))
theorem e_X5_phrasesIn {mc ms : Nat} {Q : Option AV → AH → Prop} {h : AH} {a0 a1 n1 : Nat} {x2 x3 : Int} (hL : LayL h) (hA0 : iQu a0) (hA1 : a1 < nH h ∧ kH h a1 = (13, n1)) (hv : wp mX5_phrasesIn 0 mc ms Q 6 [some (vr a0), some (vr a1), some (vi x2), some (vi x3), some (vi 0), some (vi 0), none] [] h) : Ct 0 mc ms mX5_phrasesIn [vr a0, vr a1, vi x2, vi x3] h Q := Ct.of (by decide +kernel) (Nat.le_of_ble_eq_true rfl) (t_X5_phrasesIn_0 hL hA0 hA1 hv)
theorem t_X5_phrasesIn_6 {rc rs : Nat} {Q : Option AV → AH → Prop} {h : AH} {a0 a1 n1 : Nat} {x2 x3 x4 x5 : Int} (hL : LayL h) (hA0 : iQu a0) (hA1 : a1 < nH h ∧ kH h a1 = (13, n1)) (hv : (-2147483648 ≤ (x5 + x3) ∧ (x5 + x3) < 2147483648) ∧ (n1 < 2147483648) ∧ (((n1 : Int) < (x5 + x3) → Q (some (vi x4)) h) ∧ ((x5 + x3) ≤ (n1 : Int) → wp mX5_phrasesIn 0 rc rs Q 18 [some (vr a0), some (vr a1), some (vi x2), some (vi x3), some (vi x4), some (vi x5), some (vi 0)] [] h))) : wp mX5_phrasesIn 0 rc rs Q 6 [some (vr a0), some (vr a1), some (vi x2), some (vi x3), some (vi x4), some (vi x5), none] [] h :=
  (show wp mX5_phrasesIn 0 rc rs Q 6 [some (vr a0), some (vr a1), some (vi x2), some (vi x3), some (vi x4), some (vi x5), none] [] h from xIc k_X5_phrasesIn_6 (have c1 := hv.1; have v8 := hv.2; (And.intro c1 (have c2 := v8.1; have v7 := v8.2; (And.intro (sdL hA1 (And.intro (by decide) (And.intro (by decide) c2))) (len_r hA1 (And.intro (fun c3 => have v5 := v7.1 c3; (show wp mX5_phrasesIn 0 rc rs Q 64 [some (vr a0), some (vr a1), some (vi x2), some (vi x3), some (vi x4), some (vi x5), none] [] h from xI k_X5_phrasesIn_64 (And.intro rfl v5))) (fun c4 => have v6 := v7.2 (Int.not_lt.mp c4); (show wp mX5_phrasesIn 0 rc rs Q 15 [some (vr a0), some (vr a1), some (vi x2), some (vi x3), some (vi x4), some (vi x5), none] [] h from xB k_X5_phrasesIn_15 (And.intro rfl v6))))))))))
theorem t_X5_phrasesIn_18 {rc rs : Nat} {Q : Option AV → AH → Prop} {h : AH} {a0 a1 n1 : Nat} {x2 x3 x4 x5 x6 : Int} (hL : LayL h) (hA0 : iQu a0) (hA1 : a1 < nH h ∧ kH h a1 = (13, n1)) (hv : ((x3 ≤ x6 → ((x6 ≠ x3 → (-2147483648 ≤ (x5 + 1) ∧ (x5 + 1) < 2147483648) ∧ wp mX5_phrasesIn 0 rc rs Q 6 [some (vr a0), some (vr a1), some (vi x2), some (vi x3), some (vi x4), some (vi (x5 + 1)), none] [] h) ∧ (x6 = x3 → (-2147483648 ≤ (x4 + 1) ∧ (x4 + 1) < 2147483648) ∧ (-2147483648 ≤ (x5 + 1) ∧ (x5 + 1) < 2147483648) ∧ wp mX5_phrasesIn 0 rc rs Q 6 [some (vr a0), some (vr a1), some (vi x2), some (vi x3), some (vi (x4 + 1)), some (vi (x5 + 1)), none] [] h))) ∧ (x6 < x3 → (-2147483648 ≤ (x5 + x6) ∧ (x5 + x6) < 2147483648) ∧ (0 ≤ (x5 + x6) ∧ (x5 + x6) < n1) ∧ (-2147483648 ≤ (x2 + x6) ∧ (x2 + x6) < 2147483648) ∧ (0 ≤ (x2 + x6) ∧ (x2 + x6) < 64) ∧ (((iH h a1 ((x5 + x6).toNat)) ≠ (iH h (a0 + 4) ((x2 + x6).toNat)) → ((x6 ≠ x3 → (-2147483648 ≤ (x5 + 1) ∧ (x5 + 1) < 2147483648) ∧ wp mX5_phrasesIn 0 rc rs Q 6 [some (vr a0), some (vr a1), some (vi x2), some (vi x3), some (vi x4), some (vi (x5 + 1)), none] [] h) ∧ (x6 = x3 → (-2147483648 ≤ (x4 + 1) ∧ (x4 + 1) < 2147483648) ∧ (-2147483648 ≤ (x5 + 1) ∧ (x5 + 1) < 2147483648) ∧ wp mX5_phrasesIn 0 rc rs Q 6 [some (vr a0), some (vr a1), some (vi x2), some (vi x3), some (vi (x4 + 1)), some (vi (x5 + 1)), none] [] h))) ∧ ((iH h a1 ((x5 + x6).toNat)) = (iH h (a0 + 4) ((x2 + x6).toNat)) → (-2147483648 ≤ (x6 + 1) ∧ (x6 + 1) < 2147483648) ∧ wp mX5_phrasesIn 0 rc rs Q 18 [some (vr a0), some (vr a1), some (vi x2), some (vi x3), some (vi x4), some (vi x5), some (vi (x6 + 1))] [] h))))) : wp mX5_phrasesIn 0 rc rs Q 18 [some (vr a0), some (vr a1), some (vi x2), some (vi x3), some (vi x4), some (vi x5), some (vi x6)] [] h :=
  (show wp mX5_phrasesIn 0 rc rs Q 18 [some (vr a0), some (vr a1), some (vi x2), some (vi x3), some (vi x4), some (vi x5), some (vi x6)] [] h from xIc k_X5_phrasesIn_18 (And.intro (fun c1 => have v3 := hv.1 c1; (show wp mX5_phrasesIn 0 rc rs Q 49 [some (vr a0), some (vr a1), some (vi x2), some (vi x3), some (vi x4), some (vi x5), some (vi x6)] [] h from xIc k_X5_phrasesIn_49 (And.intro (fun c5 => have v7 := v3.1 c5; (show wp mX5_phrasesIn 0 rc rs Q 58 [some (vr a0), some (vr a1), some (vi x2), some (vi x3), some (vi x4), some (vi x5), some (vi x6)] [] h from xGo k_X5_phrasesIn_58 (have c9 := v7.1; have v10 := v7.2; (And.intro c9 (And.intro rfl (w_fg [true, true, true, true, true, true, false] v10)))))) (fun c6 => have v8 := v3.2 (Decidable.not_not.mp c6); (show wp mX5_phrasesIn 0 rc rs Q 55 [some (vr a0), some (vr a1), some (vi x2), some (vi x3), some (vi x4), some (vi x5), some (vi x6)] [] h from xGo k_X5_phrasesIn_55 (have c11 := v8.1; have v14 := v8.2; (And.intro c11 (And.intro rfl (have c12 := v14.1; have v13 := v14.2; (And.intro c12 (And.intro rfl (w_fg [true, true, true, true, true, true, false] v13)))))))))))) (fun c2 => have v4 := hv.2 (Int.not_le.mp c2); (show wp mX5_phrasesIn 0 rc rs Q 24 [some (vr a0), some (vr a1), some (vi x2), some (vi x3), some (vi x4), some (vi x5), some (vi x6)] [] h from xIc k_X5_phrasesIn_24 (have c15 := v4.1; have v38 := v4.2; (And.intro c15 (have c16 := v38.1; have v37 := v38.2; (And.intro (sdI hA1 c16) (And.intro (qu_o hL hA0) (Exists.intro (a0 + 4) (And.intro (qu_r4 hL hA0) (have c17 := v37.1; have v36 := v37.2; (And.intro c17 (have c18 := v36.1; have v35 := v36.2; (And.intro (sdI (qu_a4 hL hA0) c18) (And.intro (fun c19 => have v21 := v35.1 c19; (show wp mX5_phrasesIn 0 rc rs Q 49 [some (vr a0), some (vr a1), some (vi x2), some (vi x3), some (vi x4), some (vi x5), some (vi x6)] [] h from xIc k_X5_phrasesIn_49 (And.intro (fun c23 => have v25 := v21.1 c23; (show wp mX5_phrasesIn 0 rc rs Q 58 [some (vr a0), some (vr a1), some (vi x2), some (vi x3), some (vi x4), some (vi x5), some (vi x6)] [] h from xGo k_X5_phrasesIn_58 (have c27 := v25.1; have v28 := v25.2; (And.intro c27 (And.intro rfl (w_fg [true, true, true, true, true, true, false] v28)))))) (fun c24 => have v26 := v21.2 (Decidable.not_not.mp c24); (show wp mX5_phrasesIn 0 rc rs Q 55 [some (vr a0), some (vr a1), some (vi x2), some (vi x3), some (vi x4), some (vi x5), some (vi x6)] [] h from xGo k_X5_phrasesIn_55 (have c29 := v26.1; have v32 := v26.2; (And.intro c29 (And.intro rfl (have c30 := v32.1; have v31 := v32.2; (And.intro c30 (And.intro rfl (w_fg [true, true, true, true, true, true, false] v31)))))))))))) (fun c20 => have v22 := v35.2 (Decidable.not_not.mp c20); (show wp mX5_phrasesIn 0 rc rs Q 43 [some (vr a0), some (vr a1), some (vi x2), some (vi x3), some (vi x4), some (vi x5), some (vi x6)] [] h from xGo k_X5_phrasesIn_43 (have c33 := v22.1; have v34 := v22.2; (And.intro c33 (And.intro rfl v34)))))))))))))))))))))
theorem l_placesBetween {h g : AH} {a n : Nat} {d lo hi : Int} (hw : cRow h g a n d) : Ct 0 0 0 mX5_placesBetween [vr a, vi lo, vi hi] h (QI fun x h' => x = v_bt g d lo hi ∧ h' = h) := by
  obtain ⟨ha, en, hn, e⟩ := hw
  have en' : (iH g 91 d.toNat).toNat = n := by omega
  unfold v_bt
  rw [en']
  generalize hp : (fun k => lo ≤ iH g (93 + d.toNat) k ∧ iH g (93 + d.toNat) k < hi) = p
  refine e_X5_placesBetween ha (up (P := fun k => wp mX5_placesBetween 0 _ _ _ 5 [some (vr a), some (vi lo), some (vi hi), some (vi (cnt p k)), some (vi k)] [] h) n ?_ ?_)
  · exact t_X5_placesBetween_5 ha ⟨by omega, fun _ => ⟨_, rfl, rfl, rfl⟩, fun c => absurd c (by omega)⟩
  · intro k hk ih
    have hb := cnt_bd p k
    have ek := e k hk
    refine t_X5_placesBetween_5 ha ⟨by omega, fun c => absurd c (by omega), fun _ => ⟨by omega, ?_⟩⟩
    rw [Int.toNat_natCast, ek]
    refine ⟨fun c => ⟨by omega, ?_⟩, fun c => ⟨fun c2 => ⟨by omega, ?_⟩, fun c2 => ⟨by omega, by omega, ?_⟩⟩⟩
    · rw [cnt_n (by rw [← hp]; intro q; have := q.1; omega)] at ih; exact ih
    · rw [cnt_n (by rw [← hp]; intro q; have := q.2; omega)] at ih; exact ih
    · rw [cnt_s (by rw [← hp]; exact ⟨c, c2⟩)] at ih; exact ih
theorem l_nearTwos {h g : AH} {a n : Nat} {d x z : Int} (hw : cRow h g a n d) : Ct 1 0 0 mX5_nearTwos [vr a, vi x, vi z] h (QI fun v h' => v = m_near g d x z ∧ h' = h) := by
  obtain ⟨ha, en, hn, e⟩ := hw
  have en' : (iH g 91 d.toNat).toNat = n := by omega
  unfold m_near
  rw [en']
  have hb : ∀ i : Nat, 0 ≤ cnt (m_nearP g d x z i) n ∧ cnt (m_nearP g d x z i) n ≤ 12 := fun i => by have := cnt_bd (m_nearP g d x z i) n; omega
  refine e_X5_nearTwos ha (up (P := fun i => wp mX5_nearTwos 1 _ _ _ 5 [some (vr a), some (vi x), some (vi z), some (vi (sumN (fun i => cnt (m_nearP g d x z i) n) i)), some (vi i), none, none] [] h) n ?_ ?_)
  · exact t_X5_nearTwos_5 ha ⟨by omega, fun _ => ⟨_, rfl, rfl, rfl⟩, fun c => absurd c (by omega)⟩
  · intro i hi ih
    have hbi := sumN_bd (fun i => cnt (m_nearP g d x z i) n) 12 (by omega) i (fun j _ => hb j)
    have es : sumN (fun i => cnt (m_nearP g d x z i) n) (i + 1) = sumN (fun i => cnt (m_nearP g d x z i) n) i + cnt (m_nearP g d x z i) n := rfl
    generalize hS : sumN (fun i => cnt (m_nearP g d x z i) n) i = S at *
    refine t_X5_nearTwos_5 ha ⟨by omega, fun c => absurd c (by omega), fun _ => ⟨by omega, by omega, by omega, ?_⟩⟩
    obtain ⟨en2, eE⟩ : ∃ en2 : Nat, (en2 : Int) = min (n : Int) ((i : Int) + 4) := ⟨(min (n : Int) ((i : Int) + 4)).toNat, by omega⟩
    have inner : ∀ k : Nat, (i : Int) - 3 ≤ (k : Int) → k ≤ en2 → wp mX5_nearTwos 1 0 0 (QI fun v h' => v = sumN (fun i => cnt (m_nearP g d x z i) n) n ∧ h' = h) 35 [some (vr a), some (vi x), some (vi z), some (vi (S + cnt (m_nearP g d x z i) k)), some (vi i), some (vi (min ((n : Int) - 1) ((i : Int) + 3))), some (vi k)] [] h := by
      refine dn en2 (fun k hk h1 h2 => ?_) (fun k hk jh h1 h2 => ?_)
      · refine t_X5_nearTwos_35 ha ⟨fun _ => ⟨by omega, ?_⟩, fun c => absurd c (by omega)⟩
        have ec : cnt (m_nearP g d x z i) k = cnt (m_nearP g d x z i) n := (cnt_cut (by omega) (fun j q1 q2 w => by have := w.2.1; omega)).symm
        rw [ec, ← es]
        exact ih
      · have hc := cnt_bd (m_nearP g d x z i) k
        have ei := e i hi
        have ek := e k (by omega)
        have no : ¬ m_nearP g d x z i k → wp mX5_nearTwos 1 0 0 (QI fun v h' => v = sumN (fun i => cnt (m_nearP g d x z i) n) n ∧ h' = h) 35 [some (vr a), some (vi x), some (vi z), some (vi (S + cnt (m_nearP g d x z i) k)), some (vi i), some (vi (min ((n : Int) - 1) ((i : Int) + 3))), some (vi ((k : Int) + 1))] [] h := fun q => by
          have := jh (by omega) (by omega)
          rw [cnt_n q] at this; exact this
        refine t_X5_nearTwos_35 ha ⟨fun c => absurd c (by omega), fun _ => ⟨fun c => ⟨by omega, no (fun q => q.1 c)⟩, fun c => ⟨by omega, ?_⟩⟩⟩
        rw [Int.toNat_natCast, Int.toNat_natCast, ei, ek]
        refine ⟨fun c2 => ⟨by omega, no (fun q => c2 q.2.2.1)⟩, fun c2 => ⟨by omega, fun c3 => ⟨by omega, no (fun q => c3 q.2.2.2)⟩, fun c3 => ⟨by omega, by omega, ?_⟩⟩⟩
        have := jh (by omega) (by omega)
        rw [cnt_s (show m_nearP g d x z i k from ⟨c, by omega, c2, c3⟩)] at this
        rw [show S + cnt (m_nearP g d x z i) k + 1 = S + (cnt (m_nearP g d x z i) k + 1) by omega]
        exact this
    have := inner (max 0 ((i : Int) - 3)).toNat (by omega) (by omega)
    rw [show cnt (m_nearP g d x z i) (max 0 ((i : Int) - 3)).toNat = 0 from cnt_cut (n := 0) (by omega) (fun j _ q2 w => by have := w.2.1; omega), Int.add_zero, show (((max 0 ((i : Int) - 3)).toNat : Nat) : Int) = max 0 ((i : Int) - 3) by omega] at this
    exact this
theorem l_phrasesIn {h g : AH} {a b n f : Nat} (hL : LayL h) {d m : Int} (ha : iQu a) (hw : cRow h g b n d) (hm : 1 ≤ m ∧ m ≤ 6) (hf : (f : Int) + m ≤ 64) : Ct 0 0 0 mX5_phrasesIn [vr a, vr b, vi f, vi m] h (QI fun v h' => v = v_ph g d (iH h (a + 4)) f m ∧ h' = h) := by
  obtain ⟨hb, en, hn, e⟩ := hw
  unfold v_ph
  rw [show iH g 91 d.toNat = (n : Int) by omega]
  obtain ⟨m', rfl⟩ := Int.eq_ofNat_of_zero_le (show 0 ≤ m by omega)
  rw [Int.toNat_natCast]
  generalize hp : v_phP g d (iH h (a + 4)) f m' = p
  have hR : ∀ k, p k ↔ ∀ i, i < m' → iH g (93 + d.toNat) (k + i) = iH h (a + 4) (f + i) := fun k => by rw [← hp]; exact Iff.rfl
  refine e_X5_phrasesIn hL ha hb (up (P := fun k => wp mX5_phrasesIn 0 _ _ _ 6 [some (vr a), some (vr b), some (vi f), some (vi m'), some (vi (cnt p k)), some (vi k), none] [] h) ((n : Int) - m' + 1).toNat ?_ ?_)
  · refine t_X5_phrasesIn_6 hL ha hb ⟨by omega, by omega, fun _ => ⟨_, rfl, rfl, rfl⟩, fun c => absurd c (by omega)⟩
  · intro k hk ih
    have hc := cnt_bd p k
    refine t_X5_phrasesIn_6 hL ha hb ⟨by omega, by omega, fun c => absurd c (by omega), fun _ => ?_⟩
    have yes : p k → wp mX5_phrasesIn 0 0 0 (QI fun v h' => v = cnt p ((n : Int) - m' + 1).toNat ∧ h' = h) 6 [some (vr a), some (vr b), some (vi f), some (vi m'), some (vi (cnt p k + 1)), some (vi ((k : Int) + 1)), none] [] h := fun q => by rw [cnt_s q] at ih; exact ih
    have no : ¬ p k → wp mX5_phrasesIn 0 0 0 (QI fun v h' => v = cnt p ((n : Int) - m' + 1).toNat ∧ h' = h) 6 [some (vr a), some (vr b), some (vi f), some (vi m'), some (vi (cnt p k)), some (vi ((k : Int) + 1)), none] [] h := fun q => by rw [cnt_n q] at ih; exact ih
    have inner : ∀ j : Nat, (∀ i, i < j → iH g (93 + d.toNat) (k + i) = iH h (a + 4) (f + i)) → j ≤ m' → wp mX5_phrasesIn 0 0 0 (QI fun v h' => v = cnt p ((n : Int) - m' + 1).toNat ∧ h' = h) 18 [some (vr a), some (vr b), some (vi f), some (vi m'), some (vi (cnt p k)), some (vi k), some (vi j)] [] h := by
      refine dn m' (fun j hj h1 h2 => ?_) (fun j hj jh h1 h2 => ?_)
      · exact t_X5_phrasesIn_18 hL ha hb ⟨fun _ => ⟨fun c => absurd c (by omega), fun _ => ⟨by omega, by omega, yes ((hR k).mpr fun i hi => h1 i (by omega))⟩⟩, fun c => absurd c (by omega)⟩
      · have ej := e (k + j) (by omega)
        refine t_X5_phrasesIn_18 hL ha hb ⟨fun c => absurd c (by omega), fun _ => ⟨by omega, by omega, by omega, by omega, ?_⟩⟩
        rw [show ((k : Int) + (j : Int)).toNat = k + j by omega, show ((f : Int) + (j : Int)).toNat = f + j by omega, ej]
        refine ⟨fun c => ⟨fun _ => ⟨by omega, no fun q => c ((hR k).mp q j hj)⟩, fun c2 => absurd c2 (by omega)⟩, fun c => ⟨by omega, jh (fun i hi => ?_) (by omega)⟩⟩
        by_cases e3 : i = j
        · subst e3; exact c
        · exact h1 i (by omega)
    exact inner 0 (fun i hi => absurd hi (Nat.not_lt_zero _)) (Nat.zero_le _)
