/-! THE CLASS: STANDS CHANGE -/
section
def updR (R : Nat → Option Nat) (k : Nat) (v : Option Nat) (i : Nat) : Option Nat := if i = k then v else R i
/-- a stand's cells anew -/
def hSt (h : AH) (a : Nat) (n : Int) (R : Nat → Option Nat) (J : Nat → Int64) : AH := (h.1, h.2.1, u2 h.2.2.1 a 2 n, r2 h.2.2.2.1 (a + 2) J, r2 h.2.2.2.2 (a + 1) R)
variable {h : AH} {a x k : Nat} {n v : Int} {R : Nat → Option Nat} {J : Nat → Int64}
theorem st_n : iH (hSt h a n R J) a 2 = n := by simp [iH, hSt, u2]
theorem st_io (e : x ≠ a) : iH (hSt h a n R J) x k = iH h x k := by simp [iH, hSt, u2, e]
theorem st_ik (e : k ≠ 2) : iH (hSt h a n R J) x k = iH h x k := by
  by_cases q : x = a
  · subst q; simp [iH, hSt, u2, e]
  · simp [iH, hSt, u2, q]
theorem st_R : rH (hSt h a n R J) (a + 1) k = R k := by simp [rH, hSt, r2]
theorem st_Ro (e : x ≠ a + 1) : rH (hSt h a n R J) x k = rH h x k := by simp [rH, hSt, r2, e]
theorem st_J : jH (hSt h a n R J) (a + 2) k = J k := by simp [jH, hSt, r2]
theorem st_Jo (e : x ≠ a + 2) : jH (hSt h a n R J) x k = jH h x k := by simp [jH, hSt, r2, e]
theorem st_id : h = hSt h a (iH h a 2) (rH h (a + 1)) (jH h (a + 2)) := by
  have e1 : u2 h.2.2.1 a 2 (iH h a 2) = h.2.2.1 := by
    funext x y
    unfold u2
    split
    · rename_i q; subst q
      split
      · rename_i q; subst q; rfl
      · rfl
    · rfl
  have e2 : r2 h.2.2.2.1 (a + 2) (jH h (a + 2)) = h.2.2.2.1 := by
    funext x y
    unfold r2
    split
    · rename_i q; subst q; rfl
    · rfl
  have e3 : r2 h.2.2.2.2 (a + 1) (rH h (a + 1)) = h.2.2.2.2 := by
    funext x y
    unfold r2
    split
    · rename_i q; subst q; rfl
    · rfl
  unfold hSt
  rw [e1, e2, e3]
theorem st_sn : sI (hSt h a n R J) a 2 v = hSt h a v R J := by
  unfold sI hSt
  congr 3
  funext x y
  unfold u2
  by_cases e : x = a
  · subst e
    by_cases e2 : y = 2 <;> simp [e2]
  · simp [e]
theorem st_sR {w : Option Nat} : sR (hSt h a n R J) (a + 1) k w = hSt h a n (updR R k w) J := by
  unfold sR hSt
  congr 4
  funext x y
  unfold u2 r2 updR
  by_cases e : x = a + 1
  · subst e
    by_cases e2 : y = k <;> simp [e2]
  · simp [e]
theorem st_sJ {w : Int64} : sJ (hSt h a n R J) (a + 2) k w = hSt h a n R (updJ J k w) := by
  unfold sJ hSt
  congr 4
  funext x y
  unfold u2 r2 updJ
  by_cases e : x = a + 2
  · subst e
    by_cases e2 : y = k <;> simp [e2]
  · simp [e]
theorem refL_st : ∀ a, iSt a → ∀ q ∈ refL, q.1 ≠ a + 1 := by
  intro a ha
  rcases ha with rfl | rfl | rfl | rfl | rfl | rfl | rfl <;> decide
theorem LayL_hSt (ha : iSt a) (hL : LayL h) : LayL (hSt h a n R J) := ⟨hL.1, fun q hq => by rw [st_Ro (refL_st a ha q hq)]; exact hL.2 q hq⟩
theorem agD_hSt (ha : a + 2 < 1191) : agD h (hSt h a n R J) := ⟨Nat.le_refl _, fun x _ h2 => ⟨rfl, fun k => st_io (by omega), fun k => st_Ro (by omega)⟩⟩
theorem iSt_lt (ha : iSt a) : 5 ≤ a ∧ a ≤ 42 := by unfold iSt at ha; omega
theorem iSt_ap {b : Nat} (ha : iSt a) (hb : iSt b) (hne : a ≠ b) : a + 2 < b ∨ b + 2 < a := by unfold iSt at ha hb; omega
end
def b_X9_become_0 : List IE := [(.aload_n 0, 1, 0, 0, 0, 0), (.aload_n 1, 1, 0, 0, 1, 0), (.getfield 21, 3, 0, 9, 2, 0), (.putfield 21, 3, 0, 9, 2, 0), (.iconst 0, 1, 0, 0, 0, 0), (.istore_n 2, 1, 0, 0, 2, 0)]
theorem k_X9_become_0 : ckB mX9_become 9 0 b_X9_become_0 10 = true := by decide +kernel
def b_X9_become_10 : List IE := [(.iload_n 2, 1, 0, 0, 2, 0), (.aload_n 0, 1, 0, 0, 0, 0), (.getfield 21, 3, 0, 9, 2, 0)]
theorem k_X9_become_10 : ckIc mX9_become 9 10 b_X9_become_10 15 3 33 48 18 = true := by decide +kernel
def b_X9_become_18 : List IE := [(.aload_n 0, 1, 0, 0, 0, 0), (.getfield 11, 3, 0, 9, 0, 1), (.iload_n 2, 1, 0, 0, 2, 0), (.aload_n 1, 1, 0, 0, 1, 0), (.getfield 11, 3, 0, 9, 0, 1), (.iload_n 2, 1, 0, 0, 2, 0), (.aaload, 1, 0, 0, 0, 0), (.aastore, 1, 0, 0, 0, 0), (.aload_n 0, 1, 0, 0, 0, 0), (.getfield 17, 3, 0, 9, 1, 1), (.iload_n 2, 1, 0, 0, 2, 0), (.aload_n 1, 1, 0, 0, 1, 0), (.getfield 17, 3, 0, 9, 1, 1), (.iload_n 2, 1, 0, 0, 2, 0), (.laload, 1, 0, 0, 0, 0), (.lastore, 1, 0, 0, 0, 0), (.iinc 2 1, 3, 1, 0, 2, 0)]
theorem k_X9_become_18 : ckGo mX9_become 9 18 b_X9_become_18 45 (-35) 10 = true := by decide +kernel
def b_X9_become_48 : List IE := []
theorem k_X9_become_48 : ckV mX9_become 9 48 b_X9_become_48 48 = true := by decide +kernel
theorem t_X9_become_0 {rc rs : Nat} {Q : Option AV → AH → Prop} {h : AH} {a0 a1 : Nat} (hL : LayL h) (hA0 : iSt a0) (hA1 : iSt a1) (hv : wp mX9_become 0 rc rs Q 10 [some (vr a0), some (vr a1), some (vi 0)] [] (sI h a0 2 (iH h a1 2))) : wp mX9_become 0 rc rs Q 0 [some (vr a0), some (vr a1), none] [] h :=
  (show wp mX9_become 0 rc rs Q 0 [some (vr a0), some (vr a1), none] [] h from xB k_X9_become_0 (And.intro (st_o hL hA1) (And.intro (st_o hL hA0) (And.intro rfl hv))))
theorem e_X9_become {mc ms : Nat} {Q : Option AV → AH → Prop} {h : AH} {a0 a1 : Nat} (hL : LayL h) (hA0 : iSt a0) (hA1 : iSt a1) (hv : wp mX9_become 0 mc ms Q 10 [some (vr a0), some (vr a1), some (vi 0)] [] (sI h a0 2 (iH h a1 2))) : Ct 0 mc ms mX9_become [vr a0, vr a1] h Q := Ct.of (by decide +kernel) (Nat.le_of_ble_eq_true rfl) (t_X9_become_0 hL hA0 hA1 hv)
theorem t_X9_become_10 {rc rs : Nat} {Q : Option AV → AH → Prop} {h : AH} {a0 a1 : Nat} {x2 : Int} (hL : LayL h) (hA0 : iSt a0) (hA1 : iSt a1) (hv : (((iH h a0 2) ≤ x2 → Q none h) ∧ (x2 < (iH h a0 2) → (0 ≤ x2 ∧ x2 < 8) ∧ (∃ q6 n7 r8 : Nat, (rH h (a1 + 1) x2.toNat = some q6 ∧ iSg h q6 n7 r8) ∧ LayL (sR h (a0 + 1) x2.toNat (some q6)) ∧ (-2147483648 ≤ (x2 + 1) ∧ (x2 + 1) < 2147483648) ∧ wp mX9_become 0 rc rs Q 10 [some (vr a0), some (vr a1), some (vi (x2 + 1))] [] (sJ (sR h (a0 + 1) x2.toNat (some q6)) (a0 + 2) x2.toNat (jH h (a1 + 2) x2.toNat)))))) : wp mX9_become 0 rc rs Q 10 [some (vr a0), some (vr a1), some (vi x2)] [] h :=
  (show wp mX9_become 0 rc rs Q 10 [some (vr a0), some (vr a1), some (vi x2)] [] h from xIc k_X9_become_10 (And.intro (st_o hL hA0) (And.intro (fun c1 => have v3 := hv.1 c1; (show wp mX9_become 0 rc rs Q 48 [some (vr a0), some (vr a1), some (vi x2)] [] h from xV k_X9_become_48 (And.intro rfl v3))) (fun c2 => have v4 := hv.2 (Int.not_le.mp c2); (show wp mX9_become 0 rc rs Q 18 [some (vr a0), some (vr a1), some (vi x2)] [] h from xGo k_X9_become_18 (And.intro (st_o hL hA0) (Exists.intro (a0 + 1) (And.intro (st_r0 hL hA0) (And.intro (st_o hL hA1) (Exists.intro (a1 + 1) (And.intro (st_r0 hL hA1) (have c5 := v4.1; have v19 := v4.2; (And.intro (sdQ (st_a0 hL hA1) c5) (Exists.elim v19 (fun q6 v17_0 => (Exists.elim v17_0 (fun n7 v17_1 => (Exists.elim v17_1 (fun r8 v17 => have c9 := v17.1; have v18 := v17.2; (Exists.intro _ (And.intro c9.1 (And.intro (sdA (st_a0 hL hA0) c5 (sg_o c9.2)) (have c11 := v18.1; have v16 := v18.2; (have hL := c11; (And.intro (st_o hL hA0) (Exists.intro (a0 + 2) (And.intro (st_r1 hL hA0) (And.intro (st_o hL hA1) (Exists.intro (a1 + 2) (And.intro (st_r1 hL hA1) (And.intro (sdJ (st_a1 hL hA1) c5) (And.intro (sdJ (st_a1 hL hA0) c5) (have c14 := v16.1; have v15 := v16.2; (And.intro c14 (And.intro rfl v15)))))))))))))))))))))))))))))))))))
def b_X9_append_0 : List IE := [(.aload_n 0, 1, 0, 0, 0, 0), (.getfield 21, 3, 0, 9, 2, 0), (.bipush 8, 2, 8, 0, 0, 0)]
theorem k_X9_append_0 : ckIc mX9_append 9 0 b_X9_append_0 6 3 33 39 9 = true := by decide +kernel
def b_X9_append_9 : List IE := [(.aload_n 0, 1, 0, 0, 0, 0), (.getfield 11, 3, 0, 9, 0, 1), (.aload_n 0, 1, 0, 0, 0, 0), (.getfield 21, 3, 0, 9, 2, 0), (.aload_n 1, 1, 0, 0, 1, 0), (.aastore, 1, 0, 0, 0, 0), (.aload_n 0, 1, 0, 0, 0, 0), (.getfield 17, 3, 0, 9, 1, 1), (.aload_n 0, 1, 0, 0, 0, 0), (.getfield 21, 3, 0, 9, 2, 0), (.lconst 0, 1, 0, 0, 0, 0), (.lastore, 1, 0, 0, 0, 0), (.aload_n 0, 1, 0, 0, 0, 0), (.dup, 1, 0, 0, 0, 0), (.getfield 21, 3, 0, 9, 2, 0), (.iconst 1, 1, 1, 0, 0, 0), (.iadd, 1, 0, 0, 0, 0), (.putfield 21, 3, 0, 9, 2, 0)]
theorem k_X9_append_9 : ckV mX9_append 9 9 b_X9_append_9 39 = true := by decide +kernel
def b_X9_append_39 : List IE := []
theorem k_X9_append_39 : ckV mX9_append 9 39 b_X9_append_39 39 = true := by decide +kernel
theorem t_X9_append_0 {rc rs : Nat} {Q : Option AV → AH → Prop} {h : AH} {a0 a1 n1 r1 : Nat} (hL : LayL h) (hA0 : iSt a0) (hA1 : iSg h a1 n1 r1) (hv : ((8 ≤ (iH h a0 2) → Q none h) ∧ ((iH h a0 2) < 8 → (0 ≤ iH h a0 2 ∧ iH h a0 2 < 8) ∧ LayL (sR h (a0 + 1) ((iH h a0 2).toNat) (some a1)) ∧ (-2147483648 ≤ (iH h a0 2 + 1) ∧ (iH h a0 2 + 1) < 2147483648) ∧ Q none (sI (sJ (sR h (a0 + 1) ((iH h a0 2).toNat) (some a1)) (a0 + 2) ((iH h a0 2).toNat) 0) a0 2 (iH h a0 2 + 1))))) : wp mX9_append 0 rc rs Q 0 [some (vr a0), some (vr a1)] [] h :=
  (show wp mX9_append 0 rc rs Q 0 [some (vr a0), some (vr a1)] [] h from xIc k_X9_append_0 (And.intro (st_o hL hA0) (And.intro (fun c1 => have v3 := hv.1 c1; (show wp mX9_append 0 rc rs Q 39 [some (vr a0), some (vr a1)] [] h from xV k_X9_append_39 (And.intro rfl v3))) (fun c2 => have v4 := hv.2 (Int.not_le.mp c2); (show wp mX9_append 0 rc rs Q 9 [some (vr a0), some (vr a1)] [] h from xV k_X9_append_9 (And.intro (st_o hL hA0) (Exists.intro (a0 + 1) (And.intro (st_r0 hL hA0) (And.intro (st_o hL hA0) (have c5 := v4.1; have v11 := v4.2; (And.intro (sdA (st_a0 hL hA0) c5 (sg_o hA1)) (have c6 := v11.1; have v10 := v11.2; (have hL := c6; (And.intro (st_o hL hA0) (Exists.intro (a0 + 2) (And.intro (st_r1 hL hA0) (And.intro (st_o hL hA0) (And.intro (sdJ (st_a1 hL hA0) c5) (And.intro rfl (And.intro (st_o hL hA0) (have c8 := v10.1; have v9 := v10.2; (And.intro c8 (And.intro (st_o hL hA0) (And.intro rfl v9))))))))))))))))))))))))
theorem e_X9_append {mc ms : Nat} {Q : Option AV → AH → Prop} {h : AH} {a0 a1 n1 r1 : Nat} (hL : LayL h) (hA0 : iSt a0) (hA1 : iSg h a1 n1 r1) (hv : ((8 ≤ (iH h a0 2) → Q none h) ∧ ((iH h a0 2) < 8 → (0 ≤ iH h a0 2 ∧ iH h a0 2 < 8) ∧ LayL (sR h (a0 + 1) ((iH h a0 2).toNat) (some a1)) ∧ (-2147483648 ≤ (iH h a0 2 + 1) ∧ (iH h a0 2 + 1) < 2147483648) ∧ Q none (sI (sJ (sR h (a0 + 1) ((iH h a0 2).toNat) (some a1)) (a0 + 2) ((iH h a0 2).toNat) 0) a0 2 (iH h a0 2 + 1))))) : Ct 0 mc ms mX9_append [vr a0, vr a1] h Q := Ct.of (by decide +kernel) (Nat.le_of_ble_eq_true rfl) (t_X9_append_0 hL hA0 hA1 hv)
def b_X9_remove_0 : List IE := [(.aload_n 0, 1, 0, 0, 0, 0), (.dup, 1, 0, 0, 0, 0), (.getfield 21, 3, 0, 9, 2, 0), (.iload_n 2, 1, 0, 0, 2, 0), (.isub, 1, 0, 0, 0, 0), (.putfield 21, 3, 0, 9, 2, 0), (.iload_n 1, 1, 0, 0, 1, 0), (.istore_n 3, 1, 0, 0, 3, 0)]
theorem k_X9_remove_0 : ckB mX9_remove 9 0 b_X9_remove_0 12 = true := by decide +kernel
def b_X9_remove_12 : List IE := [(.iload_n 3, 1, 0, 0, 3, 0), (.aload_n 0, 1, 0, 0, 0, 0), (.getfield 21, 3, 0, 9, 2, 0)]
theorem k_X9_remove_12 : ckIc mX9_remove 9 12 b_X9_remove_12 17 3 37 54 20 = true := by decide +kernel
def b_X9_remove_20 : List IE := [(.aload_n 0, 1, 0, 0, 0, 0), (.getfield 11, 3, 0, 9, 0, 1), (.iload_n 3, 1, 0, 0, 3, 0), (.aload_n 0, 1, 0, 0, 0, 0), (.getfield 11, 3, 0, 9, 0, 1), (.iload_n 3, 1, 0, 0, 3, 0), (.iload_n 2, 1, 0, 0, 2, 0), (.iadd, 1, 0, 0, 0, 0), (.aaload, 1, 0, 0, 0, 0), (.aastore, 1, 0, 0, 0, 0), (.aload_n 0, 1, 0, 0, 0, 0), (.getfield 17, 3, 0, 9, 1, 1), (.iload_n 3, 1, 0, 0, 3, 0), (.aload_n 0, 1, 0, 0, 0, 0), (.getfield 17, 3, 0, 9, 1, 1), (.iload_n 3, 1, 0, 0, 3, 0), (.iload_n 2, 1, 0, 0, 2, 0), (.iadd, 1, 0, 0, 0, 0), (.laload, 1, 0, 0, 0, 0), (.lastore, 1, 0, 0, 0, 0), (.iinc 3 1, 3, 1, 0, 3, 0)]
theorem k_X9_remove_20 : ckGo mX9_remove 9 20 b_X9_remove_20 51 (-39) 12 = true := by decide +kernel
def b_X9_remove_54 : List IE := []
theorem k_X9_remove_54 : ckV mX9_remove 9 54 b_X9_remove_54 54 = true := by decide +kernel
theorem t_X9_remove_0 {rc rs : Nat} {Q : Option AV → AH → Prop} {h : AH} {a0 : Nat} {x1 x2 : Int} (hL : LayL h) (hA0 : iSt a0) (hv : (-2147483648 ≤ (iH h a0 2 - x2) ∧ (iH h a0 2 - x2) < 2147483648) ∧ wp mX9_remove 0 rc rs Q 12 [some (vr a0), none, some (vi x2), some (vi x1)] [] (sI h a0 2 (iH h a0 2 - x2))) : wp mX9_remove 0 rc rs Q 0 [some (vr a0), some (vi x1), some (vi x2), none] [] h :=
  (show wp mX9_remove 0 rc rs Q 0 [some (vr a0), some (vi x1), some (vi x2), none] [] h from xB k_X9_remove_0 (And.intro rfl (And.intro (st_o hL hA0) (have c1 := hv.1; have v2 := hv.2; (And.intro c1 (And.intro (st_o hL hA0) (And.intro rfl (w_fg [true, false, true, true] v2))))))))
theorem e_X9_remove {mc ms : Nat} {Q : Option AV → AH → Prop} {h : AH} {a0 : Nat} {x1 x2 : Int} (hL : LayL h) (hA0 : iSt a0) (hv : (-2147483648 ≤ (iH h a0 2 - x2) ∧ (iH h a0 2 - x2) < 2147483648) ∧ wp mX9_remove 0 mc ms Q 12 [some (vr a0), none, some (vi x2), some (vi x1)] [] (sI h a0 2 (iH h a0 2 - x2))) : Ct 0 mc ms mX9_remove [vr a0, vi x1, vi x2] h Q := Ct.of (by decide +kernel) (Nat.le_of_ble_eq_true rfl) (t_X9_remove_0 hL hA0 hv)
theorem t_X9_remove_12 {rc rs : Nat} {Q : Option AV → AH → Prop} {h : AH} {a0 : Nat} {x2 x3 : Int} (hL : LayL h) (hA0 : iSt a0) (hv : (((iH h a0 2) ≤ x3 → Q none h) ∧ (x3 < (iH h a0 2) → (-2147483648 ≤ (x3 + x2) ∧ (x3 + x2) < 2147483648) ∧ (0 ≤ (x3 + x2) ∧ (x3 + x2) < 8) ∧ (∃ q7 n8 r9 : Nat, (rH h (a0 + 1) ((x3 + x2).toNat) = some q7 ∧ iSg h q7 n8 r9) ∧ (0 ≤ x3 ∧ x3 < 8) ∧ LayL (sR h (a0 + 1) x3.toNat (some q7)) ∧ (-2147483648 ≤ (x3 + 1) ∧ (x3 + 1) < 2147483648) ∧ wp mX9_remove 0 rc rs Q 12 [some (vr a0), none, some (vi x2), some (vi (x3 + 1))] [] (sJ (sR h (a0 + 1) x3.toNat (some q7)) (a0 + 2) x3.toNat (jH h (a0 + 2) ((x3 + x2).toNat))))))) : wp mX9_remove 0 rc rs Q 12 [some (vr a0), none, some (vi x2), some (vi x3)] [] h :=
  (show wp mX9_remove 0 rc rs Q 12 [some (vr a0), none, some (vi x2), some (vi x3)] [] h from xIc k_X9_remove_12 (And.intro (st_o hL hA0) (And.intro (fun c1 => have v3 := hv.1 c1; (show wp mX9_remove 0 rc rs Q 54 [some (vr a0), none, some (vi x2), some (vi x3)] [] h from xV k_X9_remove_54 (And.intro rfl v3))) (fun c2 => have v4 := hv.2 (Int.not_le.mp c2); (show wp mX9_remove 0 rc rs Q 20 [some (vr a0), none, some (vi x2), some (vi x3)] [] h from xGo k_X9_remove_20 (And.intro (st_o hL hA0) (Exists.intro (a0 + 1) (And.intro (st_r0 hL hA0) (And.intro (st_o hL hA0) (Exists.intro (a0 + 1) (And.intro (st_r0 hL hA0) (have c5 := v4.1; have v23 := v4.2; (And.intro c5 (have c6 := v23.1; have v22 := v23.2; (And.intro (sdQ (st_a0 hL hA0) c6) (Exists.elim v22 (fun q7 v20_0 => (Exists.elim v20_0 (fun n8 v20_1 => (Exists.elim v20_1 (fun r9 v20 => have c10 := v20.1; have v21 := v20.2; (Exists.intro _ (And.intro c10.1 (have c11 := v21.1; have v19 := v21.2; (And.intro (sdA (st_a0 hL hA0) c11 (sg_o c10.2)) (have c12 := v19.1; have v18 := v19.2; (have hL := c12; (And.intro (st_o hL hA0) (Exists.intro (a0 + 2) (And.intro (st_r1 hL hA0) (And.intro (st_o hL hA0) (Exists.intro (a0 + 2) (And.intro (st_r1 hL hA0) (And.intro c5 (And.intro (sdJ (st_a1 hL hA0) c6) (And.intro (sdJ (st_a1 hL hA0) c11) (have c16 := v18.1; have v17 := v18.2; (And.intro c16 (And.intro rfl v17)))))))))))))))))))))))))))))))))))))))
def p_become (h : AH) (a b : Nat) (h' : AH) : Prop := ∃ R J, h' = hSt h a (iH h b 2) R J ∧ ∀ k : Nat, (k : Int) < iH h b 2 → R k = rH h (b + 1) k ∧ J k = jH h (b + 2) k
theorem l_become {h g : AH} {da sa : Nat → Nat} (hL : LayL h) {a b : Nat} {n : Int} {row : Nat → Int} {dr : Nat → Nat → Prop} (ha : iSt a) (hb : iSt b) (hne : a ≠ b) (hs : cSegs h g da sa) (hc : cStd h g sa b n row dr) : Ct 0 0 0 mX9_become [vr a, vr b] h (QV (p_become h a b)) := by
  obtain ⟨c1, c2, c3⟩ := hc
  have hap := iSt_ap ha hb hne
  have hal := iSt_lt ha
  refine e_X9_become hL ha hb ?_
  have e0 : sI h a 2 (iH h b 2) = hSt h a (iH h b 2) (rH h (a + 1)) (jH h (a + 2)) := by
    conv => lhs; rw [st_id (h := h) (a := a)]
    rw [st_io (by omega), st_sn]
  rw [e0]
  have main := up (P := fun i => ∀ R J, (∀ k : Nat, k < i → R k = rH h (b + 1) k ∧ J k = jH h (b + 2) k) → wp mX9_become 0 0 0 (QV (p_become h a b)) 10 [some (vr a), some (vr b), some (vi i)] [] (hSt h a (iH h b 2) R J)) n.toNat ?_ ?_
  · exact main _ _ (fun k hk => absurd hk (Nat.not_lt_zero _))
  · intro R J hR
    refine t_X9_become_10 (LayL_hSt ha hL) ha hb ?_
    rw [st_n]
    exact ⟨fun _ => ⟨rfl, R, J, rfl, fun k hk => hR k (by omega)⟩, fun c => absurd c (by omega)⟩
  · intro i hi ih R J hR
    obtain ⟨⟨p1, p2⟩, p3, -⟩ := c3 i (by omega)
    obtain ⟨x, e⟩ := Int.eq_ofNat_of_zero_le p1
    rw [e] at p2 p3
    rw [Int.toNat_natCast] at p3
    obtain ⟨-, -, -, ⟨r, d2, -⟩, -⟩ := hs x p2
    refine t_X9_become_10 (LayL_hSt ha hL) ha hb ?_
    rw [st_n, Int.toNat_natCast, st_Ro (by omega), st_Jo (by omega)]
    refine ⟨fun c => absurd c (by omega), fun _ => ⟨by omega, sa x, _, r, ⟨p3, iSg_ag (agD_hSt (by omega)) d2⟩, ?_⟩⟩
    rw [st_sR, st_sJ]
    refine ⟨LayL_hSt ha hL, by omega, ih _ _ (fun k hk => ?_)⟩
    unfold updR updJ
    by_cases e2 : k = i
    · subst e2; rw [if_pos rfl, if_pos rfl]; exact ⟨p3.symm, rfl⟩
    · rw [if_neg e2, if_neg e2]; exact hR k (by omega)
theorem l_appendS {h : AH} (hL : LayL h) {a x n r : Nat} (ha : iSt a) (hx : iSg h x n r) (hn : 0 ≤ iH h a 2 ∧ iH h a 2 < 8) : Ct 0 0 0 mX9_append [vr a, vr x] h (QV fun h' => h' = hSt h a (iH h a 2 + 1) (updR (rH h (a + 1)) (iH h a 2).toNat (some x)) (updJ (jH h (a + 2)) (iH h a 2).toNat 0)) := by
  have e0 : ∀ k, sR h (a + 1) k (some x) = hSt h a (iH h a 2) (updR (rH h (a + 1)) k (some x)) (jH h (a + 2)) := fun k => by
    conv => lhs; rw [st_id (h := h) (a := a)]
    rw [st_sR]
  refine e_X9_append hL ha hx ⟨fun c => absurd c (by omega), fun _ => ⟨hn, ?_⟩⟩
  rw [e0, st_sJ, st_sn]
  exact ⟨LayL_hSt ha hL, by omega, rfl, rfl⟩
/-- n segments from f on go -/
def p_remove (h : AH) (a : Nat) (f n : Int) (h' : AH) : Prop := ∃ R J, h' = hSt h a (iH h a 2 - n) R J ∧ ∀ k : Nat, ((k : Int) < f → R k = rH h (a + 1) k ∧ J k = jH h (a + 2) k) ∧ (f ≤ (k : Int) → (k : Int) < iH h a 2 - n → R k = rH h (a + 1) (k + n.toNat) ∧ J k = jH h (a + 2) (k + n.toNat))
theorem l_remove {h g : AH} {da sa : Nat → Nat} (hL : LayL h) {a : Nat} {n f m : Int} {row : Nat → Int} {dr : Nat → Nat → Prop} (ha : iSt a) (hs : cSegs h g da sa) (hc : cStd h g sa a n row dr) (hf : 0 ≤ f ∧ 0 ≤ m ∧ f + m ≤ n) : Ct 0 0 0 mX9_remove [vr a, vi f, vi m] h (QV (p_remove h a f m)) := by
  obtain ⟨c1, c2, c3⟩ := hc
  have hal := iSt_lt ha
  refine e_X9_remove hL ha ⟨by omega, ?_⟩
  have e0 : sI h a 2 (iH h a 2 - m) = hSt h a (iH h a 2 - m) (rH h (a + 1)) (jH h (a + 2)) := by
    conv => lhs; rw [st_id (h := h) (a := a)]
    rw [st_n, st_sn]
  rw [e0]
  have main : ∀ i : Nat, f ≤ (i : Int) → (i : Int) ≤ n - m → ∀ R J, (∀ k : Nat, ((k : Int) < f → R k = rH h (a + 1) k ∧ J k = jH h (a + 2) k) ∧ (f ≤ (k : Int) → k < i → R k = rH h (a + 1) (k + m.toNat) ∧ J k = jH h (a + 2) (k + m.toNat)) ∧ (i ≤ k → R k = rH h (a + 1) k ∧ J k = jH h (a + 2) k)) → wp mX9_remove 0 0 0 (QV (p_remove h a f m)) 12 [some (vr a), none, some (vi m), some (vi i)] [] (hSt h a (iH h a 2 - m) R J) := by
    refine dn (n - m).toNat (fun i hi h1 h2 R J hR => ?_) (fun i hi ih h1 h2 R J hR => ?_)
    · refine t_X9_remove_12 (LayL_hSt ha hL) ha ?_
      rw [st_n]
      exact ⟨fun _ => ⟨rfl, R, J, rfl, fun k => ⟨(hR k).1, fun q1 q2 => (hR k).2.1 q1 (by omega)⟩⟩, fun c => absurd c (by omega)⟩
    · obtain ⟨m', em⟩ := Int.eq_ofNat_of_zero_le hf.2.1
      have e1 : ((i : Int) + m).toNat = i + m.toNat := by omega
      obtain ⟨⟨p1, p2⟩, p3, -⟩ := c3 (i + m.toNat) (by omega)
      obtain ⟨x, e⟩ := Int.eq_ofNat_of_zero_le p1
      rw [e] at p2 p3
      rw [Int.toNat_natCast] at p3
      obtain ⟨-, -, -, ⟨r, d2, -⟩, -⟩ := hs x p2
      have hk := (hR (i + m.toNat)).2.2 (by omega)
      refine t_X9_remove_12 (LayL_hSt ha hL) ha ?_
      rw [st_n, e1, Int.toNat_natCast, st_R, st_J, hk.1, hk.2]
      refine ⟨fun c => absurd c (by omega), fun _ => ⟨by omega, by omega, sa x, _, r, ⟨p3, iSg_ag (agD_hSt (by omega)) d2⟩, by omega, ?_⟩⟩
      rw [st_sR, st_sJ]
      refine ⟨LayL_hSt ha hL, by omega, ?_⟩
      rw [show (i : Int) + 1 = ((i + 1 : Nat) : Int) by omega]
      refine ih (by omega) (by omega) _ _ (fun k => ?_)
      unfold updR updJ
      by_cases e2 : k = i
      · subst e2
        rw [if_pos rfl, if_pos rfl]
        exact ⟨fun q => by omega, fun _ _ => ⟨p3.symm, rfl⟩, fun q => by omega⟩
      · rw [if_neg e2, if_neg e2]
        exact ⟨(hR k).1, fun q1 q2 => (hR k).2.1 q1 (by omega), fun q => (hR k).2.2 (by omega)⟩
  have := main f.toNat (by omega) (by omega) (rH h (a + 1)) (jH h (a + 2)) (fun k => ⟨fun _ => ⟨rfl, rfl⟩, fun q1 q2 => by omega, fun _ => ⟨rfl, rfl⟩⟩)
  rw [show ((f.toNat : Nat) : Int) = f by omega] at this
  exact this
