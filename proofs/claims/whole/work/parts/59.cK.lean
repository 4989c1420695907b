/-! THE CLASS: A MERGE -/
section
def sJW (h : AH) (a : Nat) (J : Nat → Int64) : AH := (h.1, h.2.1, h.2.2.1, r2 h.2.2.2.1 a J, h.2.2.2.2)
def sRW (h : AH) (a : Nat) (R : Nat → Option Nat) : AH := (h.1, h.2.1, h.2.2.1, h.2.2.2.1, r2 h.2.2.2.2 a R)
variable {h : AH} {a x k : Nat} {R : Nat → Option Nat} {J : Nat → Int64}
theorem jw_s : jH (sJW h a J) a k = J k := by simp [jH, sJW, r2]
theorem jw_o (e : x ≠ a) : jH (sJW h a J) x k = jH h x k := by simp [jH, sJW, r2, e]
theorem jw_id : sJW h a (jH h a) = h := by
  have e2 : r2 h.2.2.2.1 a (jH h a) = h.2.2.2.1 := by
    funext x y
    unfold r2
    split
    · rename_i q; subst q; rfl
    · rfl
  unfold sJW
  rw [e2]
theorem jw_sJ {w : Int64} : sJ (sJW h a J) a k w = sJW h a (updJ J k w) := by
  unfold sJ sJW
  congr 4
  funext x y
  unfold u2 r2 updJ
  by_cases e : x = a
  · subst e
    by_cases e2 : y = k <;> simp [e2]
  · simp [e]
theorem rw_s : rH (sRW h a R) a k = R k := by simp [rH, sRW, r2]
theorem rw_o (e : x ≠ a) : rH (sRW h a R) x k = rH h x k := by simp [rH, sRW, r2, e]
theorem rw_id : sRW h a (rH h a) = h := by
  have e2 : r2 h.2.2.2.2 a (rH h a) = h.2.2.2.2 := by
    funext x y
    unfold r2
    split
    · rename_i q; subst q; rfl
    · rfl
  unfold sRW
  rw [e2]
theorem rw_sR {w : Option Nat} : sR (sRW h a R) a k w = sRW h a (updR R k w) := by
  unfold sR sRW
  congr 4
  funext x y
  unfold u2 r2 updR
  by_cases e : x = a
  · subst e
    by_cases e2 : y = k <;> simp [e2]
  · simp [e]
theorem LayL_rw (ha : 88 < a) (hL : LayL h) : LayL (sRW h a R) := ⟨hL.1, fun q hq => by
  have : q.1 ≠ a := by
    have : ∀ q ∈ refL, q.1 ≤ 88 := by decide
    have := this q hq
    omega
  rw [rw_o this]; exact hL.2 q hq⟩
/-- who comes: of segments in a row, those that aren't left -/
noncomputable def v_cI (g : AH) (x : Int) (lf : Nat → Prop) (p : Nat × (Nat → Int)) : Nat → Nat × (Nat → Int)
  | 0 => p
  | k + 1 => @ite _ (lf k) (Classical.propDecidable _) (v_cI g x lf p k) ((v_cI g x lf p k).1 + 1, fun i => if i = (v_cI g x lf p k).1 then iH g (617 + x.toNat) k else (v_cI g x lf p k).2 i)
noncomputable def v_cm (g : AH) (row : Nat → Int) (lf : Nat → Nat → Prop) : Nat → Nat × (Nat → Int)
  | 0 => (0, fun _ => 0)
  | j + 1 => v_cI g (row j) (lf j) (v_cm g row lf j) (iH g 615 (row j).toNat).toNat
theorem v_cI_1 (g : AH) (x : Int) (lf : Nat → Prop) (p : Nat × (Nat → Int)) : ∀ k, ((v_cI g x lf p k).1 : Int) = p.1 + cnt (fun k => ¬ lf k) k
  | 0 => (Int.add_zero _).symm
  | k + 1 => by
    have ih := v_cI_1 g x lf p k
    unfold v_cI
    by_cases c : lf k
    · rw [if_pos c, cnt_n (p := fun k => ¬ lf k) (fun q => q c), ih]
    · rw [if_neg c, cnt_s (p := fun k => ¬ lf k) c]; show (((v_cI g x lf p k).1 + 1 : Nat) : Int) = _; omega
theorem v_cI_mono (g : AH) (x : Int) (lf : Nat → Prop) (p : Nat × (Nat → Int)) (k : Nat) : ∀ m, k ≤ m → (v_cI g x lf p k).1 ≤ (v_cI g x lf p m).1 ∧ ((v_cI g x lf p k).1 = (v_cI g x lf p m).1 → v_cI g x lf p k = v_cI g x lf p m)
  | 0, h => by rw [show k = 0 by omega]; exact ⟨Nat.le_refl _, fun _ => rfl⟩
  | m + 1, h => by
    by_cases e : k = m + 1
    · rw [e]; exact ⟨Nat.le_refl _, fun _ => rfl⟩
    · obtain ⟨i1, i2⟩ := v_cI_mono g x lf p k m (by omega)
      by_cases c : lf m
      · have e2 : v_cI g x lf p (m + 1) = v_cI g x lf p m := if_pos c
        rw [e2]; exact ⟨i1, i2⟩
      · have e2 : (v_cI g x lf p (m + 1)).1 = (v_cI g x lf p m).1 + 1 := by
          show (@ite _ (lf m) (Classical.propDecidable _) (v_cI g x lf p m) ((v_cI g x lf p m).1 + 1, _)).1 = _
          rw [if_neg c]
        exact ⟨by omega, fun q => by omega⟩
theorem v_cm_mono (g : AH) (row : Nat → Int) (lf : Nat → Nat → Prop) (j : Nat) : ∀ m, j ≤ m → (v_cm g row lf j).1 ≤ (v_cm g row lf m).1
  | 0, h => by rw [show j = 0 by omega]; exact Nat.le_refl _
  | m + 1, h => by
    by_cases e : j = m + 1
    · rw [e]; exact Nat.le_refl _
    · have i1 := v_cm_mono g row lf j m (by omega)
      have i2 := (v_cI_mono g (row m) (lf m) (v_cm g row lf m) 0 (iH g 615 (row m).toNat).toNat (Nat.zero_le _)).1
      exact Nat.le_trans i1 i2
end
def b_X3_start_0 : List IE := [(.aload_n 0, 1, 0, 0, 0, 0), (.iconst 1, 1, 1, 0, 0, 0), (.putfield 15, 3, 0, 3, 0, 2), (.aload_n 0, 1, 0, 0, 0, 0), (.iload_n 2, 1, 0, 0, 2, 0), (.putfield 19, 3, 0, 3, 1, 0), (.aload_n 0, 1, 0, 0, 0, 0), (.iload_n 3, 1, 0, 0, 3, 0), (.putfield 23, 3, 0, 3, 2, 0), (.iconst 0, 1, 0, 0, 0, 0), (.istore 4, 2, 0, 0, 4, 0)]
theorem k_X3_start_0 : ckB mX3_start 3 0 b_X3_start_0 18 = true := by decide +kernel
def b_X3_start_18 : List IE := [(.iload 4, 2, 0, 0, 4, 0), (.iload_n 3, 1, 0, 0, 3, 0)]
theorem k_X3_start_18 : ckIc mX3_start 3 18 b_X3_start_18 21 3 25 46 24 = true := by decide +kernel
def b_X3_start_24 : List IE := [(.aload_n 0, 1, 0, 0, 0, 0), (.getfield 9, 3, 0, 3, 3, 1), (.iload 4, 2, 0, 0, 4, 0), (.aload_n 1, 1, 0, 0, 1, 0), (.getfield 26, 3, 0, 9, 1, 1), (.iload_n 2, 1, 0, 0, 2, 0), (.iload 4, 2, 0, 0, 4, 0), (.iadd, 1, 0, 0, 0, 0), (.laload, 1, 0, 0, 0, 0), (.lastore, 1, 0, 0, 0, 0), (.iinc 4 1, 3, 1, 0, 4, 0)]
theorem k_X3_start_24 : ckGo mX3_start 3 24 b_X3_start_24 43 (-25) 18 = true := by decide +kernel
def b_X3_start_46 : List IE := []
theorem k_X3_start_46 : ckV mX3_start 3 46 b_X3_start_46 46 = true := by decide +kernel
theorem t_X3_start_0 {rc rs : Nat} {Q : Option AV → AH → Prop} {h : AH} {a1 : Nat} {x2 x3 : Int} (hL : LayL h) (hA1 : iSt a1) (hv : wp mX3_start 0 rc rs Q 18 [some (vr 17), some (vr a1), some (vi x2), some (vi x3), some (vi 0)] [] (sI (sI (sI h 17 0 1) 17 1 x2) 17 2 x3)) : wp mX3_start 0 rc rs Q 0 [some (vr 17), some (vr a1), some (vi x2), some (vi x3), none] [] h :=
  (show wp mX3_start 0 rc rs Q 0 [some (vr 17), some (vr a1), some (vi x2), some (vi x3), none] [] h from xB k_X3_start_0 (And.intro (ll_17 hL) (And.intro (Or.inr rfl) (And.intro (ll_17 hL) (And.intro (ll_17 hL) (And.intro rfl hv))))))
theorem e_X3_start {mc ms : Nat} {Q : Option AV → AH → Prop} {h : AH} {a1 : Nat} {x2 x3 : Int} (hL : LayL h) (hA1 : iSt a1) (hv : wp mX3_start 0 mc ms Q 18 [some (vr 17), some (vr a1), some (vi x2), some (vi x3), some (vi 0)] [] (sI (sI (sI h 17 0 1) 17 1 x2) 17 2 x3)) : Ct 0 mc ms mX3_start [vr 17, vr a1, vi x2, vi x3] h Q := Ct.of (by decide +kernel) (Nat.le_of_ble_eq_true rfl) (t_X3_start_0 hL hA1 hv)
theorem t_X3_start_18 {rc rs : Nat} {Q : Option AV → AH → Prop} {h : AH} {a1 : Nat} {x2 x3 x4 : Int} (hL : LayL h) (hA1 : iSt a1) (hv : ((x3 ≤ x4 → Q none h) ∧ (x4 < x3 → (-2147483648 ≤ (x2 + x4) ∧ (x2 + x4) < 2147483648) ∧ (0 ≤ (x2 + x4) ∧ (x2 + x4) < 8) ∧ (0 ≤ x4 ∧ x4 < 8) ∧ (-2147483648 ≤ (x4 + 1) ∧ (x4 + 1) < 2147483648) ∧ wp mX3_start 0 rc rs Q 18 [some (vr 17), some (vr a1), some (vi x2), some (vi x3), some (vi (x4 + 1))] [] (sJ h 18 x4.toNat (jH h (a1 + 2) ((x2 + x4).toNat)))))) : wp mX3_start 0 rc rs Q 18 [some (vr 17), some (vr a1), some (vi x2), some (vi x3), some (vi x4)] [] h :=
  (show wp mX3_start 0 rc rs Q 18 [some (vr 17), some (vr a1), some (vi x2), some (vi x3), some (vi x4)] [] h from xIc k_X3_start_18 (And.intro (fun c1 => have v3 := hv.1 c1; (show wp mX3_start 0 rc rs Q 46 [some (vr 17), some (vr a1), some (vi x2), some (vi x3), some (vi x4)] [] h from xV k_X3_start_46 (And.intro rfl v3))) (fun c2 => have v4 := hv.2 (Int.not_le.mp c2); (show wp mX3_start 0 rc rs Q 24 [some (vr 17), some (vr a1), some (vi x2), some (vi x3), some (vi x4)] [] h from xGo k_X3_start_24 (And.intro (ll_17 hL) (Exists.intro 18 (And.intro (lg_17_3 hL) (And.intro (st_o hL hA1) (Exists.intro (a1 + 2) (And.intro (st_r1 hL hA1) (have c5 := v4.1; have v12 := v4.2; (And.intro c5 (have c6 := v12.1; have v11 := v12.2; (And.intro (sdJ (st_a1 hL hA1) c6) (have c7 := v11.1; have v10 := v11.2; (And.intro (sdJ (ll_18 hL) c7) (have c8 := v10.1; have v9 := v10.2; (And.intro c8 (And.intro rfl v9)))))))))))))))))))
def b_X3_howManyCome_0 : List IE := [(.iconst 0, 1, 0, 0, 0, 0), (.istore_n 2, 1, 0, 0, 2, 0), (.iconst 0, 1, 0, 0, 0, 0), (.istore_n 3, 1, 0, 0, 3, 0)]
theorem k_X3_howManyCome_0 : ckB mX3_howManyCome 3 0 b_X3_howManyCome_0 4 = true := by decide +kernel
def b_X3_howManyCome_4 : List IE := [(.iload_n 3, 1, 0, 0, 3, 0), (.aload_n 0, 1, 0, 0, 0, 0), (.getfield 23, 3, 0, 3, 2, 0)]
theorem k_X3_howManyCome_4 : ckIc mX3_howManyCome 3 4 b_X3_howManyCome_4 9 3 37 46 12 = true := by decide +kernel
def b_X3_howManyCome_12 : List IE := [(.iload_n 2, 1, 0, 0, 2, 0), (.aload_n 1, 1, 0, 0, 1, 0), (.getfield 31, 3, 0, 9, 0, 1), (.aload_n 0, 1, 0, 0, 0, 0), (.getfield 19, 3, 0, 3, 1, 0), (.iload_n 3, 1, 0, 0, 3, 0), (.iadd, 1, 0, 0, 0, 0), (.aaload, 1, 0, 0, 0, 0), (.getfield 35, 3, 0, 7, 1, 1), (.arraylength, 1, 0, 0, 0, 0), (.aload_n 0, 1, 0, 0, 0, 0), (.getfield 9, 3, 0, 3, 3, 1), (.iload_n 3, 1, 0, 0, 3, 0), (.laload, 1, 0, 0, 0, 0)]
theorem k_X3_howManyCome_12 : ckB mX3_howManyCome 3 12 b_X3_howManyCome_12 34 = true := by decide +kernel
def b_X3_howManyCome_37 : List IE := [(.isub, 1, 0, 0, 0, 0), (.iadd, 1, 0, 0, 0, 0), (.istore_n 2, 1, 0, 0, 2, 0), (.iinc 3 1, 3, 1, 0, 3, 0)]
theorem k_X3_howManyCome_37 : ckGo mX3_howManyCome 3 37 b_X3_howManyCome_37 43 (-39) 4 = true := by decide +kernel
def b_X3_howManyCome_46 : List IE := [(.iload_n 2, 1, 0, 0, 2, 0)]
theorem k_X3_howManyCome_46 : ckI mX3_howManyCome 3 46 b_X3_howManyCome_46 47 = true := by decide +kernel
theorem s_X3_howManyCome_34 : cS mX3_howManyCome 34 mJ13_bitCount_95d88 41 1 := ⟨by decide +kernel, ⟨ml_J13_bitCount_95d88, li_RX3_41, st_J13_bitCount_95d88⟩, by decide +kernel⟩
theorem t_X3_howManyCome_0 {rc rs : Nat} {Q : Option AV → AH → Prop} {h : AH} {a1 : Nat} (hL : LayL h) (hA1 : iSt a1) (hv : wp mX3_howManyCome 1 rc rs Q 4 [some (vr 17), some (vr a1), some (vi 0), some (vi 0)] [] h) : wp mX3_howManyCome 1 rc rs Q 0 [some (vr 17), some (vr a1), none, none] [] h :=
  (show wp mX3_howManyCome 1 rc rs Q 0 [some (vr 17), some (vr a1), none, none] [] h from xB k_X3_howManyCome_0 (And.intro rfl (And.intro rfl hv)))
theorem e_X3_howManyCome {mc ms : Nat} {Q : Option AV → AH → Prop} {h : AH} {a1 : Nat} (hL : LayL h) (hA1 : iSt a1) (hv : wp mX3_howManyCome 1 mc ms Q 4 [some (vr 17), some (vr a1), some (vi 0), some (vi 0)] [] h) : Ct 1 mc ms mX3_howManyCome [vr 17, vr a1] h Q := Ct.of (by decide +kernel) (Nat.le_of_ble_eq_true rfl) (t_X3_howManyCome_0 hL hA1 hv)
theorem t_X3_howManyCome_4 {rc rs : Nat} {Q : Option AV → AH → Prop} {h : AH} {a1 : Nat} {x2 x3 : Int} (hL : LayL h) (hA1 : iSt a1) (hv : (((iH h 17 2) ≤ x3 → Q (some (vi x2)) h) ∧ (x3 < (iH h 17 2) → (-2147483648 ≤ (iH h 17 1 + x3) ∧ (iH h 17 1 + x3) < 2147483648) ∧ (0 ≤ (iH h 17 1 + x3) ∧ (iH h 17 1 + x3) < 8) ∧ (∃ q7 n8 r9 : Nat, (rH h (a1 + 1) ((iH h 17 1 + x3).toNat) = some q7 ∧ iSg h q7 n8 r9) ∧ (0 ≤ x3 ∧ x3 < 8) ∧ (-2147483648 ≤ ((n8 : Int) - pcL (jH h 18 x3.toNat)) ∧ ((n8 : Int) - pcL (jH h 18 x3.toNat)) < 2147483648) ∧ (-2147483648 ≤ (x2 + ((n8 : Int) - pcL (jH h 18 x3.toNat))) ∧ (x2 + ((n8 : Int) - pcL (jH h 18 x3.toNat))) < 2147483648) ∧ (-2147483648 ≤ (x3 + 1) ∧ (x3 + 1) < 2147483648) ∧ wp mX3_howManyCome 1 rc rs Q 4 [some (vr 17), some (vr a1), some (vi (x2 + ((n8 : Int) - pcL (jH h 18 x3.toNat)))), some (vi (x3 + 1))] [] h)))) : wp mX3_howManyCome 1 rc rs Q 4 [some (vr 17), some (vr a1), some (vi x2), some (vi x3)] [] h :=
  (show wp mX3_howManyCome 1 rc rs Q 4 [some (vr 17), some (vr a1), some (vi x2), some (vi x3)] [] h from xIc k_X3_howManyCome_4 (And.intro (ll_17 hL) (And.intro (fun c1 => have v3 := hv.1 c1; (show wp mX3_howManyCome 1 rc rs Q 46 [some (vr 17), some (vr a1), some (vi x2), some (vi x3)] [] h from xI k_X3_howManyCome_46 (And.intro rfl v3))) (fun c2 => have v4 := hv.2 (Int.not_le.mp c2); (show wp mX3_howManyCome 1 rc rs Q 12 [some (vr 17), some (vr a1), some (vi x2), some (vi x3)] [] h from xcS k_X3_howManyCome_12 s_X3_howManyCome_34 (And.intro (st_o hL hA1) (Exists.intro (a1 + 1) (And.intro (st_r0 hL hA1) (And.intro (ll_17 hL) (have c5 := v4.1; have v25 := v4.2; (And.intro c5 (have c6 := v25.1; have v24 := v25.2; (And.intro (sdQ (st_a0 hL hA1) c6) (Exists.elim v24 (fun q7 v22_0 => (Exists.elim v22_0 (fun n8 v22_1 => (Exists.elim v22_1 (fun r9 v22 => have c10 := v22.1; have v23 := v22.2; (Exists.intro _ (And.intro c10.1 (And.intro (sg_o c10.2) (Exists.intro (q7 - 1) (And.intro (sg_r1 c10.2) (And.intro (sdL (sg_a1 c10.2) (And.intro (by decide) (And.intro (by decide) (sg_n c10.2)))) (len_r (sg_a1 c10.2) (And.intro (ll_17 hL) (Exists.intro 18 (And.intro (lg_17_3 hL) (have c11 := v23.1; have v21 := v23.2; (And.intro (sdJ (ll_18 hL) c11) ((Exists.intro [vl (jH h 18 x3.toNat)] (Exists.intro [vi (n8 : Int), vi x2] (And.intro (And.intro rfl (And.intro rfl (Nat.le_of_ble_eq_true rfl))) (Exists.intro 0 (Exists.intro 0 (Exists.intro 0 (Exists.intro _ (And.intro c_bitCount (And.intro (And.intro (by decide) (And.intro (Nat.zero_le _) (Nat.zero_le _))) (eQP (show wp mX3_howManyCome 1 rc rs Q 37 [some (vr 17), some (vr a1), some (vi x2), some (vi x3)] [vi (pcL (jH h 18 x3.toNat)), vi (n8 : Int), vi x2] h from xGo k_X3_howManyCome_37 (have c12 := v21.1; have v17 := v21.2; (And.intro c12 (have c13 := v17.1; have v16 := v17.2; (And.intro c13 (And.intro rfl (have c14 := v16.1; have v15 := v16.2; (And.intro c14 (And.intro rfl v15)))))))))))))))))))))))))))))))))))))))))))))))))))
def b_X3_bring_0 : List IE := [(.lconst 0, 1, 0, 0, 0, 0), (.lstore_n 3, 1, 0, 0, 3, 0), (.iconst 0, 1, 0, 0, 0, 0), (.istore 5, 2, 0, 0, 5, 0), (.iconst 0, 1, 0, 0, 0, 0), (.istore 6, 2, 0, 0, 6, 0)]
theorem k_X3_bring_0 : ckB mX3_bring 3 0 b_X3_bring_0 8 = true := by decide +kernel
def b_X3_bring_8 : List IE := [(.iload 6, 2, 0, 0, 6, 0), (.aload_n 0, 1, 0, 0, 0, 0), (.getfield 23, 3, 0, 3, 2, 0)]
theorem k_X3_bring_8 : ckIc mX3_bring 3 8 b_X3_bring_8 14 3 106 120 17 = true := by decide +kernel
def b_X3_bring_17 : List IE := [(.aload_n 1, 1, 0, 0, 1, 0), (.getfield 31, 3, 0, 9, 0, 1), (.aload_n 0, 1, 0, 0, 0, 0), (.getfield 19, 3, 0, 3, 1, 0), (.iload 6, 2, 0, 0, 6, 0), (.iadd, 1, 0, 0, 0, 0), (.aaload, 1, 0, 0, 0, 0), (.getfield 35, 3, 0, 7, 1, 1), (.astore 7, 2, 0, 0, 7, 0), (.iconst 0, 1, 0, 0, 0, 0), (.istore 8, 2, 0, 0, 8, 0)]
theorem k_X3_bring_17 : ckB mX3_bring 3 17 b_X3_bring_17 37 = true := by decide +kernel
def b_X3_bring_37 : List IE := [(.iload 8, 2, 0, 0, 8, 0), (.aload 7, 2, 0, 0, 7, 0), (.arraylength, 1, 0, 0, 0, 0)]
theorem k_X3_bring_37 : ckIc mX3_bring 3 37 b_X3_bring_37 42 3 72 114 45 = true := by decide +kernel
def b_X3_bring_45 : List IE := [(.iload 5, 2, 0, 0, 5, 0), (.aload_n 2, 1, 0, 0, 2, 0), (.arraylength, 1, 0, 0, 0, 0)]
theorem k_X3_bring_45 : ckIc mX3_bring 3 45 b_X3_bring_45 49 3 65 114 52 = true := by decide +kernel
def b_X3_bring_52 : List IE := [(.aload_n 0, 1, 0, 0, 0, 0), (.getfield 9, 3, 0, 3, 3, 1), (.iload 6, 2, 0, 0, 6, 0), (.laload, 1, 0, 0, 0, 0), (.iload 8, 2, 0, 0, 8, 0), (.lushr, 1, 0, 0, 0, 0), (.lconst 1, 1, 0, 0, 1, 0), (.land, 1, 0, 0, 0, 0), (.lconst 0, 1, 0, 0, 0, 0), (.lcmp, 1, 0, 0, 0, 0)]
theorem k_X3_bring_52 : ckIf mX3_bring 3 52 b_X3_bring_52 66 1 42 108 69 = true := by decide +kernel
def b_X3_bring_69 : List IE := [(.aload_n 2, 1, 0, 0, 2, 0), (.iload 5, 2, 0, 0, 5, 0), (.aload 7, 2, 0, 0, 7, 0), (.iload 8, 2, 0, 0, 8, 0), (.aaload, 1, 0, 0, 0, 0), (.aastore, 1, 0, 0, 0, 0), (.lload_n 3, 1, 0, 0, 3, 0), (.aload_n 1, 1, 0, 0, 1, 0), (.aload_n 0, 1, 0, 0, 0, 0), (.getfield 19, 3, 0, 3, 1, 0), (.iload 6, 2, 0, 0, 6, 0), (.iadd, 1, 0, 0, 0, 0), (.iload 8, 2, 0, 0, 8, 0)]
theorem k_X3_bring_69 : ckB mX3_bring 3 69 b_X3_bring_69 89 = true := by decide +kernel
def b_X3_bring_92 : List IE := []
theorem k_X3_bring_92 : ckIf mX3_bring 3 92 b_X3_bring_92 92 0 10 102 95 = true := by decide +kernel
def b_X3_bring_95 : List IE := [(.lconst 1, 1, 0, 0, 1, 0), (.iload 5, 2, 0, 0, 5, 0), (.lshl, 1, 0, 0, 0, 0)]
theorem k_X3_bring_95 : ckGo mX3_bring 3 95 b_X3_bring_95 99 4 103 = true := by decide +kernel
def b_X3_bring_102 : List IE := [(.lconst 0, 1, 0, 0, 0, 0), (.lor, 1, 0, 0, 0, 0), (.lstore_n 3, 1, 0, 0, 3, 0), (.iinc 5 1, 3, 1, 0, 5, 0), (.iinc 8 1, 3, 1, 0, 8, 0)]
theorem k_X3_bring_102 : ckGo mX3_bring 3 102 b_X3_bring_102 111 (-74) 37 = true := by decide +kernel
def b_X3_bring_103 : List IE := [(.lor, 1, 0, 0, 0, 0), (.lstore_n 3, 1, 0, 0, 3, 0), (.iinc 5 1, 3, 1, 0, 5, 0), (.iinc 8 1, 3, 1, 0, 8, 0)]
theorem k_X3_bring_103 : ckGo mX3_bring 3 103 b_X3_bring_103 111 (-74) 37 = true := by decide +kernel
def b_X3_bring_108 : List IE := [(.iinc 8 1, 3, 1, 0, 8, 0)]
theorem k_X3_bring_108 : ckGo mX3_bring 3 108 b_X3_bring_108 111 (-74) 37 = true := by decide +kernel
def b_X3_bring_114 : List IE := [(.iinc 6 1, 3, 1, 0, 6, 0)]
theorem k_X3_bring_114 : ckGo mX3_bring 3 114 b_X3_bring_114 117 (-109) 8 = true := by decide +kernel
def b_X3_bring_120 : List IE := [(.lload_n 3, 1, 0, 0, 3, 0)]
theorem k_X3_bring_120 : ckJ mX3_bring 3 120 b_X3_bring_120 121 = true := by decide +kernel
theorem s_X3_bring_89 : cV mX3_bring 89 mX9_isDropped 47 2 9 := ⟨by decide +kernel, ⟨ml_X9_isDropped, li_RX3_47, im_X9_isDropped, se_X9_isDropped⟩, ⟨by decide +kernel, by decide +kernel⟩, by decide +kernel⟩
theorem t_X3_bring_0 {rc rs : Nat} {Q : Option AV → AH → Prop} {h : AH} {a1 a2 n2 : Nat} (hL : LayL h) (hA1 : iSt a1) (hA2 : a2 < nH h ∧ kH h a2 = (16, n2)) (hv : wp mX3_bring 1 rc rs Q 8 [some (vr 17), some (vr a1), some (vr a2), some (vl 0), none, some (vi 0), some (vi 0), none, none] [] h) : wp mX3_bring 1 rc rs Q 0 [some (vr 17), some (vr a1), some (vr a2), none, none, none, none, none, none] [] h :=
  (show wp mX3_bring 1 rc rs Q 0 [some (vr 17), some (vr a1), some (vr a2), none, none, none, none, none, none] [] h from xB k_X3_bring_0 (And.intro rfl (And.intro rfl (And.intro rfl hv))))
theorem e_X3_bring {mc ms : Nat} {Q : Option AV → AH → Prop} {h : AH} {a1 a2 n2 : Nat} (hL : LayL h) (hA1 : iSt a1) (hA2 : a2 < nH h ∧ kH h a2 = (16, n2)) (hv : wp mX3_bring 1 mc ms Q 8 [some (vr 17), some (vr a1), some (vr a2), some (vl 0), none, some (vi 0), some (vi 0), none, none] [] h) : Ct 1 mc ms mX3_bring [vr 17, vr a1, vr a2] h Q := Ct.of (by decide +kernel) (Nat.le_of_ble_eq_true rfl) (t_X3_bring_0 hL hA1 hA2 hv)
theorem t_X3_bring_8 {rc rs : Nat} {Q : Option AV → AH → Prop} {h : AH} {a1 a2 n2 : Nat} {j3 : Int64} {x5 x6 : Int} (hL : LayL h) (hA1 : iSt a1) (hA2 : a2 < nH h ∧ kH h a2 = (16, n2)) (hv : (((iH h 17 2) ≤ x6 → Q (some (vl j3)) h) ∧ (x6 < (iH h 17 2) → (-2147483648 ≤ (iH h 17 1 + x6) ∧ (iH h 17 1 + x6) < 2147483648) ∧ (0 ≤ (iH h 17 1 + x6) ∧ (iH h 17 1 + x6) < 8) ∧ (∃ q7 n8 r9 : Nat, (rH h (a1 + 1) ((iH h 17 1 + x6).toNat) = some q7 ∧ iSg h q7 n8 r9) ∧ wp mX3_bring 1 rc rs Q 37 [some (vr 17), some (vr a1), some (vr a2), some (vl j3), none, some (vi x5), some (vi x6), some (vr (q7 - 1)), some (vi 0)] [] h)))) : wp mX3_bring 1 rc rs Q 8 [some (vr 17), some (vr a1), some (vr a2), some (vl j3), none, some (vi x5), some (vi x6), none, none] [] h :=
  (show wp mX3_bring 1 rc rs Q 8 [some (vr 17), some (vr a1), some (vr a2), some (vl j3), none, some (vi x5), some (vi x6), none, none] [] h from xIc k_X3_bring_8 (And.intro (ll_17 hL) (And.intro (fun c1 => have v3 := hv.1 c1; (show wp mX3_bring 1 rc rs Q 120 [some (vr 17), some (vr a1), some (vr a2), some (vl j3), none, some (vi x5), some (vi x6), none, none] [] h from xJ k_X3_bring_120 (And.intro rfl v3))) (fun c2 => have v4 := hv.2 (Int.not_le.mp c2); (show wp mX3_bring 1 rc rs Q 17 [some (vr 17), some (vr a1), some (vr a2), some (vl j3), none, some (vi x5), some (vi x6), none, none] [] h from xB k_X3_bring_17 (And.intro (st_o hL hA1) (Exists.intro (a1 + 1) (And.intro (st_r0 hL hA1) (And.intro (ll_17 hL) (have c5 := v4.1; have v14 := v4.2; (And.intro c5 (have c6 := v14.1; have v13 := v14.2; (And.intro (sdQ (st_a0 hL hA1) c6) (Exists.elim v13 (fun q7 v11_0 => (Exists.elim v11_0 (fun n8 v11_1 => (Exists.elim v11_1 (fun r9 v11 => have c10 := v11.1; have v12 := v11.2; (Exists.intro _ (And.intro c10.1 (And.intro (sg_o c10.2) (Exists.intro (q7 - 1) (And.intro (sg_r1 c10.2) (And.intro rfl (And.intro rfl v12))))))))))))))))))))))))))
theorem t_X3_bring_37 {rc rs : Nat} {Q : Option AV → AH → Prop} {h : AH} {a1 a2 n2 a7 n7 : Nat} {j3 : Int64} {x5 x6 x8 : Int} (hL : LayL h) (hA1 : iSt a1) (hA2 : a2 < nH h ∧ kH h a2 = (16, n2)) (hA7 : a7 < nH h ∧ kH h a7 = (16, n7)) (hv : (n7 < 2147483648) ∧ (((n7 : Int) ≤ x8 → (-2147483648 ≤ (x6 + 1) ∧ (x6 + 1) < 2147483648) ∧ wp mX3_bring 1 rc rs Q 8 [some (vr 17), some (vr a1), some (vr a2), some (vl j3), none, some (vi x5), some (vi (x6 + 1)), none, none] [] h) ∧ (x8 < (n7 : Int) → (n2 < 2147483648) ∧ (((n2 : Int) ≤ x5 → (-2147483648 ≤ (x6 + 1) ∧ (x6 + 1) < 2147483648) ∧ wp mX3_bring 1 rc rs Q 8 [some (vr 17), some (vr a1), some (vr a2), some (vl j3), none, some (vi x5), some (vi (x6 + 1)), none, none] [] h) ∧ (x5 < (n2 : Int) → (0 ≤ x6 ∧ x6 < 8) ∧ (((lcI ((shr6 (jH h 18 x6.toNat) x8) &&& 1) 0) ≠ 0 → (-2147483648 ≤ (x8 + 1) ∧ (x8 + 1) < 2147483648) ∧ wp mX3_bring 1 rc rs Q 37 [some (vr 17), some (vr a1), some (vr a2), some (vl j3), none, some (vi x5), some (vi x6), some (vr a7), some (vi (x8 + 1))] [] h) ∧ ((lcI ((shr6 (jH h 18 x6.toNat) x8) &&& 1) 0) = 0 → (0 ≤ x8 ∧ x8 < n7) ∧ (∃ q23 n24 : Nat, (rH h a7 x8.toNat = some q23 ∧ iD h q23 n24) ∧ (0 ≤ x5 ∧ x5 < n2) ∧ LayL (sR h a2 x5.toNat (some q23)) ∧ (-2147483648 ≤ (iH h 17 1 + x6) ∧ (iH h 17 1 + x6) < 2147483648) ∧ (iSt a1 ∧ (0 ≤ (iH h 17 1 + x6) ∧ (iH h 17 1 + x6) < 8) ∧ (0 ≤ x8 ∧ x8 < 64)) ∧ ((¬ (bt (jH (sR h a2 x5.toNat (some q23)) (a1 + 2) ((iH h 17 1 + x6)).toNat) (x8).toNat) → (-2147483648 ≤ (x5 + 1) ∧ (x5 + 1) < 2147483648) ∧ (-2147483648 ≤ (x8 + 1) ∧ (x8 + 1) < 2147483648) ∧ wp mX3_bring 1 rc rs Q 37 [some (vr 17), some (vr a1), some (vr a2), some (vl (j3 ||| 0)), none, some (vi (x5 + 1)), some (vi x6), some (vr a7), some (vi (x8 + 1))] [] (sR h a2 x5.toNat (some q23))) ∧ ((bt (jH (sR h a2 x5.toNat (some q23)) (a1 + 2) ((iH h 17 1 + x6)).toNat) (x8).toNat) → (-2147483648 ≤ (x5 + 1) ∧ (x5 + 1) < 2147483648) ∧ (-2147483648 ≤ (x8 + 1) ∧ (x8 + 1) < 2147483648) ∧ wp mX3_bring 1 rc rs Q 37 [some (vr 17), some (vr a1), some (vr a2), some (vl (j3 ||| (shl6 1 x5))), none, some (vi (x5 + 1)), some (vi x6), some (vr a7), some (vi (x8 + 1))] [] (sR h a2 x5.toNat (some q23)))))))))))) : wp mX3_bring 1 rc rs Q 37 [some (vr 17), some (vr a1), some (vr a2), some (vl j3), none, some (vi x5), some (vi x6), some (vr a7), some (vi x8)] [] h :=
  (show wp mX3_bring 1 rc rs Q 37 [some (vr 17), some (vr a1), some (vr a2), some (vl j3), none, some (vi x5), some (vi x6), some (vr a7), some (vi x8)] [] h from xIc k_X3_bring_37 (have c1 := hv.1; have v53 := hv.2; (And.intro (sdL hA7 (And.intro (by decide) (And.intro (by decide) c1))) (len_r hA7 (And.intro (fun c2 => have v4 := v53.1 c2; (show wp mX3_bring 1 rc rs Q 114 [some (vr 17), some (vr a1), some (vr a2), some (vl j3), none, some (vi x5), some (vi x6), some (vr a7), some (vi x8)] [] h from xGo k_X3_bring_114 (have c6 := v4.1; have v7 := v4.2; (And.intro c6 (And.intro rfl (w_fg [true, true, true, true, false, true, true, false, false] v7)))))) (fun c3 => have v5 := v53.2 (Int.not_le.mp c3); (show wp mX3_bring 1 rc rs Q 45 [some (vr 17), some (vr a1), some (vr a2), some (vl j3), none, some (vi x5), some (vi x6), some (vr a7), some (vi x8)] [] h from xIc k_X3_bring_45 (have c8 := v5.1; have v52 := v5.2; (And.intro (sdL hA2 (And.intro (by decide) (And.intro (by decide) c8))) (len_r hA2 (And.intro (fun c9 => have v11 := v52.1 c9; (show wp mX3_bring 1 rc rs Q 114 [some (vr 17), some (vr a1), some (vr a2), some (vl j3), none, some (vi x5), some (vi x6), some (vr a7), some (vi x8)] [] h from xGo k_X3_bring_114 (have c13 := v11.1; have v14 := v11.2; (And.intro c13 (And.intro rfl (w_fg [true, true, true, true, false, true, true, false, false] v14)))))) (fun c10 => have v12 := v52.2 (Int.not_le.mp c10); (show wp mX3_bring 1 rc rs Q 52 [some (vr 17), some (vr a1), some (vr a2), some (vl j3), none, some (vi x5), some (vi x6), some (vr a7), some (vi x8)] [] h from xIf k_X3_bring_52 (And.intro (ll_17 hL) (Exists.intro 18 (And.intro (lg_17_3 hL) (have c15 := v12.1; have v51 := v12.2; (And.intro (sdJ (ll_18 hL) c15) (And.intro (fun c16 => have v18 := v51.1 c16; (show wp mX3_bring 1 rc rs Q 108 [some (vr 17), some (vr a1), some (vr a2), some (vl j3), none, some (vi x5), some (vi x6), some (vr a7), some (vi x8)] [] h from xGo k_X3_bring_108 (have c20 := v18.1; have v21 := v18.2; (And.intro c20 (And.intro rfl v21))))) (fun c17 => have v19 := v51.2 (Decidable.not_not.mp c17); (show wp mX3_bring 1 rc rs Q 69 [some (vr 17), some (vr a1), some (vr a2), some (vl j3), none, some (vi x5), some (vi x6), some (vr a7), some (vi x8)] [] h from xcV k_X3_bring_69 s_X3_bring_89 (have c22 := v19.1; have v50 := v19.2; (And.intro (sdQ hA7 c22) (Exists.elim v50 (fun q23 v48_0 => (Exists.elim v48_0 (fun n24 v48 => have c26 := v48.1; have v49 := v48.2; (Exists.intro _ (And.intro c26.1 (have c27 := v49.1; have v47 := v49.2; (And.intro (sdA hA2 c27 (dc_o c26.2)) (have c28 := v47.1; have v46 := v47.2; (have hL := c28; (And.intro (ll_17 hL) (have c29 := v46.1; have v45 := v46.2; (And.intro c29 (have c42 := v45.1; have v43 := v45.2; (Exists.intro [vi (iH h 17 1 + x6), vi x8] (Exists.intro a1 (Exists.intro [vl j3] (And.intro (And.intro rfl (And.intro rfl (Nat.le_of_ble_eq_true rfl))) (And.intro (st_o hL hA1) (Exists.intro 0 (Exists.intro 0 (Exists.intro 0 (Exists.intro _ (And.intro (l_isDropped (h := (sR h a2 x5.toNat (some q23))) hL c42) (And.intro (And.intro (by decide) (And.intro (Nat.zero_le _) (Nat.zero_le _))) (eQP (show wp mX3_bring 1 rc rs Q 92 [some (vr 17), some (vr a1), some (vr a2), some (vl j3), none, some (vi x5), some (vi x6), some (vr a7), some (vi x8)] [vi (b01 (bt (jH (sR h a2 x5.toNat (some q23)) (a1 + 2) ((iH h 17 1 + x6)).toNat) (x8).toNat)), vl j3] (sR h a2 x5.toNat (some q23)) from xIf k_X3_bring_92 (And.intro (fun c30 => have v32 := v43.1 (b01_n.mp c30); (show wp mX3_bring 1 rc rs Q 102 [some (vr 17), some (vr a1), some (vr a2), some (vl j3), none, some (vi x5), some (vi x6), some (vr a7), some (vi x8)] [vl j3] (sR h a2 x5.toNat (some q23)) from xGo k_X3_bring_102 (And.intro rfl (have c34 := v32.1; have v37 := v32.2; (And.intro c34 (And.intro rfl (have c35 := v37.1; have v36 := v37.2; (And.intro c35 (And.intro rfl v36))))))))) (fun c31 => have v33 := v43.2 (b01_p.mp c31); (show wp mX3_bring 1 rc rs Q 95 [some (vr 17), some (vr a1), some (vr a2), some (vl j3), none, some (vi x5), some (vi x6), some (vr a7), some (vi x8)] [vl j3] (sR h a2 x5.toNat (some q23)) from xGo k_X3_bring_95 (show wp mX3_bring 1 rc rs Q 103 [some (vr 17), some (vr a1), some (vr a2), some (vl j3), none, some (vi x5), some (vi x6), some (vr a7), some (vi x8)] [vl (shl6 1 x5), vl j3] (sR h a2 x5.toNat (some q23)) from xGo k_X3_bring_103 (And.intro rfl (have c38 := v33.1; have v41 := v33.2; (And.intro c38 (And.intro rfl (have c39 := v41.1; have v40 := v41.2; (And.intro c39 (And.intro rfl v40)))))))))))))))))))))))))))))))))))))))))))))))))))))))))))))
/-- the class's merge against the stand that is now: f its first, w its width; who is left -/
def cMg (h g : AH) (f w : Nat) : Prop := iH h 17 1 = (f : Int) ∧ iH h 17 2 = (w : Int) ∧ (2 ≤ w ∧ ((f + w : Nat) : Int) ≤ iH g 89 13) ∧ ∀ i : Nat, i < w → ∀ k : Nat, bt (jH h 18 i) k → (k : Int) < iH g 615 (iH g 1155 (f + i)).toNat
def mgRow (g : AH) (f : Nat) (i : Nat) : Int := iH g 1155 (f + i)
def mgLf (h : AH) (i k : Nat) : Prop := bt (jH h 18 i) k
theorem l_startM {h g : AH} {da sa : Nat → Nat} (hL : LayL h) {f w : Nat} (hc : cRd h g da sa) (hf : ((f + w : Nat) : Int) ≤ iH g 89 13) : Ct 0 0 0 mX3_start [vr 17, vr 5, vi f, vi w] h (QV fun h' => ∃ J, h' = sJW (sI (sI (sI h 17 0 1) 17 1 f) 17 2 w) 18 J ∧ ∀ i : Nat, i < w → J i = jH h 7 (f + i)) := by
  have h8 := hc.2.2.2.1
  have main := up (P := fun i => ∀ J, (∀ j : Nat, j < i → J j = jH h 7 (f + j)) → wp mX3_start 0 0 0 (QV fun h' => ∃ J, h' = sJW (sI (sI (sI h 17 0 1) 17 1 f) 17 2 w) 18 J ∧ ∀ i : Nat, i < w → J i = jH h 7 (f + i)) 18 [some (vr 17), some (vr 5), some (vi f), some (vi w), some (vi i)] [] (sJW (sI (sI (sI h 17 0 1) 17 1 f) 17 2 w) 18 J)) w ?_ ?_
  · have := main (jH (sI (sI (sI h 17 0 1) 17 1 f) 17 2 w) 18) (fun j hj => absurd hj (Nat.not_lt_zero _))
    rw [jw_id] at this
    exact e_X3_start hL (Or.inl rfl) this
  · intro J hJ
    exact t_X3_start_18 (by exact hL) (Or.inl rfl) ⟨fun _ => ⟨rfl, J, rfl, hJ⟩, fun c => absurd c (by omega)⟩
  · intro i hi ih J hJ
    refine t_X3_start_18 (by exact hL) (Or.inl rfl) ⟨fun c => absurd c (by omega), fun _ => ⟨by omega, by omega, by omega, by omega, ?_⟩⟩
    rw [show ((f : Int) + (i : Int)).toNat = f + i by omega, Int.toNat_natCast, jw_o (by decide), jw_sJ]
    refine ih _ (fun j hj => ?_)
    unfold updJ
    by_cases e : j = i
    · subst e; rw [if_pos rfl]; rfl
    · rw [if_neg e]; exact hJ j (by omega)
theorem pc_left {x : Int64} {n : Int} {p : Nat → Prop} (hn : 0 ≤ n ∧ n ≤ 64) (e : ∀ k : Nat, bt x k → (k : Int) < n) : n - pcL x = cnt (fun k => ¬ bt x k) n.toNat := pc_live hn (fun k => ⟨fun q => ⟨e k q, q⟩, fun q => q.2⟩)
theorem l_howManyCome {h g : AH} {da sa : Nat → Nat} (hL : LayL h) {f w : Nat} (hc : cRd h g da sa) (hm : cMg h g f w) : Ct 1 0 0 mX3_howManyCome [vr 17, vr 5] h (QI fun x h' => x = ((v_cm g (mgRow g f) (mgLf h) w).1 : Int) ∧ h' = h) := by
  obtain ⟨m1, m2, m3, m4⟩ := hm
  have h8 := hc.2.2.2.1
  have bd : ∀ j : Nat, j ≤ w → ((v_cm g (mgRow g f) (mgLf h) j).1 : Int) ≤ 64 * (j : Int) := by
    intro j
    induction j with
    | zero => intro _; exact Int.le_refl 0
    | succ j ih =>
      intro hj
      have e := v_cI_1 g (mgRow g f j) (mgLf h j) (v_cm g (mgRow g f) (mgLf h) j) (iH g 615 (mgRow g f j).toNat).toNat
      have hb := cnt_bd (fun k => ¬ mgLf h j k) (iH g 615 (mgRow g f j).toNat).toNat
      obtain ⟨-, x, ex, -, -, -, h4, -⟩ := cRd_s hc (s := ((f + j : Nat) : Int)) (by omega)
      rw [Int.toNat_natCast] at ex
      have hl := h4.2.1
      rw [← ex] at hl
      have := ih (by omega)
      show ((v_cI g (mgRow g f j) (mgLf h j) (v_cm g (mgRow g f) (mgLf h) j) (iH g 615 (mgRow g f j).toNat).toNat).1 : Int) ≤ _
      have : (iH g 615 (mgRow g f j).toNat) ≤ 64 := hl.2
      omega
  refine e_X3_howManyCome hL (Or.inl rfl) (up (P := fun i => wp mX3_howManyCome 1 _ _ _ 4 [some (vr 17), some (vr 5), some (vi ((v_cm g (mgRow g f) (mgLf h) i).1 : Nat)), some (vi i)] [] h) w ?_ ?_)
  · exact t_X3_howManyCome_4 hL (Or.inl rfl) ⟨fun _ => ⟨_, rfl, rfl, rfl⟩, fun c => absurd c (by omega)⟩
  · intro i hi ih
    obtain ⟨-, x, ex, x1, x2, x3, h4, -⟩ := cRd_s hc (s := ((f + i : Nat) : Int)) (by omega)
    rw [Int.toNat_natCast] at ex x1
    obtain ⟨r, hS, -⟩ := x2.2.2.2.1
    have hl := h4.2.1
    rw [Int.toNat_natCast] at hl
    have e := v_cI_1 g (mgRow g f i) (mgLf h i) (v_cm g (mgRow g f) (mgLf h) i) (iH g 615 (mgRow g f i).toNat).toNat
    have ec : iH g 615 x - pcL (jH h 18 i) = cnt (fun k => ¬ mgLf h i k) (iH g 615 x).toNat := pc_left (p := fun _ => True) hl (fun k q => by have := m4 i hi k q; rw [ex, Int.toNat_natCast] at this; exact this)
    have er : mgRow g f i = (x : Int) := ex
    have hb := bd i (by omega)
    have hpc := pcL_bd (jH h 18 i)
    have es : ((v_cm g (mgRow g f) (mgLf h) (i + 1)).1 : Int) = (v_cm g (mgRow g f) (mgLf h) i).1 + (((iH g 615 x).toNat : Int) - pcL (jH h 18 i)) := by
      show ((v_cI g (mgRow g f i) (mgLf h i) (v_cm g (mgRow g f) (mgLf h) i) (iH g 615 (mgRow g f i).toNat).toNat).1 : Int) = _
      rw [e, er, Int.toNat_natCast]
      omega
    rw [es] at ih
    refine t_X3_howManyCome_4 hL (Or.inl rfl) ?_
    rw [m1, m2, show ((f : Int) + (i : Int)).toNat = f + i by omega, Int.toNat_natCast]
    exact ⟨fun c => absurd c (by omega), fun _ => ⟨by omega, by omega, _, _, r, ⟨x1, hS⟩, by omega, by omega, by omega, by omega, ih⟩⟩
def okB (g : AH) (da : Nat → Nat) (p : Nat × (Nat → Int)) (R : Nat → Option Nat) (z : Int64) : Prop := (∀ i : Nat, i < p.1 → R i = some (da (p.2 i).toNat)) ∧ ∀ i : Nat, bt z i ↔ i < p.1 ∧ iH g 613 (p.2 i).toNat ≠ 0
theorem l_bring {h g : AH} {da sa : Nat → Nat} (hL : LayL h) {f w b n : Nat} (hc : cRd h g da sa) (hm : cMg h g f w) (hb : b < nH h ∧ kH h b = (16, n)) (hn : n = (v_cm g (mgRow g f) (mgLf h) w).1) (hn64 : n ≤ 64) (hb70 : 1191 ≤ b) (hx : ∀ x : Nat, (x : Int) < iH g 89 5 → sa x - 1 ≠ b ∧ sa x ≠ b) (hdd : ∀ d : Nat, (d : Int) < iH g 89 0 → da d ≠ b) : Ct 1 0 0 mX3_bring [vr 17, vr 5, vr b] h (QJ fun z h' => ∃ R, h' = sRW h b R ∧ (∀ i : Nat, i < n → R i = some (da ((v_cm g (mgRow g f) (mgLf h) w).2 i).toNat)) ∧ ∀ i : Nat, bt z i ↔ i < n ∧ iH g 613 ((v_cm g (mgRow g f) (mgLf h) w).2 i).toNat ≠ 0) := by
  obtain ⟨m1, m2, m3, m4⟩ := hm
  have h8 := hc.2.2.2.1
  have hLR : ∀ {R}, LayL (sRW h b R) := fun {R} => LayL_rw (by omega) hL
  have agR : ∀ {R : Nat → Option Nat} {y m r : Nat}, y ≠ b → iSg h y m r → iSg (sRW h b R) y m r := fun {R y m r} e hS => by
    obtain ⟨s1, ⟨q1, q2, q3, q4⟩, s3⟩ := hS
    exact ⟨s1, ⟨by rw [rw_o e]; exact q1, by rw [rw_o e]; exact q2, by rw [rw_o e]; exact q3, by rw [rw_o e]; exact q4⟩, s3⟩
  have agRd : ∀ {R : Nat → Option Nat} {y m : Nat}, y ≠ b → iD h y m → iD (sRW h b R) y m := fun {R y m} e hS => by
    obtain ⟨s1, q1, s3⟩ := hS
    exact ⟨s1, by rw [rw_o e]; exact q1, s3⟩
  have h17 : ∀ {R} k, iH (sRW h b R) 17 k = iH h 17 k := fun k => rfl
  have j18 : ∀ {R} k, jH (sRW h b R) 18 k = jH h 18 k := fun k => rfl
  have main := up (P := fun i => ∀ R z, okB g da (v_cm g (mgRow g f) (mgLf h) i) R z → wp mX3_bring 1 0 0 (QJ fun z h' => ∃ R, h' = sRW h b R ∧ (∀ i : Nat, i < n → R i = some (da ((v_cm g (mgRow g f) (mgLf h) w).2 i).toNat)) ∧ ∀ i : Nat, bt z i ↔ i < n ∧ iH g 613 ((v_cm g (mgRow g f) (mgLf h) w).2 i).toNat ≠ 0) 8 [some (vr 17), some (vr 5), some (vr b), some (vl z), none, some (vi ((v_cm g (mgRow g f) (mgLf h) i).1 : Nat)), some (vi i), none, none] [] (sRW h b R)) w ?_ ?_
  · have := main (rH h b) 0 ⟨fun i hi => absurd hi (Nat.not_lt_zero _), fun i => ⟨fun q => absurd q bt_0, fun q => absurd q.1 (Nat.not_lt_zero _)⟩⟩
    rw [rw_id] at this
    exact e_X3_bring hL (Or.inl rfl) hb this
  · intro R z hk
    refine t_X3_bring_8 hLR (Or.inl rfl) hb ?_
    rw [h17, m2]
    refine ⟨fun _ => ⟨_, rfl, R, rfl, fun i hi => hk.1 i (by omega), fun i => ?_⟩, fun c => absurd c (by omega)⟩
    rw [hk.2 i, hn]
  · intro i hi ih R z hk
    obtain ⟨-, x, ex, x1, x2, x3, h4, x5⟩ := cRd_s hc (s := ((f + i : Nat) : Int)) (by omega)
    rw [Int.toNat_natCast] at ex x1 x3
    obtain ⟨r, hS, -⟩ := x2.2.2.2.1
    have hl := h4.2.1
    rw [Int.toNat_natCast] at hl
    obtain ⟨n1, n2⟩ := hx x x5
    have er : mgRow g f i = (x : Int) := ex
    have eS : v_cm g (mgRow g f) (mgLf h) (i + 1) = v_cI g (x : Int) (mgLf h i) (v_cm g (mgRow g f) (mgLf h) i) (iH g 615 x).toNat := by
      show v_cI g (mgRow g f i) (mgLf h i) (v_cm g (mgRow g f) (mgLf h) i) (iH g 615 (mgRow g f i).toNat).toNat = _
      rw [er, Int.toNat_natCast]
    have hmo := v_cm_mono g (mgRow g f) (mgLf h) (i + 1) w (by omega)
    rw [eS] at ih hmo
    refine t_X3_bring_8 hLR (Or.inl rfl) hb ?_
    rw [h17, h17, m1, m2, show ((f : Int) + (i : Int)).toNat = f + i by omega]
    refine ⟨fun c => absurd c (by omega), fun _ => ⟨by omega, by omega, _, _, r, ⟨(rw_o (by omega)).trans x1, agR n2 hS⟩, ?_⟩⟩
    generalize hp : v_cm g (mgRow g f) (mgLf h) i = p at *
    have inner := up (P := fun k => ∀ R z, okB g da (v_cI g (x : Int) (mgLf h i) p k) R z → wp mX3_bring 1 0 0 (QJ fun z h' => ∃ R, h' = sRW h b R ∧ (∀ i : Nat, i < n → R i = some (da ((v_cm g (mgRow g f) (mgLf h) w).2 i).toNat)) ∧ ∀ i : Nat, bt z i ↔ i < n ∧ iH g 613 ((v_cm g (mgRow g f) (mgLf h) w).2 i).toNat ≠ 0) 37 [some (vr 17), some (vr 5), some (vr b), some (vl z), none, some (vi ((v_cI g (x : Int) (mgLf h i) p k).1 : Nat)), some (vi i), some (vr (sa x - 1)), some (vi k)] [] (sRW h b R)) (iH g 615 x).toNat ?_ ?_
    · exact inner R z hk
    · intro R z hk
      exact t_X3_bring_37 hLR (Or.inl rfl) hb (sg_a1 (agR n2 hS)) ⟨by omega, fun _ => ⟨by omega, ih R z hk⟩, fun c => absurd c (by omega)⟩
    · intro k hkl jh R z hk
      obtain ⟨f1, f2⟩ := x2.2.2.2.2 k (by omega)
      have hmm := h4.2.2 k (by rw [Int.toNat_natCast]; omega)
      rw [Int.toNat_natCast] at hmm
      obtain ⟨d, ed⟩ := Int.eq_ofNat_of_zero_le hmm.1
      rw [ed] at f1 f2
      rw [Int.toNat_natCast] at f1
      obtain ⟨d1, d2, d3, d4⟩ := hc.1 d f2
      have hmk := v_cI_mono g (x : Int) (mgLf h i) p k (iH g 615 x).toNat (by omega)
      have eK : v_cI g (x : Int) (mgLf h i) p (k + 1) = @ite _ (mgLf h i k) (Classical.propDecidable _) (v_cI g (x : Int) (mgLf h i) p k) ((v_cI g (x : Int) (mgLf h i) p k).1 + 1, fun j => if j = (v_cI g (x : Int) (mgLf h i) p k).1 then iH g (617 + (x : Int).toNat) k else (v_cI g (x : Int) (mgLf h i) p k).2 j) := rfl
      have hmk1 := v_cI_mono g (x : Int) (mgLf h i) p (k + 1) (iH g 615 x).toNat (by omega)
      generalize hc0 : v_cI g (x : Int) (mgLf h i) p k = c0 at *
      have jR : ∀ R : Nat → Option Nat, jH (sRW h b R) = jH h := fun _ => rfl
      refine t_X3_bring_37 hLR (Or.inl rfl) hb (sg_a1 (agR n2 hS)) ⟨by omega, fun c => absurd c (by omega), fun _ => ⟨by omega, fun c => ⟨by omega, ?_⟩, fun c => ⟨by omega, ?_⟩⟩⟩
      · have := hmk.2 (by omega)
        have := ih R z (by rw [← this]; exact hk)
        rw [← hmk.2 (by omega)] at this
        exact this
      · rw [j18, Int.toNat_natCast]
        refine ⟨fun c2 => ⟨by omega, ?_⟩, fun c2 => ?_⟩
        · have hlf : mgLf h i k := Classical.byContradiction fun q => c2 ((lc_bt (x := jH h 18 i) (k := (k : Int)) (by omega)).mpr q)
          rw [if_pos hlf] at eK
          have := jh R z (by rw [eK]; exact hk)
          rw [eK] at this
          exact this
        · have hlf : ¬ mgLf h i k := (lc_bt (x := jH h 18 i) (k := (k : Int)) (by omega)).mp c2
          rw [if_neg hlf, Int.toNat_natCast, ed] at eK
          rw [Int.toNat_natCast, Int.toNat_natCast, h17, m1, show ((f : Int) + (i : Int)).toNat = f + i by omega]
          refine ⟨by omega, da d, _, ⟨(rw_o (by omega)).trans f1, agRd (hdd d f2) d2⟩, by omega, ?_⟩
          rw [rw_sR, jR]
          have eB : bt (jH h (5 + 2) (f + i)) k ↔ iH g 613 d ≠ 0 := by
            rw [show jH h (5 + 2) (f + i) = jH h 7 (f + i) from rfl, x3 k]
            unfold nDr
            rw [ex, Int.toNat_natCast, ed, Int.toNat_natCast]
            exact ⟨fun q => q.2, fun q => ⟨by omega, q⟩⟩
          have nxt : ∀ z' : Int64, (∀ j : Nat, bt z' j ↔ bt z j ∨ (j = c0.1 ∧ iH g 613 d ≠ 0)) → okB g da (v_cI g (x : Int) (mgLf h i) p (k + 1)) (updR R c0.1 (some (da d))) z' := by
            intro z' hz
            rw [eK]
            refine ⟨fun j hj => ?_, fun j => ?_⟩
            · have hj : j < c0.1 + 1 := hj
              unfold updR
              by_cases e : j = c0.1
              · rw [if_pos e]; show _ = some (da (if j = c0.1 then (d : Int) else c0.2 j).toNat); rw [if_pos e, Int.toNat_natCast]
              · rw [if_neg e]; show _ = some (da (if j = c0.1 then (d : Int) else c0.2 j).toNat); rw [if_neg e]; exact hk.1 j (by omega)
            · show bt z' j ↔ j < c0.1 + 1 ∧ iH g 613 (if j = c0.1 then (d : Int) else c0.2 j).toNat ≠ 0
              rw [hz j, hk.2 j]
              by_cases e : j = c0.1
              · rw [if_pos e, Int.toNat_natCast]
                constructor
                · rintro (q | q)
                  · omega
                  · exact ⟨by omega, q.2⟩
                · intro q; exact Or.inr ⟨e, q.2⟩
              · rw [if_neg e]
                constructor
                · rintro (q | q)
                  · exact ⟨by omega, q.2⟩
                  · exact absurd q.1 e
                · intro q; exact Or.inl ⟨by omega, q.2⟩
          have e1 : (c0.1 : Int) + 1 = (((v_cI g (x : Int) (mgLf h i) p (k + 1)).1 : Nat) : Int) := by rw [eK]; show _ = ((c0.1 + 1 : Nat) : Int); omega
          rw [e1]
          refine ⟨hLR, by omega, ⟨Or.inl rfl, by omega, by omega⟩, fun c3 => ⟨by omega, by omega, jh _ _ (nxt _ (fun j => ?_))⟩, fun c3 => ⟨by omega, by omega, jh _ _ (nxt _ (fun j => ?_))⟩⟩
          · rw [eB] at c3
            rw [bt_or]
            exact ⟨fun q => q.elim Or.inl (fun q => absurd q bt_0), fun q => q.elim Or.inl (fun q => absurd q.2 c3)⟩
          · rw [eB] at c3
            rw [bt_set (by omega)]
            exact ⟨fun q => q.elim Or.inl (fun q => Or.inr ⟨by omega, c3⟩), fun q => q.elim Or.inl (fun q => Or.inr (by omega))⟩
