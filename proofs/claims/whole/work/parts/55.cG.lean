/-! THE CLASS: HITS -/
section
def hH (h : AH) (a b : Nat) (n sm : Int) (K W P : Nat → Int) (M : Nat → Int64) : AH := (h.1, h.2.1, (fun x y => if x = a ∧ y = 3 then n else if x = a ∧ y = 4 then sm else if x = a + 1 then K y else if x = a + 2 then W y else if x = b then P y else h.2.2.1 x y), (fun x y => if x = a + 3 then M y else h.2.2.2.1 x y), h.2.2.2.2)
variable {h : AH} {a b : Nat} {n sm v : Int} {K W P : Nat → Int} {M : Nat → Int64} {x k : Nat}
theorem hh_3 : iH (hH h a b n sm K W P M) a 3 = n := by simp [iH, hH]
theorem hh_4 : iH (hH h a b n sm K W P M) a 4 = sm := by simp [iH, hH]
theorem hh_K : iH (hH h a b n sm K W P M) (a + 1) k = K k := by simp [iH, hH]
theorem hh_W : iH (hH h a b n sm K W P M) (a + 2) k = W k := by simp [iH, hH]
theorem hh_P (hb : a + 3 < b) : iH (hH h a b n sm K W P M) b k = P k := by simp [iH, hH, show b ≠ a by omega, show b ≠ a + 1 by omega, show b ≠ a + 2 by omega]
theorem hh_o (h1 : x ≠ a) (h2 : x ≠ a + 1) (h3 : x ≠ a + 2) (h4 : x ≠ b) : iH (hH h a b n sm K W P M) x k = iH h x k := by simp [iH, hH, h1, h2, h3, h4]
theorem hh_M : jH (hH h a b n sm K W P M) (a + 3) k = M k := by simp [jH, hH]
theorem hh_jo (h1 : x ≠ a + 3) : jH (hH h a b n sm K W P M) x k = jH h x k := by simp [jH, hH, h1]
theorem hh_id : h = hH h a b (iH h a 3) (iH h a 4) (iH h (a + 1)) (iH h (a + 2)) (iH h b) (jH h (a + 3)) := by
  have e1 : h.2.2.1 = (fun x y => if x = a ∧ y = 3 then iH h a 3 else if x = a ∧ y = 4 then iH h a 4 else if x = a + 1 then iH h (a + 1) y else if x = a + 2 then iH h (a + 2) y else if x = b then iH h b y else h.2.2.1 x y) := by
    funext x y
    split
    · rename_i q; rw [q.1, q.2]; rfl
    · split
      · rename_i q; rw [q.1, q.2]; rfl
      · split
        · rename_i q; rw [q]; rfl
        · split
          · rename_i q; rw [q]; rfl
          · split
            · rename_i q; rw [q]; rfl
            · rfl
  have e2 : h.2.2.2.1 = (fun x y => if x = a + 3 then jH h (a + 3) y else h.2.2.2.1 x y) := by
    funext x y
    split
    · rename_i q; rw [q]; rfl
    · rfl
  unfold hH
  rw [← e1, ← e2]
theorem hs_3 : sI (hH h a b n sm K W P M) a 3 v = hH h a b v sm K W P M := by
  unfold sI hH
  congr 3
  funext x y
  unfold u2
  by_cases e : x = a
  · subst e
    by_cases e2 : y = 3
    · simp [e2]
    · simp [e2]
  · simp [e]
theorem hs_4 : sI (hH h a b n sm K W P M) a 4 v = hH h a b n v K W P M := by
  unfold sI hH
  congr 3
  funext x y
  unfold u2
  by_cases e : x = a
  · subst e
    by_cases e2 : y = 4
    · simp [e2]
    · simp [e2]
  · simp [e]
theorem hs_K : sI (hH h a b n sm K W P M) (a + 1) k v = hH h a b n sm (updF K k v) W P M := by
  unfold sI hH
  congr 3
  funext x y
  unfold u2 updF
  by_cases e : x = a + 1
  · subst e
    by_cases e2 : y = k
    · simp [e2]
    · simp [e2]
  · simp [e]
theorem hs_W : sI (hH h a b n sm K W P M) (a + 2) k v = hH h a b n sm K (updF W k v) P M := by
  unfold sI hH
  congr 3
  funext x y
  unfold u2 updF
  by_cases e : x = a + 2
  · subst e
    by_cases e2 : y = k
    · simp [e2]
    · simp [e2]
  · simp [e]
theorem hs_P {P' : Nat → Int} (hb : a + 3 < b) : sW (hH h a b n sm K W P M) b P' = hH h a b n sm K W P' M := by
  unfold sW hH
  congr 3
  funext x y
  unfold r2
  by_cases e : x = b
  · subst e
    simp [show x ≠ a by omega, show x ≠ a + 1 by omega, show x ≠ a + 2 by omega]
  · simp [e]
def updJ (M : Nat → Int64) (k : Nat) (v : Int64) (i : Nat) : Int64 := if i = k then v else M i
theorem hs_M {w : Int64} : sJ (hH h a b n sm K W P M) (a + 3) k w = hH h a b n sm K W P (updJ M k w) := by
  unfold sJ hH
  congr 4
  funext x y
  unfold u2 updJ
  by_cases e : x = a + 3
  · subst e
    by_cases e2 : y = k
    · simp [e2]
    · simp [e2]
  · simp [e]
/-- what is found, the class's way: keys instead of documents -/
def f_agk (key : Int → Int) (S : FS) (K W : Nat → Int) : Prop := ∀ i, i < S.1 → K i = key (S.2.2.1 i) ∧ W i = S.2.2.2 i
theorem f_agk_add {key : Int → Int} {S : FS} {K W : Nat → Int} {d v : Int} (ha : f_agk key S K W) : f_agk key (f_add S d v) (f_in K (f_ip W v S.1) S.1 (key d)) (f_in W (f_ip W v S.1) S.1 v) := by
  have e : f_ip W v S.1 = f_ip S.2.2.2 v S.1 := f_ip_cg fun i hi => (ha i hi).2
  have hl := f_ip_le S.2.2.2 v S.1
  rw [e]
  intro i hi
  have hi : i < S.1 + 1 := hi
  show f_in K (f_ip S.2.2.2 v S.1) S.1 (key d) i = key (f_in S.2.2.1 (f_ip S.2.2.2 v S.1) S.1 d i) ∧ f_in W (f_ip S.2.2.2 v S.1) S.1 v i = f_in S.2.2.2 (f_ip S.2.2.2 v S.1) S.1 v i
  unfold f_in f_sh
  by_cases c : i = f_ip S.2.2.2 v S.1
  · rw [if_pos c, if_pos c, if_pos c, if_pos c]; exact ⟨rfl, rfl⟩
  · rw [if_neg c, if_neg c, if_neg c, if_neg c]
    by_cases c2 : f_ip S.2.2.2 v S.1 < i ∧ i ≤ S.1
    · rw [if_pos c2, if_pos c2, if_pos c2, if_pos c2]; exact ha (i - 1) (by omega)
    · rw [if_neg c2, if_neg c2, if_neg c2, if_neg c2]; exact ha i (by omega)
noncomputable def v_fv (g : AH) (q : Int) (row : Nat → Int) (dr : Nat → Nat → Prop) (s k : Nat) : Int := @ite _ (dr s k) (Classical.propDecidable _) 0 (m_worth g q (iH g (617 + (row s).toNat) k))
noncomputable def v_fI (g : AH) (q : Int) (row : Nat → Int) (dr : Nat → Nat → Prop) (s : Nat) (S : FS) : Nat → FS
  | 0 => S
  | k + 1 => if 0 < v_fv g q row dr s k then f_add (v_fI g q row dr s S k) (iH g (617 + (row s).toNat) k) (v_fv g q row dr s k) else v_fI g q row dr s S k
noncomputable def v_fd (g : AH) (q : Int) (row : Nat → Int) (dr : Nat → Nat → Prop) : Nat → FS
  | 0 => (0, 0, fun _ => 0, fun _ => 0)
  | s + 1 => v_fI g q row dr s (v_fd g q row dr s) (iH g 615 (row s).toNat).toNat
def v_off (g : AH) (row : Nat → Int) (s : Nat) : Int := sumN (fun s => iH g 615 (row s).toNat) s
/-- which are marked -/
def v_mk (g : AH) (q : Int) (row : Nat → Int) (dr : Nat → Nat → Prop) (s k : Nat) : Prop := (k : Int) < iH g 615 (row s).toNat ∧ 0 < v_fv g q row dr s k
end
def b_X1_insert_0 : List IE := [(.aload_n 0, 1, 0, 0, 0, 0), (.getfield 22, 3, 0, 1, 3, 0), (.bipush 64, 2, 64, 0, 0, 0)]
theorem k_X1_insert_0 : ckIc mX1_insert 1 0 b_X1_insert_0 6 2 4 10 9 = true := by decide +kernel
def b_X1_insert_9 : List IE := []
theorem k_X1_insert_9 : ckV mX1_insert 1 9 b_X1_insert_9 9 = true := by decide +kernel
def b_X1_insert_10 : List IE := [(.aload_n 0, 1, 0, 0, 0, 0), (.getfield 22, 3, 0, 1, 3, 0), (.istore_n 3, 1, 0, 0, 3, 0)]
theorem k_X1_insert_10 : ckB mX1_insert 1 10 b_X1_insert_10 15 = true := by decide +kernel
def b_X1_insert_15 : List IE := [(.iload_n 3, 1, 0, 0, 3, 0)]
theorem k_X1_insert_15 : ckIf mX1_insert 1 15 b_X1_insert_15 16 5 49 65 19 = true := by decide +kernel
def b_X1_insert_19 : List IE := [(.aload_n 0, 1, 0, 0, 0, 0), (.getfield 15, 3, 0, 1, 1, 1), (.iload_n 3, 1, 0, 0, 3, 0), (.iconst 1, 1, 1, 0, 0, 0), (.isub, 1, 0, 0, 0, 0), (.iaload, 1, 0, 0, 0, 0), (.iload_n 2, 1, 0, 0, 2, 0)]
theorem k_X1_insert_19 : ckIc mX1_insert 1 19 b_X1_insert_19 28 3 37 65 31 = true := by decide +kernel
def b_X1_insert_31 : List IE := [(.aload_n 0, 1, 0, 0, 0, 0), (.getfield 9, 3, 0, 1, 0, 1), (.iload_n 3, 1, 0, 0, 3, 0), (.aload_n 0, 1, 0, 0, 0, 0), (.getfield 9, 3, 0, 1, 0, 1), (.iload_n 3, 1, 0, 0, 3, 0), (.iconst 1, 1, 1, 0, 0, 0), (.isub, 1, 0, 0, 0, 0), (.iaload, 1, 0, 0, 0, 0), (.iastore, 1, 0, 0, 0, 0), (.aload_n 0, 1, 0, 0, 0, 0), (.getfield 15, 3, 0, 1, 1, 1), (.iload_n 3, 1, 0, 0, 3, 0), (.aload_n 0, 1, 0, 0, 0, 0), (.getfield 15, 3, 0, 1, 1, 1), (.iload_n 3, 1, 0, 0, 3, 0), (.iconst 1, 1, 1, 0, 0, 0), (.isub, 1, 0, 0, 0, 0), (.iaload, 1, 0, 0, 0, 0), (.iastore, 1, 0, 0, 0, 0), (.iinc 3 (-1), 3, (-1), 0, 3, 0)]
theorem k_X1_insert_31 : ckGo mX1_insert 1 31 b_X1_insert_31 62 (-47) 15 = true := by decide +kernel
def b_X1_insert_65 : List IE := [(.aload_n 0, 1, 0, 0, 0, 0), (.getfield 9, 3, 0, 1, 0, 1), (.iload_n 3, 1, 0, 0, 3, 0), (.iload_n 1, 1, 0, 0, 1, 0), (.iastore, 1, 0, 0, 0, 0), (.aload_n 0, 1, 0, 0, 0, 0), (.getfield 15, 3, 0, 1, 1, 1), (.iload_n 3, 1, 0, 0, 3, 0), (.iload_n 2, 1, 0, 0, 2, 0), (.iastore, 1, 0, 0, 0, 0), (.aload_n 0, 1, 0, 0, 0, 0), (.dup, 1, 0, 0, 0, 0), (.getfield 22, 3, 0, 1, 3, 0), (.iconst 1, 1, 1, 0, 0, 0), (.iadd, 1, 0, 0, 0, 0), (.putfield 22, 3, 0, 1, 3, 0), (.aload_n 0, 1, 0, 0, 0, 0), (.dup, 1, 0, 0, 0, 0), (.getfield 26, 3, 0, 1, 4, 0), (.iload_n 2, 1, 0, 0, 2, 0), (.iadd, 1, 0, 0, 0, 0), (.putfield 26, 3, 0, 1, 4, 0)]
theorem k_X1_insert_65 : ckV mX1_insert 1 65 b_X1_insert_65 99 = true := by decide +kernel
theorem t_X1_insert_0 {rc rs : Nat} {Q : Option AV → AH → Prop} {h : AH} {a0 : Nat} {x1 x2 : Int} (hL : LayL h) (hA0 : iHi a0) (hv : (((iH h a0 3) < 64 → wp mX1_insert 0 rc rs Q 15 [some (vr a0), some (vi x1), some (vi x2), some (vi (iH h a0 3))] [] h) ∧ (64 ≤ (iH h a0 3) → Q none h))) : wp mX1_insert 0 rc rs Q 0 [some (vr a0), some (vi x1), some (vi x2), none] [] h :=
  (show wp mX1_insert 0 rc rs Q 0 [some (vr a0), some (vi x1), some (vi x2), none] [] h from xIc k_X1_insert_0 (And.intro (hi_o hL hA0) (And.intro (fun c1 => have v3 := hv.1 c1; (show wp mX1_insert 0 rc rs Q 10 [some (vr a0), some (vi x1), some (vi x2), none] [] h from xB k_X1_insert_10 (And.intro (hi_o hL hA0) (And.intro rfl v3)))) (fun c2 => have v4 := hv.2 (Int.not_lt.mp c2); (show wp mX1_insert 0 rc rs Q 9 [some (vr a0), some (vi x1), some (vi x2), none] [] h from xV k_X1_insert_9 (And.intro rfl v4))))))
theorem e_X1_insert {mc ms : Nat} {Q : Option AV → AH → Prop} {h : AH} {a0 : Nat} {x1 x2 : Int} (hL : LayL h) (hA0 : iHi a0) (hv : (((iH h a0 3) < 64 → wp mX1_insert 0 mc ms Q 15 [some (vr a0), some (vi x1), some (vi x2), some (vi (iH h a0 3))] [] h) ∧ (64 ≤ (iH h a0 3) → Q none h))) : Ct 0 mc ms mX1_insert [vr a0, vi x1, vi x2] h Q := Ct.of (by decide +kernel) (Nat.le_of_ble_eq_true rfl) (t_X1_insert_0 hL hA0 hv)
theorem t_X1_insert_15 {rc rs : Nat} {Q : Option AV → AH → Prop} {h : AH} {a0 : Nat} {x1 x2 x3 : Int} (hL : LayL h) (hA0 : iHi a0) (hv : ((x3 ≤ 0 → (0 ≤ x3 ∧ x3 < 64) ∧ (-2147483648 ≤ (iH (sI (sI h (a0 + 1) x3.toNat x1) (a0 + 2) x3.toNat x2) a0 3 + 1) ∧ (iH (sI (sI h (a0 + 1) x3.toNat x1) (a0 + 2) x3.toNat x2) a0 3 + 1) < 2147483648) ∧ (-2147483648 ≤ (iH (sI (sI (sI h (a0 + 1) x3.toNat x1) (a0 + 2) x3.toNat x2) a0 3 (iH (sI (sI h (a0 + 1) x3.toNat x1) (a0 + 2) x3.toNat x2) a0 3 + 1)) a0 4 + x2) ∧ (iH (sI (sI (sI h (a0 + 1) x3.toNat x1) (a0 + 2) x3.toNat x2) a0 3 (iH (sI (sI h (a0 + 1) x3.toNat x1) (a0 + 2) x3.toNat x2) a0 3 + 1)) a0 4 + x2) < 2147483648) ∧ Q none (sI (sI (sI (sI h (a0 + 1) x3.toNat x1) (a0 + 2) x3.toNat x2) a0 3 (iH (sI (sI h (a0 + 1) x3.toNat x1) (a0 + 2) x3.toNat x2) a0 3 + 1)) a0 4 (iH (sI (sI (sI h (a0 + 1) x3.toNat x1) (a0 + 2) x3.toNat x2) a0 3 (iH (sI (sI h (a0 + 1) x3.toNat x1) (a0 + 2) x3.toNat x2) a0 3 + 1)) a0 4 + x2))) ∧ (0 < x3 → (-2147483648 ≤ (x3 - 1) ∧ (x3 - 1) < 2147483648) ∧ (0 ≤ (x3 - 1) ∧ (x3 - 1) < 64) ∧ ((x2 ≤ (iH h (a0 + 2) ((x3 - 1).toNat)) → (0 ≤ x3 ∧ x3 < 64) ∧ (-2147483648 ≤ (iH (sI (sI h (a0 + 1) x3.toNat x1) (a0 + 2) x3.toNat x2) a0 3 + 1) ∧ (iH (sI (sI h (a0 + 1) x3.toNat x1) (a0 + 2) x3.toNat x2) a0 3 + 1) < 2147483648) ∧ (-2147483648 ≤ (iH (sI (sI (sI h (a0 + 1) x3.toNat x1) (a0 + 2) x3.toNat x2) a0 3 (iH (sI (sI h (a0 + 1) x3.toNat x1) (a0 + 2) x3.toNat x2) a0 3 + 1)) a0 4 + x2) ∧ (iH (sI (sI (sI h (a0 + 1) x3.toNat x1) (a0 + 2) x3.toNat x2) a0 3 (iH (sI (sI h (a0 + 1) x3.toNat x1) (a0 + 2) x3.toNat x2) a0 3 + 1)) a0 4 + x2) < 2147483648) ∧ Q none (sI (sI (sI (sI h (a0 + 1) x3.toNat x1) (a0 + 2) x3.toNat x2) a0 3 (iH (sI (sI h (a0 + 1) x3.toNat x1) (a0 + 2) x3.toNat x2) a0 3 + 1)) a0 4 (iH (sI (sI (sI h (a0 + 1) x3.toNat x1) (a0 + 2) x3.toNat x2) a0 3 (iH (sI (sI h (a0 + 1) x3.toNat x1) (a0 + 2) x3.toNat x2) a0 3 + 1)) a0 4 + x2))) ∧ ((iH h (a0 + 2) ((x3 - 1).toNat)) < x2 → (0 ≤ x3 ∧ x3 < 64) ∧ (-2147483648 ≤ (x3 + (-1)) ∧ (x3 + (-1)) < 2147483648) ∧ wp mX1_insert 0 rc rs Q 15 [some (vr a0), some (vi x1), some (vi x2), some (vi (x3 + (-1)))] [] (sI (sI h (a0 + 1) x3.toNat (iH h (a0 + 1) ((x3 - 1).toNat))) (a0 + 2) x3.toNat (iH (sI h (a0 + 1) x3.toNat (iH h (a0 + 1) ((x3 - 1).toNat))) (a0 + 2) ((x3 - 1).toNat)))))))) : wp mX1_insert 0 rc rs Q 15 [some (vr a0), some (vi x1), some (vi x2), some (vi x3)] [] h :=
  (show wp mX1_insert 0 rc rs Q 15 [some (vr a0), some (vi x1), some (vi x2), some (vi x3)] [] h from xIf k_X1_insert_15 (And.intro (fun c1 => have v3 := hv.1 c1; (show wp mX1_insert 0 rc rs Q 65 [some (vr a0), some (vi x1), some (vi x2), some (vi x3)] [] h from xV k_X1_insert_65 (And.intro (hi_o hL hA0) (Exists.intro (a0 + 1) (And.intro (hi_r0 hL hA0) (have c5 := v3.1; have v11 := v3.2; (And.intro (sdI (hi_a0 hL hA0) c5) (And.intro (hi_o hL hA0) (Exists.intro (a0 + 2) (And.intro (hi_r1 hL hA0) (And.intro (sdI (hi_a1 hL hA0) c5) (And.intro rfl (And.intro (hi_o hL hA0) (have c7 := v11.1; have v10 := v11.2; (And.intro c7 (And.intro (hi_o hL hA0) (And.intro rfl (And.intro (hi_o hL hA0) (have c8 := v10.1; have v9 := v10.2; (And.intro c8 (And.intro (hi_o hL hA0) (And.intro rfl v9)))))))))))))))))))))) (fun c2 => have v4 := hv.2 (Int.not_le.mp c2); (show wp mX1_insert 0 rc rs Q 19 [some (vr a0), some (vi x1), some (vi x2), some (vi x3)] [] h from xIc k_X1_insert_19 (And.intro (hi_o hL hA0) (Exists.intro (a0 + 2) (And.intro (hi_r1 hL hA0) (have c12 := v4.1; have v35 := v4.2; (And.intro c12 (have c13 := v35.1; have v34 := v35.2; (And.intro (sdI (hi_a1 hL hA0) c13) (And.intro (fun c14 => have v16 := v34.1 c14; (show wp mX1_insert 0 rc rs Q 65 [some (vr a0), some (vi x1), some (vi x2), some (vi x3)] [] h from xV k_X1_insert_65 (And.intro (hi_o hL hA0) (Exists.intro (a0 + 1) (And.intro (hi_r0 hL hA0) (have c18 := v16.1; have v24 := v16.2; (And.intro (sdI (hi_a0 hL hA0) c18) (And.intro (hi_o hL hA0) (Exists.intro (a0 + 2) (And.intro (hi_r1 hL hA0) (And.intro (sdI (hi_a1 hL hA0) c18) (And.intro rfl (And.intro (hi_o hL hA0) (have c20 := v24.1; have v23 := v24.2; (And.intro c20 (And.intro (hi_o hL hA0) (And.intro rfl (And.intro (hi_o hL hA0) (have c21 := v23.1; have v22 := v23.2; (And.intro c21 (And.intro (hi_o hL hA0) (And.intro rfl v22)))))))))))))))))))))) (fun c15 => have v17 := v34.2 (Int.not_le.mp c15); (show wp mX1_insert 0 rc rs Q 31 [some (vr a0), some (vi x1), some (vi x2), some (vi x3)] [] h from xGo k_X1_insert_31 (And.intro (hi_o hL hA0) (Exists.intro (a0 + 1) (And.intro (hi_r0 hL hA0) (And.intro (hi_o hL hA0) (Exists.intro (a0 + 1) (And.intro (hi_r0 hL hA0) (And.intro c12 (And.intro (sdI (hi_a0 hL hA0) c13) (have c27 := v17.1; have v33 := v17.2; (And.intro (sdI (hi_a0 hL hA0) c27) (And.intro (hi_o hL hA0) (Exists.intro (a0 + 2) (And.intro (hi_r1 hL hA0) (And.intro (hi_o hL hA0) (Exists.intro (a0 + 2) (And.intro (hi_r1 hL hA0) (And.intro c12 (And.intro (sdI (hi_a1 hL hA0) c13) (And.intro (sdI (hi_a1 hL hA0) c27) (have c31 := v33.1; have v32 := v33.2; (And.intro c31 (And.intro rfl v32))))))))))))))))))))))))))))))))))))
theorem l_insert {h : AH} {a b n : Nat} {sm key v : Int} {K W P : Nat → Int} {M : Nat → Int64} (hL : LayL h) (ha : iHi a) (hn : n < 64) (hs : 0 ≤ sm ∧ sm ≤ 1000000) (hv : 0 ≤ v ∧ v ≤ 1000) : Ct 0 0 0 mX1_insert [vr a, vi key, vi v] (hH h a b n sm K W P M) (QV fun h' => h' = hH h a b (n + 1 : Nat) (sm + v) (f_in K (f_ip W v n) n key) (f_in W (f_ip W v n) n v) P M) := by
  have fin : ∀ p : Nat, p = f_ip W v n → sI (sI (sI (sI (hH h a b n sm (f_sh K p n) (f_sh W p n) P M) (a + 1) p key) (a + 2) p v) a 3 ((n : Int) + 1)) a 4 (sm + v) = hH h a b (n + 1 : Nat) (sm + v) (f_in K (f_ip W v n) n key) (f_in W (f_ip W v n) n v) P M := by
    intro p hp
    rw [hs_K, hs_W, hs_3, hs_4, ← hp]
    rfl
  have main : ∀ p : Nat, p ≤ n → f_ip W v p = f_ip W v n → wp mX1_insert 0 0 0 (QV fun h' => h' = hH h a b (n + 1 : Nat) (sm + v) (f_in K (f_ip W v n) n key) (f_in W (f_ip W v n) n v) P M) 15 [some (vr a), some (vi key), some (vi v), some (vi p)] [] (hH h a b n sm (f_sh K p n) (f_sh W p n) P M) := by
    intro p
    have r3 : ∀ p : Nat, iH (sI (sI (hH h a b n sm (f_sh K p n) (f_sh W p n) P M) (a + 1) p key) (a + 2) p v) a 3 = n := fun p => by rw [hs_K, hs_W, hh_3]
    have r5 : ∀ p : Nat, iH (sI (sI (sI (hH h a b n sm (f_sh K p n) (f_sh W p n) P M) (a + 1) p key) (a + 2) p v) a 3 ((n : Int) + 1)) a 4 = sm := fun p => by rw [hs_K, hs_W, hs_3, hh_4]
    induction p with
    | zero =>
      intro _ he
      refine t_X1_insert_15 (by exact hL) ha ?_
      rw [show ((0 : Nat) : Int).toNat = 0 from rfl, r3, r5]
      exact ⟨fun _ => ⟨by omega, by omega, by omega, rfl, fin 0 he⟩, fun c => absurd c (by omega)⟩
    | succ p ih =>
      intro hpn he
      have e1 : (((p + 1 : Nat) : Int) - 1).toNat = p := by omega
      have e2 : (((p + 1 : Nat) : Int)).toNat = p + 1 := rfl
      have r1 : f_sh W (p + 1) n p = W p := if_neg (by omega)
      have r2 : f_sh K (p + 1) n p = K p := if_neg (by omega)
      refine t_X1_insert_15 (by exact hL) ha ?_
      rw [e1, e2, r3, r5, hh_W, hh_K, r1, r2, hs_K (v := K p), hh_W, r1]
      refine ⟨fun c => absurd c (by omega), fun _ => ⟨by omega, by omega, fun c => ⟨by omega, by omega, by omega, rfl, ?_⟩, fun c => ⟨by omega, by omega, ?_⟩⟩⟩
      · refine fin (p + 1) ?_
        rw [← he]; unfold f_ip; rw [if_neg (by omega)]
      · have sh : ∀ (f : Nat → Int), updF (f_sh f (p + 1) n) (p + 1) (f p) = f_sh f p n := fun f => by
          funext i
          unfold updF f_sh
          by_cases q : i = p + 1
          · subst q; rw [if_pos rfl, if_pos (by omega)]; rfl
          · rw [if_neg q]
            by_cases q2 : p + 1 < i ∧ i ≤ n
            · rw [if_pos q2, if_pos (by omega)]
            · rw [if_neg q2, if_neg (by omega)]
        rw [hs_W, sh, sh, show ((p + 1 : Nat) : Int) + -1 = (p : Int) by omega]
        refine ih (by omega) ?_
        rw [← he]
        show _ = if W p < v then f_ip W v p else p + 1
        rw [if_pos c]
  refine e_X1_insert (by exact hL) ha ?_
  rw [hh_3]
  have := main n (Nat.le_refl _) rfl
  rw [show f_sh K n n = K from funext fun i => if_neg (by omega), show f_sh W n n = W from funext fun i => if_neg (by omega)] at this
  exact ⟨fun _ => this, fun c => absurd c (by omega)⟩
