/-! READING AND WRITING THE PURE HEAP -/
section
section RD
variable {h : AH} {a b k j : Nat} {v : Int} {g g' : Nat → Int}
theorem rI_same : iH (sI h a k v) a k = v := by simp [iH, sI, u2]
theorem rI_ne (e : b ≠ a) : iH (sI h a k v) b j = iH h b j := by simp [iH, sI, u2, e]
theorem rI_nk (e : j ≠ k) : iH (sI h a k v) a j = iH h a j := by simp [iH, sI, u2, e]
theorem rI_if : iH (sI h a k v) a j = if j = k then v else iH h a j := by simp [iH, sI, u2]
theorem rW_same : iH (sW h a g) a j = g j := by simp [iH, sW, r2]
theorem rW_ne (e : b ≠ a) : iH (sW h a g) b j = iH h b j := by simp [iH, sW, r2, e]
theorem sW_id (e : ∀ k, g k = iH h a k) : sW h a g = h := by
  have : r2 h.2.2.1 a g = h.2.2.1 := by
    funext x y
    unfold r2
    split
    · rename_i q; subst q; exact e y
    · rfl
  unfold sW
  rw [this]
theorem sW_ext (e : ∀ k, g k = g' k) : sW h a g = sW h a g' := by rw [show g = g' from funext e]
theorem sI_sW (e : ∀ j, g' j = if j = k then v else g j) : sI (sW h a g) a k v = sW h a g' := by
  unfold sI sW
  congr 3
  funext x y
  unfold u2 r2
  by_cases q : x = a
  · subst q
    simp [e]
  · simp [q]
theorem sI_sW_ne (e : b ≠ a) : sI (sW h a g) b k v = sW (sI h b k v) a g := by
  unfold sI sW
  congr 3
  funext x y
  unfold u2 r2
  by_cases q : x = b
  · subst q
    simp [e]
  · simp [q]
theorem sI_sI_ne {l : Nat} {w : Int} (e : b ≠ a) : sI (sI h a k v) b l w = sI (sI h b l w) a k v := by
  unfold sI
  congr 3
  funext x y
  unfold u2
  by_cases q : x = b
  · subst q
    simp [e]
  · simp [q]
theorem sI_sI {w : Int} : sI (sI h a k v) a k w = sI h a k w := by
  unfold sI
  congr 3
  funext x y
  unfold u2
  by_cases q : x = a
  · subst q
    by_cases q2 : y = k <;> simp [q2]
  · simp [q]
theorem sW_sW : sW (sW h a g) a g' = sW h a g' := by
  unfold sW
  congr 3
  funext x y
  unfold r2
  by_cases q : x = a <;> simp [q]
theorem sW_sW_ne (e : b ≠ a) : sW (sW h a g) b g' = sW (sW h b g') a g := by
  unfold sW
  congr 3
  funext x y
  unfold r2
  by_cases q : x = b
  · subst q
    simp [e]
  · simp [q]
theorem sI_W : sI h a k v = sW h a (fun j => if j = k then v else iH h a j) := by
  unfold sI sW
  congr 3
  funext x y
  unfold u2 r2
  by_cases q : x = a
  · subst q
    rfl
  · simp [q]
end RD
end
/-- from a contract with a result to one with a wider result -/
theorem Ct.qI {d mc ms : Nat} {y : MI} {av : List AV} {h : AH} {P P' : Int → AH → Prop} (hc : Ct d mc ms y av h (QI P)) (m : ∀ x h', P x h' → P' x h') : Ct d mc ms y av h (QI P') := hc.mono fun v h' ⟨x, e, q⟩ => ⟨x, e, m x h' q⟩
theorem eQPV {K : Option AV → AH → Prop} {h0 : AH} (k : K none h0) : ∀ v h, (∀ w, v = some w → okV w) → QV (fun h' => h' = h0) v h → K v h := by
  rintro v h ok ⟨rfl, rfl⟩
  exact k
def b_X12_feed_0 : List IE := [(.iload_n 1, 1, 0, 0, 1, 0), (.iconst 1, 1, 1, 0, 0, 0), (.iconst 5, 1, 5, 0, 0, 0)]
theorem k_X12_feed_0 : ckB mX12_feed 12 0 b_X12_feed_0 3 = true := by decide +kernel
def b_X12_feed_6 : List IE := []
theorem k_X12_feed_6 : ckIf mX12_feed 12 6 b_X12_feed_6 6 0 41 47 9 = true := by decide +kernel
def b_X12_feed_9 : List IE := [(.iload_n 2, 1, 0, 0, 2, 0)]
theorem k_X12_feed_9 : ckB mX12_feed 12 9 b_X12_feed_9 10 = true := by decide +kernel
def b_X12_feed_13 : List IE := []
theorem k_X12_feed_13 : ckIf mX12_feed 12 13 b_X12_feed_13 13 0 34 47 16 = true := by decide +kernel
def b_X12_feed_16 : List IE := [(.iload_n 3, 1, 0, 0, 3, 0)]
theorem k_X12_feed_16 : ckB mX12_feed 12 16 b_X12_feed_16 17 = true := by decide +kernel
def b_X12_feed_20 : List IE := []
theorem k_X12_feed_20 : ckIf mX12_feed 12 20 b_X12_feed_20 20 0 27 47 23 = true := by decide +kernel
def b_X12_feed_23 : List IE := [(.iload 4, 2, 0, 0, 4, 0)]
theorem k_X12_feed_23 : ckB mX12_feed 12 23 b_X12_feed_23 25 = true := by decide +kernel
def b_X12_feed_28 : List IE := []
theorem k_X12_feed_28 : ckIf mX12_feed 12 28 b_X12_feed_28 28 0 19 47 31 = true := by decide +kernel
def b_X12_feed_31 : List IE := [(.iload 5, 2, 0, 0, 5, 0)]
theorem k_X12_feed_31 : ckB mX12_feed 12 31 b_X12_feed_31 33 = true := by decide +kernel
def b_X12_feed_36 : List IE := []
theorem k_X12_feed_36 : ckIf mX12_feed 12 36 b_X12_feed_36 36 0 11 47 39 = true := by decide +kernel
def b_X12_feed_39 : List IE := [(.iload 6, 2, 0, 0, 6, 0)]
theorem k_X12_feed_39 : ckB mX12_feed 12 39 b_X12_feed_39 41 = true := by decide +kernel
def b_X12_feed_44 : List IE := []
theorem k_X12_feed_44 : ckIf mX12_feed 12 44 b_X12_feed_44 44 1 6 50 47 = true := by decide +kernel
def b_X12_feed_47 : List IE := [(.bipush (-2), 2, (-2), 0, 0, 0)]
theorem k_X12_feed_47 : ckI mX12_feed 12 47 b_X12_feed_47 49 = true := by decide +kernel
def b_X12_feed_50 : List IE := [(.aload_n 0, 1, 0, 0, 0, 0), (.getfield 120, 3, 0, 12, 18, 0), (.iload_n 1, 1, 0, 0, 1, 0), (.iadd, 1, 0, 0, 0, 0), (.bipush 64, 2, 64, 0, 0, 0)]
theorem k_X12_feed_50 : ckIc mX12_feed 12 50 b_X12_feed_50 58 5 6 64 61 = true := by decide +kernel
def b_X12_feed_61 : List IE := [(.bipush (-4), 2, (-4), 0, 0, 0)]
theorem k_X12_feed_61 : ckI mX12_feed 12 61 b_X12_feed_61 63 = true := by decide +kernel
def b_X12_feed_64 : List IE := [(.iconst 0, 1, 0, 0, 0, 0), (.istore 7, 2, 0, 0, 7, 0)]
theorem k_X12_feed_64 : ckB mX12_feed 12 64 b_X12_feed_64 67 = true := by decide +kernel
def b_X12_feed_67 : List IE := [(.iload 7, 2, 0, 0, 7, 0), (.iload_n 1, 1, 0, 0, 1, 0)]
theorem k_X12_feed_67 : ckIc mX12_feed 12 67 b_X12_feed_67 70 3 64 134 73 = true := by decide +kernel
def b_X12_feed_73 : List IE := [(.aload_n 0, 1, 0, 0, 0, 0), (.getfield 54, 3, 0, 12, 17, 1), (.aload_n 0, 1, 0, 0, 0, 0), (.getfield 120, 3, 0, 12, 18, 0), (.iload 7, 2, 0, 0, 7, 0), (.iadd, 1, 0, 0, 0, 0), (.iload 7, 2, 0, 0, 7, 0)]
theorem k_X12_feed_73 : ckIf mX12_feed 12 73 b_X12_feed_73 86 1 7 93 89 = true := by decide +kernel
def b_X12_feed_89 : List IE := [(.iload_n 2, 1, 0, 0, 2, 0)]
theorem k_X12_feed_89 : ckGo mX12_feed 12 89 b_X12_feed_89 90 37 127 = true := by decide +kernel
def b_X12_feed_93 : List IE := [(.iload 7, 2, 0, 0, 7, 0), (.iconst 1, 1, 1, 0, 0, 0)]
theorem k_X12_feed_93 : ckIc mX12_feed 12 93 b_X12_feed_93 96 1 7 103 99 = true := by decide +kernel
def b_X12_feed_99 : List IE := [(.iload_n 3, 1, 0, 0, 3, 0)]
theorem k_X12_feed_99 : ckGo mX12_feed 12 99 b_X12_feed_99 100 27 127 = true := by decide +kernel
def b_X12_feed_103 : List IE := [(.iload 7, 2, 0, 0, 7, 0), (.iconst 2, 1, 2, 0, 0, 0)]
theorem k_X12_feed_103 : ckIc mX12_feed 12 103 b_X12_feed_103 106 1 8 114 109 = true := by decide +kernel
def b_X12_feed_109 : List IE := [(.iload 4, 2, 0, 0, 4, 0)]
theorem k_X12_feed_109 : ckGo mX12_feed 12 109 b_X12_feed_109 111 16 127 = true := by decide +kernel
def b_X12_feed_114 : List IE := [(.iload 7, 2, 0, 0, 7, 0), (.iconst 3, 1, 3, 0, 0, 0)]
theorem k_X12_feed_114 : ckIc mX12_feed 12 114 b_X12_feed_114 117 1 8 125 120 = true := by decide +kernel
def b_X12_feed_120 : List IE := [(.iload 5, 2, 0, 0, 5, 0)]
theorem k_X12_feed_120 : ckGo mX12_feed 12 120 b_X12_feed_120 122 5 127 = true := by decide +kernel
def b_X12_feed_125 : List IE := [(.iload 6, 2, 0, 0, 6, 0), (.iastore, 1, 0, 0, 0, 0), (.iinc 7 1, 3, 1, 0, 7, 0)]
theorem k_X12_feed_125 : ckGo mX12_feed 12 125 b_X12_feed_125 131 (-64) 67 = true := by decide +kernel
def b_X12_feed_127 : List IE := [(.iastore, 1, 0, 0, 0, 0), (.iinc 7 1, 3, 1, 0, 7, 0)]
theorem k_X12_feed_127 : ckGo mX12_feed 12 127 b_X12_feed_127 131 (-64) 67 = true := by decide +kernel
def b_X12_feed_134 : List IE := [(.aload_n 0, 1, 0, 0, 0, 0), (.dup, 1, 0, 0, 0, 0), (.getfield 120, 3, 0, 12, 18, 0), (.iload_n 1, 1, 0, 0, 1, 0), (.iadd, 1, 0, 0, 0, 0), (.putfield 120, 3, 0, 12, 18, 0), (.aload_n 0, 1, 0, 0, 0, 0), (.getfield 120, 3, 0, 12, 18, 0)]
theorem k_X12_feed_134 : ckI mX12_feed 12 134 b_X12_feed_134 148 = true := by decide +kernel
theorem s_X12_feed_3 : cS mX12_feed 3 mX12_in 109 3 := ⟨by decide +kernel, ⟨ml_X12_in, li_RX12_109, st_X12_in⟩, by decide +kernel⟩
theorem s_X12_feed_10 : cS mX12_feed 10 mX12_isByte 116 1 := ⟨by decide +kernel, ⟨ml_X12_isByte, li_RX12_116, st_X12_isByte⟩, by decide +kernel⟩
theorem s_X12_feed_17 : cS mX12_feed 17 mX12_isByte 116 1 := ⟨by decide +kernel, ⟨ml_X12_isByte, li_RX12_116, st_X12_isByte⟩, by decide +kernel⟩
theorem s_X12_feed_25 : cS mX12_feed 25 mX12_isByte 116 1 := ⟨by decide +kernel, ⟨ml_X12_isByte, li_RX12_116, st_X12_isByte⟩, by decide +kernel⟩
theorem s_X12_feed_33 : cS mX12_feed 33 mX12_isByte 116 1 := ⟨by decide +kernel, ⟨ml_X12_isByte, li_RX12_116, st_X12_isByte⟩, by decide +kernel⟩
theorem s_X12_feed_41 : cS mX12_feed 41 mX12_isByte 116 1 := ⟨by decide +kernel, ⟨ml_X12_isByte, li_RX12_116, st_X12_isByte⟩, by decide +kernel⟩
theorem t_X12_feed_0 {rc rs : Nat} {Q : Option AV → AH → Prop} {h : AH} {x1 x2 x3 x4 x5 x6 : Int} (hL : LayM h) (hv : ((¬ ((1 : Int) ≤ x1 ∧ x1 ≤ (5 : Int)) → Q (some (vi (-2))) h) ∧ (((1 : Int) ≤ x1 ∧ x1 ≤ (5 : Int)) → ((¬ (0 ≤ x2 ∧ x2 ≤ 255) → Q (some (vi (-2))) h) ∧ ((0 ≤ x2 ∧ x2 ≤ 255) → ((¬ (0 ≤ x3 ∧ x3 ≤ 255) → Q (some (vi (-2))) h) ∧ ((0 ≤ x3 ∧ x3 ≤ 255) → ((¬ (0 ≤ x4 ∧ x4 ≤ 255) → Q (some (vi (-2))) h) ∧ ((0 ≤ x4 ∧ x4 ≤ 255) → ((¬ (0 ≤ x5 ∧ x5 ≤ 255) → Q (some (vi (-2))) h) ∧ ((0 ≤ x5 ∧ x5 ≤ 255) → (((0 ≤ x6 ∧ x6 ≤ 255) → (-2147483648 ≤ (iH h 89 18 + x1) ∧ (iH h 89 18 + x1) < 2147483648) ∧ (((iH h 89 18 + x1) ≤ 64 → wp mX12_feed 2 rc rs Q 67 [some (vr 89), some (vi x1), some (vi x2), some (vi x3), some (vi x4), some (vi x5), some (vi x6), some (vi 0)] [] h) ∧ (64 < (iH h 89 18 + x1) → Q (some (vi (-4))) h))) ∧ (¬ (0 ≤ x6 ∧ x6 ≤ 255) → Q (some (vi (-2))) h))))))))))))) : wp mX12_feed 2 rc rs Q 0 [some (vr 89), some (vi x1), some (vi x2), some (vi x3), some (vi x4), some (vi x5), some (vi x6), none] [] h :=
  (show wp mX12_feed 2 rc rs Q 0 [some (vr 89), some (vi x1), some (vi x2), some (vi x3), some (vi x4), some (vi x5), some (vi x6), none] [] h from xcS k_X12_feed_0 s_X12_feed_3 ((Exists.intro [vi x1, vi 1, vi 5] (Exists.intro [] (And.intro (And.intro rfl (And.intro rfl (Nat.le_of_ble_eq_true rfl))) (Exists.intro 0 (Exists.intro 0 (Exists.intro 0 (Exists.intro _ (And.intro c_in (And.intro (And.intro (by decide) (And.intro (Nat.zero_le _) (Nat.zero_le _))) (eQP (show wp mX12_feed 2 rc rs Q 6 [some (vr 89), some (vi x1), some (vi x2), some (vi x3), some (vi x4), some (vi x5), some (vi x6), none] [vi (b01 ((1 : Int) ≤ x1 ∧ x1 ≤ (5 : Int)))] h from xIf k_X12_feed_6 (And.intro (fun c1 => have v3 := hv.1 (b01_n.mp c1); (show wp mX12_feed 2 rc rs Q 47 [some (vr 89), some (vi x1), some (vi x2), some (vi x3), some (vi x4), some (vi x5), some (vi x6), none] [] h from xI k_X12_feed_47 (And.intro rfl v3))) (fun c2 => have v4 := hv.2 (b01_p.mp c2); (show wp mX12_feed 2 rc rs Q 9 [some (vr 89), some (vi x1), some (vi x2), some (vi x3), some (vi x4), some (vi x5), some (vi x6), none] [] h from xcS k_X12_feed_9 s_X12_feed_10 ((Exists.intro [vi x2] (Exists.intro [] (And.intro (And.intro rfl (And.intro rfl (Nat.le_of_ble_eq_true rfl))) (Exists.intro 1 (Exists.intro 0 (Exists.intro 0 (Exists.intro _ (And.intro c_isByte (And.intro (And.intro (by decide) (And.intro (Nat.zero_le _) (Nat.zero_le _))) (eQP (show wp mX12_feed 2 rc rs Q 13 [some (vr 89), some (vi x1), some (vi x2), some (vi x3), some (vi x4), some (vi x5), some (vi x6), none] [vi (b01 (0 ≤ x2 ∧ x2 ≤ 255))] h from xIf k_X12_feed_13 (And.intro (fun c5 => have v7 := v4.1 (b01_n.mp c5); (show wp mX12_feed 2 rc rs Q 47 [some (vr 89), some (vi x1), some (vi x2), some (vi x3), some (vi x4), some (vi x5), some (vi x6), none] [] h from xI k_X12_feed_47 (And.intro rfl v7))) (fun c6 => have v8 := v4.2 (b01_p.mp c6); (show wp mX12_feed 2 rc rs Q 16 [some (vr 89), some (vi x1), some (vi x2), some (vi x3), some (vi x4), some (vi x5), some (vi x6), none] [] h from xcS k_X12_feed_16 s_X12_feed_17 ((Exists.intro [vi x3] (Exists.intro [] (And.intro (And.intro rfl (And.intro rfl (Nat.le_of_ble_eq_true rfl))) (Exists.intro 1 (Exists.intro 0 (Exists.intro 0 (Exists.intro _ (And.intro c_isByte (And.intro (And.intro (by decide) (And.intro (Nat.zero_le _) (Nat.zero_le _))) (eQP (show wp mX12_feed 2 rc rs Q 20 [some (vr 89), some (vi x1), some (vi x2), some (vi x3), some (vi x4), some (vi x5), some (vi x6), none] [vi (b01 (0 ≤ x3 ∧ x3 ≤ 255))] h from xIf k_X12_feed_20 (And.intro (fun c9 => have v11 := v8.1 (b01_n.mp c9); (show wp mX12_feed 2 rc rs Q 47 [some (vr 89), some (vi x1), some (vi x2), some (vi x3), some (vi x4), some (vi x5), some (vi x6), none] [] h from xI k_X12_feed_47 (And.intro rfl v11))) (fun c10 => have v12 := v8.2 (b01_p.mp c10); (show wp mX12_feed 2 rc rs Q 23 [some (vr 89), some (vi x1), some (vi x2), some (vi x3), some (vi x4), some (vi x5), some (vi x6), none] [] h from xcS k_X12_feed_23 s_X12_feed_25 ((Exists.intro [vi x4] (Exists.intro [] (And.intro (And.intro rfl (And.intro rfl (Nat.le_of_ble_eq_true rfl))) (Exists.intro 1 (Exists.intro 0 (Exists.intro 0 (Exists.intro _ (And.intro c_isByte (And.intro (And.intro (by decide) (And.intro (Nat.zero_le _) (Nat.zero_le _))) (eQP (show wp mX12_feed 2 rc rs Q 28 [some (vr 89), some (vi x1), some (vi x2), some (vi x3), some (vi x4), some (vi x5), some (vi x6), none] [vi (b01 (0 ≤ x4 ∧ x4 ≤ 255))] h from xIf k_X12_feed_28 (And.intro (fun c13 => have v15 := v12.1 (b01_n.mp c13); (show wp mX12_feed 2 rc rs Q 47 [some (vr 89), some (vi x1), some (vi x2), some (vi x3), some (vi x4), some (vi x5), some (vi x6), none] [] h from xI k_X12_feed_47 (And.intro rfl v15))) (fun c14 => have v16 := v12.2 (b01_p.mp c14); (show wp mX12_feed 2 rc rs Q 31 [some (vr 89), some (vi x1), some (vi x2), some (vi x3), some (vi x4), some (vi x5), some (vi x6), none] [] h from xcS k_X12_feed_31 s_X12_feed_33 ((Exists.intro [vi x5] (Exists.intro [] (And.intro (And.intro rfl (And.intro rfl (Nat.le_of_ble_eq_true rfl))) (Exists.intro 1 (Exists.intro 0 (Exists.intro 0 (Exists.intro _ (And.intro c_isByte (And.intro (And.intro (by decide) (And.intro (Nat.zero_le _) (Nat.zero_le _))) (eQP (show wp mX12_feed 2 rc rs Q 36 [some (vr 89), some (vi x1), some (vi x2), some (vi x3), some (vi x4), some (vi x5), some (vi x6), none] [vi (b01 (0 ≤ x5 ∧ x5 ≤ 255))] h from xIf k_X12_feed_36 (And.intro (fun c17 => have v19 := v16.1 (b01_n.mp c17); (show wp mX12_feed 2 rc rs Q 47 [some (vr 89), some (vi x1), some (vi x2), some (vi x3), some (vi x4), some (vi x5), some (vi x6), none] [] h from xI k_X12_feed_47 (And.intro rfl v19))) (fun c18 => have v20 := v16.2 (b01_p.mp c18); (show wp mX12_feed 2 rc rs Q 39 [some (vr 89), some (vi x1), some (vi x2), some (vi x3), some (vi x4), some (vi x5), some (vi x6), none] [] h from xcS k_X12_feed_39 s_X12_feed_41 ((Exists.intro [vi x6] (Exists.intro [] (And.intro (And.intro rfl (And.intro rfl (Nat.le_of_ble_eq_true rfl))) (Exists.intro 1 (Exists.intro 0 (Exists.intro 0 (Exists.intro _ (And.intro c_isByte (And.intro (And.intro (by decide) (And.intro (Nat.zero_le _) (Nat.zero_le _))) (eQP (show wp mX12_feed 2 rc rs Q 44 [some (vr 89), some (vi x1), some (vi x2), some (vi x3), some (vi x4), some (vi x5), some (vi x6), none] [vi (b01 (0 ≤ x6 ∧ x6 ≤ 255))] h from xIf k_X12_feed_44 (And.intro (fun c21 => have v23 := v20.1 (b01_p.mp c21); (show wp mX12_feed 2 rc rs Q 50 [some (vr 89), some (vi x1), some (vi x2), some (vi x3), some (vi x4), some (vi x5), some (vi x6), none] [] h from xIc k_X12_feed_50 (And.intro (lm_89 hL) (have c25 := v23.1; have v30 := v23.2; (And.intro c25 (And.intro (fun c26 => have v28 := v30.1 c26; (show wp mX12_feed 2 rc rs Q 64 [some (vr 89), some (vi x1), some (vi x2), some (vi x3), some (vi x4), some (vi x5), some (vi x6), none] [] h from xB k_X12_feed_64 (And.intro rfl v28))) (fun c27 => have v29 := v30.2 (Int.not_le.mp c27); (show wp mX12_feed 2 rc rs Q 61 [some (vr 89), some (vi x1), some (vi x2), some (vi x3), some (vi x4), some (vi x5), some (vi x6), none] [] h from xI k_X12_feed_61 (And.intro rfl v29))))))))) (fun c22 => have v24 := v20.2 (b01_nn.mp c22); (show wp mX12_feed 2 rc rs Q 47 [some (vr 89), some (vi x1), some (vi x2), some (vi x3), some (vi x4), some (vi x5), some (vi x6), none] [] h from xI k_X12_feed_47 (And.intro rfl v24))))))))))))))))))))))))))))))))))))))))))))))))))))))))))))))))))))))))))))))))))))))))))))
theorem e_X12_feed {mc ms : Nat} {Q : Option AV → AH → Prop} {h : AH} {x1 x2 x3 x4 x5 x6 : Int} (hL : LayM h) (hv : ((¬ ((1 : Int) ≤ x1 ∧ x1 ≤ (5 : Int)) → Q (some (vi (-2))) h) ∧ (((1 : Int) ≤ x1 ∧ x1 ≤ (5 : Int)) → ((¬ (0 ≤ x2 ∧ x2 ≤ 255) → Q (some (vi (-2))) h) ∧ ((0 ≤ x2 ∧ x2 ≤ 255) → ((¬ (0 ≤ x3 ∧ x3 ≤ 255) → Q (some (vi (-2))) h) ∧ ((0 ≤ x3 ∧ x3 ≤ 255) → ((¬ (0 ≤ x4 ∧ x4 ≤ 255) → Q (some (vi (-2))) h) ∧ ((0 ≤ x4 ∧ x4 ≤ 255) → ((¬ (0 ≤ x5 ∧ x5 ≤ 255) → Q (some (vi (-2))) h) ∧ ((0 ≤ x5 ∧ x5 ≤ 255) → (((0 ≤ x6 ∧ x6 ≤ 255) → (-2147483648 ≤ (iH h 89 18 + x1) ∧ (iH h 89 18 + x1) < 2147483648) ∧ (((iH h 89 18 + x1) ≤ 64 → wp mX12_feed 2 mc ms Q 67 [some (vr 89), some (vi x1), some (vi x2), some (vi x3), some (vi x4), some (vi x5), some (vi x6), some (vi 0)] [] h) ∧ (64 < (iH h 89 18 + x1) → Q (some (vi (-4))) h))) ∧ (¬ (0 ≤ x6 ∧ x6 ≤ 255) → Q (some (vi (-2))) h))))))))))))) : Ct 2 mc ms mX12_feed [vr 89, vi x1, vi x2, vi x3, vi x4, vi x5, vi x6] h Q := Ct.of (by decide +kernel) (Nat.le_of_ble_eq_true rfl) (t_X12_feed_0 hL hv)
theorem t_X12_feed_67 {rc rs : Nat} {Q : Option AV → AH → Prop} {h : AH} {x1 x2 x3 x4 x5 x6 x7 : Int} (hL : LayM h) (hv : ((x1 ≤ x7 → (-2147483648 ≤ (iH h 89 18 + x1) ∧ (iH h 89 18 + x1) < 2147483648) ∧ Q (some (vi (iH h 89 18 + x1))) (sI h 89 18 (iH h 89 18 + x1))) ∧ (x7 < x1 → (-2147483648 ≤ (iH h 89 18 + x7) ∧ (iH h 89 18 + x7) < 2147483648) ∧ ((x7 ≠ 0 → ((x7 ≠ 1 → ((x7 ≠ 2 → ((x7 ≠ 3 → (0 ≤ (iH h 89 18 + x7) ∧ (iH h 89 18 + x7) < 64) ∧ (-2147483648 ≤ (x7 + 1) ∧ (x7 + 1) < 2147483648) ∧ wp mX12_feed 2 rc rs Q 67 [some (vr 89), some (vi x1), some (vi x2), some (vi x3), some (vi x4), some (vi x5), some (vi x6), some (vi (x7 + 1))] [] (sI h 1157 ((iH h 89 18 + x7).toNat) x6)) ∧ (x7 = 3 → (0 ≤ (iH h 89 18 + x7) ∧ (iH h 89 18 + x7) < 64) ∧ (-2147483648 ≤ (x7 + 1) ∧ (x7 + 1) < 2147483648) ∧ wp mX12_feed 2 rc rs Q 67 [some (vr 89), some (vi x1), some (vi x2), some (vi x3), some (vi x4), some (vi x5), some (vi x6), some (vi (x7 + 1))] [] (sI h 1157 ((iH h 89 18 + x7).toNat) x5)))) ∧ (x7 = 2 → (0 ≤ (iH h 89 18 + x7) ∧ (iH h 89 18 + x7) < 64) ∧ (-2147483648 ≤ (x7 + 1) ∧ (x7 + 1) < 2147483648) ∧ wp mX12_feed 2 rc rs Q 67 [some (vr 89), some (vi x1), some (vi x2), some (vi x3), some (vi x4), some (vi x5), some (vi x6), some (vi (x7 + 1))] [] (sI h 1157 ((iH h 89 18 + x7).toNat) x4)))) ∧ (x7 = 1 → (0 ≤ (iH h 89 18 + x7) ∧ (iH h 89 18 + x7) < 64) ∧ (-2147483648 ≤ (x7 + 1) ∧ (x7 + 1) < 2147483648) ∧ wp mX12_feed 2 rc rs Q 67 [some (vr 89), some (vi x1), some (vi x2), some (vi x3), some (vi x4), some (vi x5), some (vi x6), some (vi (x7 + 1))] [] (sI h 1157 ((iH h 89 18 + x7).toNat) x3)))) ∧ (x7 = 0 → (0 ≤ (iH h 89 18 + x7) ∧ (iH h 89 18 + x7) < 64) ∧ (-2147483648 ≤ (x7 + 1) ∧ (x7 + 1) < 2147483648) ∧ wp mX12_feed 2 rc rs Q 67 [some (vr 89), some (vi x1), some (vi x2), some (vi x3), some (vi x4), some (vi x5), some (vi x6), some (vi (x7 + 1))] [] (sI h 1157 ((iH h 89 18 + x7).toNat) x2)))))) : wp mX12_feed 2 rc rs Q 67 [some (vr 89), some (vi x1), some (vi x2), some (vi x3), some (vi x4), some (vi x5), some (vi x6), some (vi x7)] [] h :=
  (show wp mX12_feed 2 rc rs Q 67 [some (vr 89), some (vi x1), some (vi x2), some (vi x3), some (vi x4), some (vi x5), some (vi x6), some (vi x7)] [] h from xIc k_X12_feed_67 (And.intro (fun c1 => have v3 := hv.1 c1; (show wp mX12_feed 2 rc rs Q 134 [some (vr 89), some (vi x1), some (vi x2), some (vi x3), some (vi x4), some (vi x5), some (vi x6), some (vi x7)] [] h from xI k_X12_feed_134 (And.intro rfl (And.intro (lm_89 hL) (have c5 := v3.1; have v6 := v3.2; (And.intro c5 (And.intro (lm_89 hL) (And.intro (lm_89 hL) (And.intro rfl v6))))))))) (fun c2 => have v4 := hv.2 (Int.not_le.mp c2); (show wp mX12_feed 2 rc rs Q 73 [some (vr 89), some (vi x1), some (vi x2), some (vi x3), some (vi x4), some (vi x5), some (vi x6), some (vi x7)] [] h from xIf k_X12_feed_73 (And.intro (lm_89 hL) (Exists.intro 1157 (And.intro (lf_89_17 hL) (And.intro (lm_89 hL) (have c7 := v4.1; have v44 := v4.2; (And.intro c7 (And.intro (fun c8 => have v10 := v44.1 c8; (show wp mX12_feed 2 rc rs Q 93 [some (vr 89), some (vi x1), some (vi x2), some (vi x3), some (vi x4), some (vi x5), some (vi x6), some (vi x7)] [vi (iH h 89 18 + x7), vr 1157] h from xIc k_X12_feed_93 (And.intro (fun c12 => have v14 := v10.1 c12; (show wp mX12_feed 2 rc rs Q 103 [some (vr 89), some (vi x1), some (vi x2), some (vi x3), some (vi x4), some (vi x5), some (vi x6), some (vi x7)] [vi (iH h 89 18 + x7), vr 1157] h from xIc k_X12_feed_103 (And.intro (fun c16 => have v18 := v14.1 c16; (show wp mX12_feed 2 rc rs Q 114 [some (vr 89), some (vi x1), some (vi x2), some (vi x3), some (vi x4), some (vi x5), some (vi x6), some (vi x7)] [vi (iH h 89 18 + x7), vr 1157] h from xIc k_X12_feed_114 (And.intro (fun c20 => have v22 := v18.1 c20; (show wp mX12_feed 2 rc rs Q 125 [some (vr 89), some (vi x1), some (vi x2), some (vi x3), some (vi x4), some (vi x5), some (vi x6), some (vi x7)] [vi (iH h 89 18 + x7), vr 1157] h from xGo k_X12_feed_125 (have c24 := v22.1; have v27 := v22.2; (And.intro (sdI (lm_1157 hL) c24) (have c25 := v27.1; have v26 := v27.2; (And.intro c25 (And.intro rfl v26))))))) (fun c21 => have v23 := v18.2 (Decidable.not_not.mp c21); (show wp mX12_feed 2 rc rs Q 120 [some (vr 89), some (vi x1), some (vi x2), some (vi x3), some (vi x4), some (vi x5), some (vi x6), some (vi x7)] [vi (iH h 89 18 + x7), vr 1157] h from xGo k_X12_feed_120 (show wp mX12_feed 2 rc rs Q 127 [some (vr 89), some (vi x1), some (vi x2), some (vi x3), some (vi x4), some (vi x5), some (vi x6), some (vi x7)] [vi x5, vi (iH h 89 18 + x7), vr 1157] h from xGo k_X12_feed_127 (have c28 := v23.1; have v31 := v23.2; (And.intro (sdI (lm_1157 hL) c28) (have c29 := v31.1; have v30 := v31.2; (And.intro c29 (And.intro rfl v30))))))))))) (fun c17 => have v19 := v14.2 (Decidable.not_not.mp c17); (show wp mX12_feed 2 rc rs Q 109 [some (vr 89), some (vi x1), some (vi x2), some (vi x3), some (vi x4), some (vi x5), some (vi x6), some (vi x7)] [vi (iH h 89 18 + x7), vr 1157] h from xGo k_X12_feed_109 (show wp mX12_feed 2 rc rs Q 127 [some (vr 89), some (vi x1), some (vi x2), some (vi x3), some (vi x4), some (vi x5), some (vi x6), some (vi x7)] [vi x4, vi (iH h 89 18 + x7), vr 1157] h from xGo k_X12_feed_127 (have c32 := v19.1; have v35 := v19.2; (And.intro (sdI (lm_1157 hL) c32) (have c33 := v35.1; have v34 := v35.2; (And.intro c33 (And.intro rfl v34))))))))))) (fun c13 => have v15 := v10.2 (Decidable.not_not.mp c13); (show wp mX12_feed 2 rc rs Q 99 [some (vr 89), some (vi x1), some (vi x2), some (vi x3), some (vi x4), some (vi x5), some (vi x6), some (vi x7)] [vi (iH h 89 18 + x7), vr 1157] h from xGo k_X12_feed_99 (show wp mX12_feed 2 rc rs Q 127 [some (vr 89), some (vi x1), some (vi x2), some (vi x3), some (vi x4), some (vi x5), some (vi x6), some (vi x7)] [vi x3, vi (iH h 89 18 + x7), vr 1157] h from xGo k_X12_feed_127 (have c36 := v15.1; have v39 := v15.2; (And.intro (sdI (lm_1157 hL) c36) (have c37 := v39.1; have v38 := v39.2; (And.intro c37 (And.intro rfl v38))))))))))) (fun c9 => have v11 := v44.2 (Decidable.not_not.mp c9); (show wp mX12_feed 2 rc rs Q 89 [some (vr 89), some (vi x1), some (vi x2), some (vi x3), some (vi x4), some (vi x5), some (vi x6), some (vi x7)] [vi (iH h 89 18 + x7), vr 1157] h from xGo k_X12_feed_89 (show wp mX12_feed 2 rc rs Q 127 [some (vr 89), some (vi x1), some (vi x2), some (vi x3), some (vi x4), some (vi x5), some (vi x6), some (vi x7)] [vi x2, vi (iH h 89 18 + x7), vr 1157] h from xGo k_X12_feed_127 (have c40 := v11.1; have v43 := v11.2; (And.intro (sdI (lm_1157 hL) c40) (have c41 := v43.1; have v42 := v43.2; (And.intro c41 (And.intro rfl v42)))))))))))))))))))
def m_byt (a b c d e : Int) (j : Nat) : Int := if j = 0 then a else if j = 1 then b else if j = 2 then c else if j = 3 then d else e
def m_fedT (h : AH) (a b c d e : Int) (n k : Nat) : Int := if (iH h 89 18).toNat ≤ k ∧ k < (iH h 89 18).toNat + n then m_byt a b c d e (k - (iH h 89 18).toNat) else iH h 1157 k
def m_fedOK (n a b c d e : Int) : Prop := (1 ≤ n ∧ n ≤ 5) ∧ (0 ≤ a ∧ a ≤ 255) ∧ (0 ≤ b ∧ b ≤ 255) ∧ (0 ≤ c ∧ c ≤ 255) ∧ (0 ≤ d ∧ d ≤ 255) ∧ (0 ≤ e ∧ e ≤ 255)
def m_fed (h : AH) (n a b c d e : Int) : AH := sI (sW h 1157 (m_fedT h a b c d e n.toNat)) 89 18 (iH h 89 18 + n)
def p_feed (h : AH) (n a b c d e : Int) (x : Int) (h' : AH) : Prop := (¬ m_fedOK n a b c d e ∧ x = -2 ∧ h' = h) ∨ (m_fedOK n a b c d e ∧ 64 < iH h 89 18 + n ∧ x = -4 ∧ h' = h) ∨ (m_fedOK n a b c d e ∧ iH h 89 18 + n ≤ 64 ∧ x = iH h 89 18 + n ∧ h' = m_fed h n a b c d e)
theorem c_feed {h : AH} (hL : LayM h) {n a b c d e : Int} (ht : 0 ≤ iH h 89 18 ∧ iH h 89 18 ≤ 64) : Ct 2 0 0 mX12_feed [vr 89, vi n, vi a, vi b, vi c, vi d, vi e] h (QI (p_feed h n a b c d e)) := by
  have bad : ¬ m_fedOK n a b c d e → QI (p_feed h n a b c d e) (some (vi (-2))) h := fun q => ⟨_, rfl, Or.inl ⟨q, rfl, rfl⟩⟩
  refine e_X12_feed hL ⟨fun c0 => bad fun q => c0 q.1, fun c0 => ⟨fun c1 => bad fun q => c1 q.2.1, fun c1 => ⟨fun c2 => bad fun q => c2 q.2.2.1, fun c2 => ⟨fun c3 => bad fun q => c3 q.2.2.2.1, fun c3 => ⟨fun c4 => bad fun q => c4 q.2.2.2.2.1, fun c4 => ⟨fun c5 => ⟨by omega, fun c6 => ?_, fun c6 => ⟨_, rfl, Or.inr (Or.inl ⟨⟨c0, c1, c2, c3, c4, c5⟩, c6, rfl, rfl⟩)⟩⟩, fun c5 => bad fun q => c5 q.2.2.2.2.2⟩⟩⟩⟩⟩⟩
  have e0 : h = sW h 1157 (m_fedT h a b c d e 0) := (sW_id fun k => by unfold m_fedT; rw [if_neg (by omega)]).symm
  have main : wp mX12_feed 2 0 0 (QI (p_feed h n a b c d e)) 67 [some (vr 89), some (vi n), some (vi a), some (vi b), some (vi c), some (vi d), some (vi e), some (vi 0)] [] (sW h 1157 (m_fedT h a b c d e 0)) := by
    refine up (P := fun j => wp mX12_feed 2 _ _ _ 67 [some (vr 89), some (vi n), some (vi a), some (vi b), some (vi c), some (vi d), some (vi e), some (vi j)] [] (sW h 1157 (m_fedT h a b c d e j))) n.toNat ?_ ?_
    · exact t_X12_feed_67 hL ⟨fun _ => ⟨by rw [rW_ne (by decide)]; omega, _, rfl, Or.inr (Or.inr ⟨⟨c0, c1, c2, c3, c4, c5⟩, c6, by rw [rW_ne (by decide)], by rw [rW_ne (by decide)]; rfl⟩)⟩, fun c => absurd c (by omega)⟩
    · intro j hj ih
      have st : ∀ v, v = m_byt a b c d e j → wp mX12_feed 2 0 0 (QI (p_feed h n a b c d e)) 67 [some (vr 89), some (vi n), some (vi a), some (vi b), some (vi c), some (vi d), some (vi e), some (vi ((j : Int) + 1))] [] (sI (sW h 1157 (m_fedT h a b c d e j)) 1157 (iH h 89 18 + (j : Int)).toNat v) := by
        intro v hv
        rw [sI_sW (g' := m_fedT h a b c d e (j + 1)) (fun k => by
          unfold m_fedT
          by_cases q : k = (iH h 89 18 + (j : Int)).toNat
          · rw [if_pos q, if_pos (by omega), hv]; congr 1; omega
          · rw [if_neg q]
            by_cases q2 : (iH h 89 18).toNat ≤ k ∧ k < (iH h 89 18).toNat + j
            · rw [if_pos q2, if_pos (by omega)]
            · rw [if_neg q2, if_neg (by omega)])]
        exact ih
      refine t_X12_feed_67 hL ?_
      rw [rW_ne (by decide)]
      refine ⟨fun c => absurd c (by omega), fun _ => ⟨by omega, fun d0 => ⟨fun d1 => ⟨fun d2 => ⟨fun d3 => ⟨by omega, by omega, st _ ?_⟩, fun d3 => ⟨by omega, by omega, st _ ?_⟩⟩, fun d2 => ⟨by omega, by omega, st _ ?_⟩⟩, fun d1 => ⟨by omega, by omega, st _ ?_⟩⟩, fun d0 => ⟨by omega, by omega, st _ ?_⟩⟩⟩ <;>
      · unfold m_byt
        (repeat' split) <;> first | rfl | omega
  rw [← e0] at main
  exact main
def b_X12_drop_0 : List IE := [(.iload_n 1, 1, 0, 0, 1, 0)]
theorem k_X12_drop_0 : ckB mX12_drop 12 0 b_X12_drop_0 1 = true := by decide +kernel
def b_X12_drop_4 : List IE := []
theorem k_X12_drop_4 : ckIf mX12_drop 12 4 b_X12_drop_4 4 1 6 10 7 = true := by decide +kernel
def b_X12_drop_7 : List IE := [(.bipush (-2), 2, (-2), 0, 0, 0)]
theorem k_X12_drop_7 : ckI mX12_drop 12 7 b_X12_drop_7 9 = true := by decide +kernel
def b_X12_drop_10 : List IE := [(.aload_n 0, 1, 0, 0, 0, 0), (.iload_n 1, 1, 0, 0, 1, 0)]
theorem k_X12_drop_10 : ckB mX12_drop 12 10 b_X12_drop_10 12 = true := by decide +kernel
def b_X12_drop_15 : List IE := [(.istore_n 2, 1, 0, 0, 2, 0), (.iload_n 2, 1, 0, 0, 2, 0), (.iconst (-1), 1, (-1), 0, 0, 0)]
theorem k_X12_drop_15 : ckIc mX12_drop 12 15 b_X12_drop_15 18 0 47 65 21 = true := by decide +kernel
def b_X12_drop_21 : List IE := [(.iload_n 2, 1, 0, 0, 2, 0), (.iconst 1, 1, 1, 0, 0, 0), (.iadd, 1, 0, 0, 0, 0), (.istore_n 3, 1, 0, 0, 3, 0)]
theorem k_X12_drop_21 : ckB mX12_drop 12 21 b_X12_drop_21 25 = true := by decide +kernel
def b_X12_drop_25 : List IE := [(.iload_n 3, 1, 0, 0, 3, 0), (.aload_n 0, 1, 0, 0, 0, 0), (.getfield 140, 3, 0, 12, 15, 0)]
theorem k_X12_drop_25 : ckIc mX12_drop 12 25 b_X12_drop_25 30 3 23 53 33 = true := by decide +kernel
def b_X12_drop_33 : List IE := [(.aload_n 0, 1, 0, 0, 0, 0), (.getfield 51, 3, 0, 12, 16, 1), (.iload_n 3, 1, 0, 0, 3, 0), (.iconst 1, 1, 1, 0, 0, 0), (.isub, 1, 0, 0, 0, 0), (.aload_n 0, 1, 0, 0, 0, 0), (.getfield 51, 3, 0, 12, 16, 1), (.iload_n 3, 1, 0, 0, 3, 0), (.iaload, 1, 0, 0, 0, 0), (.iastore, 1, 0, 0, 0, 0), (.iinc 3 1, 3, 1, 0, 3, 0)]
theorem k_X12_drop_33 : ckGo mX12_drop 12 33 b_X12_drop_33 50 (-25) 25 = true := by decide +kernel
def b_X12_drop_53 : List IE := [(.aload_n 0, 1, 0, 0, 0, 0), (.dup, 1, 0, 0, 0, 0), (.getfield 140, 3, 0, 12, 15, 0), (.iconst 1, 1, 1, 0, 0, 0), (.isub, 1, 0, 0, 0, 0), (.putfield 140, 3, 0, 12, 15, 0), (.iconst 0, 1, 0, 0, 0, 0)]
theorem k_X12_drop_53 : ckI mX12_drop 12 53 b_X12_drop_53 64 = true := by decide +kernel
def b_X12_drop_65 : List IE := [(.aload_n 0, 1, 0, 0, 0, 0), (.iload_n 1, 1, 0, 0, 1, 0)]
theorem k_X12_drop_65 : ckB mX12_drop 12 65 b_X12_drop_65 67 = true := by decide +kernel
def b_X12_drop_70 : List IE := [(.istore_n 3, 1, 0, 0, 3, 0), (.iload_n 3, 1, 0, 0, 3, 0), (.iconst (-1), 1, (-1), 0, 0, 0)]
theorem k_X12_drop_70 : ckIc mX12_drop 12 70 b_X12_drop_70 73 1 5 78 76 = true := by decide +kernel
def b_X12_drop_76 : List IE := [(.iconst (-1), 1, (-1), 0, 0, 0)]
theorem k_X12_drop_76 : ckI mX12_drop 12 76 b_X12_drop_76 77 = true := by decide +kernel
def b_X12_drop_78 : List IE := [(.aload_n 0, 1, 0, 0, 0, 0), (.getfield 21, 3, 0, 12, 4, 1), (.aload_n 0, 1, 0, 0, 0, 0), (.getfield 31, 3, 0, 12, 8, 1), (.aload_n 0, 1, 0, 0, 0, 0), (.getfield 48, 3, 0, 12, 14, 1), (.iload_n 3, 1, 0, 0, 3, 0), (.bipush 100, 2, 100, 0, 0, 0), (.idiv, 1, 0, 0, 0, 0), (.iaload, 1, 0, 0, 0, 0), (.aaload, 1, 0, 0, 0, 0), (.iload_n 3, 1, 0, 0, 3, 0), (.bipush 100, 2, 100, 0, 0, 0), (.irem, 1, 0, 0, 0, 0), (.iaload, 1, 0, 0, 0, 0), (.iconst 1, 1, 1, 0, 0, 0), (.bastore, 1, 0, 0, 0, 0), (.iconst 1, 1, 1, 0, 0, 0)]
theorem k_X12_drop_78 : ckI mX12_drop 12 78 b_X12_drop_78 104 = true := by decide +kernel
theorem s_X12_drop_1 : cS mX12_drop 1 mX12_isKey 143 1 := ⟨by decide +kernel, ⟨ml_X12_isKey, li_RX12_143, st_X12_isKey⟩, by decide +kernel⟩
theorem s_X12_drop_12 : cV mX12_drop 12 mX12_bufferPlace 146 1 12 := ⟨by decide +kernel, ⟨ml_X12_bufferPlace, li_RX12_146, im_X12_bufferPlace, se_X12_bufferPlace⟩, ⟨by decide +kernel, by decide +kernel⟩, by decide +kernel⟩
theorem s_X12_drop_67 : cV mX12_drop 67 mX12_segmentPlace 149 1 12 := ⟨by decide +kernel, ⟨ml_X12_segmentPlace, li_RX12_149, im_X12_segmentPlace, se_X12_segmentPlace⟩, ⟨by decide +kernel, by decide +kernel⟩, by decide +kernel⟩
theorem t_X12_drop_0 {rc rs : Nat} {Q : Option AV → AH → Prop} {h : AH} {x1 : Int} (hL : LayM h) (hv : (((0 ≤ x1 ∧ x1 ≤ 99) → (m_buf h) ∧ (((m_bp h x1) = (-1) → (m_now h) ∧ (((m_sp h x1) ≠ (-1) → (0 ≤ (m_sp h x1) ∧ (m_sp h x1) < 2147483648) ∧ (0 ≤ ((m_sp h x1) / 100) ∧ ((m_sp h x1) / 100) < 8) ∧ (0 ≤ iH h 1155 (((m_sp h x1) / 100).toNat) ∧ iH h 1155 (((m_sp h x1) / 100).toNat) < 520) ∧ (0 ≤ ((m_sp h x1) % 100) ∧ ((m_sp h x1) % 100) < 64) ∧ (0 ≤ iH h (617 + (iH h 1155 (((m_sp h x1) / 100).toNat)).toNat) (((m_sp h x1) % 100).toNat) ∧ iH h (617 + (iH h 1155 (((m_sp h x1) / 100).toNat)).toNat) (((m_sp h x1) % 100).toNat) < 520) ∧ Q (some (vi 1)) (sI h 613 ((iH h (617 + (iH h 1155 (((m_sp h x1) / 100).toNat)).toNat) (((m_sp h x1) % 100).toNat)).toNat) 1)) ∧ ((m_sp h x1) = (-1) → Q (some (vi (-1))) h))) ∧ ((m_bp h x1) ≠ (-1) → (-2147483648 ≤ ((m_bp h x1) + 1) ∧ ((m_bp h x1) + 1) < 2147483648) ∧ wp mX12_drop 2 rc rs Q 25 [some (vr 89), none, none, some (vi ((m_bp h x1) + 1))] [] h))) ∧ (¬ (0 ≤ x1 ∧ x1 ≤ 99) → Q (some (vi (-2))) h))) : wp mX12_drop 2 rc rs Q 0 [some (vr 89), some (vi x1), none, none] [] h :=
  (show wp mX12_drop 2 rc rs Q 0 [some (vr 89), some (vi x1), none, none] [] h from xcS k_X12_drop_0 s_X12_drop_1 ((Exists.intro [vi x1] (Exists.intro [] (And.intro (And.intro rfl (And.intro rfl (Nat.le_of_ble_eq_true rfl))) (Exists.intro 1 (Exists.intro 0 (Exists.intro 0 (Exists.intro _ (And.intro c_isKey (And.intro (And.intro (by decide) (And.intro (Nat.zero_le _) (Nat.zero_le _))) (eQP (show wp mX12_drop 2 rc rs Q 4 [some (vr 89), some (vi x1), none, none] [vi (b01 (0 ≤ x1 ∧ x1 ≤ 99))] h from xIf k_X12_drop_4 (And.intro (fun c1 => have v3 := hv.1 (b01_p.mp c1); (show wp mX12_drop 2 rc rs Q 10 [some (vr 89), some (vi x1), none, none] [] h from xcV k_X12_drop_10 s_X12_drop_12 (have c29 := v3.1; have v30 := v3.2; (Exists.intro [vi x1] (Exists.intro 89 (Exists.intro [] (And.intro (And.intro rfl (And.intro rfl (Nat.le_of_ble_eq_true rfl))) (And.intro (lm_89 hL) (Exists.intro 0 (Exists.intro 0 (Exists.intro 0 (Exists.intro _ (And.intro (c_bufferPlace (h := h) hL c29) (And.intro (And.intro (by decide) (And.intro (Nat.zero_le _) (Nat.zero_le _))) (eQP (show wp mX12_drop 2 rc rs Q 15 [some (vr 89), some (vi x1), none, none] [vi (m_bp h x1)] h from xIc k_X12_drop_15 (And.intro rfl (And.intro (fun c5 => have v7 := v30.1 c5; (show wp mX12_drop 2 rc rs Q 65 [some (vr 89), some (vi x1), some (vi (m_bp h x1)), none] [] h from xcV k_X12_drop_65 s_X12_drop_67 (have c24 := v7.1; have v25 := v7.2; (Exists.intro [vi x1] (Exists.intro 89 (Exists.intro [] (And.intro (And.intro rfl (And.intro rfl (Nat.le_of_ble_eq_true rfl))) (And.intro (lm_89 hL) (Exists.intro 0 (Exists.intro 0 (Exists.intro 0 (Exists.intro _ (And.intro (c_segmentPlace (h := h) hL c24) (And.intro (And.intro (by decide) (And.intro (Nat.zero_le _) (Nat.zero_le _))) (eQP (show wp mX12_drop 2 rc rs Q 70 [some (vr 89), some (vi x1), some (vi (m_bp h x1)), none] [vi (m_sp h x1)] h from xIc k_X12_drop_70 (And.intro rfl (And.intro (fun c9 => have v11 := v25.1 c9; (show wp mX12_drop 2 rc rs Q 78 [some (vr 89), some (vi x1), some (vi (m_bp h x1)), some (vi (m_sp h x1))] [] h from xI k_X12_drop_78 (And.intro (lm_89 hL) (Exists.intro 613 (And.intro (lf_89_4 hL) (And.intro (lm_89 hL) (Exists.intro 616 (And.intro (lf_89_8 hL) (And.intro (lm_89 hL) (Exists.intro 1155 (And.intro (lf_89_14 hL) (have c13 := v11.1; have v23 := v11.2; (And.intro (sd_idiv (z := 100) (by decide) c13) (have c14 := v23.1; have v22 := v23.2; (And.intro (sdI (lm_1155 hL) c14) (have c15 := v22.1; have v21 := v22.2; (And.intro (sdQ (lm_616 hL) c15) (Exists.intro (617 + (iH h 1155 (((m_sp h x1) / 100).toNat)).toNat) (And.intro (lr_members hL (tnl c15)) (And.intro (sd_irem (z := 100) (by decide) c13) (have c17 := v21.1; have v20 := v21.2; (And.intro (sdI (lk_members hL (tnl c15)) c17) (have c18 := v20.1; have v19 := v20.2; (And.intro (sdZs (lm_613 hL) c18 (Or.inr rfl)) (And.intro rfl v19))))))))))))))))))))))))) (fun c10 => have v12 := v25.2 (Decidable.not_not.mp c10); (show wp mX12_drop 2 rc rs Q 76 [some (vr 89), some (vi x1), some (vi (m_bp h x1)), some (vi (m_sp h x1))] [] h from xI k_X12_drop_76 (And.intro rfl v12))))))))))))))))))))) (fun c6 => have v8 := v30.2 c6; (show wp mX12_drop 2 rc rs Q 21 [some (vr 89), some (vi x1), some (vi (m_bp h x1)), none] [] h from xB k_X12_drop_21 (have c27 := v8.1; have v28 := v8.2; (And.intro c27 (And.intro rfl (w_fg [true, false, false, true] v28)))))))))))))))))))))))) (fun c2 => have v4 := hv.2 (b01_nn.mp c2); (show wp mX12_drop 2 rc rs Q 7 [some (vr 89), some (vi x1), none, none] [] h from xI k_X12_drop_7 (And.intro rfl v4)))))))))))))))))
theorem e_X12_drop {mc ms : Nat} {Q : Option AV → AH → Prop} {h : AH} {x1 : Int} (hL : LayM h) (hv : (((0 ≤ x1 ∧ x1 ≤ 99) → (m_buf h) ∧ (((m_bp h x1) = (-1) → (m_now h) ∧ (((m_sp h x1) ≠ (-1) → (0 ≤ (m_sp h x1) ∧ (m_sp h x1) < 2147483648) ∧ (0 ≤ ((m_sp h x1) / 100) ∧ ((m_sp h x1) / 100) < 8) ∧ (0 ≤ iH h 1155 (((m_sp h x1) / 100).toNat) ∧ iH h 1155 (((m_sp h x1) / 100).toNat) < 520) ∧ (0 ≤ ((m_sp h x1) % 100) ∧ ((m_sp h x1) % 100) < 64) ∧ (0 ≤ iH h (617 + (iH h 1155 (((m_sp h x1) / 100).toNat)).toNat) (((m_sp h x1) % 100).toNat) ∧ iH h (617 + (iH h 1155 (((m_sp h x1) / 100).toNat)).toNat) (((m_sp h x1) % 100).toNat) < 520) ∧ Q (some (vi 1)) (sI h 613 ((iH h (617 + (iH h 1155 (((m_sp h x1) / 100).toNat)).toNat) (((m_sp h x1) % 100).toNat)).toNat) 1)) ∧ ((m_sp h x1) = (-1) → Q (some (vi (-1))) h))) ∧ ((m_bp h x1) ≠ (-1) → (-2147483648 ≤ ((m_bp h x1) + 1) ∧ ((m_bp h x1) + 1) < 2147483648) ∧ wp mX12_drop 2 mc ms Q 25 [some (vr 89), none, none, some (vi ((m_bp h x1) + 1))] [] h))) ∧ (¬ (0 ≤ x1 ∧ x1 ≤ 99) → Q (some (vi (-2))) h))) : Ct 2 mc ms mX12_drop [vr 89, vi x1] h Q := Ct.of (by decide +kernel) (Nat.le_of_ble_eq_true rfl) (t_X12_drop_0 hL hv)
theorem t_X12_drop_25 {rc rs : Nat} {Q : Option AV → AH → Prop} {h : AH} {x3 : Int} (hL : LayM h) (hv : (((iH h 89 15) ≤ x3 → (-2147483648 ≤ (iH h 89 15 - 1) ∧ (iH h 89 15 - 1) < 2147483648) ∧ Q (some (vi 0)) (sI h 89 15 (iH h 89 15 - 1))) ∧ (x3 < (iH h 89 15) → (-2147483648 ≤ (x3 - 1) ∧ (x3 - 1) < 2147483648) ∧ (0 ≤ x3 ∧ x3 < 4) ∧ (0 ≤ (x3 - 1) ∧ (x3 - 1) < 4) ∧ (-2147483648 ≤ (x3 + 1) ∧ (x3 + 1) < 2147483648) ∧ wp mX12_drop 2 rc rs Q 25 [some (vr 89), none, none, some (vi (x3 + 1))] [] (sI h 1156 ((x3 - 1).toNat) (iH h 1156 x3.toNat))))) : wp mX12_drop 2 rc rs Q 25 [some (vr 89), none, none, some (vi x3)] [] h :=
  (show wp mX12_drop 2 rc rs Q 25 [some (vr 89), none, none, some (vi x3)] [] h from xIc k_X12_drop_25 (And.intro (lm_89 hL) (And.intro (fun c1 => have v3 := hv.1 c1; (show wp mX12_drop 2 rc rs Q 53 [some (vr 89), none, none, some (vi x3)] [] h from xI k_X12_drop_53 (And.intro rfl (And.intro (lm_89 hL) (have c5 := v3.1; have v6 := v3.2; (And.intro c5 (And.intro (lm_89 hL) (And.intro rfl v6)))))))) (fun c2 => have v4 := hv.2 (Int.not_le.mp c2); (show wp mX12_drop 2 rc rs Q 33 [some (vr 89), none, none, some (vi x3)] [] h from xGo k_X12_drop_33 (And.intro (lm_89 hL) (Exists.intro 1156 (And.intro (lf_89_16 hL) (have c7 := v4.1; have v14 := v4.2; (And.intro c7 (And.intro (lm_89 hL) (Exists.intro 1156 (And.intro (lf_89_16 hL) (have c8 := v14.1; have v13 := v14.2; (And.intro (sdI (lm_1156 hL) c8) (have c9 := v13.1; have v12 := v13.2; (And.intro (sdI (lm_1156 hL) c9) (have c10 := v12.1; have v11 := v12.2; (And.intro c10 (And.intro rfl v11))))))))))))))))))))
def b_X12_newSegment_0 : List IE := [(.aload_n 0, 1, 0, 0, 0, 0), (.getfield 25, 3, 0, 12, 6, 1), (.aload_n 0, 1, 0, 0, 0, 0), (.getfield 168, 3, 0, 12, 5, 0), (.aload_n 0, 1, 0, 0, 0, 0), (.getfield 168, 3, 0, 12, 5, 0), (.iconst 1, 1, 1, 0, 0, 0), (.iadd, 1, 0, 0, 0, 0), (.iastore, 1, 0, 0, 0, 0), (.aload_n 0, 1, 0, 0, 0, 0), (.getfield 28, 3, 0, 12, 7, 1), (.aload_n 0, 1, 0, 0, 0, 0), (.getfield 168, 3, 0, 12, 5, 0), (.iconst 0, 1, 0, 0, 0, 0), (.iastore, 1, 0, 0, 0, 0), (.aload_n 0, 1, 0, 0, 0, 0), (.dup, 1, 0, 0, 0, 0), (.getfield 168, 3, 0, 12, 5, 0), (.iconst 1, 1, 1, 0, 0, 0), (.iadd, 1, 0, 0, 0, 0), (.putfield 168, 3, 0, 12, 5, 0), (.aload_n 0, 1, 0, 0, 0, 0), (.getfield 168, 3, 0, 12, 5, 0), (.iconst 1, 1, 1, 0, 0, 0), (.isub, 1, 0, 0, 0, 0)]
theorem k_X12_newSegment_0 : ckI mX12_newSegment 12 0 b_X12_newSegment_0 41 = true := by decide +kernel
theorem t_X12_newSegment_0 {rc rs : Nat} {Q : Option AV → AH → Prop} {h : AH}  (hL : LayM h) (hv : (-2147483648 ≤ (iH h 89 5 + 1) ∧ (iH h 89 5 + 1) < 2147483648) ∧ (0 ≤ iH h 89 5 ∧ iH h 89 5 < 520) ∧ (-2147483648 ≤ ((iH h 89 5 + 1) - 1) ∧ ((iH h 89 5 + 1) - 1) < 2147483648) ∧ Q (some (vi ((iH h 89 5 + 1) - 1))) (sI (sI (sI h 614 ((iH h 89 5).toNat) (iH h 89 5 + 1)) 615 ((iH h 89 5).toNat) 0) 89 5 (iH h 89 5 + 1))) : wp mX12_newSegment 0 rc rs Q 0 [some (vr 89)] [] h :=
  (show wp mX12_newSegment 0 rc rs Q 0 [some (vr 89)] [] h from xI k_X12_newSegment_0 (And.intro (lm_89 hL) (Exists.intro 614 (And.intro (lf_89_6 hL) (And.intro (lm_89 hL) (And.intro (lm_89 hL) (have c1 := hv.1; have v8 := hv.2; (And.intro c1 (have c2 := v8.1; have v7 := v8.2; (And.intro (sdI (lm_614 hL) c2) (And.intro (lm_89 hL) (Exists.intro 615 (And.intro (lf_89_7 hL) (And.intro (lm_89 hL) (And.intro (sdI (lm_615 hL) c2) (And.intro rfl (And.intro (lm_89 hL) (And.intro c1 (And.intro (lm_89 hL) (And.intro (lm_89 hL) (have c5 := v7.1; have v6 := v7.2; (And.intro c5 (And.intro rfl v6)))))))))))))))))))))))
theorem e_X12_newSegment {mc ms : Nat} {Q : Option AV → AH → Prop} {h : AH}  (hL : LayM h) (hv : (-2147483648 ≤ (iH h 89 5 + 1) ∧ (iH h 89 5 + 1) < 2147483648) ∧ (0 ≤ iH h 89 5 ∧ iH h 89 5 < 520) ∧ (-2147483648 ≤ ((iH h 89 5 + 1) - 1) ∧ ((iH h 89 5 + 1) - 1) < 2147483648) ∧ Q (some (vi ((iH h 89 5 + 1) - 1))) (sI (sI (sI h 614 ((iH h 89 5).toNat) (iH h 89 5 + 1)) 615 ((iH h 89 5).toNat) 0) 89 5 (iH h 89 5 + 1))) : Ct 0 mc ms mX12_newSegment [vr 89] h Q := Ct.of (by decide +kernel) (Nat.le_of_ble_eq_true rfl) (t_X12_newSegment_0 hL hv)
def b_X12_joins_0 : List IE := [(.aload_n 0, 1, 0, 0, 0, 0), (.getfield 31, 3, 0, 12, 8, 1), (.iload_n 1, 1, 0, 0, 1, 0), (.aaload, 1, 0, 0, 0, 0), (.aload_n 0, 1, 0, 0, 0, 0), (.getfield 28, 3, 0, 12, 7, 1), (.iload_n 1, 1, 0, 0, 1, 0), (.iaload, 1, 0, 0, 0, 0), (.iload_n 2, 1, 0, 0, 2, 0), (.iastore, 1, 0, 0, 0, 0), (.aload_n 0, 1, 0, 0, 0, 0), (.getfield 28, 3, 0, 12, 7, 1), (.iload_n 1, 1, 0, 0, 1, 0), (.dup2, 1, 0, 0, 0, 0), (.iaload, 1, 0, 0, 0, 0), (.iconst 1, 1, 1, 0, 0, 0), (.iadd, 1, 0, 0, 0, 0), (.iastore, 1, 0, 0, 0, 0)]
theorem k_X12_joins_0 : ckV mX12_joins 12 0 b_X12_joins_0 24 = true := by decide +kernel
theorem t_X12_joins_0 {rc rs : Nat} {Q : Option AV → AH → Prop} {h : AH} {x1 x2 : Int} (hL : LayM h) (hv : (0 ≤ x1 ∧ x1 < 520) ∧ (0 ≤ iH h 615 x1.toNat ∧ iH h 615 x1.toNat < 64) ∧ (-2147483648 ≤ (iH (sI h (617 + x1.toNat) ((iH h 615 x1.toNat).toNat) x2) 615 x1.toNat + 1) ∧ (iH (sI h (617 + x1.toNat) ((iH h 615 x1.toNat).toNat) x2) 615 x1.toNat + 1) < 2147483648) ∧ Q none (sI (sI h (617 + x1.toNat) ((iH h 615 x1.toNat).toNat) x2) 615 x1.toNat (iH (sI h (617 + x1.toNat) ((iH h 615 x1.toNat).toNat) x2) 615 x1.toNat + 1))) : wp mX12_joins 0 rc rs Q 0 [some (vr 89), some (vi x1), some (vi x2)] [] h :=
  (show wp mX12_joins 0 rc rs Q 0 [some (vr 89), some (vi x1), some (vi x2)] [] h from xV k_X12_joins_0 (And.intro (lm_89 hL) (Exists.intro 616 (And.intro (lf_89_8 hL) (have c1 := hv.1; have v9 := hv.2; (And.intro (sdQ (lm_616 hL) c1) (Exists.intro (617 + x1.toNat) (And.intro (lr_members hL (tnl c1)) (And.intro (lm_89 hL) (Exists.intro 615 (And.intro (lf_89_7 hL) (And.intro (sdI (lm_615 hL) c1) (have c3 := v9.1; have v8 := v9.2; (And.intro (sdI (lk_members hL (tnl c1)) c3) (And.intro (lm_89 hL) (Exists.intro 615 (And.intro (lf_89_7 hL) (And.intro rfl (And.intro rfl (And.intro (sdI (lm_615 hL) c1) (have c5 := v8.1; have v7 := v8.2; (And.intro c5 (And.intro (sdI (lm_615 hL) c1) (And.intro rfl v7))))))))))))))))))))))))
theorem e_X12_joins {mc ms : Nat} {Q : Option AV → AH → Prop} {h : AH} {x1 x2 : Int} (hL : LayM h) (hv : (0 ≤ x1 ∧ x1 < 520) ∧ (0 ≤ iH h 615 x1.toNat ∧ iH h 615 x1.toNat < 64) ∧ (-2147483648 ≤ (iH (sI h (617 + x1.toNat) ((iH h 615 x1.toNat).toNat) x2) 615 x1.toNat + 1) ∧ (iH (sI h (617 + x1.toNat) ((iH h 615 x1.toNat).toNat) x2) 615 x1.toNat + 1) < 2147483648) ∧ Q none (sI (sI h (617 + x1.toNat) ((iH h 615 x1.toNat).toNat) x2) 615 x1.toNat (iH (sI h (617 + x1.toNat) ((iH h 615 x1.toNat).toNat) x2) 615 x1.toNat + 1))) : Ct 0 mc ms mX12_joins [vr 89, vi x1, vi x2] h Q := Ct.of (by decide +kernel) (Nat.le_of_ble_eq_true rfl) (t_X12_joins_0 hL hv)
noncomputable def m_shf (h : AH) (p k : Nat) : Int := if p ≤ k ∧ ((k : Int) + 1 < iH h 89 15) then iH h 1156 (k + 1) else iH h 1156 k
/-- where who is live with a key is dropped -/
noncomputable def m_dropD (h : AH) (key : Int) : Nat := (iH h (617 + (iH h 1155 (m_sp h key / 100).toNat).toNat) (m_sp h key % 100).toNat).toNat
noncomputable def m_drop (h : AH) (key : Int) : AH := if m_bp h key ≠ -1 then sI (sW h 1156 (m_shf h (m_bp h key).toNat)) 89 15 (iH h 89 15 - 1) else if m_sp h key ≠ -1 then sI h 613 (m_dropD h key) 1 else h
noncomputable def a_drop (h : AH) (key : Int) : Int := if m_bp h key ≠ -1 then 0 else if m_sp h key ≠ -1 then 1 else -1
theorem LayM_if {p : Prop} {dp : Decidable p} {a b : AH} (ha : LayM a) (hb : LayM b) : LayM (@ite _ p dp a b) := by
  cases dp with
  | isTrue _ => exact ha
  | isFalse _ => exact hb
theorem m_drop_L {h : AH} (hL : LayM h) (key : Int) : LayM (m_drop h key) := LayM_if (by exact hL) (LayM_if (by exact hL) hL)
theorem m_sp_cs {h : AH} (hn : m_now h) (key : Int) : (m_sp h key = -1 ∧ ∀ s : Nat, (s : Int) < iH h 89 13 → ∀ k : Nat, (k : Int) < iH h 615 (iH h 1155 s).toNat → ¬ m_spP h key (iH h 1155 s) k) ∨ ∃ s k : Nat, (s : Int) < iH h 89 13 ∧ (k : Int) < iH h 615 (iH h 1155 s).toNat ∧ m_sp h key = 100 * (s : Int) + (k : Int) ∧ k < 64 ∧ s < 8 ∧ m_spP h key (iH h 1155 s) k ∧ (∀ j, j < k → ¬ m_spP h key (iH h 1155 s) j) ∧ (∀ t : Nat, t < s → ∀ j : Nat, (j : Int) < iH h 615 (iH h 1155 t).toNat → ¬ m_spP h key (iH h 1155 t) j) := by
  have none1 : ∀ s : Nat, ¬ m_sp1 h key s ≠ -1 → ∀ j : Nat, (j : Int) < iH h 615 (iH h 1155 s).toNat → ¬ m_spP h key (iH h 1155 s) j := by
    intro s hs j hj hp
    rcases fst_cs (m_spP h key (iH h 1155 s)) (iH h 615 (iH h 1155 s).toNat).toNat with ⟨-, q⟩ | ⟨k, -, q, -⟩
    · exact q j (by omega) hp
    · have : m_sp1 h key s = k := q
      omega
  have hl := hn.1
  rcases fst_cs (fun s => m_sp1 h key s ≠ -1) (iH h 89 13).toNat with ⟨e, q⟩ | ⟨s, hs, e, q, q2⟩
  · refine Or.inl ⟨if_pos e, fun s hs k hk => none1 s (q s (by omega)) k hk⟩
  · rcases fst_cs (m_spP h key (iH h 1155 s)) (iH h 615 (iH h 1155 s).toNat).toNat with ⟨r, -⟩ | ⟨k, hk, r, r2, r3⟩
    · exact absurd r q
    · have hg := hn.2 s (by omega)
      have hg2 := hg.2.1
      refine Or.inr ⟨s, k, by omega, by omega, ?_, by omega, by omega, r2, r3, fun t ht j hj => none1 t (q2 t ht) j hj⟩
      have e' : m_sps h key = s := e
      have r' : m_sp1 h key s = k := r
      unfold m_sp
      rw [e', if_neg (by omega), show ((s : Int)).toNat = s from rfl, r']
theorem c_drop {h : AH} (hL : LayM h) {key : Int} (hp : m_buf h ∧ m_now h) : Ct 2 0 0 mX12_drop [vr 89, vi key] h (QI fun x h' => (¬ (0 ≤ key ∧ key ≤ 99) ∧ x = -2 ∧ h' = h) ∨ ((0 ≤ key ∧ key ≤ 99) ∧ x = a_drop h key ∧ h' = m_drop h key)) := by
  obtain ⟨hb, hn⟩ := hp
  have h1 := hb.1
  have h2 := m_bp_bd (key := key) hb
  refine e_X12_drop hL ⟨fun c => ⟨hb, fun c2 => ⟨hn, fun c3 => ?_, fun c3 => ⟨_, rfl, Or.inr ⟨c, ?_, ?_⟩⟩⟩, fun c2 => ⟨by omega, ?_⟩⟩, fun c => ⟨_, rfl, Or.inl ⟨c, rfl, rfl⟩⟩⟩
  · rcases m_sp_cs hn key with ⟨e, -⟩ | ⟨s, k, hs, hk, e, k64, s8, -⟩
    · exact absurd e c3
    · have hg := hn.2 s hs
      have d1 : m_sp h key / 100 = s := by omega
      have d2 : m_sp h key % 100 = k := by omega
      have hm := hg.2.2 k hk
      refine ⟨by omega, by omega, ?_, by omega, ?_, _, rfl, Or.inr ⟨c, ?_, ?_⟩⟩
      · rw [d1]; exact hg.1
      · rw [d1, d2]; exact hm
      · unfold a_drop; rw [if_neg (by omega), if_pos c3]
      · unfold m_drop; rw [if_neg (by omega), if_pos c3]; rfl
  · unfold a_drop; rw [if_neg (by omega), if_neg (by omega)]
  · unfold m_drop; rw [if_neg (by omega), if_neg (by omega)]
  · rcases fst_cs (m_bufP h key) (iH h 89 15).toNat with ⟨e, -⟩ | ⟨p, hp, e, -⟩
    · exact absurd e c2
    · have e' : m_bp h key = p := e
      have r1 : a_drop h key = 0 := if_pos c2
      have r2 : m_drop h key = sI (sW h 1156 (m_shf h p)) 89 15 (iH h 89 15 - 1) := by unfold m_drop; rw [if_pos c2, e']; rfl
      rw [r1, r2, e']
      have e0 : h = sW h 1156 (fun k => if p ≤ k ∧ k + 1 < p + 1 then iH h 1156 (k + 1) else iH h 1156 k) := (sW_id fun k => by rw [if_neg (by omega)]).symm
      have main : wp mX12_drop 2 0 0 (QI fun x h' => (¬ (0 ≤ key ∧ key ≤ 99) ∧ x = -2 ∧ h' = h) ∨ ((0 ≤ key ∧ key ≤ 99) ∧ x = 0 ∧ h' = sI (sW h 1156 (m_shf h p)) 89 15 (iH h 89 15 - 1))) 25 [some (vr 89), none, none, some (vi ((p : Int) + 1 + ((0 : Nat) : Int)))] [] (sW h 1156 (fun k => if p ≤ k ∧ k + 1 < p + 1 + 0 then iH h 1156 (k + 1) else iH h 1156 k)) := by
        refine up (P := fun j => wp mX12_drop 2 _ _ _ 25 [some (vr 89), none, none, some (vi ((p : Int) + 1 + (j : Int)))] [] (sW h 1156 (fun k => if p ≤ k ∧ k + 1 < p + 1 + j then iH h 1156 (k + 1) else iH h 1156 k))) (iH h 89 15 - (p : Int) - 1).toNat ?_ ?_
        · refine t_X12_drop_25 hL ?_
          rw [rW_ne (by decide)]
          refine ⟨fun _ => ⟨by omega, _, rfl, Or.inr ⟨c, rfl, ?_⟩⟩, fun q => absurd q (by omega)⟩
          congr 1
          refine sW_ext fun k => ?_
          unfold m_shf
          by_cases q : p ≤ k ∧ k + 1 < p + 1 + (iH h 89 15 - (p : Int) - 1).toNat
          · rw [if_pos q, if_pos (by omega)]
          · rw [if_neg q, if_neg (by omega)]
        · intro j hj ih
          refine t_X12_drop_25 hL ?_
          rw [rW_ne (by decide), rW_same]
          refine ⟨fun q => absurd q (by omega), fun _ => ⟨by omega, by omega, by omega, by omega, ?_⟩⟩
          rw [sI_sW (g' := fun k => if p ≤ k ∧ k + 1 < p + 1 + (j + 1) then iH h 1156 (k + 1) else iH h 1156 k) (fun k => by
            by_cases q : k = ((p : Int) + 1 + (j : Int) - 1).toNat
            · rw [if_pos q, if_pos (by omega), if_neg (by omega)]; congr 1; omega
            · rw [if_neg q]
              by_cases q2 : p ≤ k ∧ k + 1 < p + 1 + j
              · rw [if_pos q2, if_pos (by omega)]
              · rw [if_neg q2, if_neg (by omega)])]
          rw [show (p : Int) + 1 + (j : Int) + 1 = (p : Int) + 1 + ((j + 1 : Nat) : Int) by omega]
          exact ih
      rw [show (p : Int) + 1 + ((0 : Nat) : Int) = (p : Int) + 1 by omega, show p + 1 + 0 = p + 1 from rfl, ← e0] at main
      exact main
def m_nseg (h : AH) : AH := sI (sI (sI h 614 (iH h 89 5).toNat (iH h 89 5 + 1)) 615 (iH h 89 5).toNat 0) 89 5 (iH h 89 5 + 1)
theorem c_newSegment {h : AH} (hL : LayM h) (hp : 0 ≤ iH h 89 5 ∧ iH h 89 5 < 520) : Ct 0 0 0 mX12_newSegment [vr 89] h (QI fun x h' => x = iH h 89 5 ∧ h' = m_nseg h) :=
  e_X12_newSegment hL ⟨by omega, hp, by omega, _, rfl, by omega, rfl⟩
def m_join (h : AH) (g d : Int) : AH := sI (sI h (617 + g.toNat) (iH h 615 g.toNat).toNat d) 615 g.toNat (iH h 615 g.toNat + 1)
theorem c_joins {h : AH} (hL : LayM h) {g d : Int} (hp : (0 ≤ g ∧ g < 520) ∧ (0 ≤ iH h 615 g.toNat ∧ iH h 615 g.toNat < 64)) : Ct 0 0 0 mX12_joins [vr 89, vi g, vi d] h (QV fun h' => h' = m_join h g d) := by
  have e : iH (sI h (617 + g.toNat) (iH h 615 g.toNat).toNat d) 615 g.toNat = iH h 615 g.toNat := rI_ne (by omega)
  refine e_X12_joins hL ?_
  rw [e]
  exact ⟨hp.1, hp.2, by omega, rfl, rfl⟩
