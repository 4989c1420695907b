/-! THE REFERENCE: THE PARSER'S FIELDS -/
def hP (h : AH) (F mk : Nat → Int) : AH := (h.1, h.2.1, (fun x y => if x = 89 ∧ 34 ≤ y ∧ y ≤ 40 then F y else if x = 1177 then mk y else h.2.2.1 x y), h.2.2.2.1, h.2.2.2.2)
theorem hP_F {h : AH} {F mk : Nat → Int} {k : Nat} (hk : 34 ≤ k ∧ k ≤ 40) : iH (hP h F mk) 89 k = F k := by
  show (if 89 = 89 ∧ 34 ≤ k ∧ k ≤ 40 then F k else _) = _
  rw [if_pos ⟨rfl, hk⟩]
theorem hP_n {h : AH} {F mk : Nat → Int} {k : Nat} (hk : k < 34 ∨ 40 < k) : iH (hP h F mk) 89 k = iH h 89 k := by
  show (if 89 = 89 ∧ 34 ≤ k ∧ k ≤ 40 then F k else if 89 = 1177 then mk k else h.2.2.1 89 k) = _
  rw [if_neg (by omega), if_neg (by omega)]; rfl
theorem hP_o {h : AH} {F mk : Nat → Int} {a k : Nat} (ha : a ≠ 89 ∧ a ≠ 1177) : iH (hP h F mk) a k = iH h a k := by
  show (if a = 89 ∧ 34 ≤ k ∧ k ≤ 40 then F k else if a = 1177 then mk k else h.2.2.1 a k) = _
  rw [if_neg (by omega), if_neg (by omega)]; rfl
theorem hP_m {h : AH} {F mk : Nat → Int} {k : Nat} : iH (hP h F mk) 1177 k = mk k := by
  show (if 1177 = 89 ∧ 34 ≤ k ∧ k ≤ 40 then F k else if 1177 = 1177 then mk k else h.2.2.1 1177 k) = _
  rw [if_neg (by omega), if_pos rfl]
theorem hP_s {h : AH} {F mk : Nat → Int} {k : Nat} {v : Int} (hk : 34 ≤ k ∧ k ≤ 40) : sI (hP h F mk) 89 k v = hP h (updF F k v) mk := by
  unfold sI hP
  congr 3
  funext x y
  unfold u2 updF
  dsimp only
  by_cases c : x = 89
  · subst c
    rw [if_pos rfl]
    by_cases c2 : y = k
    · subst c2; rw [if_pos rfl, if_pos ⟨rfl, hk⟩, if_pos rfl]
    · rw [if_neg c2]
      by_cases c3 : 34 ≤ y ∧ y ≤ 40
      · rw [if_pos ⟨rfl, c3⟩, if_pos ⟨rfl, c3⟩, if_neg c2]
      · rw [if_neg (show ¬ (89 = 89 ∧ 34 ≤ y ∧ y ≤ 40) from fun q => c3 q.2), if_neg (show ¬ (89 = 89 ∧ 34 ≤ y ∧ y ≤ 40) from fun q => c3 q.2)]
  · rw [if_neg c, if_neg (show ¬ (x = 89 ∧ 34 ≤ y ∧ y ≤ 40) from fun q => c q.1), if_neg (show ¬ (x = 89 ∧ 34 ≤ y ∧ y ≤ 40) from fun q => c q.1)]
theorem hP_sm {h : AH} {F mk : Nat → Int} {k : Nat} {v : Int} : sI (hP h F mk) 1177 k v = hP h F (updF mk k v) := by
  unfold sI hP
  congr 3
  funext x y
  unfold u2 updF
  dsimp only
  by_cases c : x = 1177
  · subst c
    rw [if_pos rfl, if_neg (show ¬ (1177 = 89 ∧ 34 ≤ y ∧ y ≤ 40) by omega), if_neg (show ¬ (1177 = 89 ∧ 34 ≤ y ∧ y ≤ 40) by omega), if_pos rfl, if_pos rfl]
  · rw [if_neg c, if_neg c, if_neg c]
theorem hP_id {h : AH} : h = hP h (fun k => iH h 89 k) (fun k => iH h 1177 k) := by
  unfold hP
  have : (fun x y => if x = 89 ∧ 34 ≤ y ∧ y ≤ 40 then iH h 89 y else if x = 1177 then iH h 1177 y else h.2.2.1 x y) = h.2.2.1 := by
    funext x y
    by_cases c : x = 89 ∧ 34 ≤ y ∧ y ≤ 40
    · rw [if_pos c, c.1]; rfl
    · rw [if_neg c]
      by_cases c2 : x = 1177
      · rw [if_pos c2, c2]; rfl
      · rw [if_neg c2]
  rw [this]
theorem uF_same {F : Nat → Int} {k : Nat} {v : Int} : updF F k v k = v := if_pos rfl
theorem uF_ne {F : Nat → Int} {k j : Nat} {v : Int} (h : j ≠ k) : updF F k v j = F j := if_neg h
/-- the token at hand, in the reference's fields -/
def p_tv (h : AH) (p : Nat) (F : Nat → Int) : Prop := (q_k h p = 0 ∧ F 37 = 0) ∨ (q_k h p = 1 ∧ F 37 = 1 ∧ F 38 = q_v h p) ∨ ((2 ≤ q_k h p ∧ q_k h p ≤ 4) ∧ F 37 = 2 ∧ F 38 = q_k h p - 2) ∨ (5 < q_k h p ∧ F 37 = 3 ∧ F 38 = q_k h p)
def p_nx (h : AH) (p : Nat) (F F' : Nat → Int) : Prop := F' 34 = F 34 ∧ F' 39 = F 39 ∧ F' 36 = q_b h p ∧ ((q_k h p = 5 ∧ F' 40 = 1) ∨ (q_k h p ≠ 5 ∧ F' 40 = 0 ∧ F' 35 = q_e h p ∧ p_tv h p F'))
def b_X12_mark_0 : List IE := [(.aload_n 0, 1, 0, 0, 0, 0), (.getfield 288, 3, 0, 12, 40, 0)]
theorem k_X12_mark_0 : ckIf mX12_mark 12 0 b_X12_mark_0 4 0 4 8 7 = true := by decide +kernel
def b_X12_mark_7 : List IE := []
theorem k_X12_mark_7 : ckV mX12_mark 12 7 b_X12_mark_7 7 = true := by decide +kernel
def b_X12_mark_8 : List IE := [(.aload_n 0, 1, 0, 0, 0, 0), (.getfield 76, 3, 0, 12, 33, 1), (.aload_n 0, 1, 0, 0, 0, 0), (.getfield 306, 3, 0, 12, 34, 0), (.iload_n 1, 1, 0, 0, 1, 0), (.iastore, 1, 0, 0, 0, 0), (.aload_n 0, 1, 0, 0, 0, 0), (.dup, 1, 0, 0, 0, 0), (.getfield 306, 3, 0, 12, 34, 0), (.iconst 1, 1, 1, 0, 0, 0), (.iadd, 1, 0, 0, 0, 0), (.putfield 306, 3, 0, 12, 34, 0)]
theorem k_X12_mark_8 : ckV mX12_mark 12 8 b_X12_mark_8 28 = true := by decide +kernel
theorem t_X12_mark_0 {rc rs : Nat} {Q : Option AV → AH → Prop} {h : AH} {x1 : Int} (hL : LayM h) (hv : (((iH h 89 40) = 0 → (0 ≤ iH h 89 34 ∧ iH h 89 34 < 128) ∧ (-2147483648 ≤ (iH h 89 34 + 1) ∧ (iH h 89 34 + 1) < 2147483648) ∧ Q none (sI (sI h 1177 ((iH h 89 34).toNat) x1) 89 34 (iH h 89 34 + 1))) ∧ ((iH h 89 40) ≠ 0 → Q none h))) : wp mX12_mark 0 rc rs Q 0 [some (vr 89), some (vi x1)] [] h :=
  (show wp mX12_mark 0 rc rs Q 0 [some (vr 89), some (vi x1)] [] h from xIf k_X12_mark_0 (And.intro (lm_89 hL) (And.intro (fun c1 => have v3 := hv.1 c1; (show wp mX12_mark 0 rc rs Q 8 [some (vr 89), some (vi x1)] [] h from xV k_X12_mark_8 (And.intro (lm_89 hL) (Exists.intro 1177 (And.intro (lf_89_33 hL) (And.intro (lm_89 hL) (have c5 := v3.1; have v8 := v3.2; (And.intro (sdI (lm_1177 hL) c5) (And.intro rfl (And.intro (lm_89 hL) (have c6 := v8.1; have v7 := v8.2; (And.intro c6 (And.intro (lm_89 hL) (And.intro rfl v7)))))))))))))) (fun c2 => have v4 := hv.2 c2; (show wp mX12_mark 0 rc rs Q 7 [some (vr 89), some (vi x1)] [] h from xV k_X12_mark_7 (And.intro rfl v4))))))
theorem e_X12_mark {mc ms : Nat} {Q : Option AV → AH → Prop} {h : AH} {x1 : Int} (hL : LayM h) (hv : (((iH h 89 40) = 0 → (0 ≤ iH h 89 34 ∧ iH h 89 34 < 128) ∧ (-2147483648 ≤ (iH h 89 34 + 1) ∧ (iH h 89 34 + 1) < 2147483648) ∧ Q none (sI (sI h 1177 ((iH h 89 34).toNat) x1) 89 34 (iH h 89 34 + 1))) ∧ ((iH h 89 40) ≠ 0 → Q none h))) : Ct 0 mc ms mX12_mark [vr 89, vi x1] h Q := Ct.of (by decide +kernel) (Nat.le_of_ble_eq_true rfl) (t_X12_mark_0 hL hv)
def b_X12_next_0 : List IE := [(.aload_n 0, 1, 0, 0, 0, 0), (.getfield 288, 3, 0, 12, 40, 0)]
theorem k_X12_next_0 : ckIf mX12_next 12 0 b_X12_next_0 4 0 4 8 7 = true := by decide +kernel
def b_X12_next_7 : List IE := []
theorem k_X12_next_7 : ckV mX12_next 12 7 b_X12_next_7 7 = true := by decide +kernel
def b_X12_next_8 : List IE := [(.aload_n 0, 1, 0, 0, 0, 0), (.aload_n 0, 1, 0, 0, 0, 0), (.getfield 291, 3, 0, 12, 35, 0)]
theorem k_X12_next_8 : ckB mX12_next 12 8 b_X12_next_8 13 = true := by decide +kernel
def b_X12_next_16 : List IE := []
theorem k_X12_next_16 : ckB mX12_next 12 16 b_X12_next_16 16 = true := by decide +kernel
def b_X12_next_19 : List IE := []
theorem k_X12_next_19 : ckIf mX12_next 12 19 b_X12_next_19 19 0 16 35 22 = true := by decide +kernel
def b_X12_next_22 : List IE := [(.aload_n 0, 1, 0, 0, 0, 0), (.dup, 1, 0, 0, 0, 0), (.getfield 291, 3, 0, 12, 35, 0), (.iconst 1, 1, 1, 0, 0, 0), (.iadd, 1, 0, 0, 0, 0), (.putfield 291, 3, 0, 12, 35, 0)]
theorem k_X12_next_22 : ckGo mX12_next 12 22 b_X12_next_22 32 (-24) 8 = true := by decide +kernel
def b_X12_next_35 : List IE := [(.aload_n 0, 1, 0, 0, 0, 0), (.aload_n 0, 1, 0, 0, 0, 0), (.getfield 291, 3, 0, 12, 35, 0), (.putfield 294, 3, 0, 12, 36, 0), (.aload_n 0, 1, 0, 0, 0, 0), (.aload_n 0, 1, 0, 0, 0, 0), (.getfield 291, 3, 0, 12, 35, 0)]
theorem k_X12_next_35 : ckB mX12_next 12 35 b_X12_next_35 48 = true := by decide +kernel
def b_X12_next_51 : List IE := [(.istore_n 1, 1, 0, 0, 1, 0), (.iload_n 1, 1, 0, 0, 1, 0), (.iconst (-1), 1, (-1), 0, 0, 0)]
theorem k_X12_next_51 : ckIc mX12_next 12 51 b_X12_next_51 54 1 11 65 57 = true := by decide +kernel
def b_X12_next_57 : List IE := [(.aload_n 0, 1, 0, 0, 0, 0), (.iconst 0, 1, 0, 0, 0, 0), (.putfield 297, 3, 0, 12, 37, 0)]
theorem k_X12_next_57 : ckGo mX12_next 12 57 b_X12_next_57 62 174 236 = true := by decide +kernel
def b_X12_next_65 : List IE := [(.iload_n 1, 1, 0, 0, 1, 0)]
theorem k_X12_next_65 : ckB mX12_next 12 65 b_X12_next_65 66 = true := by decide +kernel
def b_X12_next_69 : List IE := []
theorem k_X12_next_69 : ckIf mX12_next 12 69 b_X12_next_69 69 0 108 177 72 = true := by decide +kernel
def b_X12_next_72 : List IE := [(.aload_n 0, 1, 0, 0, 0, 0), (.aload_n 0, 1, 0, 0, 0, 0), (.getfield 291, 3, 0, 12, 35, 0)]
theorem k_X12_next_72 : ckB mX12_next 12 72 b_X12_next_72 77 = true := by decide +kernel
def b_X12_next_80 : List IE := []
theorem k_X12_next_80 : ckB mX12_next 12 80 b_X12_next_80 80 = true := by decide +kernel
def b_X12_next_83 : List IE := []
theorem k_X12_next_83 : ckIf mX12_next 12 83 b_X12_next_83 83 0 16 99 86 = true := by decide +kernel
def b_X12_next_86 : List IE := [(.aload_n 0, 1, 0, 0, 0, 0), (.dup, 1, 0, 0, 0, 0), (.getfield 291, 3, 0, 12, 35, 0), (.iconst 1, 1, 1, 0, 0, 0), (.iadd, 1, 0, 0, 0, 0), (.putfield 291, 3, 0, 12, 35, 0)]
theorem k_X12_next_86 : ckGo mX12_next 12 86 b_X12_next_86 96 (-24) 72 = true := by decide +kernel
def b_X12_next_99 : List IE := [(.aload_n 0, 1, 0, 0, 0, 0), (.aload_n 0, 1, 0, 0, 0, 0), (.getfield 291, 3, 0, 12, 35, 0), (.aload_n 0, 1, 0, 0, 0, 0), (.getfield 294, 3, 0, 12, 36, 0), (.isub, 1, 0, 0, 0, 0), (.bipush 6, 2, 6, 0, 0, 0)]
theorem k_X12_next_99 : ckIc mX12_next 12 99 b_X12_next_99 111 5 7 118 114 = true := by decide +kernel
def b_X12_next_114 : List IE := [(.iconst 1, 1, 1, 0, 0, 0)]
theorem k_X12_next_114 : ckGo mX12_next 12 114 b_X12_next_114 115 4 119 = true := by decide +kernel
def b_X12_next_118 : List IE := [(.iconst 0, 1, 0, 0, 0, 0), (.putfield 288, 3, 0, 12, 40, 2), (.aload_n 0, 1, 0, 0, 0, 0), (.aload_n 0, 1, 0, 0, 0, 0), (.getfield 294, 3, 0, 12, 36, 0), (.aload_n 0, 1, 0, 0, 0, 0), (.getfield 291, 3, 0, 12, 35, 0)]
theorem k_X12_next_118 : ckB mX12_next 12 118 b_X12_next_118 131 = true := by decide +kernel
def b_X12_next_119 : List IE := [(.putfield 288, 3, 0, 12, 40, 2), (.aload_n 0, 1, 0, 0, 0, 0), (.aload_n 0, 1, 0, 0, 0, 0), (.getfield 294, 3, 0, 12, 36, 0), (.aload_n 0, 1, 0, 0, 0, 0), (.getfield 291, 3, 0, 12, 35, 0)]
theorem k_X12_next_119 : ckB mX12_next 12 119 b_X12_next_119 131 = true := by decide +kernel
def b_X12_next_134 : List IE := [(.istore_n 2, 1, 0, 0, 2, 0), (.aload_n 0, 1, 0, 0, 0, 0), (.iload_n 2, 1, 0, 0, 2, 0), (.iconst (-1), 1, (-1), 0, 0, 0)]
theorem k_X12_next_134 : ckIc mX12_next 12 134 b_X12_next_134 138 1 7 145 141 = true := by decide +kernel
def b_X12_next_141 : List IE := [(.iconst 1, 1, 1, 0, 0, 0)]
theorem k_X12_next_141 : ckGo mX12_next 12 141 b_X12_next_141 142 4 146 = true := by decide +kernel
def b_X12_next_145 : List IE := [(.iconst 2, 1, 2, 0, 0, 0), (.putfield 297, 3, 0, 12, 37, 0), (.aload_n 0, 1, 0, 0, 0, 0), (.iload_n 2, 1, 0, 0, 2, 0), (.iconst (-1), 1, (-1), 0, 0, 0)]
theorem k_X12_next_145 : ckIc mX12_next 12 145 b_X12_next_145 152 1 18 170 155 = true := by decide +kernel
def b_X12_next_146 : List IE := [(.putfield 297, 3, 0, 12, 37, 0), (.aload_n 0, 1, 0, 0, 0, 0), (.iload_n 2, 1, 0, 0, 2, 0), (.iconst (-1), 1, (-1), 0, 0, 0)]
theorem k_X12_next_146 : ckIc mX12_next 12 146 b_X12_next_146 152 1 18 170 155 = true := by decide +kernel
def b_X12_next_155 : List IE := [(.aload_n 0, 1, 0, 0, 0, 0), (.aload_n 0, 1, 0, 0, 0, 0), (.getfield 294, 3, 0, 12, 36, 0), (.aload_n 0, 1, 0, 0, 0, 0), (.getfield 291, 3, 0, 12, 35, 0)]
theorem k_X12_next_155 : ckB mX12_next 12 155 b_X12_next_155 164 = true := by decide +kernel
def b_X12_next_167 : List IE := []
theorem k_X12_next_167 : ckGo mX12_next 12 167 b_X12_next_167 167 4 171 = true := by decide +kernel
def b_X12_next_170 : List IE := [(.iload_n 2, 1, 0, 0, 2, 0), (.putfield 303, 3, 0, 12, 38, 0)]
theorem k_X12_next_170 : ckGo mX12_next 12 170 b_X12_next_170 174 62 236 = true := by decide +kernel
def b_X12_next_171 : List IE := [(.putfield 303, 3, 0, 12, 38, 0)]
theorem k_X12_next_171 : ckGo mX12_next 12 171 b_X12_next_171 174 62 236 = true := by decide +kernel
def b_X12_next_177 : List IE := [(.aload_n 0, 1, 0, 0, 0, 0), (.iconst 3, 1, 3, 0, 0, 0), (.putfield 297, 3, 0, 12, 37, 0), (.aload_n 0, 1, 0, 0, 0, 0), (.iload_n 1, 1, 0, 0, 1, 0), (.putfield 303, 3, 0, 12, 38, 0), (.aload_n 0, 1, 0, 0, 0, 0), (.dup, 1, 0, 0, 0, 0), (.getfield 291, 3, 0, 12, 35, 0), (.iconst 1, 1, 1, 0, 0, 0), (.iadd, 1, 0, 0, 0, 0), (.putfield 291, 3, 0, 12, 35, 0), (.aload_n 0, 1, 0, 0, 0, 0), (.iload_n 1, 1, 0, 0, 1, 0), (.bipush 40, 2, 40, 0, 0, 0)]
theorem k_X12_next_177 : ckIc mX12_next 12 177 b_X12_next_177 201 0 31 232 204 = true := by decide +kernel
def b_X12_next_204 : List IE := [(.iload_n 1, 1, 0, 0, 1, 0), (.bipush 41, 2, 41, 0, 0, 0)]
theorem k_X12_next_204 : ckIc mX12_next 12 204 b_X12_next_204 207 0 25 232 210 = true := by decide +kernel
def b_X12_next_210 : List IE := [(.iload_n 1, 1, 0, 0, 1, 0), (.bipush 34, 2, 34, 0, 0, 0)]
theorem k_X12_next_210 : ckIc mX12_next 12 210 b_X12_next_210 213 0 19 232 216 = true := by decide +kernel
def b_X12_next_216 : List IE := [(.iload_n 1, 1, 0, 0, 1, 0), (.bipush 42, 2, 42, 0, 0, 0)]
theorem k_X12_next_216 : ckIc mX12_next 12 216 b_X12_next_216 219 0 13 232 222 = true := by decide +kernel
def b_X12_next_222 : List IE := [(.iload_n 1, 1, 0, 0, 1, 0), (.bipush 126, 2, 126, 0, 0, 0)]
theorem k_X12_next_222 : ckIc mX12_next 12 222 b_X12_next_222 225 0 7 232 228 = true := by decide +kernel
def b_X12_next_228 : List IE := [(.iconst 1, 1, 1, 0, 0, 0)]
theorem k_X12_next_228 : ckGo mX12_next 12 228 b_X12_next_228 229 4 233 = true := by decide +kernel
def b_X12_next_232 : List IE := [(.iconst 0, 1, 0, 0, 0, 0), (.putfield 288, 3, 0, 12, 40, 2)]
theorem k_X12_next_232 : ckV mX12_next 12 232 b_X12_next_232 236 = true := by decide +kernel
def b_X12_next_233 : List IE := [(.putfield 288, 3, 0, 12, 40, 2)]
theorem k_X12_next_233 : ckV mX12_next 12 233 b_X12_next_233 236 = true := by decide +kernel
def b_X12_next_236 : List IE := []
theorem k_X12_next_236 : ckV mX12_next 12 236 b_X12_next_236 236 = true := by decide +kernel
theorem s_X12_next_13 : cV mX12_next 13 mX12_byteAt 129 1 12 := ⟨by decide +kernel, ⟨ml_X12_byteAt, li_RX12_129, im_X12_byteAt, se_X12_byteAt⟩, ⟨by decide +kernel, by decide +kernel⟩, by decide +kernel⟩
theorem s_X12_next_16 : cS mX12_next 16 mX12_isBlank 126 1 := ⟨by decide +kernel, ⟨ml_X12_isBlank, li_RX12_126, st_X12_isBlank⟩, by decide +kernel⟩
theorem s_X12_next_48 : cV mX12_next 48 mX12_byteAt 129 1 12 := ⟨by decide +kernel, ⟨ml_X12_byteAt, li_RX12_129, im_X12_byteAt, se_X12_byteAt⟩, ⟨by decide +kernel, by decide +kernel⟩, by decide +kernel⟩
theorem s_X12_next_66 : cS mX12_next 66 mX12_isLetter 133 1 := ⟨by decide +kernel, ⟨ml_X12_isLetter, li_RX12_133, st_X12_isLetter⟩, by decide +kernel⟩
theorem s_X12_next_77 : cV mX12_next 77 mX12_byteAt 129 1 12 := ⟨by decide +kernel, ⟨ml_X12_byteAt, li_RX12_129, im_X12_byteAt, se_X12_byteAt⟩, ⟨by decide +kernel, by decide +kernel⟩, by decide +kernel⟩
theorem s_X12_next_80 : cS mX12_next 80 mX12_isLetter 133 1 := ⟨by decide +kernel, ⟨ml_X12_isLetter, li_RX12_133, st_X12_isLetter⟩, by decide +kernel⟩
theorem s_X12_next_131 : cV mX12_next 131 mX12_keyAt 300 2 12 := ⟨by decide +kernel, ⟨ml_X12_keyAt, li_RX12_300, im_X12_keyAt, se_X12_keyAt⟩, ⟨by decide +kernel, by decide +kernel⟩, by decide +kernel⟩
theorem s_X12_next_164 : cV mX12_next 164 mX12_wordFrom 136 2 12 := ⟨by decide +kernel, ⟨ml_X12_wordFrom, li_RX12_136, im_X12_wordFrom, se_X12_wordFrom⟩, ⟨by decide +kernel, by decide +kernel⟩, by decide +kernel⟩
theorem t_X12_next_0 {rc rs : Nat} {Q : Option AV → AH → Prop} {h : AH}  (hL : LayM h) (hv : (((iH h 89 40) = 0 → wp mX12_next 6 rc rs Q 8 [some (vr 89), none, none] [] h) ∧ ((iH h 89 40) ≠ 0 → Q none h))) : wp mX12_next 6 rc rs Q 0 [some (vr 89), none, none] [] h :=
  (show wp mX12_next 6 rc rs Q 0 [some (vr 89), none, none] [] h from xIf k_X12_next_0 (And.intro (lm_89 hL) (And.intro (fun c1 => have v3 := hv.1 c1; v3) (fun c2 => have v4 := hv.2 c2; (show wp mX12_next 6 rc rs Q 7 [some (vr 89), none, none] [] h from xV k_X12_next_7 (And.intro rfl v4))))))
theorem e_X12_next {mc ms : Nat} {Q : Option AV → AH → Prop} {h : AH}  (hL : LayM h) (hv : (((iH h 89 40) = 0 → wp mX12_next 6 mc ms Q 8 [some (vr 89), none, none] [] h) ∧ ((iH h 89 40) ≠ 0 → Q none h))) : Ct 6 mc ms mX12_next [vr 89] h Q := Ct.of (by decide +kernel) (Nat.le_of_ble_eq_true rfl) (t_X12_next_0 hL hv)
theorem t_X12_next_8 {rc rs : Nat} {Q : Option AV → AH → Prop} {h : AH}  (hL : LayM h) (hv : (0 ≤ (iH h 89 35) ∧ iH h 89 18 ≤ 64) ∧ ((¬ ((m_byteAt h (iH h 89 35)) = 32 ∨ (m_byteAt h (iH h 89 35)) = 10) → (0 ≤ (iH h 89 35) ∧ iH (sI h 89 36 (iH h 89 35)) 89 18 ≤ 64) ∧ (((m_byteAt (sI h 89 36 (iH h 89 35)) (iH h 89 35)) ≠ (-1) → ((¬ (97 ≤ (m_byteAt (sI h 89 36 (iH h 89 35)) (iH h 89 35)) ∧ (m_byteAt (sI h 89 36 (iH h 89 35)) (iH h 89 35)) ≤ 122) → (-2147483648 ≤ (iH h 89 35 + 1) ∧ (iH h 89 35 + 1) < 2147483648) ∧ (((m_byteAt (sI h 89 36 (iH h 89 35)) (iH h 89 35)) = 40 → Q none (sI (sI (sI (sI (sI h 89 36 (iH h 89 35)) 89 37 3) 89 38 (m_byteAt (sI h 89 36 (iH h 89 35)) (iH h 89 35))) 89 35 (iH h 89 35 + 1)) 89 40 0)) ∧ ((m_byteAt (sI h 89 36 (iH h 89 35)) (iH h 89 35)) ≠ 40 → (((m_byteAt (sI h 89 36 (iH h 89 35)) (iH h 89 35)) = 41 → Q none (sI (sI (sI (sI (sI h 89 36 (iH h 89 35)) 89 37 3) 89 38 (m_byteAt (sI h 89 36 (iH h 89 35)) (iH h 89 35))) 89 35 (iH h 89 35 + 1)) 89 40 0)) ∧ ((m_byteAt (sI h 89 36 (iH h 89 35)) (iH h 89 35)) ≠ 41 → (((m_byteAt (sI h 89 36 (iH h 89 35)) (iH h 89 35)) = 34 → Q none (sI (sI (sI (sI (sI h 89 36 (iH h 89 35)) 89 37 3) 89 38 (m_byteAt (sI h 89 36 (iH h 89 35)) (iH h 89 35))) 89 35 (iH h 89 35 + 1)) 89 40 0)) ∧ ((m_byteAt (sI h 89 36 (iH h 89 35)) (iH h 89 35)) ≠ 34 → (((m_byteAt (sI h 89 36 (iH h 89 35)) (iH h 89 35)) = 42 → Q none (sI (sI (sI (sI (sI h 89 36 (iH h 89 35)) 89 37 3) 89 38 (m_byteAt (sI h 89 36 (iH h 89 35)) (iH h 89 35))) 89 35 (iH h 89 35 + 1)) 89 40 0)) ∧ ((m_byteAt (sI h 89 36 (iH h 89 35)) (iH h 89 35)) ≠ 42 → (((m_byteAt (sI h 89 36 (iH h 89 35)) (iH h 89 35)) = 126 → Q none (sI (sI (sI (sI (sI h 89 36 (iH h 89 35)) 89 37 3) 89 38 (m_byteAt (sI h 89 36 (iH h 89 35)) (iH h 89 35))) 89 35 (iH h 89 35 + 1)) 89 40 0)) ∧ ((m_byteAt (sI h 89 36 (iH h 89 35)) (iH h 89 35)) ≠ 126 → Q none (sI (sI (sI (sI (sI h 89 36 (iH h 89 35)) 89 37 3) 89 38 (m_byteAt (sI h 89 36 (iH h 89 35)) (iH h 89 35))) 89 35 (iH h 89 35 + 1)) 89 40 1)))))))))))) ∧ ((97 ≤ (m_byteAt (sI h 89 36 (iH h 89 35)) (iH h 89 35)) ∧ (m_byteAt (sI h 89 36 (iH h 89 35)) (iH h 89 35)) ≤ 122) → wp mX12_next 6 rc rs Q 72 [some (vr 89), none, none] [] (sI h 89 36 (iH h 89 35))))) ∧ ((m_byteAt (sI h 89 36 (iH h 89 35)) (iH h 89 35)) = (-1) → Q none (sI (sI h 89 36 (iH h 89 35)) 89 37 0)))) ∧ (((m_byteAt h (iH h 89 35)) = 32 ∨ (m_byteAt h (iH h 89 35)) = 10) → (-2147483648 ≤ (iH h 89 35 + 1) ∧ (iH h 89 35 + 1) < 2147483648) ∧ wp mX12_next 6 rc rs Q 8 [some (vr 89), none, none] [] (sI h 89 35 (iH h 89 35 + 1))))) : wp mX12_next 6 rc rs Q 8 [some (vr 89), none, none] [] h :=
  (show wp mX12_next 6 rc rs Q 8 [some (vr 89), none, none] [] h from xcV k_X12_next_8 s_X12_next_13 (And.intro (lm_89 hL) (have c46 := hv.1; have v47 := hv.2; (Exists.intro [vi (iH h 89 35)] (Exists.intro 89 (Exists.intro [] (And.intro (And.intro rfl (And.intro rfl (Nat.le_of_ble_eq_true rfl))) (And.intro (lm_89 hL) (Exists.intro 0 (Exists.intro 0 (Exists.intro 0 (Exists.intro _ (And.intro (c_byteAt (h := h) hL c46) (And.intro (And.intro (by decide) (And.intro (Nat.zero_le _) (Nat.zero_le _))) (eQP (show wp mX12_next 6 rc rs Q 16 [some (vr 89), none, none] [vi (m_byteAt h (iH h 89 35))] h from xcS k_X12_next_16 s_X12_next_16 ((Exists.intro [vi (m_byteAt h (iH h 89 35))] (Exists.intro [] (And.intro (And.intro rfl (And.intro rfl (Nat.le_of_ble_eq_true rfl))) (Exists.intro 0 (Exists.intro 0 (Exists.intro 0 (Exists.intro _ (And.intro c_isBlank (And.intro (And.intro (by decide) (And.intro (Nat.zero_le _) (Nat.zero_le _))) (eQP (show wp mX12_next 6 rc rs Q 19 [some (vr 89), none, none] [vi (b01 ((m_byteAt h (iH h 89 35)) = 32 ∨ (m_byteAt h (iH h 89 35)) = 10))] h from xIf k_X12_next_19 (And.intro (fun c1 => have v3 := v47.1 (b01_n.mp c1); (show wp mX12_next 6 rc rs Q 35 [some (vr 89), none, none] [] h from xcV k_X12_next_35 s_X12_next_48 (And.intro (lm_89 hL) (And.intro (lm_89 hL) (And.intro (lm_89 hL) (have c38 := v3.1; have v39 := v3.2; (Exists.intro [vi (iH h 89 35)] (Exists.intro 89 (Exists.intro [] (And.intro (And.intro rfl (And.intro rfl (Nat.le_of_ble_eq_true rfl))) (And.intro (lm_89 hL) (Exists.intro 0 (Exists.intro 0 (Exists.intro 0 (Exists.intro _ (And.intro (c_byteAt (h := (sI h 89 36 (iH h 89 35))) hL c38) (And.intro (And.intro (by decide) (And.intro (Nat.zero_le _) (Nat.zero_le _))) (eQP (show wp mX12_next 6 rc rs Q 51 [some (vr 89), none, none] [vi (m_byteAt (sI h 89 36 (iH h 89 35)) (iH h 89 35))] (sI h 89 36 (iH h 89 35)) from xIc k_X12_next_51 (And.intro rfl (And.intro (fun c5 => have v7 := v39.1 c5; (show wp mX12_next 6 rc rs Q 65 [some (vr 89), some (vi (m_byteAt (sI h 89 36 (iH h 89 35)) (iH h 89 35))), none] [] (sI h 89 36 (iH h 89 35)) from xcS k_X12_next_65 s_X12_next_66 ((Exists.intro [vi (m_byteAt (sI h 89 36 (iH h 89 35)) (iH h 89 35))] (Exists.intro [] (And.intro (And.intro rfl (And.intro rfl (Nat.le_of_ble_eq_true rfl))) (Exists.intro 1 (Exists.intro 0 (Exists.intro 0 (Exists.intro _ (And.intro c_isLetter (And.intro (And.intro (by decide) (And.intro (Nat.zero_le _) (Nat.zero_le _))) (eQP (show wp mX12_next 6 rc rs Q 69 [some (vr 89), some (vi (m_byteAt (sI h 89 36 (iH h 89 35)) (iH h 89 35))), none] [vi (b01 (97 ≤ (m_byteAt (sI h 89 36 (iH h 89 35)) (iH h 89 35)) ∧ (m_byteAt (sI h 89 36 (iH h 89 35)) (iH h 89 35)) ≤ 122))] (sI h 89 36 (iH h 89 35)) from xIf k_X12_next_69 (And.intro (fun c9 => have v11 := v7.1 (b01_n.mp c9); (show wp mX12_next 6 rc rs Q 177 [some (vr 89), some (vi (m_byteAt (sI h 89 36 (iH h 89 35)) (iH h 89 35))), none] [] (sI h 89 36 (iH h 89 35)) from xIc k_X12_next_177 (And.intro (lm_89 hL) (And.intro (lm_89 hL) (And.intro rfl (And.intro (lm_89 hL) (have c13 := v11.1; have v34 := v11.2; (And.intro c13 (And.intro (lm_89 hL) (And.intro (fun c14 => have v16 := v34.1 c14; (show wp mX12_next 6 rc rs Q 232 [some (vr 89), some (vi (m_byteAt (sI h 89 36 (iH h 89 35)) (iH h 89 35))), none] [vr 89] (sI (sI (sI (sI h 89 36 (iH h 89 35)) 89 37 3) 89 38 (m_byteAt (sI h 89 36 (iH h 89 35)) (iH h 89 35))) 89 35 (iH h 89 35 + 1)) from xV k_X12_next_232 (And.intro (lm_89 hL) (And.intro (Or.inl rfl) (And.intro rfl v16))))) (fun c15 => have v17 := v34.2 c15; (show wp mX12_next 6 rc rs Q 204 [some (vr 89), some (vi (m_byteAt (sI h 89 36 (iH h 89 35)) (iH h 89 35))), none] [vr 89] (sI (sI (sI (sI h 89 36 (iH h 89 35)) 89 37 3) 89 38 (m_byteAt (sI h 89 36 (iH h 89 35)) (iH h 89 35))) 89 35 (iH h 89 35 + 1)) from xIc k_X12_next_204 (And.intro (fun c18 => have v20 := v17.1 c18; (show wp mX12_next 6 rc rs Q 232 [some (vr 89), some (vi (m_byteAt (sI h 89 36 (iH h 89 35)) (iH h 89 35))), none] [vr 89] (sI (sI (sI (sI h 89 36 (iH h 89 35)) 89 37 3) 89 38 (m_byteAt (sI h 89 36 (iH h 89 35)) (iH h 89 35))) 89 35 (iH h 89 35 + 1)) from xV k_X12_next_232 (And.intro (lm_89 hL) (And.intro (Or.inl rfl) (And.intro rfl v20))))) (fun c19 => have v21 := v17.2 c19; (show wp mX12_next 6 rc rs Q 210 [some (vr 89), some (vi (m_byteAt (sI h 89 36 (iH h 89 35)) (iH h 89 35))), none] [vr 89] (sI (sI (sI (sI h 89 36 (iH h 89 35)) 89 37 3) 89 38 (m_byteAt (sI h 89 36 (iH h 89 35)) (iH h 89 35))) 89 35 (iH h 89 35 + 1)) from xIc k_X12_next_210 (And.intro (fun c22 => have v24 := v21.1 c22; (show wp mX12_next 6 rc rs Q 232 [some (vr 89), some (vi (m_byteAt (sI h 89 36 (iH h 89 35)) (iH h 89 35))), none] [vr 89] (sI (sI (sI (sI h 89 36 (iH h 89 35)) 89 37 3) 89 38 (m_byteAt (sI h 89 36 (iH h 89 35)) (iH h 89 35))) 89 35 (iH h 89 35 + 1)) from xV k_X12_next_232 (And.intro (lm_89 hL) (And.intro (Or.inl rfl) (And.intro rfl v24))))) (fun c23 => have v25 := v21.2 c23; (show wp mX12_next 6 rc rs Q 216 [some (vr 89), some (vi (m_byteAt (sI h 89 36 (iH h 89 35)) (iH h 89 35))), none] [vr 89] (sI (sI (sI (sI h 89 36 (iH h 89 35)) 89 37 3) 89 38 (m_byteAt (sI h 89 36 (iH h 89 35)) (iH h 89 35))) 89 35 (iH h 89 35 + 1)) from xIc k_X12_next_216 (And.intro (fun c26 => have v28 := v25.1 c26; (show wp mX12_next 6 rc rs Q 232 [some (vr 89), some (vi (m_byteAt (sI h 89 36 (iH h 89 35)) (iH h 89 35))), none] [vr 89] (sI (sI (sI (sI h 89 36 (iH h 89 35)) 89 37 3) 89 38 (m_byteAt (sI h 89 36 (iH h 89 35)) (iH h 89 35))) 89 35 (iH h 89 35 + 1)) from xV k_X12_next_232 (And.intro (lm_89 hL) (And.intro (Or.inl rfl) (And.intro rfl v28))))) (fun c27 => have v29 := v25.2 c27; (show wp mX12_next 6 rc rs Q 222 [some (vr 89), some (vi (m_byteAt (sI h 89 36 (iH h 89 35)) (iH h 89 35))), none] [vr 89] (sI (sI (sI (sI h 89 36 (iH h 89 35)) 89 37 3) 89 38 (m_byteAt (sI h 89 36 (iH h 89 35)) (iH h 89 35))) 89 35 (iH h 89 35 + 1)) from xIc k_X12_next_222 (And.intro (fun c30 => have v32 := v29.1 c30; (show wp mX12_next 6 rc rs Q 232 [some (vr 89), some (vi (m_byteAt (sI h 89 36 (iH h 89 35)) (iH h 89 35))), none] [vr 89] (sI (sI (sI (sI h 89 36 (iH h 89 35)) 89 37 3) 89 38 (m_byteAt (sI h 89 36 (iH h 89 35)) (iH h 89 35))) 89 35 (iH h 89 35 + 1)) from xV k_X12_next_232 (And.intro (lm_89 hL) (And.intro (Or.inl rfl) (And.intro rfl v32))))) (fun c31 => have v33 := v29.2 c31; (show wp mX12_next 6 rc rs Q 228 [some (vr 89), some (vi (m_byteAt (sI h 89 36 (iH h 89 35)) (iH h 89 35))), none] [vr 89] (sI (sI (sI (sI h 89 36 (iH h 89 35)) 89 37 3) 89 38 (m_byteAt (sI h 89 36 (iH h 89 35)) (iH h 89 35))) 89 35 (iH h 89 35 + 1)) from xGo k_X12_next_228 (show wp mX12_next 6 rc rs Q 233 [some (vr 89), some (vi (m_byteAt (sI h 89 36 (iH h 89 35)) (iH h 89 35))), none] [vi 1, vr 89] (sI (sI (sI (sI h 89 36 (iH h 89 35)) 89 37 3) 89 38 (m_byteAt (sI h 89 36 (iH h 89 35)) (iH h 89 35))) 89 35 (iH h 89 35 + 1)) from xV k_X12_next_233 (And.intro (lm_89 hL) (And.intro (Or.inr rfl) (And.intro rfl v33)))))))))))))))))))))))))))) (fun c10 => have v12 := v7.2 (b01_p.mp c10); (w_fg [true, false, false] v12))))))))))))))))) (fun c6 => have v8 := v39.2 (Decidable.not_not.mp c6); (show wp mX12_next 6 rc rs Q 57 [some (vr 89), some (vi (m_byteAt (sI h 89 36 (iH h 89 35)) (iH h 89 35))), none] [] (sI h 89 36 (iH h 89 35)) from xGo k_X12_next_57 (And.intro (lm_89 hL) (show wp mX12_next 6 rc rs Q 236 [some (vr 89), some (vi (m_byteAt (sI h 89 36 (iH h 89 35)) (iH h 89 35))), none] [] (sI (sI h 89 36 (iH h 89 35)) 89 37 0) from xV k_X12_next_236 (And.intro rfl v8)))))))))))))))))))))))))) (fun c2 => have v4 := v47.2 (b01_p.mp c2); (show wp mX12_next 6 rc rs Q 22 [some (vr 89), none, none] [] h from xGo k_X12_next_22 (And.intro rfl (And.intro (lm_89 hL) (have c41 := v4.1; have v42 := v4.2; (And.intro c41 (And.intro (lm_89 hL) v42))))))))))))))))))))))))))))))))))))
theorem t_X12_next_72 {rc rs : Nat} {Q : Option AV → AH → Prop} {h : AH}  (hL : LayM h) (hv : (0 ≤ (iH h 89 35) ∧ iH h 89 18 ≤ 64) ∧ ((¬ (97 ≤ (m_byteAt h (iH h 89 35)) ∧ (m_byteAt h (iH h 89 35)) ≤ 122) → (-2147483648 ≤ (iH h 89 35 - iH h 89 36) ∧ (iH h 89 35 - iH h 89 36) < 2147483648) ∧ (((iH h 89 35 - iH h 89 36) ≤ 6 → (m_let (sI h 89 40 0) (iH h 89 36) (iH h 89 35) ∧ (iH h 89 36) ≤ 64) ∧ (((m_key (m_wf (sI h 89 40 0) (iH h 89 36) (iH h 89 35) 6)) ≠ (-1) → Q none (sI (sI (sI h 89 40 0) 89 37 2) 89 38 (m_key (m_wf (sI h 89 40 0) (iH h 89 36) (iH h 89 35) 6)))) ∧ ((m_key (m_wf (sI h 89 40 0) (iH h 89 36) (iH h 89 35) 6)) = (-1) → (m_let (sI (sI h 89 40 0) 89 37 1) (iH h 89 36) (iH h 89 35) ∧ (iH h 89 36) ≤ 64) ∧ Q none (sI (sI (sI h 89 40 0) 89 37 1) 89 38 (m_wf (sI (sI h 89 40 0) 89 37 1) (iH h 89 36) (iH h 89 35) 6))))) ∧ (6 < (iH h 89 35 - iH h 89 36) → (m_let (sI h 89 40 1) (iH h 89 36) (iH h 89 35) ∧ (iH h 89 36) ≤ 64) ∧ (((m_key (m_wf (sI h 89 40 1) (iH h 89 36) (iH h 89 35) 6)) ≠ (-1) → Q none (sI (sI (sI h 89 40 1) 89 37 2) 89 38 (m_key (m_wf (sI h 89 40 1) (iH h 89 36) (iH h 89 35) 6)))) ∧ ((m_key (m_wf (sI h 89 40 1) (iH h 89 36) (iH h 89 35) 6)) = (-1) → (m_let (sI (sI h 89 40 1) 89 37 1) (iH h 89 36) (iH h 89 35) ∧ (iH h 89 36) ≤ 64) ∧ Q none (sI (sI (sI h 89 40 1) 89 37 1) 89 38 (m_wf (sI (sI h 89 40 1) 89 37 1) (iH h 89 36) (iH h 89 35) 6))))))) ∧ ((97 ≤ (m_byteAt h (iH h 89 35)) ∧ (m_byteAt h (iH h 89 35)) ≤ 122) → (-2147483648 ≤ (iH h 89 35 + 1) ∧ (iH h 89 35 + 1) < 2147483648) ∧ wp mX12_next 6 rc rs Q 72 [some (vr 89), none, none] [] (sI h 89 35 (iH h 89 35 + 1))))) : wp mX12_next 6 rc rs Q 72 [some (vr 89), none, none] [] h :=
  (show wp mX12_next 6 rc rs Q 72 [some (vr 89), none, none] [] h from xcV k_X12_next_72 s_X12_next_77 (And.intro (lm_89 hL) (have c36 := hv.1; have v37 := hv.2; (Exists.intro [vi (iH h 89 35)] (Exists.intro 89 (Exists.intro [] (And.intro (And.intro rfl (And.intro rfl (Nat.le_of_ble_eq_true rfl))) (And.intro (lm_89 hL) (Exists.intro 0 (Exists.intro 0 (Exists.intro 0 (Exists.intro _ (And.intro (c_byteAt (h := h) hL c36) (And.intro (And.intro (by decide) (And.intro (Nat.zero_le _) (Nat.zero_le _))) (eQP (show wp mX12_next 6 rc rs Q 80 [some (vr 89), none, none] [vi (m_byteAt h (iH h 89 35))] h from xcS k_X12_next_80 s_X12_next_80 ((Exists.intro [vi (m_byteAt h (iH h 89 35))] (Exists.intro [] (And.intro (And.intro rfl (And.intro rfl (Nat.le_of_ble_eq_true rfl))) (Exists.intro 1 (Exists.intro 0 (Exists.intro 0 (Exists.intro _ (And.intro c_isLetter (And.intro (And.intro (by decide) (And.intro (Nat.zero_le _) (Nat.zero_le _))) (eQP (show wp mX12_next 6 rc rs Q 83 [some (vr 89), none, none] [vi (b01 (97 ≤ (m_byteAt h (iH h 89 35)) ∧ (m_byteAt h (iH h 89 35)) ≤ 122))] h from xIf k_X12_next_83 (And.intro (fun c1 => have v3 := v37.1 (b01_n.mp c1); (show wp mX12_next 6 rc rs Q 99 [some (vr 89), none, none] [] h from xIc k_X12_next_99 (And.intro (lm_89 hL) (And.intro (lm_89 hL) (have c5 := v3.1; have v30 := v3.2; (And.intro c5 (And.intro (fun c6 => have v8 := v30.1 c6; (show wp mX12_next 6 rc rs Q 118 [some (vr 89), none, none] [vr 89] h from xcV k_X12_next_118 s_X12_next_131 (And.intro (lm_89 hL) (And.intro (Or.inl rfl) (And.intro (lm_89 hL) (And.intro (lm_89 hL) (have c17 := v8.1; have v18 := v8.2; (Exists.intro [vi (iH h 89 36), vi (iH h 89 35)] (Exists.intro 89 (Exists.intro [] (And.intro (And.intro rfl (And.intro rfl (Nat.le_of_ble_eq_true rfl))) (And.intro (lm_89 hL) (Exists.intro 5 (Exists.intro 0 (Exists.intro 0 (Exists.intro _ (And.intro (c_keyAt (h := (sI h 89 40 0)) hL c17) (And.intro (And.intro (by decide) (And.intro (Nat.zero_le _) (Nat.zero_le _))) (eQP (show wp mX12_next 6 rc rs Q 134 [some (vr 89), none, none] [vi (m_key (m_wf (sI h 89 40 0) (iH h 89 36) (iH h 89 35) 6))] (sI h 89 40 0) from xIc k_X12_next_134 (And.intro rfl (And.intro (fun c10 => have v12 := v18.1 c10; (show wp mX12_next 6 rc rs Q 145 [some (vr 89), none, some (vi (m_key (m_wf (sI h 89 40 0) (iH h 89 36) (iH h 89 35) 6)))] [vr 89] (sI h 89 40 0) from xIc k_X12_next_145 (And.intro (lm_89 hL) (And.intro (fun _ => (show wp mX12_next 6 rc rs Q 170 [some (vr 89), none, some (vi (m_key (m_wf (sI h 89 40 0) (iH h 89 36) (iH h 89 35) 6)))] [vr 89] (sI (sI h 89 40 0) 89 37 2) from xGo k_X12_next_170 (And.intro (lm_89 hL) (show wp mX12_next 6 rc rs Q 236 [some (vr 89), none, some (vi (m_key (m_wf (sI h 89 40 0) (iH h 89 36) (iH h 89 35) 6)))] [] (sI (sI (sI h 89 40 0) 89 37 2) 89 38 (m_key (m_wf (sI h 89 40 0) (iH h 89 36) (iH h 89 35) 6))) from xV k_X12_next_236 (And.intro rfl v12))))) (fun c => absurd (show (m_key (m_wf (sI h 89 40 0) (iH h 89 36) (iH h 89 35) 6)) ≠ (-1) from c10) c))))) (fun c11 => have v13 := v18.2 (Decidable.not_not.mp c11); (show wp mX12_next 6 rc rs Q 141 [some (vr 89), none, some (vi (m_key (m_wf (sI h 89 40 0) (iH h 89 36) (iH h 89 35) 6)))] [vr 89] (sI h 89 40 0) from xGo k_X12_next_141 (show wp mX12_next 6 rc rs Q 146 [some (vr 89), none, some (vi (m_key (m_wf (sI h 89 40 0) (iH h 89 36) (iH h 89 35) 6)))] [vi 1, vr 89] (sI h 89 40 0) from xIc k_X12_next_146 (And.intro (lm_89 hL) (And.intro (fun c => absurd (show (m_key (m_wf (sI h 89 40 0) (iH h 89 36) (iH h 89 35) 6)) = (-1) from (Decidable.not_not.mp c11)) c) (fun _ => (show wp mX12_next 6 rc rs Q 155 [some (vr 89), none, some (vi (m_key (m_wf (sI h 89 40 0) (iH h 89 36) (iH h 89 35) 6)))] [vr 89] (sI (sI h 89 40 0) 89 37 1) from xcV k_X12_next_155 s_X12_next_164 (And.intro (lm_89 hL) (And.intro (lm_89 hL) (have c14 := v13.1; have v15 := v13.2; (Exists.intro [vi (iH h 89 36), vi (iH h 89 35)] (Exists.intro 89 (Exists.intro [vr 89] (And.intro (And.intro rfl (And.intro rfl (Nat.le_of_ble_eq_true rfl))) (And.intro (lm_89 hL) (Exists.intro 0 (Exists.intro 0 (Exists.intro 0 (Exists.intro _ (And.intro (c_wordFrom (h := (sI (sI h 89 40 0) 89 37 1)) hL c14) (And.intro (And.intro (by decide) (And.intro (Nat.zero_le _) (Nat.zero_le _))) (eQP (show wp mX12_next 6 rc rs Q 167 [some (vr 89), none, some (vi (m_key (m_wf (sI h 89 40 0) (iH h 89 36) (iH h 89 35) 6)))] [vi (m_wf (sI (sI h 89 40 0) 89 37 1) (iH h 89 36) (iH h 89 35) 6), vr 89] (sI (sI h 89 40 0) 89 37 1) from xGo k_X12_next_167 (show wp mX12_next 6 rc rs Q 171 [some (vr 89), none, some (vi (m_key (m_wf (sI h 89 40 0) (iH h 89 36) (iH h 89 35) 6)))] [vi (m_wf (sI (sI h 89 40 0) 89 37 1) (iH h 89 36) (iH h 89 35) 6), vr 89] (sI (sI h 89 40 0) 89 37 1) from xGo k_X12_next_171 (And.intro (lm_89 hL) (show wp mX12_next 6 rc rs Q 236 [some (vr 89), none, some (vi (m_key (m_wf (sI h 89 40 0) (iH h 89 36) (iH h 89 35) 6)))] [] (sI (sI (sI h 89 40 0) 89 37 1) 89 38 (m_wf (sI (sI h 89 40 0) 89 37 1) (iH h 89 36) (iH h 89 35) 6)) from xV k_X12_next_236 (And.intro rfl v15))))))))))))))))))))))))))))))))))))))))))))))))) (fun c7 => have v9 := v30.2 (Int.not_le.mp c7); (show wp mX12_next 6 rc rs Q 114 [some (vr 89), none, none] [vr 89] h from xGo k_X12_next_114 (show wp mX12_next 6 rc rs Q 119 [some (vr 89), none, none] [vi 1, vr 89] h from xcV k_X12_next_119 s_X12_next_131 (And.intro (lm_89 hL) (And.intro (Or.inr rfl) (And.intro (lm_89 hL) (And.intro (lm_89 hL) (have c27 := v9.1; have v28 := v9.2; (Exists.intro [vi (iH h 89 36), vi (iH h 89 35)] (Exists.intro 89 (Exists.intro [] (And.intro (And.intro rfl (And.intro rfl (Nat.le_of_ble_eq_true rfl))) (And.intro (lm_89 hL) (Exists.intro 5 (Exists.intro 0 (Exists.intro 0 (Exists.intro _ (And.intro (c_keyAt (h := (sI h 89 40 1)) hL c27) (And.intro (And.intro (by decide) (And.intro (Nat.zero_le _) (Nat.zero_le _))) (eQP (show wp mX12_next 6 rc rs Q 134 [some (vr 89), none, none] [vi (m_key (m_wf (sI h 89 40 1) (iH h 89 36) (iH h 89 35) 6))] (sI h 89 40 1) from xIc k_X12_next_134 (And.intro rfl (And.intro (fun c20 => have v22 := v28.1 c20; (show wp mX12_next 6 rc rs Q 145 [some (vr 89), none, some (vi (m_key (m_wf (sI h 89 40 1) (iH h 89 36) (iH h 89 35) 6)))] [vr 89] (sI h 89 40 1) from xIc k_X12_next_145 (And.intro (lm_89 hL) (And.intro (fun _ => (show wp mX12_next 6 rc rs Q 170 [some (vr 89), none, some (vi (m_key (m_wf (sI h 89 40 1) (iH h 89 36) (iH h 89 35) 6)))] [vr 89] (sI (sI h 89 40 1) 89 37 2) from xGo k_X12_next_170 (And.intro (lm_89 hL) (show wp mX12_next 6 rc rs Q 236 [some (vr 89), none, some (vi (m_key (m_wf (sI h 89 40 1) (iH h 89 36) (iH h 89 35) 6)))] [] (sI (sI (sI h 89 40 1) 89 37 2) 89 38 (m_key (m_wf (sI h 89 40 1) (iH h 89 36) (iH h 89 35) 6))) from xV k_X12_next_236 (And.intro rfl v22))))) (fun c => absurd (show (m_key (m_wf (sI h 89 40 1) (iH h 89 36) (iH h 89 35) 6)) ≠ (-1) from c20) c))))) (fun c21 => have v23 := v28.2 (Decidable.not_not.mp c21); (show wp mX12_next 6 rc rs Q 141 [some (vr 89), none, some (vi (m_key (m_wf (sI h 89 40 1) (iH h 89 36) (iH h 89 35) 6)))] [vr 89] (sI h 89 40 1) from xGo k_X12_next_141 (show wp mX12_next 6 rc rs Q 146 [some (vr 89), none, some (vi (m_key (m_wf (sI h 89 40 1) (iH h 89 36) (iH h 89 35) 6)))] [vi 1, vr 89] (sI h 89 40 1) from xIc k_X12_next_146 (And.intro (lm_89 hL) (And.intro (fun c => absurd (show (m_key (m_wf (sI h 89 40 1) (iH h 89 36) (iH h 89 35) 6)) = (-1) from (Decidable.not_not.mp c21)) c) (fun _ => (show wp mX12_next 6 rc rs Q 155 [some (vr 89), none, some (vi (m_key (m_wf (sI h 89 40 1) (iH h 89 36) (iH h 89 35) 6)))] [vr 89] (sI (sI h 89 40 1) 89 37 1) from xcV k_X12_next_155 s_X12_next_164 (And.intro (lm_89 hL) (And.intro (lm_89 hL) (have c24 := v23.1; have v25 := v23.2; (Exists.intro [vi (iH h 89 36), vi (iH h 89 35)] (Exists.intro 89 (Exists.intro [vr 89] (And.intro (And.intro rfl (And.intro rfl (Nat.le_of_ble_eq_true rfl))) (And.intro (lm_89 hL) (Exists.intro 0 (Exists.intro 0 (Exists.intro 0 (Exists.intro _ (And.intro (c_wordFrom (h := (sI (sI h 89 40 1) 89 37 1)) hL c24) (And.intro (And.intro (by decide) (And.intro (Nat.zero_le _) (Nat.zero_le _))) (eQP (show wp mX12_next 6 rc rs Q 167 [some (vr 89), none, some (vi (m_key (m_wf (sI h 89 40 1) (iH h 89 36) (iH h 89 35) 6)))] [vi (m_wf (sI (sI h 89 40 1) 89 37 1) (iH h 89 36) (iH h 89 35) 6), vr 89] (sI (sI h 89 40 1) 89 37 1) from xGo k_X12_next_167 (show wp mX12_next 6 rc rs Q 171 [some (vr 89), none, some (vi (m_key (m_wf (sI h 89 40 1) (iH h 89 36) (iH h 89 35) 6)))] [vi (m_wf (sI (sI h 89 40 1) 89 37 1) (iH h 89 36) (iH h 89 35) 6), vr 89] (sI (sI h 89 40 1) 89 37 1) from xGo k_X12_next_171 (And.intro (lm_89 hL) (show wp mX12_next 6 rc rs Q 236 [some (vr 89), none, some (vi (m_key (m_wf (sI h 89 40 1) (iH h 89 36) (iH h 89 35) 6)))] [] (sI (sI (sI h 89 40 1) 89 37 1) 89 38 (m_wf (sI (sI h 89 40 1) 89 37 1) (iH h 89 36) (iH h 89 35) 6)) from xV k_X12_next_236 (And.intro rfl v25))))))))))))))))))))))))))))))))))))))))))))))))))))))))) (fun c2 => have v4 := v37.2 (b01_p.mp c2); (show wp mX12_next 6 rc rs Q 86 [some (vr 89), none, none] [] h from xGo k_X12_next_86 (And.intro rfl (And.intro (lm_89 hL) (have c31 := v4.1; have v32 := v4.2; (And.intro c31 (And.intro (lm_89 hL) v32))))))))))))))))))))))))))))))))))))
theorem c_mark {h : AH} (hL : LayM h) {F mk : Nat → Int} {v : Int} (hF : F 40 = 0 → 0 ≤ F 34 ∧ F 34 < 128) : Ct 0 0 0 mX12_mark [vr 89, vi v] (hP h F mk) (QV fun h' => h' = if F 40 = 0 then hP h (updF F 34 (F 34 + 1)) (updF mk (F 34).toNat v) else hP h F mk) := by
  refine e_X12_mark (by exact hL) ⟨fun c => ?_, fun c => ?_⟩
  · rw [hP_F (by omega)] at c ⊢
    have := hF c
    refine ⟨this, by omega, rfl, ?_⟩
    rw [if_pos c, hP_sm, hP_s (by omega)]
  · rw [hP_F (by omega)] at c
    exact ⟨rfl, (if_neg c).symm⟩

theorem key_kw (v : Int) : (m_key v = -1 ∧ q_kw v = 1) ∨ (m_key v ≠ -1 ∧ 2 ≤ q_kw v ∧ q_kw v ≤ 4 ∧ m_key v = q_kw v - 2) := by
  unfold m_key q_kw
  by_cases c1 : v = 224799543
  · rw [if_pos c1, if_pos c1]; omega
  · rw [if_neg c1, if_neg c1]
    by_cases c2 : v = 21867813
    · rw [if_pos c2, if_pos c2]; omega
    · rw [if_neg c2, if_neg c2]
      by_cases c3 : v = 209249973
      · rw [if_pos c3, if_pos c3]; omega
      · rw [if_neg c3, if_neg c3]; omega
theorem hP_let {h : AH} {F mk : Nat → Int} {a b : Int} (hl : m_let h a b) : m_let (hP h F mk) a b := ⟨hl.1, hl.2.1, fun j h1 h2 => by rw [hP_o (by decide)]; exact hl.2.2 j h1 h2⟩
theorem hP_wf {h : AH} {F mk : Nat → Int} (a b : Int) (k : Nat) : m_wf (hP h F mk) a b k = m_wf h a b k := m_wf_cg (fun _ => hP_o (by decide)) a b k
theorem c_next {h : AH} (hL : LayM h) (ht : q_tp h) (hy : ∀ k, k < d_n h → 0 ≤ iH h 1157 k) {p : Nat} {F mk : Nat → Int} (hF : F 40 = 0 → F 35 = p ∧ p ≤ d_n h) : Ct 6 0 0 mX12_next [vr 89] (hP h F mk) (QV fun h' => ∃ F', h' = hP h F' mk ∧ ((F 40 = 0 ∧ p_nx h p F F') ∨ (F 40 ≠ 0 ∧ F' = F))) := by
  have hn : (d_n h : Int) = iH h 89 18 := by have := ht.1; unfold d_n; omega
  have hn64 : d_n h ≤ 64 := by have := ht.2; omega
  have rT : ∀ (F : Nat → Int), iH (hP h F mk) 89 18 = iH h 89 18 := fun F => hP_n (by omega)
  have bA : ∀ (F : Nat → Int) (k : Nat), m_byteAt (hP h F mk) k = if k < d_n h then iH h 1157 k else -1 := fun F k => by
    unfold m_byteAt
    rw [rT, ← hn]
    by_cases c : k < d_n h
    · rw [if_pos (by omega), if_pos c, Int.toNat_natCast]; exact hP_o (by decide)
    · rw [if_neg (by omega), if_neg c]
  have s35 : ∀ (F : Nat → Int) (v : Int), sI (hP h F mk) 89 35 v = hP h (updF F 35 v) mk := fun F v => hP_s (by omega)
  have s36 : ∀ (F : Nat → Int) (v : Int), sI (hP h F mk) 89 36 v = hP h (updF F 36 v) mk := fun F v => hP_s (by omega)
  have s37 : ∀ (F : Nat → Int) (v : Int), sI (hP h F mk) 89 37 v = hP h (updF F 37 v) mk := fun F v => hP_s (by omega)
  have s38 : ∀ (F : Nat → Int) (v : Int), sI (hP h F mk) 89 38 v = hP h (updF F 38 v) mk := fun F v => hP_s (by omega)
  have s40 : ∀ (F : Nat → Int) (v : Int), sI (hP h F mk) 89 40 v = hP h (updF F 40 v) mk := fun F v => hP_s (by omega)
  have f35 : ∀ (F : Nat → Int), iH (hP h F mk) 89 35 = F 35 := fun F => hP_F (by omega)
  have f36 : ∀ (F : Nat → Int), iH (hP h F mk) 89 36 = F 36 := fun F => hP_F (by omega)
  refine e_X12_next (by exact hL) ?_
  rw [hP_F (by omega)]
  refine ⟨fun c0 => ?_, fun c0 => ⟨rfl, F, rfl, Or.inr ⟨c0, rfl⟩⟩⟩
  obtain ⟨e35, hp⟩ := hF c0
  have hB := q_b_le hp
  have hWe : q_we h p ≤ d_n h := run_le hB
  have hW2 : q_b h p ≤ q_we h p := run_ge _ _ _
  have R0 : ∀ F', p_nx h p F F' → QV (fun h' => ∃ F', h' = hP h F' mk ∧ ((F 40 = 0 ∧ p_nx h p F F') ∨ (F 40 ≠ 0 ∧ F' = F))) none (hP h F' mk) := fun F' q => ⟨rfl, F', rfl, Or.inl ⟨c0, q⟩⟩
  generalize hQ : QV (fun h' => ∃ F', h' = hP h F' mk ∧ ((F 40 = 0 ∧ p_nx h p F F') ∨ (F 40 ≠ 0 ∧ F' = F))) = Q0 at *
  have hlet : m_let h (q_b h p) (q_we h p) := d_word_let ht hB
  have qkw : q_b h p < q_we h p → q_k h p = if q_b h p + 6 < q_we h p then 5 else q_kw (q_v h p) := fun c => by
    unfold q_k; rw [if_neg (by omega), if_pos c]
  have qew : q_b h p < q_we h p → q_e h p = q_we h p := fun c => by
    unfold q_e; rw [if_neg (by omega), if_pos c]
  have st72 : ∀ (j : Nat) (F1 : Nat → Int), F1 35 = j → F1 36 = q_b h p → F1 34 = F 34 → F1 39 = F 39 → q_b h p ≤ j → j ≤ d_n h → d_we h j = q_we h p → q_b h p < q_we h p → (j < d_n h → d_le h j → wp mX12_next 6 0 0 Q0 72 [some (vr 89), none, none] [] (hP h (updF F1 35 ((j : Int) + 1)) mk)) → wp mX12_next 6 0 0 Q0 72 [some (vr 89), none, none] [] (hP h F1 mk) := by
    intro j F1 g35 g36 g34 g39 h1 h2 h3 h4 ih
    refine t_X12_next_72 (by exact hL) ?_
    simp only [f35, f36, rT, s35, s37, s38, s40, g35, g36, bA, hP_wf]
    refine ⟨⟨by omega, by omega⟩, fun c => ?_, fun c => ?_⟩
    · have ej : j = q_we h p := by
        rw [← h3]
        by_cases c2 : j < d_n h
        · rw [if_pos c2] at c
          exact (run_n (p := d_le h) c).symm
        · exact (run_e (by omega)).symm
      have eW : m_wf h (q_b h p) (j : Int) 6 = q_v h p := by rw [ej]; rfl
      rw [eW]
      have hl2 : ∀ F', m_let (hP h F' mk) (q_b h p) (j : Int) := fun F' => by rw [ej]; exact hP_let hlet
      refine ⟨by omega, fun c2 => ?_, fun c2 => ?_⟩
      · have k1 : q_k h p = q_kw (q_v h p) := by rw [qkw h4, if_neg (by omega)]
        refine ⟨⟨hl2 _, by omega⟩, fun c3 => R0 _ ⟨by simp [updF, g34], by simp [updF, g39], by simp [updF, g36], Or.inr ⟨?_, by simp [updF], ?_, ?_⟩⟩, fun c3 => ⟨⟨hl2 _, by omega⟩, R0 _ ⟨by simp [updF, g34], by simp [updF, g39], by simp [updF, g36], Or.inr ⟨?_, by simp [updF], ?_, ?_⟩⟩⟩⟩
        · rcases key_kw (q_v h p) with q | q <;> omega
        · rw [qew h4]; simp [updF, g35, ej]
        · rcases key_kw (q_v h p) with q | q
          · omega
          · exact Or.inr (Or.inr (Or.inl ⟨by omega, by simp [updF], by rw [k1]; simp [updF]; omega⟩))
        · rcases key_kw (q_v h p) with q | q <;> omega
        · rw [qew h4]; simp [updF, g35, ej]
        · rcases key_kw (q_v h p) with q | q
          · exact Or.inr (Or.inl ⟨by omega, by simp [updF], by simp [updF]⟩)
          · omega
      · have k1 : q_k h p = 5 := by rw [qkw h4, if_pos (by omega)]
        exact ⟨⟨hl2 _, by omega⟩, fun c3 => R0 _ ⟨by simp [updF, g34], by simp [updF, g39], by simp [updF, g36], Or.inl ⟨k1, by simp [updF]⟩⟩, fun c3 => ⟨⟨hl2 _, by omega⟩, R0 _ ⟨by simp [updF, g34], by simp [updF, g39], by simp [updF, g36], Or.inl ⟨k1, by simp [updF]⟩⟩⟩⟩
    · by_cases c2 : j < d_n h
      · rw [if_pos c2] at c
        exact ⟨by omega, ih c2 c⟩
      · rw [if_neg c2] at c; omega
  have L72 : ∀ (f j : Nat) (F1 : Nat → Int), d_n h - j ≤ f → F1 35 = j → F1 36 = q_b h p → F1 34 = F 34 → F1 39 = F 39 → q_b h p ≤ j → j ≤ d_n h → d_we h j = q_we h p → q_b h p < q_we h p → wp mX12_next 6 0 0 Q0 72 [some (vr 89), none, none] [] (hP h F1 mk) := by
    intro f
    induction f with
    | zero => exact fun j F1 hf g35 g36 g34 g39 h1 h2 h3 h4 => st72 j F1 g35 g36 g34 g39 h1 h2 h3 h4 (fun c _ => absurd c (by omega))
    | succ f ih => exact fun j F1 hf g35 g36 g34 g39 h1 h2 h3 h4 => st72 j F1 g35 g36 g34 g39 h1 h2 h3 h4 (fun c c2 => ih (j + 1) _ (by omega) (by simp [updF]) (by simp [updF, g36]) (by simp [updF, g34]) (by simp [updF, g39]) (by omega) (by omega) (by rw [← h3]; exact (run_y (p := d_le h) c c2).symm) h4)
  have st8 : ∀ (k : Nat) (F1 : Nat → Int), F1 35 = k → F1 40 = 0 → F1 34 = F 34 → F1 39 = F 39 → k ≤ d_n h → d_sk h k = q_b h p → (k < d_n h → d_bl h k → wp mX12_next 6 0 0 Q0 8 [some (vr 89), none, none] [] (hP h (updF F1 35 ((k : Int) + 1)) mk)) → wp mX12_next 6 0 0 Q0 8 [some (vr 89), none, none] [] (hP h F1 mk) := by
    intro k F1 g35 g40 g34 g39 h1 h2 ih
    refine t_X12_next_8 (by exact hL) ?_
    simp only [f35, rT, s35, s36, s37, s38, s40, g35, bA]
    refine ⟨⟨by omega, by omega⟩, fun c => ⟨⟨by omega, by omega⟩, fun c2 => ⟨fun c3 => ⟨by omega, ?_⟩, fun c3 => ?_⟩, fun c2 => ?_⟩, fun c => ?_⟩
    · have hk : k < d_n h := Decidable.byContradiction fun q => c2 (if_neg q)
      rw [if_pos hk] at c c2 c3 ⊢
      have ek : k = q_b h p := by rw [← h2]; exact (run_n (p := d_bl h) c).symm
      have ew : q_we h p = q_b h p := by
        show d_we h (q_b h p) = q_b h p
        rw [← ek]; exact run_n (p := d_le h) c3
      have ee : q_e h p = k + 1 := by
        unfold q_e; rw [if_neg (by omega), if_neg (by omega), ek]
      have eq : q_k h p = if iH h 1157 k = 34 ∨ iH h 1157 k = 40 ∨ iH h 1157 k = 41 ∨ iH h 1157 k = 42 ∨ iH h 1157 k = 126 then iH h 1157 k else 5 := by
        unfold q_k; rw [if_neg (by omega), if_neg (by omega), ← ek]
      generalize hX : iH h 1157 k = X at *
      have sg : (X = 34 ∨ X = 40 ∨ X = 41 ∨ X = 42 ∨ X = 126) → Q0 none (hP h (updF (updF (updF (updF (updF F1 36 k) 37 3) 38 X) 35 ((k : Int) + 1)) 40 0) mk) := fun q => by
        rw [if_pos q] at eq
        exact R0 _ ⟨by simp [updF, g34], by simp [updF, g39], by simp [updF, ek], Or.inr ⟨by omega, by simp [updF], by rw [ee]; simp [updF], Or.inr (Or.inr (Or.inr ⟨by omega, by simp [updF], by rw [eq]; simp [updF]⟩))⟩⟩
      refine ⟨fun d => sg (by omega), fun d1 => ⟨fun d => sg (by omega), fun d2 => ⟨fun d => sg (by omega), fun d3 => ⟨fun d => sg (by omega), fun d4 => ⟨fun d => sg (by omega), fun d5 => ?_⟩⟩⟩⟩⟩
      rw [if_neg (by omega)] at eq
      exact R0 _ ⟨by simp [updF, g34], by simp [updF, g39], by simp [updF, ek], Or.inl ⟨eq, by simp [updF]⟩⟩
    · have hk : k < d_n h := Decidable.byContradiction fun q => c2 (if_neg q)
      rw [if_pos hk] at c c2 c3
      have ek : k = q_b h p := by rw [← h2]; exact (run_n (p := d_bl h) c).symm
      have ew : d_we h k = q_we h p := by rw [ek]; rfl
      have ew2 : k + 1 ≤ d_we h k := by
        rw [show d_we h k = d_we h (k + 1) from run_y (p := d_le h) hk c3]; exact run_ge _ _ _
      exact L72 (d_n h - k) k (updF F1 36 k) (Nat.le_refl _) (by simp [updF, g35]) (by simp [updF, ek]) (by simp [updF, g34]) (by simp [updF, g39]) (by omega) h1 ew (by omega)
    · have hk : ¬ k < d_n h := fun q => by
        rw [if_pos q] at c2
        have := hy k q
        omega
      have ek : k = q_b h p := by rw [← h2]; exact (run_e (by omega)).symm
      have eq : q_k h p = 0 := q_k_0.mpr (by omega)
      exact R0 _ ⟨by simp [updF, g34], by simp [updF, g39], by simp [updF, ek], Or.inr ⟨by omega, by simp [updF, g40], by unfold q_e; rw [if_pos (by omega)]; simp [updF, g35, ek], Or.inl ⟨eq, by simp [updF]⟩⟩⟩
    · by_cases hk : k < d_n h
      · rw [if_pos hk] at c
        exact ⟨by omega, ih hk c⟩
      · rw [if_neg hk] at c; omega
  have L8 : ∀ (f k : Nat) (F1 : Nat → Int), d_n h - k ≤ f → F1 35 = k → F1 40 = 0 → F1 34 = F 34 → F1 39 = F 39 → k ≤ d_n h → d_sk h k = q_b h p → wp mX12_next 6 0 0 Q0 8 [some (vr 89), none, none] [] (hP h F1 mk) := by
    intro f
    induction f with
    | zero => exact fun k F1 hf g35 g40 g34 g39 h1 h2 => st8 k F1 g35 g40 g34 g39 h1 h2 (fun c _ => absurd c (by omega))
    | succ f ih => exact fun k F1 hf g35 g40 g34 g39 h1 h2 => st8 k F1 g35 g40 g34 g39 h1 h2 (fun c c2 => ih (k + 1) _ (by omega) (by simp [updF]) (by simp [updF, g40]) (by simp [updF, g34]) (by simp [updF, g39]) (by omega) (by rw [← h2]; exact (run_y (p := d_bl h) c c2).symm))
  exact L8 (d_n h - p) p F (Nat.le_refl _) e35 c0 rfl rfl hp rfl
/-! states of the parser: good at a token with what is laid, or at fault -/
def pRL (l : List Int) (n : Int) (mk : Nat → Int) : Prop := n = l.length ∧ ∀ i, i < l.length → mk i = l.getD i 0
theorem pRL_snoc {l : List Int} {n v : Int} {mk : Nat → Int} (hr : pRL l n mk) : pRL (l ++ [v]) (n + 1) (updF mk n.toNat v) := by
  obtain ⟨h1, h2⟩ := hr
  refine ⟨by rw [h1, List.length_append]; simp, fun i hi => ?_⟩
  rw [List.length_append] at hi
  have hi : i < l.length + 1 := hi
  have e : n.toNat = l.length := by omega
  rw [e]
  unfold updF
  by_cases c : i = l.length
  · subst c
    rw [if_pos rfl]
    simp
  · rw [if_neg c, h2 i (by omega)]
    simp [List.getD_eq_getElem?_getD, List.getElem?_append_left (show i < l.length by omega)]
def pG (h : AH) (op : Int) (p : Nat) (l : List Int) (h' : AH) : Prop := ∃ F mk, h' = hP h F mk ∧ F 40 = 0 ∧ F 35 = q_e h p ∧ F 36 = q_b h p ∧ p ≤ d_n h ∧ q_k h p ≠ 5 ∧ p_tv h p F ∧ F 39 = op ∧ pRL l (F 34) mk
def pE (h : AH) (op : Int) (e : Nat) (h' : AH) : Prop := ∃ F mk, h' = hP h F mk ∧ F 40 = 1 ∧ F 36 = e ∧ (op ≤ F 39 ∧ F 39 ≤ 5)
theorem pG_L {h h' : AH} (hL : LayM h) {op : Int} {p : Nat} {l : List Int} (g : pG h op p l h') : LayM h' := by
  obtain ⟨F, mk, rfl, -⟩ := g; exact hL
theorem pE_L {h h' : AH} (hL : LayM h) {op : Int} {e : Nat} (g : pE h op e h') : LayM h' := by
  obtain ⟨F, mk, rfl, -⟩ := g; exact hL
theorem cm_G {h h' : AH} (hL : LayM h) {op v : Int} {p : Nat} {l : List Int} (g : pG h op p l h') (hl : l.length < 128) : Ct 0 0 0 mX12_mark [vr 89, vi v] h' (QV (pG h op p (l ++ [v]))) := by
  obtain ⟨F, mk, rfl, g40, g35, g36, g1, g2, g3, g39, gr⟩ := g
  have hn := gr.1
  refine Ct.mono (fun x y q => ?_) (c_mark hL (F := F) (mk := mk) (v := v) (fun _ => by omega))
  obtain ⟨rfl, q⟩ := q
  rw [if_pos g40] at q
  exact ⟨rfl, _, _, q, by simp [updF, g40], by simp [updF, g35], by simp [updF, g36], g1, g2, by unfold p_tv at *; simpa [updF] using g3, by simp [updF, g39], pRL_snoc gr⟩
theorem cm_E {h h' : AH} (hL : LayM h) {op v : Int} {e : Nat} (g : pE h op e h') : Ct 0 0 0 mX12_mark [vr 89, vi v] h' (QV (pE h op e)) := by
  obtain ⟨F, mk, rfl, g40, g36, g39⟩ := g
  refine Ct.mono (fun x y q => ?_) (c_mark hL (F := F) (mk := mk) (v := v) (fun c => absurd c (by omega)))
  obtain ⟨rfl, q⟩ := q
  rw [if_neg (by omega)] at q
  exact ⟨rfl, _, _, q, g40, g36, g39⟩
theorem cn_E {h h' : AH} (hL : LayM h) (ht : q_tp h) (hy : ∀ k, k < d_n h → 0 ≤ iH h 1157 k) {op : Int} {e : Nat} (g : pE h op e h') : Ct 6 0 0 mX12_next [vr 89] h' (QV (pE h op e)) := by
  obtain ⟨F, mk, rfl, g40, g36, g39⟩ := g
  refine Ct.mono (fun x y q => ?_) (c_next hL ht hy (p := 0) (F := F) (mk := mk) (fun c => absurd c (by omega)))
  obtain ⟨rfl, F', q, q2 | q2⟩ := q
  · exact absurd q2.1 (by omega)
  · rw [q2.2] at q
    exact ⟨rfl, _, _, q, g40, g36, g39⟩
theorem cn_G {h h' : AH} (hL : LayM h) (ht : q_tp h) (hy : ∀ k, k < d_n h → 0 ≤ iH h 1157 k) {op : Int} {p : Nat} {l : List Int} (hop : op ≤ 5) (g : pG h op p l h') : Ct 6 0 0 mX12_next [vr 89] h' (QV fun h'' => (q_k h (q_e h p) = 5 ∧ pE h op (q_b h (q_e h p)) h'') ∨ (q_k h (q_e h p) ≠ 5 ∧ pG h op (q_e h p) l h'')) := by
  obtain ⟨F, mk, rfl, g40, g35, g36, g1, g2, g3, g39, gr⟩ := g
  refine Ct.mono (fun x y q => ?_) (c_next hL ht hy (p := q_e h p) (F := F) (mk := mk) (fun _ => ⟨g35, q_e_le g1⟩))
  obtain ⟨rfl, F', q, q2 | q2⟩ := q
  · obtain ⟨-, q3, q4, q5, q6⟩ := q2
    refine ⟨rfl, ?_⟩
    rcases q6 with ⟨q6, q7⟩ | ⟨q6, q7, q8, q9⟩
    · exact Or.inl ⟨q6, F', mk, q, by omega, q5, by omega⟩
    · exact Or.inr ⟨q6, F', mk, q, q7, q8, q5, q_e_le g1, q6, q9, by omega, by rw [q3]; exact gr⟩
  · exact absurd g40 q2.1
/-- what is asked of a good state -/
theorem is_2 {h h' : AH} {op k : Int} {p : Nat} {l : List Int} (g : pG h op p l h') (hk : 2 ≤ k ∧ k ≤ 4) : m_is h' 2 (k - 2) ↔ q_k h p = k := by
  obtain ⟨F, mk, rfl, g40, g35, g36, g1, g2, g3, g39, gr⟩ := g
  unfold m_is
  rw [hP_F (by omega), hP_F (by omega), hP_F (by omega)]
  rcases g3 with ⟨a, b⟩ | ⟨a, b, c⟩ | ⟨a, b, c⟩ | ⟨a, b, c⟩ <;> constructor <;> intro q <;> omega
theorem is_3 {h h' : AH} {op k : Int} {p : Nat} {l : List Int} (g : pG h op p l h') (hk : 5 < k) : m_is h' 3 k ↔ q_k h p = k := by
  obtain ⟨F, mk, rfl, g40, g35, g36, g1, g2, g3, g39, gr⟩ := g
  unfold m_is
  rw [hP_F (by omega), hP_F (by omega), hP_F (by omega)]
  rcases g3 with ⟨a, b⟩ | ⟨a, b, c⟩ | ⟨a, b, c⟩ | ⟨a, b, c⟩ <;> constructor <;> intro q <;> omega
theorem is_1 {h h' : AH} {op : Int} {p : Nat} {l : List Int} (g : pG h op p l h') : iH h' 89 37 = 1 ↔ q_k h p = 1 := by
  obtain ⟨F, mk, rfl, g40, g35, g36, g1, g2, g3, g39, gr⟩ := g
  rw [hP_F (by omega)]
  rcases g3 with ⟨a, b⟩ | ⟨a, b, c⟩ | ⟨a, b, c⟩ | ⟨a, b, c⟩ <;> constructor <;> intro q <;> omega
theorem is_E {h h' : AH} {op t v : Int} {e : Nat} (g : pE h op e h') : ¬ m_is h' t v := by
  obtain ⟨F, mk, rfl, g40, g36, g39⟩ := g
  unfold m_is
  rw [hP_F (by omega)]
  exact fun q => by omega
