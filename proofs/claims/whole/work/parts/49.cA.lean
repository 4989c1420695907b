/-! THE CLASS: SMALL METHODS, THE TAPE -/
section
theorem dn {P : Nat → Prop} (n : Nat) (e : ∀ k, n ≤ k → P k) (s : ∀ k, k < n → P (k + 1) → P k) : ∀ k, P k := by
  have : ∀ f k, n - k ≤ f → P k := by
    intro f
    induction f with
    | zero => exact fun k hk => e k (by omega)
    | succ f ih => exact fun k hk => if c : k < n then s k c (ih (k + 1) (by omega)) else e k (by omega)
  exact fun k => this _ k (Nat.le_refl _)
end
theorem len_r {lo : List (Option AV)} {st : List AV} {h : AH} {a t n : Nat} {es : List IE} {K : KT} (hk : a < nH h ∧ kH h a = (t, n)) (w : wpB es lo (vi (n : Int) :: st) h K) : wpB es lo (vi ((kH h a).2 : Int) :: st) h K := by rw [hk.2]; exact w
def b_X11_isByte_0 : List IE := [(.iload_n 0, 1, 0, 0, 0, 0)]
theorem k_X11_isByte_0 : ckIf mX11_isByte 11 0 b_X11_isByte_0 1 2 14 15 4 = true := by decide +kernel
def b_X11_isByte_4 : List IE := [(.iload_n 0, 1, 0, 0, 0, 0), (.sipush 255, 3, 255, 0, 0, 0)]
theorem k_X11_isByte_4 : ckIc mX11_isByte 11 4 b_X11_isByte_4 8 4 7 15 11 = true := by decide +kernel
def b_X11_isByte_11 : List IE := [(.iconst 1, 1, 1, 0, 0, 0)]
theorem k_X11_isByte_11 : ckGo mX11_isByte 11 11 b_X11_isByte_11 12 4 16 = true := by decide +kernel
def b_X11_isByte_15 : List IE := [(.iconst 0, 1, 0, 0, 0, 0)]
theorem k_X11_isByte_15 : ckZ mX11_isByte 11 15 b_X11_isByte_15 16 = true := by decide +kernel
def b_X11_isByte_16 : List IE := []
theorem k_X11_isByte_16 : ckZ mX11_isByte 11 16 b_X11_isByte_16 16 = true := by decide +kernel
theorem t_X11_isByte_0 {rc rs : Nat} {Q : Option AV → AH → Prop} {h : AH} {x0 : Int} (hv : ((x0 < 0 → Q (some (vi 0)) h) ∧ (0 ≤ x0 → ((255 < x0 → Q (some (vi 0)) h) ∧ (x0 ≤ 255 → Q (some (vi 1)) h))))) : wp mX11_isByte 0 rc rs Q 0 [some (vi x0)] [] h :=
  (show wp mX11_isByte 0 rc rs Q 0 [some (vi x0)] [] h from xIf k_X11_isByte_0 (And.intro (fun c1 => have v3 := hv.1 c1; (show wp mX11_isByte 0 rc rs Q 15 [some (vi x0)] [] h from xZ k_X11_isByte_15 (And.intro rfl (And.intro (Or.inl rfl) v3)))) (fun c2 => have v4 := hv.2 (Int.not_lt.mp c2); (show wp mX11_isByte 0 rc rs Q 4 [some (vi x0)] [] h from xIc k_X11_isByte_4 (And.intro (fun c5 => have v7 := v4.1 c5; (show wp mX11_isByte 0 rc rs Q 15 [some (vi x0)] [] h from xZ k_X11_isByte_15 (And.intro rfl (And.intro (Or.inl rfl) v7)))) (fun c6 => have v8 := v4.2 (Int.not_lt.mp c6); (show wp mX11_isByte 0 rc rs Q 11 [some (vi x0)] [] h from xGo k_X11_isByte_11 (show wp mX11_isByte 0 rc rs Q 16 [some (vi x0)] [vi 1] h from xZ k_X11_isByte_16 (And.intro rfl (And.intro (Or.inr rfl) v8))))))))))
theorem e_X11_isByte {mc ms : Nat} {Q : Option AV → AH → Prop} {h : AH} {x0 : Int} (hv : ((x0 < 0 → Q (some (vi 0)) h) ∧ (0 ≤ x0 → ((255 < x0 → Q (some (vi 0)) h) ∧ (x0 ≤ 255 → Q (some (vi 1)) h))))) : Ct 0 mc ms mX11_isByte [vi x0] h Q := Ct.of (by decide +kernel) (Nat.le_of_ble_eq_true rfl) (t_X11_isByte_0 hv)
def b_X11_isKey_0 : List IE := [(.iload_n 0, 1, 0, 0, 0, 0)]
theorem k_X11_isKey_0 : ckIf mX11_isKey 11 0 b_X11_isKey_0 1 2 13 14 4 = true := by decide +kernel
def b_X11_isKey_4 : List IE := [(.iload_n 0, 1, 0, 0, 0, 0), (.bipush 100, 2, 100, 0, 0, 0)]
theorem k_X11_isKey_4 : ckIc mX11_isKey 11 4 b_X11_isKey_4 7 3 7 14 10 = true := by decide +kernel
def b_X11_isKey_10 : List IE := [(.iconst 1, 1, 1, 0, 0, 0)]
theorem k_X11_isKey_10 : ckGo mX11_isKey 11 10 b_X11_isKey_10 11 4 15 = true := by decide +kernel
def b_X11_isKey_14 : List IE := [(.iconst 0, 1, 0, 0, 0, 0)]
theorem k_X11_isKey_14 : ckZ mX11_isKey 11 14 b_X11_isKey_14 15 = true := by decide +kernel
def b_X11_isKey_15 : List IE := []
theorem k_X11_isKey_15 : ckZ mX11_isKey 11 15 b_X11_isKey_15 15 = true := by decide +kernel
theorem t_X11_isKey_0 {rc rs : Nat} {Q : Option AV → AH → Prop} {h : AH} {x0 : Int} (hv : ((x0 < 0 → Q (some (vi 0)) h) ∧ (0 ≤ x0 → ((100 ≤ x0 → Q (some (vi 0)) h) ∧ (x0 < 100 → Q (some (vi 1)) h))))) : wp mX11_isKey 0 rc rs Q 0 [some (vi x0)] [] h :=
  (show wp mX11_isKey 0 rc rs Q 0 [some (vi x0)] [] h from xIf k_X11_isKey_0 (And.intro (fun c1 => have v3 := hv.1 c1; (show wp mX11_isKey 0 rc rs Q 14 [some (vi x0)] [] h from xZ k_X11_isKey_14 (And.intro rfl (And.intro (Or.inl rfl) v3)))) (fun c2 => have v4 := hv.2 (Int.not_lt.mp c2); (show wp mX11_isKey 0 rc rs Q 4 [some (vi x0)] [] h from xIc k_X11_isKey_4 (And.intro (fun c5 => have v7 := v4.1 c5; (show wp mX11_isKey 0 rc rs Q 14 [some (vi x0)] [] h from xZ k_X11_isKey_14 (And.intro rfl (And.intro (Or.inl rfl) v7)))) (fun c6 => have v8 := v4.2 (Int.not_le.mp c6); (show wp mX11_isKey 0 rc rs Q 10 [some (vi x0)] [] h from xGo k_X11_isKey_10 (show wp mX11_isKey 0 rc rs Q 15 [some (vi x0)] [vi 1] h from xZ k_X11_isKey_15 (And.intro rfl (And.intro (Or.inr rfl) v8))))))))))
theorem e_X11_isKey {mc ms : Nat} {Q : Option AV → AH → Prop} {h : AH} {x0 : Int} (hv : ((x0 < 0 → Q (some (vi 0)) h) ∧ (0 ≤ x0 → ((100 ≤ x0 → Q (some (vi 0)) h) ∧ (x0 < 100 → Q (some (vi 1)) h))))) : Ct 0 mc ms mX11_isKey [vi x0] h Q := Ct.of (by decide +kernel) (Nat.le_of_ble_eq_true rfl) (t_X11_isKey_0 hv)
def b_X11_isView_0 : List IE := [(.iload_n 0, 1, 0, 0, 0, 0)]
theorem k_X11_isView_0 : ckIf mX11_isView 11 0 b_X11_isView_0 1 2 12 13 4 = true := by decide +kernel
def b_X11_isView_4 : List IE := [(.iload_n 0, 1, 0, 0, 0, 0), (.iconst 4, 1, 4, 0, 0, 0)]
theorem k_X11_isView_4 : ckIc mX11_isView 11 4 b_X11_isView_4 6 3 7 13 9 = true := by decide +kernel
def b_X11_isView_9 : List IE := [(.iconst 1, 1, 1, 0, 0, 0)]
theorem k_X11_isView_9 : ckGo mX11_isView 11 9 b_X11_isView_9 10 4 14 = true := by decide +kernel
def b_X11_isView_13 : List IE := [(.iconst 0, 1, 0, 0, 0, 0)]
theorem k_X11_isView_13 : ckZ mX11_isView 11 13 b_X11_isView_13 14 = true := by decide +kernel
def b_X11_isView_14 : List IE := []
theorem k_X11_isView_14 : ckZ mX11_isView 11 14 b_X11_isView_14 14 = true := by decide +kernel
theorem t_X11_isView_0 {rc rs : Nat} {Q : Option AV → AH → Prop} {h : AH} {x0 : Int} (hv : ((x0 < 0 → Q (some (vi 0)) h) ∧ (0 ≤ x0 → ((4 ≤ x0 → Q (some (vi 0)) h) ∧ (x0 < 4 → Q (some (vi 1)) h))))) : wp mX11_isView 0 rc rs Q 0 [some (vi x0)] [] h :=
  (show wp mX11_isView 0 rc rs Q 0 [some (vi x0)] [] h from xIf k_X11_isView_0 (And.intro (fun c1 => have v3 := hv.1 c1; (show wp mX11_isView 0 rc rs Q 13 [some (vi x0)] [] h from xZ k_X11_isView_13 (And.intro rfl (And.intro (Or.inl rfl) v3)))) (fun c2 => have v4 := hv.2 (Int.not_lt.mp c2); (show wp mX11_isView 0 rc rs Q 4 [some (vi x0)] [] h from xIc k_X11_isView_4 (And.intro (fun c5 => have v7 := v4.1 c5; (show wp mX11_isView 0 rc rs Q 13 [some (vi x0)] [] h from xZ k_X11_isView_13 (And.intro rfl (And.intro (Or.inl rfl) v7)))) (fun c6 => have v8 := v4.2 (Int.not_le.mp c6); (show wp mX11_isView 0 rc rs Q 9 [some (vi x0)] [] h from xGo k_X11_isView_9 (show wp mX11_isView 0 rc rs Q 14 [some (vi x0)] [vi 1] h from xZ k_X11_isView_14 (And.intro rfl (And.intro (Or.inr rfl) v8))))))))))
theorem e_X11_isView {mc ms : Nat} {Q : Option AV → AH → Prop} {h : AH} {x0 : Int} (hv : ((x0 < 0 → Q (some (vi 0)) h) ∧ (0 ≤ x0 → ((4 ≤ x0 → Q (some (vi 0)) h) ∧ (x0 < 4 → Q (some (vi 1)) h))))) : Ct 0 mc ms mX11_isView [vi x0] h Q := Ct.of (by decide +kernel) (Nat.le_of_ble_eq_true rfl) (t_X11_isView_0 hv)
def b_X11_isSheet_0 : List IE := [(.iload_n 0, 1, 0, 0, 0, 0)]
theorem k_X11_isSheet_0 : ckIf mX11_isSheet 11 0 b_X11_isSheet_0 1 2 12 13 4 = true := by decide +kernel
def b_X11_isSheet_4 : List IE := [(.iload_n 0, 1, 0, 0, 0, 0), (.iconst 4, 1, 4, 0, 0, 0)]
theorem k_X11_isSheet_4 : ckIc mX11_isSheet 11 4 b_X11_isSheet_4 6 3 7 13 9 = true := by decide +kernel
def b_X11_isSheet_9 : List IE := [(.iconst 1, 1, 1, 0, 0, 0)]
theorem k_X11_isSheet_9 : ckGo mX11_isSheet 11 9 b_X11_isSheet_9 10 4 14 = true := by decide +kernel
def b_X11_isSheet_13 : List IE := [(.iconst 0, 1, 0, 0, 0, 0)]
theorem k_X11_isSheet_13 : ckZ mX11_isSheet 11 13 b_X11_isSheet_13 14 = true := by decide +kernel
def b_X11_isSheet_14 : List IE := []
theorem k_X11_isSheet_14 : ckZ mX11_isSheet 11 14 b_X11_isSheet_14 14 = true := by decide +kernel
theorem t_X11_isSheet_0 {rc rs : Nat} {Q : Option AV → AH → Prop} {h : AH} {x0 : Int} (hv : ((x0 < 0 → Q (some (vi 0)) h) ∧ (0 ≤ x0 → ((4 ≤ x0 → Q (some (vi 0)) h) ∧ (x0 < 4 → Q (some (vi 1)) h))))) : wp mX11_isSheet 0 rc rs Q 0 [some (vi x0)] [] h :=
  (show wp mX11_isSheet 0 rc rs Q 0 [some (vi x0)] [] h from xIf k_X11_isSheet_0 (And.intro (fun c1 => have v3 := hv.1 c1; (show wp mX11_isSheet 0 rc rs Q 13 [some (vi x0)] [] h from xZ k_X11_isSheet_13 (And.intro rfl (And.intro (Or.inl rfl) v3)))) (fun c2 => have v4 := hv.2 (Int.not_lt.mp c2); (show wp mX11_isSheet 0 rc rs Q 4 [some (vi x0)] [] h from xIc k_X11_isSheet_4 (And.intro (fun c5 => have v7 := v4.1 c5; (show wp mX11_isSheet 0 rc rs Q 13 [some (vi x0)] [] h from xZ k_X11_isSheet_13 (And.intro rfl (And.intro (Or.inl rfl) v7)))) (fun c6 => have v8 := v4.2 (Int.not_le.mp c6); (show wp mX11_isSheet 0 rc rs Q 9 [some (vi x0)] [] h from xGo k_X11_isSheet_9 (show wp mX11_isSheet 0 rc rs Q 14 [some (vi x0)] [vi 1] h from xZ k_X11_isSheet_14 (And.intro rfl (And.intro (Or.inr rfl) v8))))))))))
theorem e_X11_isSheet {mc ms : Nat} {Q : Option AV → AH → Prop} {h : AH} {x0 : Int} (hv : ((x0 < 0 → Q (some (vi 0)) h) ∧ (0 ≤ x0 → ((4 ≤ x0 → Q (some (vi 0)) h) ∧ (x0 < 4 → Q (some (vi 1)) h))))) : Ct 0 mc ms mX11_isSheet [vi x0] h Q := Ct.of (by decide +kernel) (Nat.le_of_ble_eq_true rfl) (t_X11_isSheet_0 hv)
def b_X11_isSegment_0 : List IE := [(.iload_n 1, 1, 0, 0, 1, 0)]
theorem k_X11_isSegment_0 : ckIf mX11_isSegment 11 0 b_X11_isSegment_0 1 2 18 19 4 = true := by decide +kernel
def b_X11_isSegment_4 : List IE := [(.iload_n 1, 1, 0, 0, 1, 0), (.aload_n 0, 1, 0, 0, 0, 0), (.getfield 25, 3, 0, 11, 3, 1), (.getfield 153, 3, 0, 9, 2, 0)]
theorem k_X11_isSegment_4 : ckIc mX11_isSegment 11 4 b_X11_isSegment_4 12 3 7 19 15 = true := by decide +kernel
def b_X11_isSegment_15 : List IE := [(.iconst 1, 1, 1, 0, 0, 0)]
theorem k_X11_isSegment_15 : ckGo mX11_isSegment 11 15 b_X11_isSegment_15 16 4 20 = true := by decide +kernel
def b_X11_isSegment_19 : List IE := [(.iconst 0, 1, 0, 0, 0, 0)]
theorem k_X11_isSegment_19 : ckZ mX11_isSegment 11 19 b_X11_isSegment_19 20 = true := by decide +kernel
def b_X11_isSegment_20 : List IE := []
theorem k_X11_isSegment_20 : ckZ mX11_isSegment 11 20 b_X11_isSegment_20 20 = true := by decide +kernel
theorem t_X11_isSegment_0 {rc rs : Nat} {Q : Option AV → AH → Prop} {h : AH} {x1 : Int} (hL : LayL h) (hv : ((x1 < 0 → Q (some (vi 0)) h) ∧ (0 ≤ x1 → (((iH h 5 2) ≤ x1 → Q (some (vi 0)) h) ∧ (x1 < (iH h 5 2) → Q (some (vi 1)) h))))) : wp mX11_isSegment 0 rc rs Q 0 [some (vr 0), some (vi x1)] [] h :=
  (show wp mX11_isSegment 0 rc rs Q 0 [some (vr 0), some (vi x1)] [] h from xIf k_X11_isSegment_0 (And.intro (fun c1 => have v3 := hv.1 c1; (show wp mX11_isSegment 0 rc rs Q 19 [some (vr 0), some (vi x1)] [] h from xZ k_X11_isSegment_19 (And.intro rfl (And.intro (Or.inl rfl) v3)))) (fun c2 => have v4 := hv.2 (Int.not_lt.mp c2); (show wp mX11_isSegment 0 rc rs Q 4 [some (vr 0), some (vi x1)] [] h from xIc k_X11_isSegment_4 (And.intro (ll_0 hL) (Exists.intro 5 (And.intro (lg_0_3 hL) (And.intro (ll_5 hL) (And.intro (fun c5 => have v7 := v4.1 c5; (show wp mX11_isSegment 0 rc rs Q 19 [some (vr 0), some (vi x1)] [] h from xZ k_X11_isSegment_19 (And.intro rfl (And.intro (Or.inl rfl) v7)))) (fun c6 => have v8 := v4.2 (Int.not_le.mp c6); (show wp mX11_isSegment 0 rc rs Q 15 [some (vr 0), some (vi x1)] [] h from xGo k_X11_isSegment_15 (show wp mX11_isSegment 0 rc rs Q 20 [some (vr 0), some (vi x1)] [vi 1] h from xZ k_X11_isSegment_20 (And.intro rfl (And.intro (Or.inr rfl) v8))))))))))))))
theorem e_X11_isSegment {mc ms : Nat} {Q : Option AV → AH → Prop} {h : AH} {x1 : Int} (hL : LayL h) (hv : ((x1 < 0 → Q (some (vi 0)) h) ∧ (0 ≤ x1 → (((iH h 5 2) ≤ x1 → Q (some (vi 0)) h) ∧ (x1 < (iH h 5 2) → Q (some (vi 1)) h))))) : Ct 0 mc ms mX11_isSegment [vr 0, vi x1] h Q := Ct.of (by decide +kernel) (Nat.le_of_ble_eq_true rfl) (t_X11_isSegment_0 hL hv)
def b_X11_isQuery_0 : List IE := [(.iload_n 1, 1, 0, 0, 1, 0)]
theorem k_X11_isQuery_0 : ckIf mX11_isQuery 11 0 b_X11_isQuery_0 1 2 15 16 4 = true := by decide +kernel
def b_X11_isQuery_4 : List IE := [(.iload_n 1, 1, 0, 0, 1, 0), (.aload_n 0, 1, 0, 0, 0, 0), (.getfield 285, 3, 0, 11, 13, 0)]
theorem k_X11_isQuery_4 : ckIc mX11_isQuery 11 4 b_X11_isQuery_4 9 3 7 16 12 = true := by decide +kernel
def b_X11_isQuery_12 : List IE := [(.iconst 1, 1, 1, 0, 0, 0)]
theorem k_X11_isQuery_12 : ckGo mX11_isQuery 11 12 b_X11_isQuery_12 13 4 17 = true := by decide +kernel
def b_X11_isQuery_16 : List IE := [(.iconst 0, 1, 0, 0, 0, 0)]
theorem k_X11_isQuery_16 : ckZ mX11_isQuery 11 16 b_X11_isQuery_16 17 = true := by decide +kernel
def b_X11_isQuery_17 : List IE := []
theorem k_X11_isQuery_17 : ckZ mX11_isQuery 11 17 b_X11_isQuery_17 17 = true := by decide +kernel
theorem t_X11_isQuery_0 {rc rs : Nat} {Q : Option AV → AH → Prop} {h : AH} {x1 : Int} (hL : LayL h) (hv : ((x1 < 0 → Q (some (vi 0)) h) ∧ (0 ≤ x1 → (((iH h 0 13) ≤ x1 → Q (some (vi 0)) h) ∧ (x1 < (iH h 0 13) → Q (some (vi 1)) h))))) : wp mX11_isQuery 0 rc rs Q 0 [some (vr 0), some (vi x1)] [] h :=
  (show wp mX11_isQuery 0 rc rs Q 0 [some (vr 0), some (vi x1)] [] h from xIf k_X11_isQuery_0 (And.intro (fun c1 => have v3 := hv.1 c1; (show wp mX11_isQuery 0 rc rs Q 16 [some (vr 0), some (vi x1)] [] h from xZ k_X11_isQuery_16 (And.intro rfl (And.intro (Or.inl rfl) v3)))) (fun c2 => have v4 := hv.2 (Int.not_lt.mp c2); (show wp mX11_isQuery 0 rc rs Q 4 [some (vr 0), some (vi x1)] [] h from xIc k_X11_isQuery_4 (And.intro (ll_0 hL) (And.intro (fun c5 => have v7 := v4.1 c5; (show wp mX11_isQuery 0 rc rs Q 16 [some (vr 0), some (vi x1)] [] h from xZ k_X11_isQuery_16 (And.intro rfl (And.intro (Or.inl rfl) v7)))) (fun c6 => have v8 := v4.2 (Int.not_le.mp c6); (show wp mX11_isQuery 0 rc rs Q 12 [some (vr 0), some (vi x1)] [] h from xGo k_X11_isQuery_12 (show wp mX11_isQuery 0 rc rs Q 17 [some (vr 0), some (vi x1)] [vi 1] h from xZ k_X11_isQuery_17 (And.intro rfl (And.intro (Or.inr rfl) v8)))))))))))
theorem e_X11_isQuery {mc ms : Nat} {Q : Option AV → AH → Prop} {h : AH} {x1 : Int} (hL : LayL h) (hv : ((x1 < 0 → Q (some (vi 0)) h) ∧ (0 ≤ x1 → (((iH h 0 13) ≤ x1 → Q (some (vi 0)) h) ∧ (x1 < (iH h 0 13) → Q (some (vi 1)) h))))) : Ct 0 mc ms mX11_isQuery [vr 0, vi x1] h Q := Ct.of (by decide +kernel) (Nat.le_of_ble_eq_true rfl) (t_X11_isQuery_0 hL hv)
def b_X1_isAnswer_0 : List IE := [(.iload_n 0, 1, 0, 0, 0, 0), (.bipush 10, 2, 10, 0, 0, 0)]
theorem k_X1_isAnswer_0 : ckIc mX1_isAnswer 1 0 b_X1_isAnswer_0 3 3 18 21 6 = true := by decide +kernel
def b_X1_isAnswer_6 : List IE := [(.iload_n 0, 1, 0, 0, 0, 0)]
theorem k_X1_isAnswer_6 : ckIf mX1_isAnswer 1 6 b_X1_isAnswer_6 7 2 12 19 10 = true := by decide +kernel
def b_X1_isAnswer_10 : List IE := [(.iload_n 0, 1, 0, 0, 0, 0), (.iconst 2, 1, 2, 0, 0, 0)]
theorem k_X1_isAnswer_10 : ckIc mX1_isAnswer 1 10 b_X1_isAnswer_10 12 4 7 19 15 = true := by decide +kernel
def b_X1_isAnswer_15 : List IE := [(.iconst 1, 1, 1, 0, 0, 0)]
theorem k_X1_isAnswer_15 : ckGo mX1_isAnswer 1 15 b_X1_isAnswer_15 16 4 20 = true := by decide +kernel
def b_X1_isAnswer_19 : List IE := [(.iconst 0, 1, 0, 0, 0, 0)]
theorem k_X1_isAnswer_19 : ckZ mX1_isAnswer 1 19 b_X1_isAnswer_19 20 = true := by decide +kernel
def b_X1_isAnswer_20 : List IE := []
theorem k_X1_isAnswer_20 : ckZ mX1_isAnswer 1 20 b_X1_isAnswer_20 20 = true := by decide +kernel
def b_X1_isAnswer_21 : List IE := [(.iload_n 0, 1, 0, 0, 0, 0), (.bipush 74, 2, 74, 0, 0, 0)]
theorem k_X1_isAnswer_21 : ckIc mX1_isAnswer 1 21 b_X1_isAnswer_21 24 2 16 40 27 = true := by decide +kernel
def b_X1_isAnswer_27 : List IE := [(.iload_n 0, 1, 0, 0, 0, 0), (.bipush 100, 2, 100, 0, 0, 0)]
theorem k_X1_isAnswer_27 : ckIc mX1_isAnswer 1 27 b_X1_isAnswer_27 30 2 14 44 33 = true := by decide +kernel
def b_X1_isAnswer_33 : List IE := [(.iload_n 0, 1, 0, 0, 0, 0), (.sipush 164, 3, 164, 0, 0, 0)]
theorem k_X1_isAnswer_33 : ckIc mX1_isAnswer 1 33 b_X1_isAnswer_33 37 3 7 44 40 = true := by decide +kernel
def b_X1_isAnswer_40 : List IE := [(.iconst 1, 1, 1, 0, 0, 0)]
theorem k_X1_isAnswer_40 : ckGo mX1_isAnswer 1 40 b_X1_isAnswer_40 41 4 45 = true := by decide +kernel
def b_X1_isAnswer_44 : List IE := [(.iconst 0, 1, 0, 0, 0, 0)]
theorem k_X1_isAnswer_44 : ckZ mX1_isAnswer 1 44 b_X1_isAnswer_44 45 = true := by decide +kernel
def b_X1_isAnswer_45 : List IE := []
theorem k_X1_isAnswer_45 : ckZ mX1_isAnswer 1 45 b_X1_isAnswer_45 45 = true := by decide +kernel
theorem t_X1_isAnswer_0 {rc rs : Nat} {Q : Option AV → AH → Prop} {h : AH} {x0 : Int} (hv : ((10 ≤ x0 → ((x0 < 74 → Q (some (vi 1)) h) ∧ (74 ≤ x0 → ((x0 < 100 → Q (some (vi 0)) h) ∧ (100 ≤ x0 → ((164 ≤ x0 → Q (some (vi 0)) h) ∧ (x0 < 164 → Q (some (vi 1)) h))))))) ∧ (x0 < 10 → ((x0 < 0 → Q (some (vi 0)) h) ∧ (0 ≤ x0 → ((2 < x0 → Q (some (vi 0)) h) ∧ (x0 ≤ 2 → Q (some (vi 1)) h))))))) : wp mX1_isAnswer 0 rc rs Q 0 [some (vi x0)] [] h :=
  (show wp mX1_isAnswer 0 rc rs Q 0 [some (vi x0)] [] h from xIc k_X1_isAnswer_0 (And.intro (fun c1 => have v3 := hv.1 c1; (show wp mX1_isAnswer 0 rc rs Q 21 [some (vi x0)] [] h from xIc k_X1_isAnswer_21 (And.intro (fun c5 => have v7 := v3.1 c5; (show wp mX1_isAnswer 0 rc rs Q 40 [some (vi x0)] [] h from xGo k_X1_isAnswer_40 (show wp mX1_isAnswer 0 rc rs Q 45 [some (vi x0)] [vi 1] h from xZ k_X1_isAnswer_45 (And.intro rfl (And.intro (Or.inr rfl) v7))))) (fun c6 => have v8 := v3.2 (Int.not_lt.mp c6); (show wp mX1_isAnswer 0 rc rs Q 27 [some (vi x0)] [] h from xIc k_X1_isAnswer_27 (And.intro (fun c9 => have v11 := v8.1 c9; (show wp mX1_isAnswer 0 rc rs Q 44 [some (vi x0)] [] h from xZ k_X1_isAnswer_44 (And.intro rfl (And.intro (Or.inl rfl) v11)))) (fun c10 => have v12 := v8.2 (Int.not_lt.mp c10); (show wp mX1_isAnswer 0 rc rs Q 33 [some (vi x0)] [] h from xIc k_X1_isAnswer_33 (And.intro (fun c13 => have v15 := v12.1 c13; (show wp mX1_isAnswer 0 rc rs Q 44 [some (vi x0)] [] h from xZ k_X1_isAnswer_44 (And.intro rfl (And.intro (Or.inl rfl) v15)))) (fun c14 => have v16 := v12.2 (Int.not_le.mp c14); (show wp mX1_isAnswer 0 rc rs Q 40 [some (vi x0)] [] h from xGo k_X1_isAnswer_40 (show wp mX1_isAnswer 0 rc rs Q 45 [some (vi x0)] [vi 1] h from xZ k_X1_isAnswer_45 (And.intro rfl (And.intro (Or.inr rfl) v16)))))))))))))) (fun c2 => have v4 := hv.2 (Int.not_le.mp c2); (show wp mX1_isAnswer 0 rc rs Q 6 [some (vi x0)] [] h from xIf k_X1_isAnswer_6 (And.intro (fun c17 => have v19 := v4.1 c17; (show wp mX1_isAnswer 0 rc rs Q 19 [some (vi x0)] [] h from xZ k_X1_isAnswer_19 (And.intro rfl (And.intro (Or.inl rfl) v19)))) (fun c18 => have v20 := v4.2 (Int.not_lt.mp c18); (show wp mX1_isAnswer 0 rc rs Q 10 [some (vi x0)] [] h from xIc k_X1_isAnswer_10 (And.intro (fun c21 => have v23 := v20.1 c21; (show wp mX1_isAnswer 0 rc rs Q 19 [some (vi x0)] [] h from xZ k_X1_isAnswer_19 (And.intro rfl (And.intro (Or.inl rfl) v23)))) (fun c22 => have v24 := v20.2 (Int.not_lt.mp c22); (show wp mX1_isAnswer 0 rc rs Q 15 [some (vi x0)] [] h from xGo k_X1_isAnswer_15 (show wp mX1_isAnswer 0 rc rs Q 20 [some (vi x0)] [vi 1] h from xZ k_X1_isAnswer_20 (And.intro rfl (And.intro (Or.inr rfl) v24)))))))))))))
theorem e_X1_isAnswer {mc ms : Nat} {Q : Option AV → AH → Prop} {h : AH} {x0 : Int} (hv : ((10 ≤ x0 → ((x0 < 74 → Q (some (vi 1)) h) ∧ (74 ≤ x0 → ((x0 < 100 → Q (some (vi 0)) h) ∧ (100 ≤ x0 → ((164 ≤ x0 → Q (some (vi 0)) h) ∧ (x0 < 164 → Q (some (vi 1)) h))))))) ∧ (x0 < 10 → ((x0 < 0 → Q (some (vi 0)) h) ∧ (0 ≤ x0 → ((2 < x0 → Q (some (vi 0)) h) ∧ (x0 ≤ 2 → Q (some (vi 1)) h))))))) : Ct 0 mc ms mX1_isAnswer [vi x0] h Q := Ct.of (by decide +kernel) (Nat.le_of_ble_eq_true rfl) (t_X1_isAnswer_0 hv)
def b_X10_append_0 : List IE := [(.aload_n 0, 1, 0, 0, 0, 0), (.getfield 18, 3, 0, 10, 1, 0), (.bipush 64, 2, 64, 0, 0, 0)]
theorem k_X10_append_0 : ckIc mX10_append 10 0 b_X10_append_0 6 3 23 29 9 = true := by decide +kernel
def b_X10_append_9 : List IE := [(.aload_n 0, 1, 0, 0, 0, 0), (.getfield 9, 3, 0, 10, 0, 1), (.aload_n 0, 1, 0, 0, 0, 0), (.getfield 18, 3, 0, 10, 1, 0), (.iload_n 1, 1, 0, 0, 1, 0), (.iastore, 1, 0, 0, 0, 0), (.aload_n 0, 1, 0, 0, 0, 0), (.dup, 1, 0, 0, 0, 0), (.getfield 18, 3, 0, 10, 1, 0), (.iconst 1, 1, 1, 0, 0, 0), (.iadd, 1, 0, 0, 0, 0), (.putfield 18, 3, 0, 10, 1, 0)]
theorem k_X10_append_9 : ckV mX10_append 10 9 b_X10_append_9 29 = true := by decide +kernel
def b_X10_append_29 : List IE := []
theorem k_X10_append_29 : ckV mX10_append 10 29 b_X10_append_29 29 = true := by decide +kernel
theorem t_X10_append_0 {rc rs : Nat} {Q : Option AV → AH → Prop} {h : AH} {x1 : Int} (hL : LayL h) (hv : ((64 ≤ (iH h 1 1) → Q none h) ∧ ((iH h 1 1) < 64 → (0 ≤ iH h 1 1 ∧ iH h 1 1 < 64) ∧ (-2147483648 ≤ (iH h 1 1 + 1) ∧ (iH h 1 1 + 1) < 2147483648) ∧ Q none (sI (sI h 2 ((iH h 1 1).toNat) x1) 1 1 (iH h 1 1 + 1))))) : wp mX10_append 0 rc rs Q 0 [some (vr 1), some (vi x1)] [] h :=
  (show wp mX10_append 0 rc rs Q 0 [some (vr 1), some (vi x1)] [] h from xIc k_X10_append_0 (And.intro (ll_1 hL) (And.intro (fun c1 => have v3 := hv.1 c1; (show wp mX10_append 0 rc rs Q 29 [some (vr 1), some (vi x1)] [] h from xV k_X10_append_29 (And.intro rfl v3))) (fun c2 => have v4 := hv.2 (Int.not_le.mp c2); (show wp mX10_append 0 rc rs Q 9 [some (vr 1), some (vi x1)] [] h from xV k_X10_append_9 (And.intro (ll_1 hL) (Exists.intro 2 (And.intro (lg_1_0 hL) (And.intro (ll_1 hL) (have c5 := v4.1; have v8 := v4.2; (And.intro (sdI (ll_2 hL) c5) (And.intro rfl (And.intro (ll_1 hL) (have c6 := v8.1; have v7 := v8.2; (And.intro c6 (And.intro (ll_1 hL) (And.intro rfl v7)))))))))))))))))
theorem e_X10_append {mc ms : Nat} {Q : Option AV → AH → Prop} {h : AH} {x1 : Int} (hL : LayL h) (hv : ((64 ≤ (iH h 1 1) → Q none h) ∧ ((iH h 1 1) < 64 → (0 ≤ iH h 1 1 ∧ iH h 1 1 < 64) ∧ (-2147483648 ≤ (iH h 1 1 + 1) ∧ (iH h 1 1 + 1) < 2147483648) ∧ Q none (sI (sI h 2 ((iH h 1 1).toNat) x1) 1 1 (iH h 1 1 + 1))))) : Ct 0 mc ms mX10_append [vr 1, vi x1] h Q := Ct.of (by decide +kernel) (Nat.le_of_ble_eq_true rfl) (t_X10_append_0 hL hv)
def b_X10_behindBlanks_0 : List IE := [(.iload_n 1, 1, 0, 0, 1, 0), (.istore_n 2, 1, 0, 0, 2, 0)]
theorem k_X10_behindBlanks_0 : ckB mX10_behindBlanks 10 0 b_X10_behindBlanks_0 2 = true := by decide +kernel
def b_X10_behindBlanks_2 : List IE := [(.iload_n 2, 1, 0, 0, 2, 0), (.aload_n 0, 1, 0, 0, 0, 0), (.getfield 18, 3, 0, 10, 1, 0)]
theorem k_X10_behindBlanks_2 : ckIc mX10_behindBlanks 10 2 b_X10_behindBlanks_2 7 3 31 38 10 = true := by decide +kernel
def b_X10_behindBlanks_10 : List IE := [(.aload_n 0, 1, 0, 0, 0, 0), (.getfield 9, 3, 0, 10, 0, 1), (.iload_n 2, 1, 0, 0, 2, 0), (.iaload, 1, 0, 0, 0, 0), (.bipush 32, 2, 32, 0, 0, 0)]
theorem k_X10_behindBlanks_10 : ckIc mX10_behindBlanks 10 10 b_X10_behindBlanks_10 18 0 14 32 21 = true := by decide +kernel
def b_X10_behindBlanks_21 : List IE := [(.aload_n 0, 1, 0, 0, 0, 0), (.getfield 9, 3, 0, 10, 0, 1), (.iload_n 2, 1, 0, 0, 2, 0), (.iaload, 1, 0, 0, 0, 0), (.bipush 10, 2, 10, 0, 0, 0)]
theorem k_X10_behindBlanks_21 : ckIc mX10_behindBlanks 10 21 b_X10_behindBlanks_21 29 1 9 38 32 = true := by decide +kernel
def b_X10_behindBlanks_32 : List IE := [(.iinc 2 1, 3, 1, 0, 2, 0)]
theorem k_X10_behindBlanks_32 : ckGo mX10_behindBlanks 10 32 b_X10_behindBlanks_32 35 (-33) 2 = true := by decide +kernel
def b_X10_behindBlanks_38 : List IE := [(.iload_n 2, 1, 0, 0, 2, 0)]
theorem k_X10_behindBlanks_38 : ckI mX10_behindBlanks 10 38 b_X10_behindBlanks_38 39 = true := by decide +kernel
theorem t_X10_behindBlanks_0 {rc rs : Nat} {Q : Option AV → AH → Prop} {h : AH} {x1 : Int} (hL : LayL h) (hv : wp mX10_behindBlanks 0 rc rs Q 2 [some (vr 1), none, some (vi x1)] [] h) : wp mX10_behindBlanks 0 rc rs Q 0 [some (vr 1), some (vi x1), none] [] h :=
  (show wp mX10_behindBlanks 0 rc rs Q 0 [some (vr 1), some (vi x1), none] [] h from xB k_X10_behindBlanks_0 (And.intro rfl (w_fg [true, false, true] hv)))
theorem e_X10_behindBlanks {mc ms : Nat} {Q : Option AV → AH → Prop} {h : AH} {x1 : Int} (hL : LayL h) (hv : wp mX10_behindBlanks 0 mc ms Q 2 [some (vr 1), none, some (vi x1)] [] h) : Ct 0 mc ms mX10_behindBlanks [vr 1, vi x1] h Q := Ct.of (by decide +kernel) (Nat.le_of_ble_eq_true rfl) (t_X10_behindBlanks_0 hL hv)
theorem t_X10_behindBlanks_2 {rc rs : Nat} {Q : Option AV → AH → Prop} {h : AH} {x2 : Int} (hL : LayL h) (hv : (((iH h 1 1) ≤ x2 → Q (some (vi x2)) h) ∧ (x2 < (iH h 1 1) → (0 ≤ x2 ∧ x2 < 64) ∧ (((iH h 2 x2.toNat) = 32 → (-2147483648 ≤ (x2 + 1) ∧ (x2 + 1) < 2147483648) ∧ wp mX10_behindBlanks 0 rc rs Q 2 [some (vr 1), none, some (vi (x2 + 1))] [] h) ∧ ((iH h 2 x2.toNat) ≠ 32 → (((iH h 2 x2.toNat) ≠ 10 → Q (some (vi x2)) h) ∧ ((iH h 2 x2.toNat) = 10 → (-2147483648 ≤ (x2 + 1) ∧ (x2 + 1) < 2147483648) ∧ wp mX10_behindBlanks 0 rc rs Q 2 [some (vr 1), none, some (vi (x2 + 1))] [] h))))))) : wp mX10_behindBlanks 0 rc rs Q 2 [some (vr 1), none, some (vi x2)] [] h :=
  (show wp mX10_behindBlanks 0 rc rs Q 2 [some (vr 1), none, some (vi x2)] [] h from xIc k_X10_behindBlanks_2 (And.intro (ll_1 hL) (And.intro (fun c1 => have v3 := hv.1 c1; (show wp mX10_behindBlanks 0 rc rs Q 38 [some (vr 1), none, some (vi x2)] [] h from xI k_X10_behindBlanks_38 (And.intro rfl v3))) (fun c2 => have v4 := hv.2 (Int.not_le.mp c2); (show wp mX10_behindBlanks 0 rc rs Q 10 [some (vr 1), none, some (vi x2)] [] h from xIc k_X10_behindBlanks_10 (And.intro (ll_1 hL) (Exists.intro 2 (And.intro (lg_1_0 hL) (have c5 := v4.1; have v19 := v4.2; (And.intro (sdI (ll_2 hL) c5) (And.intro (fun c6 => have v8 := v19.1 c6; (show wp mX10_behindBlanks 0 rc rs Q 32 [some (vr 1), none, some (vi x2)] [] h from xGo k_X10_behindBlanks_32 (have c10 := v8.1; have v11 := v8.2; (And.intro c10 (And.intro rfl v11))))) (fun c7 => have v9 := v19.2 c7; (show wp mX10_behindBlanks 0 rc rs Q 21 [some (vr 1), none, some (vi x2)] [] h from xIc k_X10_behindBlanks_21 (And.intro (ll_1 hL) (Exists.intro 2 (And.intro (lg_1_0 hL) (And.intro (sdI (ll_2 hL) c5) (And.intro (fun c13 => have v15 := v9.1 c13; (show wp mX10_behindBlanks 0 rc rs Q 38 [some (vr 1), none, some (vi x2)] [] h from xI k_X10_behindBlanks_38 (And.intro rfl v15))) (fun c14 => have v16 := v9.2 (Decidable.not_not.mp c14); (show wp mX10_behindBlanks 0 rc rs Q 32 [some (vr 1), none, some (vi x2)] [] h from xGo k_X10_behindBlanks_32 (have c17 := v16.1; have v18 := v16.2; (And.intro c17 (And.intro rfl v18)))))))))))))))))))))))
def b_X10_wordEnd_0 : List IE := [(.iload_n 1, 1, 0, 0, 1, 0), (.istore_n 2, 1, 0, 0, 2, 0)]
theorem k_X10_wordEnd_0 : ckB mX10_wordEnd 10 0 b_X10_wordEnd_0 2 = true := by decide +kernel
def b_X10_wordEnd_2 : List IE := [(.iload_n 2, 1, 0, 0, 2, 0), (.aload_n 0, 1, 0, 0, 0, 0), (.getfield 18, 3, 0, 10, 1, 0)]
theorem k_X10_wordEnd_2 : ckIc mX10_wordEnd 10 2 b_X10_wordEnd_2 7 3 31 38 10 = true := by decide +kernel
def b_X10_wordEnd_10 : List IE := [(.aload_n 0, 1, 0, 0, 0, 0), (.getfield 9, 3, 0, 10, 0, 1), (.iload_n 2, 1, 0, 0, 2, 0), (.iaload, 1, 0, 0, 0, 0), (.bipush 97, 2, 97, 0, 0, 0)]
theorem k_X10_wordEnd_10 : ckIc mX10_wordEnd 10 10 b_X10_wordEnd_10 18 2 20 38 21 = true := by decide +kernel
def b_X10_wordEnd_21 : List IE := [(.aload_n 0, 1, 0, 0, 0, 0), (.getfield 9, 3, 0, 10, 0, 1), (.iload_n 2, 1, 0, 0, 2, 0), (.iaload, 1, 0, 0, 0, 0), (.bipush 122, 2, 122, 0, 0, 0)]
theorem k_X10_wordEnd_21 : ckIc mX10_wordEnd 10 21 b_X10_wordEnd_21 29 4 9 38 32 = true := by decide +kernel
def b_X10_wordEnd_32 : List IE := [(.iinc 2 1, 3, 1, 0, 2, 0)]
theorem k_X10_wordEnd_32 : ckGo mX10_wordEnd 10 32 b_X10_wordEnd_32 35 (-33) 2 = true := by decide +kernel
def b_X10_wordEnd_38 : List IE := [(.iload_n 2, 1, 0, 0, 2, 0)]
theorem k_X10_wordEnd_38 : ckI mX10_wordEnd 10 38 b_X10_wordEnd_38 39 = true := by decide +kernel
theorem t_X10_wordEnd_0 {rc rs : Nat} {Q : Option AV → AH → Prop} {h : AH} {x1 : Int} (hL : LayL h) (hv : wp mX10_wordEnd 0 rc rs Q 2 [some (vr 1), none, some (vi x1)] [] h) : wp mX10_wordEnd 0 rc rs Q 0 [some (vr 1), some (vi x1), none] [] h :=
  (show wp mX10_wordEnd 0 rc rs Q 0 [some (vr 1), some (vi x1), none] [] h from xB k_X10_wordEnd_0 (And.intro rfl (w_fg [true, false, true] hv)))
theorem e_X10_wordEnd {mc ms : Nat} {Q : Option AV → AH → Prop} {h : AH} {x1 : Int} (hL : LayL h) (hv : wp mX10_wordEnd 0 mc ms Q 2 [some (vr 1), none, some (vi x1)] [] h) : Ct 0 mc ms mX10_wordEnd [vr 1, vi x1] h Q := Ct.of (by decide +kernel) (Nat.le_of_ble_eq_true rfl) (t_X10_wordEnd_0 hL hv)
theorem t_X10_wordEnd_2 {rc rs : Nat} {Q : Option AV → AH → Prop} {h : AH} {x2 : Int} (hL : LayL h) (hv : (((iH h 1 1) ≤ x2 → Q (some (vi x2)) h) ∧ (x2 < (iH h 1 1) → (0 ≤ x2 ∧ x2 < 64) ∧ (((iH h 2 x2.toNat) < 97 → Q (some (vi x2)) h) ∧ (97 ≤ (iH h 2 x2.toNat) → ((122 < (iH h 2 x2.toNat) → Q (some (vi x2)) h) ∧ ((iH h 2 x2.toNat) ≤ 122 → (-2147483648 ≤ (x2 + 1) ∧ (x2 + 1) < 2147483648) ∧ wp mX10_wordEnd 0 rc rs Q 2 [some (vr 1), none, some (vi (x2 + 1))] [] h))))))) : wp mX10_wordEnd 0 rc rs Q 2 [some (vr 1), none, some (vi x2)] [] h :=
  (show wp mX10_wordEnd 0 rc rs Q 2 [some (vr 1), none, some (vi x2)] [] h from xIc k_X10_wordEnd_2 (And.intro (ll_1 hL) (And.intro (fun c1 => have v3 := hv.1 c1; (show wp mX10_wordEnd 0 rc rs Q 38 [some (vr 1), none, some (vi x2)] [] h from xI k_X10_wordEnd_38 (And.intro rfl v3))) (fun c2 => have v4 := hv.2 (Int.not_le.mp c2); (show wp mX10_wordEnd 0 rc rs Q 10 [some (vr 1), none, some (vi x2)] [] h from xIc k_X10_wordEnd_10 (And.intro (ll_1 hL) (Exists.intro 2 (And.intro (lg_1_0 hL) (have c5 := v4.1; have v17 := v4.2; (And.intro (sdI (ll_2 hL) c5) (And.intro (fun c6 => have v8 := v17.1 c6; (show wp mX10_wordEnd 0 rc rs Q 38 [some (vr 1), none, some (vi x2)] [] h from xI k_X10_wordEnd_38 (And.intro rfl v8))) (fun c7 => have v9 := v17.2 (Int.not_lt.mp c7); (show wp mX10_wordEnd 0 rc rs Q 21 [some (vr 1), none, some (vi x2)] [] h from xIc k_X10_wordEnd_21 (And.intro (ll_1 hL) (Exists.intro 2 (And.intro (lg_1_0 hL) (And.intro (sdI (ll_2 hL) c5) (And.intro (fun c11 => have v13 := v9.1 c11; (show wp mX10_wordEnd 0 rc rs Q 38 [some (vr 1), none, some (vi x2)] [] h from xI k_X10_wordEnd_38 (And.intro rfl v13))) (fun c12 => have v14 := v9.2 (Int.not_lt.mp c12); (show wp mX10_wordEnd 0 rc rs Q 32 [some (vr 1), none, some (vi x2)] [] h from xGo k_X10_wordEnd_32 (have c15 := v14.1; have v16 := v14.2; (And.intro c15 (And.intro rfl v16)))))))))))))))))))))))
def b_X10_wordBetween_0 : List IE := [(.iconst 0, 1, 0, 0, 0, 0), (.istore_n 3, 1, 0, 0, 3, 0), (.iconst 0, 1, 0, 0, 0, 0), (.istore 4, 2, 0, 0, 4, 0)]
theorem k_X10_wordBetween_0 : ckB mX10_wordBetween 10 0 b_X10_wordBetween_0 5 = true := by decide +kernel
def b_X10_wordBetween_5 : List IE := [(.iload 4, 2, 0, 0, 4, 0), (.bipush 6, 2, 6, 0, 0, 0)]
theorem k_X10_wordBetween_5 : ckIc mX10_wordBetween 10 5 b_X10_wordBetween_5 9 3 41 50 12 = true := by decide +kernel
def b_X10_wordBetween_12 : List IE := [(.iload_n 3, 1, 0, 0, 3, 0), (.bipush 27, 2, 27, 0, 0, 0), (.imul, 1, 0, 0, 0, 0), (.iload_n 1, 1, 0, 0, 1, 0), (.iload 4, 2, 0, 0, 4, 0), (.iadd, 1, 0, 0, 0, 0), (.iload_n 2, 1, 0, 0, 2, 0)]
theorem k_X10_wordBetween_12 : ckIc mX10_wordBetween 10 12 b_X10_wordBetween_12 21 3 20 41 24 = true := by decide +kernel
def b_X10_wordBetween_24 : List IE := [(.aload_n 0, 1, 0, 0, 0, 0), (.getfield 9, 3, 0, 10, 0, 1), (.iload_n 1, 1, 0, 0, 1, 0), (.iload 4, 2, 0, 0, 4, 0), (.iadd, 1, 0, 0, 0, 0), (.iaload, 1, 0, 0, 0, 0), (.bipush 97, 2, 97, 0, 0, 0), (.isub, 1, 0, 0, 0, 0), (.iconst 1, 1, 1, 0, 0, 0), (.iadd, 1, 0, 0, 0, 0)]
theorem k_X10_wordBetween_24 : ckGo mX10_wordBetween 10 24 b_X10_wordBetween_24 38 4 42 = true := by decide +kernel
def b_X10_wordBetween_41 : List IE := [(.iconst 0, 1, 0, 0, 0, 0), (.iadd, 1, 0, 0, 0, 0), (.istore_n 3, 1, 0, 0, 3, 0), (.iinc 4 1, 3, 1, 0, 4, 0)]
theorem k_X10_wordBetween_41 : ckGo mX10_wordBetween 10 41 b_X10_wordBetween_41 47 (-42) 5 = true := by decide +kernel
def b_X10_wordBetween_42 : List IE := [(.iadd, 1, 0, 0, 0, 0), (.istore_n 3, 1, 0, 0, 3, 0), (.iinc 4 1, 3, 1, 0, 4, 0)]
theorem k_X10_wordBetween_42 : ckGo mX10_wordBetween 10 42 b_X10_wordBetween_42 47 (-42) 5 = true := by decide +kernel
def b_X10_wordBetween_50 : List IE := [(.iload_n 3, 1, 0, 0, 3, 0)]
theorem k_X10_wordBetween_50 : ckI mX10_wordBetween 10 50 b_X10_wordBetween_50 51 = true := by decide +kernel
theorem t_X10_wordBetween_0 {rc rs : Nat} {Q : Option AV → AH → Prop} {h : AH} {x1 x2 : Int} (hL : LayL h) (hv : wp mX10_wordBetween 0 rc rs Q 5 [some (vr 1), some (vi x1), some (vi x2), some (vi 0), some (vi 0)] [] h) : wp mX10_wordBetween 0 rc rs Q 0 [some (vr 1), some (vi x1), some (vi x2), none, none] [] h :=
  (show wp mX10_wordBetween 0 rc rs Q 0 [some (vr 1), some (vi x1), some (vi x2), none, none] [] h from xB k_X10_wordBetween_0 (And.intro rfl (And.intro rfl hv)))
theorem e_X10_wordBetween {mc ms : Nat} {Q : Option AV → AH → Prop} {h : AH} {x1 x2 : Int} (hL : LayL h) (hv : wp mX10_wordBetween 0 mc ms Q 5 [some (vr 1), some (vi x1), some (vi x2), some (vi 0), some (vi 0)] [] h) : Ct 0 mc ms mX10_wordBetween [vr 1, vi x1, vi x2] h Q := Ct.of (by decide +kernel) (Nat.le_of_ble_eq_true rfl) (t_X10_wordBetween_0 hL hv)
theorem t_X10_wordBetween_5 {rc rs : Nat} {Q : Option AV → AH → Prop} {h : AH} {x1 x2 x3 x4 : Int} (hL : LayL h) (hv : ((6 ≤ x4 → Q (some (vi x3)) h) ∧ (x4 < 6 → (-2147483648 ≤ (x3 * 27) ∧ (x3 * 27) < 2147483648) ∧ (-2147483648 ≤ (x1 + x4) ∧ (x1 + x4) < 2147483648) ∧ ((x2 ≤ (x1 + x4) → (-2147483648 ≤ ((x3 * 27) + 0) ∧ ((x3 * 27) + 0) < 2147483648) ∧ (-2147483648 ≤ (x4 + 1) ∧ (x4 + 1) < 2147483648) ∧ wp mX10_wordBetween 0 rc rs Q 5 [some (vr 1), some (vi x1), some (vi x2), some (vi ((x3 * 27) + 0)), some (vi (x4 + 1))] [] h) ∧ ((x1 + x4) < x2 → (0 ≤ (x1 + x4) ∧ (x1 + x4) < 64) ∧ (-2147483648 ≤ (iH h 2 ((x1 + x4).toNat) - 97) ∧ (iH h 2 ((x1 + x4).toNat) - 97) < 2147483648) ∧ (-2147483648 ≤ ((iH h 2 ((x1 + x4).toNat) - 97) + 1) ∧ ((iH h 2 ((x1 + x4).toNat) - 97) + 1) < 2147483648) ∧ (-2147483648 ≤ ((x3 * 27) + ((iH h 2 ((x1 + x4).toNat) - 97) + 1)) ∧ ((x3 * 27) + ((iH h 2 ((x1 + x4).toNat) - 97) + 1)) < 2147483648) ∧ (-2147483648 ≤ (x4 + 1) ∧ (x4 + 1) < 2147483648) ∧ wp mX10_wordBetween 0 rc rs Q 5 [some (vr 1), some (vi x1), some (vi x2), some (vi ((x3 * 27) + ((iH h 2 ((x1 + x4).toNat) - 97) + 1))), some (vi (x4 + 1))] [] h))))) : wp mX10_wordBetween 0 rc rs Q 5 [some (vr 1), some (vi x1), some (vi x2), some (vi x3), some (vi x4)] [] h :=
  (show wp mX10_wordBetween 0 rc rs Q 5 [some (vr 1), some (vi x1), some (vi x2), some (vi x3), some (vi x4)] [] h from xIc k_X10_wordBetween_5 (And.intro (fun c1 => have v3 := hv.1 c1; (show wp mX10_wordBetween 0 rc rs Q 50 [some (vr 1), some (vi x1), some (vi x2), some (vi x3), some (vi x4)] [] h from xI k_X10_wordBetween_50 (And.intro rfl v3))) (fun c2 => have v4 := hv.2 (Int.not_le.mp c2); (show wp mX10_wordBetween 0 rc rs Q 12 [some (vr 1), some (vi x1), some (vi x2), some (vi x3), some (vi x4)] [] h from xIc k_X10_wordBetween_12 (have c5 := v4.1; have v27 := v4.2; (And.intro c5 (have c6 := v27.1; have v26 := v27.2; (And.intro c6 (And.intro (fun c7 => have v9 := v26.1 c7; (show wp mX10_wordBetween 0 rc rs Q 41 [some (vr 1), some (vi x1), some (vi x2), some (vi x3), some (vi x4)] [vi (x3 * 27)] h from xGo k_X10_wordBetween_41 (have c11 := v9.1; have v14 := v9.2; (And.intro c11 (And.intro rfl (have c12 := v14.1; have v13 := v14.2; (And.intro c12 (And.intro rfl v13)))))))) (fun c8 => have v10 := v26.2 (Int.not_le.mp c8); (show wp mX10_wordBetween 0 rc rs Q 24 [some (vr 1), some (vi x1), some (vi x2), some (vi x3), some (vi x4)] [vi (x3 * 27)] h from xGo k_X10_wordBetween_24 (And.intro (ll_1 hL) (Exists.intro 2 (And.intro (lg_1_0 hL) (And.intro c6 (have c16 := v10.1; have v25 := v10.2; (And.intro (sdI (ll_2 hL) c16) (have c17 := v25.1; have v24 := v25.2; (And.intro c17 (have c18 := v24.1; have v23 := v24.2; (And.intro c18 (show wp mX10_wordBetween 0 rc rs Q 42 [some (vr 1), some (vi x1), some (vi x2), some (vi x3), some (vi x4)] [vi ((iH h 2 ((x1 + x4).toNat) - 97) + 1), vi (x3 * 27)] h from xGo k_X10_wordBetween_42 (have c19 := v23.1; have v22 := v23.2; (And.intro c19 (And.intro rfl (have c20 := v22.1; have v21 := v22.2; (And.intro c20 (And.intro rfl v21))))))))))))))))))))))))))))
def b_X10_lettersAlone_0 : List IE := [(.iload_n 0, 1, 0, 0, 0, 0), (.istore_n 1, 1, 0, 0, 1, 0), (.iconst 1, 1, 1, 0, 0, 0), (.istore_n 2, 1, 0, 0, 2, 0)]
theorem k_X10_lettersAlone_0 : ckB mX10_lettersAlone 10 0 b_X10_lettersAlone_0 4 = true := by decide +kernel
def b_X10_lettersAlone_4 : List IE := [(.iload_n 2, 1, 0, 0, 2, 0), (.bipush 6, 2, 6, 0, 0, 0)]
theorem k_X10_lettersAlone_4 : ckIc mX10_lettersAlone 10 4 b_X10_lettersAlone_4 7 3 21 28 10 = true := by decide +kernel
def b_X10_lettersAlone_10 : List IE := [(.iload_n 1, 1, 0, 0, 1, 0), (.bipush 27, 2, 27, 0, 0, 0), (.irem, 1, 0, 0, 0, 0)]
theorem k_X10_lettersAlone_10 : ckIf mX10_lettersAlone 10 10 b_X10_lettersAlone_10 14 1 14 28 17 = true := by decide +kernel
def b_X10_lettersAlone_17 : List IE := [(.iload_n 1, 1, 0, 0, 1, 0), (.bipush 27, 2, 27, 0, 0, 0), (.idiv, 1, 0, 0, 0, 0), (.istore_n 1, 1, 0, 0, 1, 0), (.iinc 2 1, 3, 1, 0, 2, 0)]
theorem k_X10_lettersAlone_17 : ckGo mX10_lettersAlone 10 17 b_X10_lettersAlone_17 25 (-21) 4 = true := by decide +kernel
def b_X10_lettersAlone_28 : List IE := [(.iload_n 1, 1, 0, 0, 1, 0)]
theorem k_X10_lettersAlone_28 : ckI mX10_lettersAlone 10 28 b_X10_lettersAlone_28 29 = true := by decide +kernel
theorem t_X10_lettersAlone_0 {rc rs : Nat} {Q : Option AV → AH → Prop} {h : AH} {x0 : Int} (hv : wp mX10_lettersAlone 0 rc rs Q 4 [none, some (vi x0), some (vi 1)] [] h) : wp mX10_lettersAlone 0 rc rs Q 0 [some (vi x0), none, none] [] h :=
  (show wp mX10_lettersAlone 0 rc rs Q 0 [some (vi x0), none, none] [] h from xB k_X10_lettersAlone_0 (And.intro rfl (And.intro rfl (w_fg [false, true, true] hv))))
theorem e_X10_lettersAlone {mc ms : Nat} {Q : Option AV → AH → Prop} {h : AH} {x0 : Int} (hv : wp mX10_lettersAlone 0 mc ms Q 4 [none, some (vi x0), some (vi 1)] [] h) : Ct 0 mc ms mX10_lettersAlone [vi x0] h Q := Ct.of (by decide +kernel) (Nat.le_of_ble_eq_true rfl) (t_X10_lettersAlone_0 hv)
theorem t_X10_lettersAlone_4 {rc rs : Nat} {Q : Option AV → AH → Prop} {h : AH} {x1 x2 : Int} (hv : ((6 ≤ x2 → Q (some (vi x1)) h) ∧ (x2 < 6 → (0 ≤ x1 ∧ x1 < 2147483648) ∧ (((x1 % 27) ≠ 0 → Q (some (vi x1)) h) ∧ ((x1 % 27) = 0 → (-2147483648 ≤ (x2 + 1) ∧ (x2 + 1) < 2147483648) ∧ wp mX10_lettersAlone 0 rc rs Q 4 [none, some (vi (x1 / 27)), some (vi (x2 + 1))] [] h))))) : wp mX10_lettersAlone 0 rc rs Q 4 [none, some (vi x1), some (vi x2)] [] h :=
  (show wp mX10_lettersAlone 0 rc rs Q 4 [none, some (vi x1), some (vi x2)] [] h from xIc k_X10_lettersAlone_4 (And.intro (fun c1 => have v3 := hv.1 c1; (show wp mX10_lettersAlone 0 rc rs Q 28 [none, some (vi x1), some (vi x2)] [] h from xI k_X10_lettersAlone_28 (And.intro rfl v3))) (fun c2 => have v4 := hv.2 (Int.not_le.mp c2); (show wp mX10_lettersAlone 0 rc rs Q 10 [none, some (vi x1), some (vi x2)] [] h from xIf k_X10_lettersAlone_10 (have c5 := v4.1; have v13 := v4.2; (And.intro (sd_irem (z := 27) (by decide) c5) (And.intro (fun c6 => have v8 := v13.1 c6; (show wp mX10_lettersAlone 0 rc rs Q 28 [none, some (vi x1), some (vi x2)] [] h from xI k_X10_lettersAlone_28 (And.intro rfl v8))) (fun c7 => have v9 := v13.2 (Decidable.not_not.mp c7); (show wp mX10_lettersAlone 0 rc rs Q 17 [none, some (vi x1), some (vi x2)] [] h from xGo k_X10_lettersAlone_17 (And.intro (sd_idiv (z := 27) (by decide) c5) (And.intro rfl (have c11 := v9.1; have v12 := v9.2; (And.intro c11 (And.intro rfl v12))))))))))))))
theorem l_isByte {h : AH} {a : Int} : Ct 0 0 0 mX11_isByte [vi a] h (QI fun x h' => x = b01 (0 ≤ a ∧ a ≤ 255) ∧ h' = h) :=
  e_X11_isByte ⟨fun _ => ⟨_, rfl, (b01_f (by omega)).symm, rfl⟩, fun _ => ⟨fun _ => ⟨_, rfl, (b01_f (by omega)).symm, rfl⟩, fun _ => ⟨_, rfl, (b01_t (by omega)).symm, rfl⟩⟩⟩
theorem l_isKey {h : AH} {a : Int} : Ct 0 0 0 mX11_isKey [vi a] h (QI fun x h' => x = b01 (0 ≤ a ∧ a ≤ 99) ∧ h' = h) :=
  e_X11_isKey ⟨fun _ => ⟨_, rfl, (b01_f (by omega)).symm, rfl⟩, fun _ => ⟨fun _ => ⟨_, rfl, (b01_f (by omega)).symm, rfl⟩, fun _ => ⟨_, rfl, (b01_t (by omega)).symm, rfl⟩⟩⟩
theorem l_isView {h : AH} {a : Int} : Ct 0 0 0 mX11_isView [vi a] h (QI fun x h' => x = b01 (0 ≤ a ∧ a ≤ 3) ∧ h' = h) :=
  e_X11_isView ⟨fun _ => ⟨_, rfl, (b01_f (by omega)).symm, rfl⟩, fun _ => ⟨fun _ => ⟨_, rfl, (b01_f (by omega)).symm, rfl⟩, fun _ => ⟨_, rfl, (b01_t (by omega)).symm, rfl⟩⟩⟩
theorem l_isSheet {h : AH} {a : Int} : Ct 0 0 0 mX11_isSheet [vi a] h (QI fun x h' => x = b01 (0 ≤ a ∧ a ≤ 3) ∧ h' = h) :=
  e_X11_isSheet ⟨fun _ => ⟨_, rfl, (b01_f (by omega)).symm, rfl⟩, fun _ => ⟨fun _ => ⟨_, rfl, (b01_f (by omega)).symm, rfl⟩, fun _ => ⟨_, rfl, (b01_t (by omega)).symm, rfl⟩⟩⟩
theorem l_isSegment {h : AH} (hL : LayL h) {a : Int} : Ct 0 0 0 mX11_isSegment [vr 0, vi a] h (QI fun x h' => x = b01 (0 ≤ a ∧ a < iH h 5 2) ∧ h' = h) :=
  e_X11_isSegment hL ⟨fun _ => ⟨_, rfl, (b01_f (by omega)).symm, rfl⟩, fun _ => ⟨fun _ => ⟨_, rfl, (b01_f (by omega)).symm, rfl⟩, fun _ => ⟨_, rfl, (b01_t (by omega)).symm, rfl⟩⟩⟩
theorem l_isQuery {h : AH} (hL : LayL h) {a : Int} : Ct 0 0 0 mX11_isQuery [vr 0, vi a] h (QI fun x h' => x = b01 (0 ≤ a ∧ a < iH h 0 13) ∧ h' = h) :=
  e_X11_isQuery hL ⟨fun _ => ⟨_, rfl, (b01_f (by omega)).symm, rfl⟩, fun _ => ⟨fun _ => ⟨_, rfl, (b01_f (by omega)).symm, rfl⟩, fun _ => ⟨_, rfl, (b01_t (by omega)).symm, rfl⟩⟩⟩
theorem l_isAnswer {h : AH} {a : Int} : Ct 0 0 0 mX1_isAnswer [vi a] h (QI fun x h' => x = b01 ((0 ≤ a ∧ a ≤ 2) ∨ (10 ≤ a ∧ a ≤ 73) ∨ (100 ≤ a ∧ a ≤ 163)) ∧ h' = h) := by
  have y : ((0 ≤ a ∧ a ≤ 2) ∨ (10 ≤ a ∧ a ≤ 73) ∨ (100 ≤ a ∧ a ≤ 163)) → QI (fun x h' => x = b01 ((0 ≤ a ∧ a ≤ 2) ∨ (10 ≤ a ∧ a ≤ 73) ∨ (100 ≤ a ∧ a ≤ 163)) ∧ h' = h) (some (vi 1)) h := fun q => ⟨_, rfl, (b01_t q).symm, rfl⟩
  have n : ¬ ((0 ≤ a ∧ a ≤ 2) ∨ (10 ≤ a ∧ a ≤ 73) ∨ (100 ≤ a ∧ a ≤ 163)) → QI (fun x h' => x = b01 ((0 ≤ a ∧ a ≤ 2) ∨ (10 ≤ a ∧ a ≤ 73) ∨ (100 ≤ a ∧ a ≤ 163)) ∧ h' = h) (some (vi 0)) h := fun q => ⟨_, rfl, (b01_f q).symm, rfl⟩
  refine e_X1_isAnswer ?_
  (repeat' apply And.intro) <;> intro c <;> (try (repeat' apply And.intro) <;> intro c2) <;> (try (repeat' apply And.intro) <;> intro c3) <;> (try (repeat' apply And.intro) <;> intro c4) <;> first | exact y (by omega) | exact n (by omega)
/-- the class's tape is the reference's -/
def cTape (h g : AH) : Prop := iH h 1 1 = iH g 89 18 ∧ (0 ≤ iH g 89 18 ∧ iH g 89 18 ≤ 64) ∧ ∀ k : Nat, k < d_n g → iH h 2 k = iH g 1157 k
theorem l_append {h : AH} (hL : LayL h) {v : Int} (hp : 0 ≤ iH h 1 1 ∧ iH h 1 1 < 64) : Ct 0 0 0 mX10_append [vr 1, vi v] h (QV fun h' => h' = sI (sI h 2 (iH h 1 1).toNat v) 1 1 (iH h 1 1 + 1)) :=
  e_X10_append hL ⟨fun c => absurd c (by omega), fun _ => ⟨hp, by omega, rfl, rfl⟩⟩
theorem l_behindBlanks {h g : AH} (hL : LayL h) {k : Int} (hp : cTape h g ∧ 0 ≤ k ∧ k ≤ (d_n g : Int)) : Ct 0 0 0 mX10_behindBlanks [vr 1, vi k] h (QI fun x h' => x = ((d_sk g k.toNat : Nat) : Int) ∧ h' = h) := by
  obtain ⟨⟨e1, e2, e3⟩, h0, h1⟩ := hp
  obtain ⟨m, rfl⟩ := Int.eq_ofNat_of_zero_le h0
  have en : iH h 1 1 = (d_n g : Int) := by unfold d_n; omega
  have n64 : d_n g ≤ 64 := by unfold d_n; omega
  have main : ∀ j : Nat, j ≤ d_n g → d_sk g j = d_sk g m → wp mX10_behindBlanks 0 0 0 (QI fun x h' => x = ((d_sk g m : Nat) : Int) ∧ h' = h) 2 [some (vr 1), none, some (vi j)] [] h := by
    refine dn (d_n g) (fun j hj h1 h2 => ?_) (fun j hj ih h1 h2 => ?_)
    · have q : d_sk g j = j := run_e hj
      exact t_X10_behindBlanks_2 hL ⟨fun _ => ⟨_, rfl, by rw [← h2, q], rfl⟩, fun c => absurd c (by omega)⟩
    · have e4 := e3 j hj
      refine t_X10_behindBlanks_2 hL ⟨fun c => absurd c (by omega), fun _ => ⟨by omega, ?_⟩⟩
      rw [Int.toNat_natCast, e4]
      have y : d_bl g j → wp mX10_behindBlanks 0 0 0 (QI fun x h' => x = ((d_sk g m : Nat) : Int) ∧ h' = h) 2 [some (vr 1), none, some (vi ((j : Int) + 1))] [] h := fun q => ih (by omega) (by rw [← h2]; exact (run_y (p := d_bl g) hj q).symm)
      refine ⟨fun c => ⟨by omega, y (Or.inl c)⟩, fun c => ⟨fun c2 => ⟨_, rfl, ?_, rfl⟩, fun c2 => ⟨by omega, y (Or.inr c2)⟩⟩⟩
      rw [← h2, show d_sk g j = j from run_n (p := d_bl g) (fun q => q.elim c c2)]
  exact e_X10_behindBlanks hL (main m (by omega) rfl)
theorem l_wordEnd {h g : AH} (hL : LayL h) {k : Int} (hp : cTape h g ∧ 0 ≤ k ∧ k ≤ (d_n g : Int)) : Ct 0 0 0 mX10_wordEnd [vr 1, vi k] h (QI fun x h' => x = ((d_we g k.toNat : Nat) : Int) ∧ h' = h) := by
  obtain ⟨⟨e1, e2, e3⟩, h0, h1⟩ := hp
  obtain ⟨m, rfl⟩ := Int.eq_ofNat_of_zero_le h0
  have en : iH h 1 1 = (d_n g : Int) := by unfold d_n; omega
  have n64 : d_n g ≤ 64 := by unfold d_n; omega
  have main : ∀ j : Nat, j ≤ d_n g → d_we g j = d_we g m → wp mX10_wordEnd 0 0 0 (QI fun x h' => x = ((d_we g m : Nat) : Int) ∧ h' = h) 2 [some (vr 1), none, some (vi j)] [] h := by
    refine dn (d_n g) (fun j hj h1 h2 => ?_) (fun j hj ih h1 h2 => ?_)
    · have q : d_we g j = j := run_e hj
      exact t_X10_wordEnd_2 hL ⟨fun _ => ⟨_, rfl, by rw [← h2, q], rfl⟩, fun c => absurd c (by omega)⟩
    · have e4 := e3 j hj
      refine t_X10_wordEnd_2 hL ⟨fun c => absurd c (by omega), fun _ => ⟨by omega, ?_⟩⟩
      rw [Int.toNat_natCast, e4]
      have n : ¬ d_le g j → (QI fun x h' => x = ((d_we g m : Nat) : Int) ∧ h' = h) (some (vi (j : Int))) h := fun q => ⟨_, rfl, by rw [← h2, show d_we g j = j from run_n (p := d_le g) q], rfl⟩
      exact ⟨fun c => n (fun q => by have := q.1; omega), fun c => ⟨fun c2 => n (fun q => by have := q.2; omega), fun c2 => ⟨by omega, ih (by omega) (by rw [← h2]; exact (run_y (p := d_le g) hj ⟨c, c2⟩).symm)⟩⟩⟩
  exact e_X10_wordEnd hL (main m (by omega) rfl)
theorem l_wordBetween {h g : AH} (hL : LayL h) {a b : Int} (hp : cTape h g ∧ m_let g a b ∧ a ≤ 64 ∧ b ≤ (d_n g : Int)) : Ct 0 0 0 mX10_wordBetween [vr 1, vi a, vi b] h (QI fun x h' => x = m_wf g a b 6 ∧ h' = h) := by
  obtain ⟨⟨e1, e2, e3⟩, hl, ha, hb⟩ := hp
  have hl0 := hl.1
  have n64 : d_n g ≤ 64 := by unfold d_n; omega
  refine e_X10_wordBetween hL (up (P := fun k => wp mX10_wordBetween 0 _ _ _ 5 [some (vr 1), some (vi a), some (vi b), some (vi (m_wf g a b k)), some (vi k)] [] h) 6 ?_ ?_)
  · exact t_X10_wordBetween_5 hL ⟨fun _ => ⟨_, rfl, rfl, rfl⟩, fun c => absurd c (by omega)⟩
  · intro k hk ih
    have hb1 := m_wf_bd hl k (by omega)
    have hp : (27 : Int) ^ k ≤ 27 ^ 5 := by
      rcases (show k = 0 ∨ k = 1 ∨ k = 2 ∨ k = 3 ∨ k = 4 ∨ k = 5 by omega) with rfl | rfl | rfl | rfl | rfl | rfl <;> decide
    refine t_X10_wordBetween_5 hL ⟨fun c => absurd c (by omega), fun _ => ⟨by omega, by omega, fun c2 => ?_, fun c2 => ?_⟩⟩
    · have e : m_wf g a b (k + 1) = m_wf g a b k * 27 + 0 := by show 27 * m_wf g a b k + (if a + (k : Int) < b then _ else 0) = _; rw [if_neg (by omega)]; omega
      rw [e] at ih
      exact ⟨by omega, by omega, ih⟩
    · have hj := hl.2.2 k hk c2
      have e4 := e3 (a + (k : Int)).toNat (by omega)
      rw [e4]
      have e : m_wf g a b (k + 1) = m_wf g a b k * 27 + (iH g 1157 (a + (k : Int)).toNat - 97 + 1) := by show 27 * m_wf g a b k + (if a + (k : Int) < b then iH g 1157 (a + k).toNat - 96 else 0) = _; rw [if_pos c2]; omega
      rw [e] at ih
      exact ⟨by omega, by omega, by omega, by omega, by omega, ih⟩
theorem l_lettersAlone {h : AH} {w : Int} (hw : 0 < w ∧ w < 387420489) : Ct 0 0 0 mX10_lettersAlone [vi w] h (QI fun x h' => x = m_pl 6 w ∧ h' = h) := by
  refine e_X10_lettersAlone ?_
  have : ∀ (n : Nat) (v i : Int), i = 6 - (n : Int) → n ≤ 5 → 0 < v → v < 27 ^ (n + 1) → v < 2147483648 → m_pl (n + 1) v = m_pl 6 w → wp mX10_lettersAlone 0 0 0 (QI fun x h' => x = m_pl 6 w ∧ h' = h) 4 [none, some (vi v), some (vi i)] [] h := by
    intro n
    induction n with
    | zero =>
      intro v i hi h0 h1 h2 h3 h4
      have e : m_pl 1 v = v := by
        have : v < 27 := by simpa using h2
        show (if v % 27 = 0 then m_pl 0 (v / 27) else v) = v
        rw [if_neg (by omega)]
      rw [e] at h4
      exact t_X10_lettersAlone_4 ⟨fun _ => ⟨_, rfl, h4, rfl⟩, fun c => absurd c (by omega)⟩
    | succ n ih =>
      intro v i hi h0 h1 h2 h3 h4
      have e : m_pl (n + 1 + 1) v = if v % 27 = 0 then m_pl (n + 1) (v / 27) else v := rfl
      rw [e] at h4
      have h5 : v < 27 * 27 ^ (n + 1) := by rw [Int.pow_succ] at h2; omega
      refine t_X10_lettersAlone_4 ⟨fun c => absurd c (by omega), fun c => ⟨by omega, fun c2 => ⟨_, rfl, by rw [if_neg c2] at h4; exact h4, rfl⟩, fun c2 => ⟨by omega, ?_⟩⟩⟩
      rw [if_pos c2] at h4
      exact ih (v / 27) (i + 1) (by omega) (by omega) (by omega) (by omega) (by omega) h4
  exact this 5 w 1 (by omega) (by omega) hw.1 (by simpa using hw.2) (by omega) rfl
