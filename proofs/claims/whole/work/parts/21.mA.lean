/-! THE REFERENCE'S SMALL METHODS -/
def b_X12_in_0 : List IE := [(.iload_n 0, 1, 0, 0, 0, 0), (.iload_n 1, 1, 0, 0, 1, 0)]
theorem k_X12_in_0 : ckIc mX12_in 12 0 b_X12_in_0 2 2 12 14 5 = true := by decide +kernel
def b_X12_in_5 : List IE := [(.iload_n 0, 1, 0, 0, 0, 0), (.iload_n 2, 1, 0, 0, 2, 0)]
theorem k_X12_in_5 : ckIc mX12_in 12 5 b_X12_in_5 7 4 7 14 10 = true := by decide +kernel
def b_X12_in_10 : List IE := [(.iconst 1, 1, 1, 0, 0, 0)]
theorem k_X12_in_10 : ckGo mX12_in 12 10 b_X12_in_10 11 4 15 = true := by decide +kernel
def b_X12_in_14 : List IE := [(.iconst 0, 1, 0, 0, 0, 0)]
theorem k_X12_in_14 : ckZ mX12_in 12 14 b_X12_in_14 15 = true := by decide +kernel
def b_X12_in_15 : List IE := []
theorem k_X12_in_15 : ckZ mX12_in 12 15 b_X12_in_15 15 = true := by decide +kernel
theorem t_X12_in_0 {rc rs : Nat} {Q : Option AV → AH → Prop} {h : AH} {x0 x1 x2 : Int} (hv : ((x0 < x1 → Q (some (vi 0)) h) ∧ (x1 ≤ x0 → ((x2 < x0 → Q (some (vi 0)) h) ∧ (x0 ≤ x2 → Q (some (vi 1)) h))))) : wp mX12_in 0 rc rs Q 0 [some (vi x0), some (vi x1), some (vi x2)] [] h :=
  (show wp mX12_in 0 rc rs Q 0 [some (vi x0), some (vi x1), some (vi x2)] [] h from xIc k_X12_in_0 (And.intro (fun c1 => have v3 := hv.1 c1; (show wp mX12_in 0 rc rs Q 14 [some (vi x0), some (vi x1), some (vi x2)] [] h from xZ k_X12_in_14 (And.intro rfl (And.intro (Or.inl rfl) v3)))) (fun c2 => have v4 := hv.2 (Int.not_lt.mp c2); (show wp mX12_in 0 rc rs Q 5 [some (vi x0), some (vi x1), some (vi x2)] [] h from xIc k_X12_in_5 (And.intro (fun c5 => have v7 := v4.1 c5; (show wp mX12_in 0 rc rs Q 14 [some (vi x0), some (vi x1), some (vi x2)] [] h from xZ k_X12_in_14 (And.intro rfl (And.intro (Or.inl rfl) v7)))) (fun c6 => have v8 := v4.2 (Int.not_lt.mp c6); (show wp mX12_in 0 rc rs Q 10 [some (vi x0), some (vi x1), some (vi x2)] [] h from xGo k_X12_in_10 (show wp mX12_in 0 rc rs Q 15 [some (vi x0), some (vi x1), some (vi x2)] [vi 1] h from xZ k_X12_in_15 (And.intro rfl (And.intro (Or.inr rfl) v8))))))))))
theorem e_X12_in {mc ms : Nat} {Q : Option AV → AH → Prop} {h : AH} {x0 x1 x2 : Int} (hv : ((x0 < x1 → Q (some (vi 0)) h) ∧ (x1 ≤ x0 → ((x2 < x0 → Q (some (vi 0)) h) ∧ (x0 ≤ x2 → Q (some (vi 1)) h))))) : Ct 0 mc ms mX12_in [vi x0, vi x1, vi x2] h Q := Ct.of (by decide +kernel) (Nat.le_of_ble_eq_true rfl) (t_X12_in_0 hv)
theorem c_in {h : AH} {a b c : Int} : Ct 0 0 0 mX12_in [vi a, vi b, vi c] h (QI fun x h' => x = b01 (b ≤ a ∧ a ≤ c) ∧ h' = h) :=
  e_X12_in ⟨fun _ => ⟨_, rfl, (b01_f (by omega)).symm, rfl⟩, fun _ => ⟨fun _ => ⟨_, rfl, (b01_f (by omega)).symm, rfl⟩, fun _ => ⟨_, rfl, (b01_t (by omega)).symm, rfl⟩⟩⟩
def b_X12_isKey_0 : List IE := [(.iload_n 0, 1, 0, 0, 0, 0), (.iconst 0, 1, 0, 0, 0, 0), (.bipush 99, 2, 99, 0, 0, 0)]
theorem k_X12_isKey_0 : ckB mX12_isKey 12 0 b_X12_isKey_0 4 = true := by decide +kernel
def b_X12_isKey_7 : List IE := []
theorem k_X12_isKey_7 : ckZ mX12_isKey 12 7 b_X12_isKey_7 7 = true := by decide +kernel
theorem s_X12_isKey_4 : cS mX12_isKey 4 mX12_in 109 3 := ⟨by decide +kernel, ⟨ml_X12_in, li_RX12_109, st_X12_in⟩, by decide +kernel⟩
theorem t_X12_isKey_0 {rc rs : Nat} {Q : Option AV → AH → Prop} {h : AH} {x0 : Int} (hv : Q (some (vi (b01 ((0 : Int) ≤ x0 ∧ x0 ≤ (99 : Int))))) h) : wp mX12_isKey 1 rc rs Q 0 [some (vi x0)] [] h :=
  (show wp mX12_isKey 1 rc rs Q 0 [some (vi x0)] [] h from xcS k_X12_isKey_0 s_X12_isKey_4 ((Exists.intro [vi x0, vi 0, vi 99] (Exists.intro [] (And.intro (And.intro rfl (And.intro rfl (Nat.le_of_ble_eq_true rfl))) (Exists.intro 0 (Exists.intro 0 (Exists.intro 0 (Exists.intro _ (And.intro c_in (And.intro (And.intro (by decide) (And.intro (Nat.zero_le _) (Nat.zero_le _))) (eQP (show wp mX12_isKey 1 rc rs Q 7 [some (vi x0)] [vi (b01 ((0 : Int) ≤ x0 ∧ x0 ≤ (99 : Int)))] h from xZ k_X12_isKey_7 (And.intro rfl (And.intro (b01_01 _) hv)))))))))))))))
theorem e_X12_isKey {mc ms : Nat} {Q : Option AV → AH → Prop} {h : AH} {x0 : Int} (hv : Q (some (vi (b01 ((0 : Int) ≤ x0 ∧ x0 ≤ (99 : Int))))) h) : Ct 1 mc ms mX12_isKey [vi x0] h Q := Ct.of (by decide +kernel) (Nat.le_of_ble_eq_true rfl) (t_X12_isKey_0 hv)
def b_X12_isView_0 : List IE := [(.iload_n 0, 1, 0, 0, 0, 0), (.iconst 0, 1, 0, 0, 0, 0), (.iconst 3, 1, 3, 0, 0, 0)]
theorem k_X12_isView_0 : ckB mX12_isView 12 0 b_X12_isView_0 3 = true := by decide +kernel
def b_X12_isView_6 : List IE := []
theorem k_X12_isView_6 : ckZ mX12_isView 12 6 b_X12_isView_6 6 = true := by decide +kernel
theorem s_X12_isView_3 : cS mX12_isView 3 mX12_in 109 3 := ⟨by decide +kernel, ⟨ml_X12_in, li_RX12_109, st_X12_in⟩, by decide +kernel⟩
theorem t_X12_isView_0 {rc rs : Nat} {Q : Option AV → AH → Prop} {h : AH} {x0 : Int} (hv : Q (some (vi (b01 ((0 : Int) ≤ x0 ∧ x0 ≤ (3 : Int))))) h) : wp mX12_isView 1 rc rs Q 0 [some (vi x0)] [] h :=
  (show wp mX12_isView 1 rc rs Q 0 [some (vi x0)] [] h from xcS k_X12_isView_0 s_X12_isView_3 ((Exists.intro [vi x0, vi 0, vi 3] (Exists.intro [] (And.intro (And.intro rfl (And.intro rfl (Nat.le_of_ble_eq_true rfl))) (Exists.intro 0 (Exists.intro 0 (Exists.intro 0 (Exists.intro _ (And.intro c_in (And.intro (And.intro (by decide) (And.intro (Nat.zero_le _) (Nat.zero_le _))) (eQP (show wp mX12_isView 1 rc rs Q 6 [some (vi x0)] [vi (b01 ((0 : Int) ≤ x0 ∧ x0 ≤ (3 : Int)))] h from xZ k_X12_isView_6 (And.intro rfl (And.intro (b01_01 _) hv)))))))))))))))
theorem e_X12_isView {mc ms : Nat} {Q : Option AV → AH → Prop} {h : AH} {x0 : Int} (hv : Q (some (vi (b01 ((0 : Int) ≤ x0 ∧ x0 ≤ (3 : Int))))) h) : Ct 1 mc ms mX12_isView [vi x0] h Q := Ct.of (by decide +kernel) (Nat.le_of_ble_eq_true rfl) (t_X12_isView_0 hv)
def b_X12_isByte_0 : List IE := [(.iload_n 0, 1, 0, 0, 0, 0), (.iconst 0, 1, 0, 0, 0, 0), (.sipush 255, 3, 255, 0, 0, 0)]
theorem k_X12_isByte_0 : ckB mX12_isByte 12 0 b_X12_isByte_0 5 = true := by decide +kernel
def b_X12_isByte_8 : List IE := []
theorem k_X12_isByte_8 : ckZ mX12_isByte 12 8 b_X12_isByte_8 8 = true := by decide +kernel
theorem s_X12_isByte_5 : cS mX12_isByte 5 mX12_in 109 3 := ⟨by decide +kernel, ⟨ml_X12_in, li_RX12_109, st_X12_in⟩, by decide +kernel⟩
theorem t_X12_isByte_0 {rc rs : Nat} {Q : Option AV → AH → Prop} {h : AH} {x0 : Int} (hv : Q (some (vi (b01 ((0 : Int) ≤ x0 ∧ x0 ≤ (255 : Int))))) h) : wp mX12_isByte 1 rc rs Q 0 [some (vi x0)] [] h :=
  (show wp mX12_isByte 1 rc rs Q 0 [some (vi x0)] [] h from xcS k_X12_isByte_0 s_X12_isByte_5 ((Exists.intro [vi x0, vi 0, vi 255] (Exists.intro [] (And.intro (And.intro rfl (And.intro rfl (Nat.le_of_ble_eq_true rfl))) (Exists.intro 0 (Exists.intro 0 (Exists.intro 0 (Exists.intro _ (And.intro c_in (And.intro (And.intro (by decide) (And.intro (Nat.zero_le _) (Nat.zero_le _))) (eQP (show wp mX12_isByte 1 rc rs Q 8 [some (vi x0)] [vi (b01 ((0 : Int) ≤ x0 ∧ x0 ≤ (255 : Int)))] h from xZ k_X12_isByte_8 (And.intro rfl (And.intro (b01_01 _) hv)))))))))))))))
theorem e_X12_isByte {mc ms : Nat} {Q : Option AV → AH → Prop} {h : AH} {x0 : Int} (hv : Q (some (vi (b01 ((0 : Int) ≤ x0 ∧ x0 ≤ (255 : Int))))) h) : Ct 1 mc ms mX12_isByte [vi x0] h Q := Ct.of (by decide +kernel) (Nat.le_of_ble_eq_true rfl) (t_X12_isByte_0 hv)
def b_X12_isSheet_0 : List IE := [(.iload_n 0, 1, 0, 0, 0, 0), (.iconst 0, 1, 0, 0, 0, 0), (.iconst 3, 1, 3, 0, 0, 0)]
theorem k_X12_isSheet_0 : ckB mX12_isSheet 12 0 b_X12_isSheet_0 3 = true := by decide +kernel
def b_X12_isSheet_6 : List IE := []
theorem k_X12_isSheet_6 : ckZ mX12_isSheet 12 6 b_X12_isSheet_6 6 = true := by decide +kernel
theorem s_X12_isSheet_3 : cS mX12_isSheet 3 mX12_in 109 3 := ⟨by decide +kernel, ⟨ml_X12_in, li_RX12_109, st_X12_in⟩, by decide +kernel⟩
theorem t_X12_isSheet_0 {rc rs : Nat} {Q : Option AV → AH → Prop} {h : AH} {x0 : Int} (hv : Q (some (vi (b01 ((0 : Int) ≤ x0 ∧ x0 ≤ (3 : Int))))) h) : wp mX12_isSheet 1 rc rs Q 0 [some (vi x0)] [] h :=
  (show wp mX12_isSheet 1 rc rs Q 0 [some (vi x0)] [] h from xcS k_X12_isSheet_0 s_X12_isSheet_3 ((Exists.intro [vi x0, vi 0, vi 3] (Exists.intro [] (And.intro (And.intro rfl (And.intro rfl (Nat.le_of_ble_eq_true rfl))) (Exists.intro 0 (Exists.intro 0 (Exists.intro 0 (Exists.intro _ (And.intro c_in (And.intro (And.intro (by decide) (And.intro (Nat.zero_le _) (Nat.zero_le _))) (eQP (show wp mX12_isSheet 1 rc rs Q 6 [some (vi x0)] [vi (b01 ((0 : Int) ≤ x0 ∧ x0 ≤ (3 : Int)))] h from xZ k_X12_isSheet_6 (And.intro rfl (And.intro (b01_01 _) hv)))))))))))))))
theorem e_X12_isSheet {mc ms : Nat} {Q : Option AV → AH → Prop} {h : AH} {x0 : Int} (hv : Q (some (vi (b01 ((0 : Int) ≤ x0 ∧ x0 ≤ (3 : Int))))) h) : Ct 1 mc ms mX12_isSheet [vi x0] h Q := Ct.of (by decide +kernel) (Nat.le_of_ble_eq_true rfl) (t_X12_isSheet_0 hv)
def b_X12_isLetter_0 : List IE := [(.iload_n 0, 1, 0, 0, 0, 0), (.bipush 97, 2, 97, 0, 0, 0), (.bipush 122, 2, 122, 0, 0, 0)]
theorem k_X12_isLetter_0 : ckB mX12_isLetter 12 0 b_X12_isLetter_0 5 = true := by decide +kernel
def b_X12_isLetter_8 : List IE := []
theorem k_X12_isLetter_8 : ckZ mX12_isLetter 12 8 b_X12_isLetter_8 8 = true := by decide +kernel
theorem s_X12_isLetter_5 : cS mX12_isLetter 5 mX12_in 109 3 := ⟨by decide +kernel, ⟨ml_X12_in, li_RX12_109, st_X12_in⟩, by decide +kernel⟩
theorem t_X12_isLetter_0 {rc rs : Nat} {Q : Option AV → AH → Prop} {h : AH} {x0 : Int} (hv : Q (some (vi (b01 ((97 : Int) ≤ x0 ∧ x0 ≤ (122 : Int))))) h) : wp mX12_isLetter 1 rc rs Q 0 [some (vi x0)] [] h :=
  (show wp mX12_isLetter 1 rc rs Q 0 [some (vi x0)] [] h from xcS k_X12_isLetter_0 s_X12_isLetter_5 ((Exists.intro [vi x0, vi 97, vi 122] (Exists.intro [] (And.intro (And.intro rfl (And.intro rfl (Nat.le_of_ble_eq_true rfl))) (Exists.intro 0 (Exists.intro 0 (Exists.intro 0 (Exists.intro _ (And.intro c_in (And.intro (And.intro (by decide) (And.intro (Nat.zero_le _) (Nat.zero_le _))) (eQP (show wp mX12_isLetter 1 rc rs Q 8 [some (vi x0)] [vi (b01 ((97 : Int) ≤ x0 ∧ x0 ≤ (122 : Int)))] h from xZ k_X12_isLetter_8 (And.intro rfl (And.intro (b01_01 _) hv)))))))))))))))
theorem e_X12_isLetter {mc ms : Nat} {Q : Option AV → AH → Prop} {h : AH} {x0 : Int} (hv : Q (some (vi (b01 ((97 : Int) ≤ x0 ∧ x0 ≤ (122 : Int))))) h) : Ct 1 mc ms mX12_isLetter [vi x0] h Q := Ct.of (by decide +kernel) (Nat.le_of_ble_eq_true rfl) (t_X12_isLetter_0 hv)
def b_X12_isBlank_0 : List IE := [(.iload_n 0, 1, 0, 0, 0, 0), (.bipush 32, 2, 32, 0, 0, 0)]
theorem k_X12_isBlank_0 : ckIc mX12_isBlank 12 0 b_X12_isBlank_0 3 0 9 12 6 = true := by decide +kernel
def b_X12_isBlank_6 : List IE := [(.iload_n 0, 1, 0, 0, 0, 0), (.bipush 10, 2, 10, 0, 0, 0)]
theorem k_X12_isBlank_6 : ckIc mX12_isBlank 12 6 b_X12_isBlank_6 9 1 7 16 12 = true := by decide +kernel
def b_X12_isBlank_12 : List IE := [(.iconst 1, 1, 1, 0, 0, 0)]
theorem k_X12_isBlank_12 : ckGo mX12_isBlank 12 12 b_X12_isBlank_12 13 4 17 = true := by decide +kernel
def b_X12_isBlank_16 : List IE := [(.iconst 0, 1, 0, 0, 0, 0)]
theorem k_X12_isBlank_16 : ckZ mX12_isBlank 12 16 b_X12_isBlank_16 17 = true := by decide +kernel
def b_X12_isBlank_17 : List IE := []
theorem k_X12_isBlank_17 : ckZ mX12_isBlank 12 17 b_X12_isBlank_17 17 = true := by decide +kernel
theorem t_X12_isBlank_0 {rc rs : Nat} {Q : Option AV → AH → Prop} {h : AH} {x0 : Int} (hv : ((x0 = 32 → Q (some (vi 1)) h) ∧ (x0 ≠ 32 → ((x0 ≠ 10 → Q (some (vi 0)) h) ∧ (x0 = 10 → Q (some (vi 1)) h))))) : wp mX12_isBlank 0 rc rs Q 0 [some (vi x0)] [] h :=
  (show wp mX12_isBlank 0 rc rs Q 0 [some (vi x0)] [] h from xIc k_X12_isBlank_0 (And.intro (fun c1 => have v3 := hv.1 c1; (show wp mX12_isBlank 0 rc rs Q 12 [some (vi x0)] [] h from xGo k_X12_isBlank_12 (show wp mX12_isBlank 0 rc rs Q 17 [some (vi x0)] [vi 1] h from xZ k_X12_isBlank_17 (And.intro rfl (And.intro (Or.inr rfl) v3))))) (fun c2 => have v4 := hv.2 c2; (show wp mX12_isBlank 0 rc rs Q 6 [some (vi x0)] [] h from xIc k_X12_isBlank_6 (And.intro (fun c5 => have v7 := v4.1 c5; (show wp mX12_isBlank 0 rc rs Q 16 [some (vi x0)] [] h from xZ k_X12_isBlank_16 (And.intro rfl (And.intro (Or.inl rfl) v7)))) (fun c6 => have v8 := v4.2 (Decidable.not_not.mp c6); (show wp mX12_isBlank 0 rc rs Q 12 [some (vi x0)] [] h from xGo k_X12_isBlank_12 (show wp mX12_isBlank 0 rc rs Q 17 [some (vi x0)] [vi 1] h from xZ k_X12_isBlank_17 (And.intro rfl (And.intro (Or.inr rfl) v8))))))))))
theorem e_X12_isBlank {mc ms : Nat} {Q : Option AV → AH → Prop} {h : AH} {x0 : Int} (hv : ((x0 = 32 → Q (some (vi 1)) h) ∧ (x0 ≠ 32 → ((x0 ≠ 10 → Q (some (vi 0)) h) ∧ (x0 = 10 → Q (some (vi 1)) h))))) : Ct 0 mc ms mX12_isBlank [vi x0] h Q := Ct.of (by decide +kernel) (Nat.le_of_ble_eq_true rfl) (t_X12_isBlank_0 hv)
def b_X12_isSegment_0 : List IE := [(.iload_n 1, 1, 0, 0, 1, 0), (.iconst 0, 1, 0, 0, 0, 0), (.aload_n 0, 1, 0, 0, 0, 0), (.getfield 106, 3, 0, 12, 13, 0), (.iconst 1, 1, 1, 0, 0, 0), (.isub, 1, 0, 0, 0, 0)]
theorem k_X12_isSegment_0 : ckB mX12_isSegment 12 0 b_X12_isSegment_0 8 = true := by decide +kernel
def b_X12_isSegment_11 : List IE := []
theorem k_X12_isSegment_11 : ckZ mX12_isSegment 12 11 b_X12_isSegment_11 11 = true := by decide +kernel
theorem s_X12_isSegment_8 : cS mX12_isSegment 8 mX12_in 109 3 := ⟨by decide +kernel, ⟨ml_X12_in, li_RX12_109, st_X12_in⟩, by decide +kernel⟩
theorem t_X12_isSegment_0 {rc rs : Nat} {Q : Option AV → AH → Prop} {h : AH} {x1 : Int} (hL : LayM h) (hv : (-2147483648 ≤ (iH h 89 13 - 1) ∧ (iH h 89 13 - 1) < 2147483648) ∧ Q (some (vi (b01 ((0 : Int) ≤ x1 ∧ x1 ≤ (iH h 89 13 - 1))))) h) : wp mX12_isSegment 1 rc rs Q 0 [some (vr 89), some (vi x1)] [] h :=
  (show wp mX12_isSegment 1 rc rs Q 0 [some (vr 89), some (vi x1)] [] h from xcS k_X12_isSegment_0 s_X12_isSegment_8 (And.intro (lm_89 hL) (have c1 := hv.1; have v5 := hv.2; (And.intro c1 ((Exists.intro [vi x1, vi 0, vi (iH h 89 13 - 1)] (Exists.intro [] (And.intro (And.intro rfl (And.intro rfl (Nat.le_of_ble_eq_true rfl))) (Exists.intro 0 (Exists.intro 0 (Exists.intro 0 (Exists.intro _ (And.intro c_in (And.intro (And.intro (by decide) (And.intro (Nat.zero_le _) (Nat.zero_le _))) (eQP (show wp mX12_isSegment 1 rc rs Q 11 [some (vr 89), some (vi x1)] [vi (b01 ((0 : Int) ≤ x1 ∧ x1 ≤ (iH h 89 13 - 1)))] h from xZ k_X12_isSegment_11 (And.intro rfl (And.intro (b01_01 _) v5))))))))))))))))))
theorem e_X12_isSegment {mc ms : Nat} {Q : Option AV → AH → Prop} {h : AH} {x1 : Int} (hL : LayM h) (hv : (-2147483648 ≤ (iH h 89 13 - 1) ∧ (iH h 89 13 - 1) < 2147483648) ∧ Q (some (vi (b01 ((0 : Int) ≤ x1 ∧ x1 ≤ (iH h 89 13 - 1))))) h) : Ct 1 mc ms mX12_isSegment [vr 89, vi x1] h Q := Ct.of (by decide +kernel) (Nat.le_of_ble_eq_true rfl) (t_X12_isSegment_0 hL hv)
def b_X12_isQuery_0 : List IE := [(.iload_n 1, 1, 0, 0, 1, 0), (.iconst 0, 1, 0, 0, 0, 0), (.aload_n 0, 1, 0, 0, 0, 0), (.getfield 113, 3, 0, 12, 30, 0), (.iconst 1, 1, 1, 0, 0, 0), (.isub, 1, 0, 0, 0, 0)]
theorem k_X12_isQuery_0 : ckB mX12_isQuery 12 0 b_X12_isQuery_0 8 = true := by decide +kernel
def b_X12_isQuery_11 : List IE := []
theorem k_X12_isQuery_11 : ckZ mX12_isQuery 12 11 b_X12_isQuery_11 11 = true := by decide +kernel
theorem s_X12_isQuery_8 : cS mX12_isQuery 8 mX12_in 109 3 := ⟨by decide +kernel, ⟨ml_X12_in, li_RX12_109, st_X12_in⟩, by decide +kernel⟩
theorem t_X12_isQuery_0 {rc rs : Nat} {Q : Option AV → AH → Prop} {h : AH} {x1 : Int} (hL : LayM h) (hv : (-2147483648 ≤ (iH h 89 30 - 1) ∧ (iH h 89 30 - 1) < 2147483648) ∧ Q (some (vi (b01 ((0 : Int) ≤ x1 ∧ x1 ≤ (iH h 89 30 - 1))))) h) : wp mX12_isQuery 1 rc rs Q 0 [some (vr 89), some (vi x1)] [] h :=
  (show wp mX12_isQuery 1 rc rs Q 0 [some (vr 89), some (vi x1)] [] h from xcS k_X12_isQuery_0 s_X12_isQuery_8 (And.intro (lm_89 hL) (have c1 := hv.1; have v5 := hv.2; (And.intro c1 ((Exists.intro [vi x1, vi 0, vi (iH h 89 30 - 1)] (Exists.intro [] (And.intro (And.intro rfl (And.intro rfl (Nat.le_of_ble_eq_true rfl))) (Exists.intro 0 (Exists.intro 0 (Exists.intro 0 (Exists.intro _ (And.intro c_in (And.intro (And.intro (by decide) (And.intro (Nat.zero_le _) (Nat.zero_le _))) (eQP (show wp mX12_isQuery 1 rc rs Q 11 [some (vr 89), some (vi x1)] [vi (b01 ((0 : Int) ≤ x1 ∧ x1 ≤ (iH h 89 30 - 1)))] h from xZ k_X12_isQuery_11 (And.intro rfl (And.intro (b01_01 _) v5))))))))))))))))))
theorem e_X12_isQuery {mc ms : Nat} {Q : Option AV → AH → Prop} {h : AH} {x1 : Int} (hL : LayM h) (hv : (-2147483648 ≤ (iH h 89 30 - 1) ∧ (iH h 89 30 - 1) < 2147483648) ∧ Q (some (vi (b01 ((0 : Int) ≤ x1 ∧ x1 ≤ (iH h 89 30 - 1))))) h) : Ct 1 mc ms mX12_isQuery [vr 89, vi x1] h Q := Ct.of (by decide +kernel) (Nat.le_of_ble_eq_true rfl) (t_X12_isQuery_0 hL hv)
def b_X12_isAsked_0 : List IE := [(.iload_n 0, 1, 0, 0, 0, 0), (.iconst 0, 1, 0, 0, 0, 0), (.iconst 2, 1, 2, 0, 0, 0)]
theorem k_X12_isAsked_0 : ckB mX12_isAsked 12 0 b_X12_isAsked_0 3 = true := by decide +kernel
def b_X12_isAsked_6 : List IE := []
theorem k_X12_isAsked_6 : ckIf mX12_isAsked 12 6 b_X12_isAsked_6 6 1 26 32 9 = true := by decide +kernel
def b_X12_isAsked_9 : List IE := [(.iload_n 0, 1, 0, 0, 0, 0), (.bipush 10, 2, 10, 0, 0, 0), (.bipush 73, 2, 73, 0, 0, 0)]
theorem k_X12_isAsked_9 : ckB mX12_isAsked 12 9 b_X12_isAsked_9 14 = true := by decide +kernel
def b_X12_isAsked_17 : List IE := []
theorem k_X12_isAsked_17 : ckIf mX12_isAsked 12 17 b_X12_isAsked_17 17 1 15 32 20 = true := by decide +kernel
def b_X12_isAsked_20 : List IE := [(.iload_n 0, 1, 0, 0, 0, 0), (.bipush 100, 2, 100, 0, 0, 0), (.sipush 163, 3, 163, 0, 0, 0)]
theorem k_X12_isAsked_20 : ckB mX12_isAsked 12 20 b_X12_isAsked_20 26 = true := by decide +kernel
def b_X12_isAsked_29 : List IE := []
theorem k_X12_isAsked_29 : ckIf mX12_isAsked 12 29 b_X12_isAsked_29 29 0 7 36 32 = true := by decide +kernel
def b_X12_isAsked_32 : List IE := [(.iconst 1, 1, 1, 0, 0, 0)]
theorem k_X12_isAsked_32 : ckGo mX12_isAsked 12 32 b_X12_isAsked_32 33 4 37 = true := by decide +kernel
def b_X12_isAsked_36 : List IE := [(.iconst 0, 1, 0, 0, 0, 0)]
theorem k_X12_isAsked_36 : ckZ mX12_isAsked 12 36 b_X12_isAsked_36 37 = true := by decide +kernel
def b_X12_isAsked_37 : List IE := []
theorem k_X12_isAsked_37 : ckZ mX12_isAsked 12 37 b_X12_isAsked_37 37 = true := by decide +kernel
theorem s_X12_isAsked_3 : cS mX12_isAsked 3 mX12_in 109 3 := ⟨by decide +kernel, ⟨ml_X12_in, li_RX12_109, st_X12_in⟩, by decide +kernel⟩
theorem s_X12_isAsked_14 : cS mX12_isAsked 14 mX12_in 109 3 := ⟨by decide +kernel, ⟨ml_X12_in, li_RX12_109, st_X12_in⟩, by decide +kernel⟩
theorem s_X12_isAsked_26 : cS mX12_isAsked 26 mX12_in 109 3 := ⟨by decide +kernel, ⟨ml_X12_in, li_RX12_109, st_X12_in⟩, by decide +kernel⟩
theorem t_X12_isAsked_0 {rc rs : Nat} {Q : Option AV → AH → Prop} {h : AH} {x0 : Int} (hv : ((((0 : Int) ≤ x0 ∧ x0 ≤ (2 : Int)) → Q (some (vi 1)) h) ∧ (¬ ((0 : Int) ≤ x0 ∧ x0 ≤ (2 : Int)) → ((((10 : Int) ≤ x0 ∧ x0 ≤ (73 : Int)) → Q (some (vi 1)) h) ∧ (¬ ((10 : Int) ≤ x0 ∧ x0 ≤ (73 : Int)) → ((¬ ((100 : Int) ≤ x0 ∧ x0 ≤ (163 : Int)) → Q (some (vi 0)) h) ∧ (((100 : Int) ≤ x0 ∧ x0 ≤ (163 : Int)) → Q (some (vi 1)) h))))))) : wp mX12_isAsked 1 rc rs Q 0 [some (vi x0)] [] h :=
  (show wp mX12_isAsked 1 rc rs Q 0 [some (vi x0)] [] h from xcS k_X12_isAsked_0 s_X12_isAsked_3 ((Exists.intro [vi x0, vi 0, vi 2] (Exists.intro [] (And.intro (And.intro rfl (And.intro rfl (Nat.le_of_ble_eq_true rfl))) (Exists.intro 0 (Exists.intro 0 (Exists.intro 0 (Exists.intro _ (And.intro c_in (And.intro (And.intro (by decide) (And.intro (Nat.zero_le _) (Nat.zero_le _))) (eQP (show wp mX12_isAsked 1 rc rs Q 6 [some (vi x0)] [vi (b01 ((0 : Int) ≤ x0 ∧ x0 ≤ (2 : Int)))] h from xIf k_X12_isAsked_6 (And.intro (fun c1 => have v3 := hv.1 (b01_p.mp c1); (show wp mX12_isAsked 1 rc rs Q 32 [some (vi x0)] [] h from xGo k_X12_isAsked_32 (show wp mX12_isAsked 1 rc rs Q 37 [some (vi x0)] [vi 1] h from xZ k_X12_isAsked_37 (And.intro rfl (And.intro (Or.inr rfl) v3))))) (fun c2 => have v4 := hv.2 (b01_nn.mp c2); (show wp mX12_isAsked 1 rc rs Q 9 [some (vi x0)] [] h from xcS k_X12_isAsked_9 s_X12_isAsked_14 ((Exists.intro [vi x0, vi 10, vi 73] (Exists.intro [] (And.intro (And.intro rfl (And.intro rfl (Nat.le_of_ble_eq_true rfl))) (Exists.intro 0 (Exists.intro 0 (Exists.intro 0 (Exists.intro _ (And.intro c_in (And.intro (And.intro (by decide) (And.intro (Nat.zero_le _) (Nat.zero_le _))) (eQP (show wp mX12_isAsked 1 rc rs Q 17 [some (vi x0)] [vi (b01 ((10 : Int) ≤ x0 ∧ x0 ≤ (73 : Int)))] h from xIf k_X12_isAsked_17 (And.intro (fun c5 => have v7 := v4.1 (b01_p.mp c5); (show wp mX12_isAsked 1 rc rs Q 32 [some (vi x0)] [] h from xGo k_X12_isAsked_32 (show wp mX12_isAsked 1 rc rs Q 37 [some (vi x0)] [vi 1] h from xZ k_X12_isAsked_37 (And.intro rfl (And.intro (Or.inr rfl) v7))))) (fun c6 => have v8 := v4.2 (b01_nn.mp c6); (show wp mX12_isAsked 1 rc rs Q 20 [some (vi x0)] [] h from xcS k_X12_isAsked_20 s_X12_isAsked_26 ((Exists.intro [vi x0, vi 100, vi 163] (Exists.intro [] (And.intro (And.intro rfl (And.intro rfl (Nat.le_of_ble_eq_true rfl))) (Exists.intro 0 (Exists.intro 0 (Exists.intro 0 (Exists.intro _ (And.intro c_in (And.intro (And.intro (by decide) (And.intro (Nat.zero_le _) (Nat.zero_le _))) (eQP (show wp mX12_isAsked 1 rc rs Q 29 [some (vi x0)] [vi (b01 ((100 : Int) ≤ x0 ∧ x0 ≤ (163 : Int)))] h from xIf k_X12_isAsked_29 (And.intro (fun c9 => have v11 := v8.1 (b01_n.mp c9); (show wp mX12_isAsked 1 rc rs Q 36 [some (vi x0)] [] h from xZ k_X12_isAsked_36 (And.intro rfl (And.intro (Or.inl rfl) v11)))) (fun c10 => have v12 := v8.2 (b01_p.mp c10); (show wp mX12_isAsked 1 rc rs Q 32 [some (vi x0)] [] h from xGo k_X12_isAsked_32 (show wp mX12_isAsked 1 rc rs Q 37 [some (vi x0)] [vi 1] h from xZ k_X12_isAsked_37 (And.intro rfl (And.intro (Or.inr rfl) v12)))))))))))))))))))))))))))))))))))))))))))))))))
theorem e_X12_isAsked {mc ms : Nat} {Q : Option AV → AH → Prop} {h : AH} {x0 : Int} (hv : ((((0 : Int) ≤ x0 ∧ x0 ≤ (2 : Int)) → Q (some (vi 1)) h) ∧ (¬ ((0 : Int) ≤ x0 ∧ x0 ≤ (2 : Int)) → ((((10 : Int) ≤ x0 ∧ x0 ≤ (73 : Int)) → Q (some (vi 1)) h) ∧ (¬ ((10 : Int) ≤ x0 ∧ x0 ≤ (73 : Int)) → ((¬ ((100 : Int) ≤ x0 ∧ x0 ≤ (163 : Int)) → Q (some (vi 0)) h) ∧ (((100 : Int) ≤ x0 ∧ x0 ≤ (163 : Int)) → Q (some (vi 1)) h))))))) : Ct 1 mc ms mX12_isAsked [vi x0] h Q := Ct.of (by decide +kernel) (Nat.le_of_ble_eq_true rfl) (t_X12_isAsked_0 hv)
def b_X12_byteAt_0 : List IE := [(.iload_n 1, 1, 0, 0, 1, 0), (.aload_n 0, 1, 0, 0, 0, 0), (.getfield 120, 3, 0, 12, 18, 0)]
theorem k_X12_byteAt_0 : ckIc mX12_byteAt 12 0 b_X12_byteAt_0 5 3 12 17 8 = true := by decide +kernel
def b_X12_byteAt_8 : List IE := [(.aload_n 0, 1, 0, 0, 0, 0), (.getfield 54, 3, 0, 12, 17, 1), (.iload_n 1, 1, 0, 0, 1, 0), (.iaload, 1, 0, 0, 0, 0)]
theorem k_X12_byteAt_8 : ckGo mX12_byteAt 12 8 b_X12_byteAt_8 14 4 18 = true := by decide +kernel
def b_X12_byteAt_17 : List IE := [(.iconst (-1), 1, (-1), 0, 0, 0)]
theorem k_X12_byteAt_17 : ckI mX12_byteAt 12 17 b_X12_byteAt_17 18 = true := by decide +kernel
def b_X12_byteAt_18 : List IE := []
theorem k_X12_byteAt_18 : ckI mX12_byteAt 12 18 b_X12_byteAt_18 18 = true := by decide +kernel
theorem t_X12_byteAt_0 {rc rs : Nat} {Q : Option AV → AH → Prop} {h : AH} {x1 : Int} (hL : LayM h) (hv : (((iH h 89 18) ≤ x1 → Q (some (vi (-1))) h) ∧ (x1 < (iH h 89 18) → (0 ≤ x1 ∧ x1 < 64) ∧ Q (some (vi (iH h 1157 x1.toNat))) h))) : wp mX12_byteAt 0 rc rs Q 0 [some (vr 89), some (vi x1)] [] h :=
  (show wp mX12_byteAt 0 rc rs Q 0 [some (vr 89), some (vi x1)] [] h from xIc k_X12_byteAt_0 (And.intro (lm_89 hL) (And.intro (fun c1 => have v3 := hv.1 c1; (show wp mX12_byteAt 0 rc rs Q 17 [some (vr 89), some (vi x1)] [] h from xI k_X12_byteAt_17 (And.intro rfl v3))) (fun c2 => have v4 := hv.2 (Int.not_le.mp c2); (show wp mX12_byteAt 0 rc rs Q 8 [some (vr 89), some (vi x1)] [] h from xGo k_X12_byteAt_8 (And.intro (lm_89 hL) (Exists.intro 1157 (And.intro (lf_89_17 hL) (have c5 := v4.1; have v6 := v4.2; (And.intro (sdI (lm_1157 hL) c5) (show wp mX12_byteAt 0 rc rs Q 18 [some (vr 89), some (vi x1)] [vi (iH h 1157 x1.toNat)] h from xI k_X12_byteAt_18 (And.intro rfl v6))))))))))))
theorem e_X12_byteAt {mc ms : Nat} {Q : Option AV → AH → Prop} {h : AH} {x1 : Int} (hL : LayM h) (hv : (((iH h 89 18) ≤ x1 → Q (some (vi (-1))) h) ∧ (x1 < (iH h 89 18) → (0 ≤ x1 ∧ x1 < 64) ∧ Q (some (vi (iH h 1157 x1.toNat))) h))) : Ct 0 mc ms mX12_byteAt [vr 89, vi x1] h Q := Ct.of (by decide +kernel) (Nat.le_of_ble_eq_true rfl) (t_X12_byteAt_0 hL hv)
def b_X12_width_0 : List IE := [(.aload_n 0, 1, 0, 0, 0, 0), (.getfield 197, 3, 0, 12, 21, 0)]
theorem k_X12_width_0 : ckIf mX12_width 12 0 b_X12_width_0 4 0 11 15 7 = true := by decide +kernel
def b_X12_width_7 : List IE := [(.aload_n 0, 1, 0, 0, 0, 0), (.getfield 197, 3, 0, 12, 21, 0), (.iconst 2, 1, 2, 0, 0, 0)]
theorem k_X12_width_7 : ckIc mX12_width 12 7 b_X12_width_7 12 1 7 19 15 = true := by decide +kernel
def b_X12_width_15 : List IE := [(.iconst 3, 1, 3, 0, 0, 0)]
theorem k_X12_width_15 : ckGo mX12_width 12 15 b_X12_width_15 16 17 33 = true := by decide +kernel
def b_X12_width_19 : List IE := [(.aload_n 0, 1, 0, 0, 0, 0), (.getfield 197, 3, 0, 12, 21, 0), (.iconst 5, 1, 5, 0, 0, 0)]
theorem k_X12_width_19 : ckIc mX12_width 12 19 b_X12_width_19 24 1 8 32 27 = true := by decide +kernel
def b_X12_width_27 : List IE := [(.bipush 9, 2, 9, 0, 0, 0)]
theorem k_X12_width_27 : ckGo mX12_width 12 27 b_X12_width_27 29 4 33 = true := by decide +kernel
def b_X12_width_32 : List IE := [(.iconst 2, 1, 2, 0, 0, 0)]
theorem k_X12_width_32 : ckI mX12_width 12 32 b_X12_width_32 33 = true := by decide +kernel
def b_X12_width_33 : List IE := []
theorem k_X12_width_33 : ckI mX12_width 12 33 b_X12_width_33 33 = true := by decide +kernel
theorem t_X12_width_0 {rc rs : Nat} {Q : Option AV → AH → Prop} {h : AH}  (hL : LayM h) (hv : (((iH h 89 21) = 0 → Q (some (vi 3)) h) ∧ ((iH h 89 21) ≠ 0 → (((iH h 89 21) ≠ 2 → (((iH h 89 21) ≠ 5 → Q (some (vi 2)) h) ∧ ((iH h 89 21) = 5 → Q (some (vi 9)) h))) ∧ ((iH h 89 21) = 2 → Q (some (vi 3)) h))))) : wp mX12_width 0 rc rs Q 0 [some (vr 89)] [] h :=
  (show wp mX12_width 0 rc rs Q 0 [some (vr 89)] [] h from xIf k_X12_width_0 (And.intro (lm_89 hL) (And.intro (fun c1 => have v3 := hv.1 c1; (show wp mX12_width 0 rc rs Q 15 [some (vr 89)] [] h from xGo k_X12_width_15 (show wp mX12_width 0 rc rs Q 33 [some (vr 89)] [vi 3] h from xI k_X12_width_33 (And.intro rfl v3)))) (fun c2 => have v4 := hv.2 c2; (show wp mX12_width 0 rc rs Q 7 [some (vr 89)] [] h from xIc k_X12_width_7 (And.intro (lm_89 hL) (And.intro (fun c5 => have v7 := v4.1 c5; (show wp mX12_width 0 rc rs Q 19 [some (vr 89)] [] h from xIc k_X12_width_19 (And.intro (lm_89 hL) (And.intro (fun c9 => have v11 := v7.1 c9; (show wp mX12_width 0 rc rs Q 32 [some (vr 89)] [] h from xI k_X12_width_32 (And.intro rfl v11))) (fun c10 => have v12 := v7.2 (Decidable.not_not.mp c10); (show wp mX12_width 0 rc rs Q 27 [some (vr 89)] [] h from xGo k_X12_width_27 (show wp mX12_width 0 rc rs Q 33 [some (vr 89)] [vi 9] h from xI k_X12_width_33 (And.intro rfl v12)))))))) (fun c6 => have v8 := v4.2 (Decidable.not_not.mp c6); (show wp mX12_width 0 rc rs Q 15 [some (vr 89)] [] h from xGo k_X12_width_15 (show wp mX12_width 0 rc rs Q 33 [some (vr 89)] [vi 3] h from xI k_X12_width_33 (And.intro rfl v8)))))))))))
theorem e_X12_width {mc ms : Nat} {Q : Option AV → AH → Prop} {h : AH}  (hL : LayM h) (hv : (((iH h 89 21) = 0 → Q (some (vi 3)) h) ∧ ((iH h 89 21) ≠ 0 → (((iH h 89 21) ≠ 2 → (((iH h 89 21) ≠ 5 → Q (some (vi 2)) h) ∧ ((iH h 89 21) = 5 → Q (some (vi 9)) h))) ∧ ((iH h 89 21) = 2 → Q (some (vi 3)) h))))) : Ct 0 mc ms mX12_width [vr 89] h Q := Ct.of (by decide +kernel) (Nat.le_of_ble_eq_true rfl) (t_X12_width_0 hL hv)
def b_X12_is_0 : List IE := [(.aload_n 0, 1, 0, 0, 0, 0), (.getfield 288, 3, 0, 12, 40, 0)]
theorem k_X12_is_0 : ckIf mX12_is 12 0 b_X12_is_0 4 1 23 27 7 = true := by decide +kernel
def b_X12_is_7 : List IE := [(.aload_n 0, 1, 0, 0, 0, 0), (.getfield 297, 3, 0, 12, 37, 0), (.iload_n 1, 1, 0, 0, 1, 0)]
theorem k_X12_is_7 : ckIc mX12_is 12 7 b_X12_is_7 12 1 15 27 15 = true := by decide +kernel
def b_X12_is_15 : List IE := [(.aload_n 0, 1, 0, 0, 0, 0), (.getfield 303, 3, 0, 12, 38, 0), (.iload_n 2, 1, 0, 0, 2, 0)]
theorem k_X12_is_15 : ckIc mX12_is 12 15 b_X12_is_15 20 1 7 27 23 = true := by decide +kernel
def b_X12_is_23 : List IE := [(.iconst 1, 1, 1, 0, 0, 0)]
theorem k_X12_is_23 : ckGo mX12_is 12 23 b_X12_is_23 24 4 28 = true := by decide +kernel
def b_X12_is_27 : List IE := [(.iconst 0, 1, 0, 0, 0, 0)]
theorem k_X12_is_27 : ckZ mX12_is 12 27 b_X12_is_27 28 = true := by decide +kernel
def b_X12_is_28 : List IE := []
theorem k_X12_is_28 : ckZ mX12_is 12 28 b_X12_is_28 28 = true := by decide +kernel
theorem t_X12_is_0 {rc rs : Nat} {Q : Option AV → AH → Prop} {h : AH} {x1 x2 : Int} (hL : LayM h) (hv : (((iH h 89 40) ≠ 0 → Q (some (vi 0)) h) ∧ ((iH h 89 40) = 0 → (((iH h 89 37) ≠ x1 → Q (some (vi 0)) h) ∧ ((iH h 89 37) = x1 → (((iH h 89 38) ≠ x2 → Q (some (vi 0)) h) ∧ ((iH h 89 38) = x2 → Q (some (vi 1)) h))))))) : wp mX12_is 0 rc rs Q 0 [some (vr 89), some (vi x1), some (vi x2)] [] h :=
  (show wp mX12_is 0 rc rs Q 0 [some (vr 89), some (vi x1), some (vi x2)] [] h from xIf k_X12_is_0 (And.intro (lm_89 hL) (And.intro (fun c1 => have v3 := hv.1 c1; (show wp mX12_is 0 rc rs Q 27 [some (vr 89), some (vi x1), some (vi x2)] [] h from xZ k_X12_is_27 (And.intro rfl (And.intro (Or.inl rfl) v3)))) (fun c2 => have v4 := hv.2 (Decidable.not_not.mp c2); (show wp mX12_is 0 rc rs Q 7 [some (vr 89), some (vi x1), some (vi x2)] [] h from xIc k_X12_is_7 (And.intro (lm_89 hL) (And.intro (fun c5 => have v7 := v4.1 c5; (show wp mX12_is 0 rc rs Q 27 [some (vr 89), some (vi x1), some (vi x2)] [] h from xZ k_X12_is_27 (And.intro rfl (And.intro (Or.inl rfl) v7)))) (fun c6 => have v8 := v4.2 (Decidable.not_not.mp c6); (show wp mX12_is 0 rc rs Q 15 [some (vr 89), some (vi x1), some (vi x2)] [] h from xIc k_X12_is_15 (And.intro (lm_89 hL) (And.intro (fun c9 => have v11 := v8.1 c9; (show wp mX12_is 0 rc rs Q 27 [some (vr 89), some (vi x1), some (vi x2)] [] h from xZ k_X12_is_27 (And.intro rfl (And.intro (Or.inl rfl) v11)))) (fun c10 => have v12 := v8.2 (Decidable.not_not.mp c10); (show wp mX12_is 0 rc rs Q 23 [some (vr 89), some (vi x1), some (vi x2)] [] h from xGo k_X12_is_23 (show wp mX12_is 0 rc rs Q 28 [some (vr 89), some (vi x1), some (vi x2)] [vi 1] h from xZ k_X12_is_28 (And.intro rfl (And.intro (Or.inr rfl) v12))))))))))))))))
theorem e_X12_is {mc ms : Nat} {Q : Option AV → AH → Prop} {h : AH} {x1 x2 : Int} (hL : LayM h) (hv : (((iH h 89 40) ≠ 0 → Q (some (vi 0)) h) ∧ ((iH h 89 40) = 0 → (((iH h 89 37) ≠ x1 → Q (some (vi 0)) h) ∧ ((iH h 89 37) = x1 → (((iH h 89 38) ≠ x2 → Q (some (vi 0)) h) ∧ ((iH h 89 38) = x2 → Q (some (vi 1)) h))))))) : Ct 0 mc ms mX12_is [vr 89, vi x1, vi x2] h Q := Ct.of (by decide +kernel) (Nat.le_of_ble_eq_true rfl) (t_X12_is_0 hL hv)
theorem c_isKey {h : AH} {a : Int} : Ct 1 0 0 mX12_isKey [vi a] h (QI fun x h' => x = b01 (0 ≤ a ∧ a ≤ 99) ∧ h' = h) := e_X12_isKey ⟨_, rfl, rfl, rfl⟩
theorem c_isView {h : AH} {a : Int} : Ct 1 0 0 mX12_isView [vi a] h (QI fun x h' => x = b01 (0 ≤ a ∧ a ≤ 3) ∧ h' = h) := e_X12_isView ⟨_, rfl, rfl, rfl⟩
theorem c_isByte {h : AH} {a : Int} : Ct 1 0 0 mX12_isByte [vi a] h (QI fun x h' => x = b01 (0 ≤ a ∧ a ≤ 255) ∧ h' = h) := e_X12_isByte ⟨_, rfl, rfl, rfl⟩
theorem c_isSheet {h : AH} {a : Int} : Ct 1 0 0 mX12_isSheet [vi a] h (QI fun x h' => x = b01 (0 ≤ a ∧ a ≤ 3) ∧ h' = h) := e_X12_isSheet ⟨_, rfl, rfl, rfl⟩
theorem c_isLetter {h : AH} {a : Int} : Ct 1 0 0 mX12_isLetter [vi a] h (QI fun x h' => x = b01 (97 ≤ a ∧ a ≤ 122) ∧ h' = h) := e_X12_isLetter ⟨_, rfl, rfl, rfl⟩
theorem c_isBlank {h : AH} {a : Int} : Ct 0 0 0 mX12_isBlank [vi a] h (QI fun x h' => x = b01 (a = 32 ∨ a = 10) ∧ h' = h) :=
  e_X12_isBlank ⟨fun _ => ⟨_, rfl, (b01_t (by omega)).symm, rfl⟩, fun _ => ⟨fun _ => ⟨_, rfl, (b01_f (by omega)).symm, rfl⟩, fun _ => ⟨_, rfl, (b01_t (by omega)).symm, rfl⟩⟩⟩
theorem c_isSegment {h : AH} (hL : LayM h) {a : Int} (hp : 0 ≤ iH h 89 13 ∧ iH h 89 13 ≤ 8) : Ct 1 0 0 mX12_isSegment [vr 89, vi a] h (QI fun x h' => x = b01 (0 ≤ a ∧ a ≤ (iH h 89 13 - 1)) ∧ h' = h) := e_X12_isSegment hL ⟨by omega, _, rfl, rfl, rfl⟩
theorem c_isQuery {h : AH} (hL : LayM h) {a : Int} (hp : 0 ≤ iH h 89 30 ∧ iH h 89 30 ≤ 6) : Ct 1 0 0 mX12_isQuery [vr 89, vi a] h (QI fun x h' => x = b01 (0 ≤ a ∧ a ≤ (iH h 89 30 - 1)) ∧ h' = h) := e_X12_isQuery hL ⟨by omega, _, rfl, rfl, rfl⟩
theorem c_isAsked {h : AH} {a : Int} : Ct 1 0 0 mX12_isAsked [vi a] h (QI fun x h' => x = b01 ((0 ≤ a ∧ a ≤ 2) ∨ (10 ≤ a ∧ a ≤ 73) ∨ (100 ≤ a ∧ a ≤ 163)) ∧ h' = h) :=
  e_X12_isAsked ⟨fun c => ⟨_, rfl, (b01_t (Or.inl c)).symm, rfl⟩, fun c => ⟨fun c1 => ⟨_, rfl, (b01_t (Or.inr (Or.inl c1))).symm, rfl⟩, fun c1 => ⟨fun c2 => ⟨_, rfl, (b01_f (by omega)).symm, rfl⟩, fun c2 => ⟨_, rfl, (b01_t (Or.inr (Or.inr c2))).symm, rfl⟩⟩⟩⟩
def m_byteAt (h : AH) (k : Int) : Int := if k < iH h 89 18 then iH h 1157 k.toNat else -1
theorem c_byteAt {h : AH} (hL : LayM h) {k : Int} (hp : 0 ≤ k ∧ iH h 89 18 ≤ 64) : Ct 0 0 0 mX12_byteAt [vr 89, vi k] h (QI fun x h' => x = m_byteAt h k ∧ h' = h) :=
  e_X12_byteAt hL ⟨fun c => ⟨_, rfl, (if_neg (by omega)).symm, rfl⟩, fun c => ⟨by omega, _, rfl, (if_pos (by omega)).symm, rfl⟩⟩
def m_width (h : AH) : Int := if iH h 89 21 = 0 ∨ iH h 89 21 = 2 then 3 else if iH h 89 21 = 5 then 9 else 2
theorem c_width {h : AH} (hL : LayM h) : Ct 0 0 0 mX12_width [vr 89] h (QI fun x h' => x = m_width h ∧ h' = h) :=
  e_X12_width hL ⟨fun c => ⟨_, rfl, (if_pos (Or.inl c)).symm, rfl⟩, fun c => ⟨fun c2 => ⟨fun c3 => ⟨_, rfl, by unfold m_width; rw [if_neg (by omega), if_neg c3], rfl⟩, fun c3 => ⟨_, rfl, by unfold m_width; rw [if_neg (by omega), if_pos c3], rfl⟩⟩, fun c2 => ⟨_, rfl, (if_pos (Or.inr c2)).symm, rfl⟩⟩⟩
def m_is (h : AH) (t v : Int) : Prop := iH h 89 40 = 0 ∧ iH h 89 37 = t ∧ iH h 89 38 = v
theorem c_is {h : AH} (hL : LayM h) {t v : Int} : Ct 0 0 0 mX12_is [vr 89, vi t, vi v] h (QI fun x h' => x = b01 (m_is h t v) ∧ h' = h) :=
  e_X12_is hL ⟨fun c => ⟨_, rfl, (b01_f (fun q => c q.1)).symm, rfl⟩, fun c => ⟨fun c2 => ⟨_, rfl, (b01_f (fun q => c2 q.2.1)).symm, rfl⟩, fun c2 => ⟨fun c3 => ⟨_, rfl, (b01_f (fun q => c3 q.2.2)).symm, rfl⟩, fun c3 => ⟨_, rfl, (b01_t ⟨c, c2, c3⟩).symm, rfl⟩⟩⟩⟩
def b_X12_liveOf_0 : List IE := [(.iconst 0, 1, 0, 0, 0, 0), (.istore_n 2, 1, 0, 0, 2, 0), (.iconst 0, 1, 0, 0, 0, 0), (.istore_n 3, 1, 0, 0, 3, 0)]
theorem k_X12_liveOf_0 : ckB mX12_liveOf 12 0 b_X12_liveOf_0 4 = true := by decide +kernel
def b_X12_liveOf_4 : List IE := [(.iload_n 3, 1, 0, 0, 3, 0), (.aload_n 0, 1, 0, 0, 0, 0), (.getfield 28, 3, 0, 12, 7, 1), (.iload_n 1, 1, 0, 0, 1, 0), (.iaload, 1, 0, 0, 0, 0)]
theorem k_X12_liveOf_4 : ckIc mX12_liveOf 12 4 b_X12_liveOf_4 11 3 28 39 14 = true := by decide +kernel
def b_X12_liveOf_14 : List IE := [(.aload_n 0, 1, 0, 0, 0, 0), (.getfield 21, 3, 0, 12, 4, 1), (.aload_n 0, 1, 0, 0, 0, 0), (.getfield 31, 3, 0, 12, 8, 1), (.iload_n 1, 1, 0, 0, 1, 0), (.aaload, 1, 0, 0, 0, 0), (.iload_n 3, 1, 0, 0, 3, 0), (.iaload, 1, 0, 0, 0, 0), (.baload, 1, 0, 0, 0, 0)]
theorem k_X12_liveOf_14 : ckIf mX12_liveOf 12 14 b_X12_liveOf_14 27 1 6 33 30 = true := by decide +kernel
def b_X12_liveOf_30 : List IE := [(.iinc 2 1, 3, 1, 0, 2, 0), (.iinc 3 1, 3, 1, 0, 3, 0)]
theorem k_X12_liveOf_30 : ckGo mX12_liveOf 12 30 b_X12_liveOf_30 36 (-32) 4 = true := by decide +kernel
def b_X12_liveOf_33 : List IE := [(.iinc 3 1, 3, 1, 0, 3, 0)]
theorem k_X12_liveOf_33 : ckGo mX12_liveOf 12 33 b_X12_liveOf_33 36 (-32) 4 = true := by decide +kernel
def b_X12_liveOf_39 : List IE := [(.iload_n 2, 1, 0, 0, 2, 0)]
theorem k_X12_liveOf_39 : ckI mX12_liveOf 12 39 b_X12_liveOf_39 40 = true := by decide +kernel
theorem t_X12_liveOf_0 {rc rs : Nat} {Q : Option AV → AH → Prop} {h : AH} {x1 : Int} (hL : LayM h) (hv : wp mX12_liveOf 0 rc rs Q 4 [some (vr 89), some (vi x1), some (vi 0), some (vi 0)] [] h) : wp mX12_liveOf 0 rc rs Q 0 [some (vr 89), some (vi x1), none, none] [] h :=
  (show wp mX12_liveOf 0 rc rs Q 0 [some (vr 89), some (vi x1), none, none] [] h from xB k_X12_liveOf_0 (And.intro rfl (And.intro rfl hv)))
theorem e_X12_liveOf {mc ms : Nat} {Q : Option AV → AH → Prop} {h : AH} {x1 : Int} (hL : LayM h) (hv : wp mX12_liveOf 0 mc ms Q 4 [some (vr 89), some (vi x1), some (vi 0), some (vi 0)] [] h) : Ct 0 mc ms mX12_liveOf [vr 89, vi x1] h Q := Ct.of (by decide +kernel) (Nat.le_of_ble_eq_true rfl) (t_X12_liveOf_0 hL hv)
theorem t_X12_liveOf_4 {rc rs : Nat} {Q : Option AV → AH → Prop} {h : AH} {x1 x2 x3 : Int} (hL : LayM h) (hv : (0 ≤ x1 ∧ x1 < 520) ∧ (((iH h 615 x1.toNat) ≤ x3 → Q (some (vi x2)) h) ∧ (x3 < (iH h 615 x1.toNat) → (0 ≤ x3 ∧ x3 < 64) ∧ (0 ≤ iH h (617 + x1.toNat) x3.toNat ∧ iH h (617 + x1.toNat) x3.toNat < 520) ∧ (((iH h 613 ((iH h (617 + x1.toNat) x3.toNat).toNat)) ≠ 0 → (-2147483648 ≤ (x3 + 1) ∧ (x3 + 1) < 2147483648) ∧ wp mX12_liveOf 0 rc rs Q 4 [some (vr 89), some (vi x1), some (vi x2), some (vi (x3 + 1))] [] h) ∧ ((iH h 613 ((iH h (617 + x1.toNat) x3.toNat).toNat)) = 0 → (-2147483648 ≤ (x2 + 1) ∧ (x2 + 1) < 2147483648) ∧ (-2147483648 ≤ (x3 + 1) ∧ (x3 + 1) < 2147483648) ∧ wp mX12_liveOf 0 rc rs Q 4 [some (vr 89), some (vi x1), some (vi (x2 + 1)), some (vi (x3 + 1))] [] h))))) : wp mX12_liveOf 0 rc rs Q 4 [some (vr 89), some (vi x1), some (vi x2), some (vi x3)] [] h :=
  (show wp mX12_liveOf 0 rc rs Q 4 [some (vr 89), some (vi x1), some (vi x2), some (vi x3)] [] h from xIc k_X12_liveOf_4 (And.intro (lm_89 hL) (Exists.intro 615 (And.intro (lf_89_7 hL) (have c1 := hv.1; have v21 := hv.2; (And.intro (sdI (lm_615 hL) c1) (And.intro (fun c2 => have v4 := v21.1 c2; (show wp mX12_liveOf 0 rc rs Q 39 [some (vr 89), some (vi x1), some (vi x2), some (vi x3)] [] h from xI k_X12_liveOf_39 (And.intro rfl v4))) (fun c3 => have v5 := v21.2 (Int.not_le.mp c3); (show wp mX12_liveOf 0 rc rs Q 14 [some (vr 89), some (vi x1), some (vi x2), some (vi x3)] [] h from xIf k_X12_liveOf_14 (And.intro (lm_89 hL) (Exists.intro 613 (And.intro (lf_89_4 hL) (And.intro (lm_89 hL) (Exists.intro 616 (And.intro (lf_89_8 hL) (And.intro (sdQ (lm_616 hL) c1) (Exists.intro (617 + x1.toNat) (And.intro (lr_members hL (tnl c1)) (have c7 := v5.1; have v20 := v5.2; (And.intro (sdI (lk_members hL (tnl c1)) c7) (have c8 := v20.1; have v19 := v20.2; (And.intro (sdZ (lm_613 hL) c8) (And.intro (fun c9 => have v11 := v19.1 c9; (show wp mX12_liveOf 0 rc rs Q 33 [some (vr 89), some (vi x1), some (vi x2), some (vi x3)] [] h from xGo k_X12_liveOf_33 (have c13 := v11.1; have v14 := v11.2; (And.intro c13 (And.intro rfl v14))))) (fun c10 => have v12 := v19.2 (Decidable.not_not.mp c10); (show wp mX12_liveOf 0 rc rs Q 30 [some (vr 89), some (vi x1), some (vi x2), some (vi x3)] [] h from xGo k_X12_liveOf_30 (have c15 := v12.1; have v18 := v12.2; (And.intro c15 (And.intro rfl (have c16 := v18.1; have v17 := v18.2; (And.intro c16 (And.intro rfl v17)))))))))))))))))))))))))))))))
def b_X12_hasWord_0 : List IE := [(.iconst 0, 1, 0, 0, 0, 0), (.istore_n 3, 1, 0, 0, 3, 0)]
theorem k_X12_hasWord_0 : ckB mX12_hasWord 12 0 b_X12_hasWord_0 2 = true := by decide +kernel
def b_X12_hasWord_2 : List IE := [(.iload_n 3, 1, 0, 0, 3, 0), (.aload_n 0, 1, 0, 0, 0, 0), (.getfield 13, 3, 0, 12, 2, 1), (.iload_n 1, 1, 0, 0, 1, 0), (.iaload, 1, 0, 0, 0, 0)]
theorem k_X12_hasWord_2 : ckIc mX12_hasWord 12 2 b_X12_hasWord_2 9 3 23 32 12 = true := by decide +kernel
def b_X12_hasWord_12 : List IE := [(.aload_n 0, 1, 0, 0, 0, 0), (.getfield 18, 3, 0, 12, 3, 1), (.iload_n 1, 1, 0, 0, 1, 0), (.aaload, 1, 0, 0, 0, 0), (.iload_n 3, 1, 0, 0, 3, 0), (.iaload, 1, 0, 0, 0, 0), (.iload_n 2, 1, 0, 0, 2, 0)]
theorem k_X12_hasWord_12 : ckIc mX12_hasWord 12 12 b_X12_hasWord_12 21 1 5 26 24 = true := by decide +kernel
def b_X12_hasWord_24 : List IE := [(.iconst 1, 1, 1, 0, 0, 0)]
theorem k_X12_hasWord_24 : ckZ mX12_hasWord 12 24 b_X12_hasWord_24 25 = true := by decide +kernel
def b_X12_hasWord_26 : List IE := [(.iinc 3 1, 3, 1, 0, 3, 0)]
theorem k_X12_hasWord_26 : ckGo mX12_hasWord 12 26 b_X12_hasWord_26 29 (-27) 2 = true := by decide +kernel
def b_X12_hasWord_32 : List IE := [(.iconst 0, 1, 0, 0, 0, 0)]
theorem k_X12_hasWord_32 : ckZ mX12_hasWord 12 32 b_X12_hasWord_32 33 = true := by decide +kernel
theorem t_X12_hasWord_0 {rc rs : Nat} {Q : Option AV → AH → Prop} {h : AH} {x1 x2 : Int} (hL : LayM h) (hv : wp mX12_hasWord 0 rc rs Q 2 [some (vr 89), some (vi x1), some (vi x2), some (vi 0)] [] h) : wp mX12_hasWord 0 rc rs Q 0 [some (vr 89), some (vi x1), some (vi x2), none] [] h :=
  (show wp mX12_hasWord 0 rc rs Q 0 [some (vr 89), some (vi x1), some (vi x2), none] [] h from xB k_X12_hasWord_0 (And.intro rfl hv))
theorem e_X12_hasWord {mc ms : Nat} {Q : Option AV → AH → Prop} {h : AH} {x1 x2 : Int} (hL : LayM h) (hv : wp mX12_hasWord 0 mc ms Q 2 [some (vr 89), some (vi x1), some (vi x2), some (vi 0)] [] h) : Ct 0 mc ms mX12_hasWord [vr 89, vi x1, vi x2] h Q := Ct.of (by decide +kernel) (Nat.le_of_ble_eq_true rfl) (t_X12_hasWord_0 hL hv)
theorem t_X12_hasWord_2 {rc rs : Nat} {Q : Option AV → AH → Prop} {h : AH} {x1 x2 x3 : Int} (hL : LayM h) (hv : (0 ≤ x1 ∧ x1 < 520) ∧ (((iH h 91 x1.toNat) ≤ x3 → Q (some (vi 0)) h) ∧ (x3 < (iH h 91 x1.toNat) → (0 ≤ x3 ∧ x3 < 12) ∧ (((iH h (93 + x1.toNat) x3.toNat) ≠ x2 → (-2147483648 ≤ (x3 + 1) ∧ (x3 + 1) < 2147483648) ∧ wp mX12_hasWord 0 rc rs Q 2 [some (vr 89), some (vi x1), some (vi x2), some (vi (x3 + 1))] [] h) ∧ ((iH h (93 + x1.toNat) x3.toNat) = x2 → Q (some (vi 1)) h))))) : wp mX12_hasWord 0 rc rs Q 2 [some (vr 89), some (vi x1), some (vi x2), some (vi x3)] [] h :=
  (show wp mX12_hasWord 0 rc rs Q 2 [some (vr 89), some (vi x1), some (vi x2), some (vi x3)] [] h from xIc k_X12_hasWord_2 (And.intro (lm_89 hL) (Exists.intro 91 (And.intro (lf_89_2 hL) (have c1 := hv.1; have v15 := hv.2; (And.intro (sdI (lm_91 hL) c1) (And.intro (fun c2 => have v4 := v15.1 c2; (show wp mX12_hasWord 0 rc rs Q 32 [some (vr 89), some (vi x1), some (vi x2), some (vi x3)] [] h from xZ k_X12_hasWord_32 (And.intro rfl (And.intro (Or.inl rfl) v4)))) (fun c3 => have v5 := v15.2 (Int.not_le.mp c3); (show wp mX12_hasWord 0 rc rs Q 12 [some (vr 89), some (vi x1), some (vi x2), some (vi x3)] [] h from xIc k_X12_hasWord_12 (And.intro (lm_89 hL) (Exists.intro 92 (And.intro (lf_89_3 hL) (And.intro (sdQ (lm_92 hL) c1) (Exists.intro (93 + x1.toNat) (And.intro (lr_words hL (tnl c1)) (have c7 := v5.1; have v14 := v5.2; (And.intro (sdI (lk_words hL (tnl c1)) c7) (And.intro (fun c8 => have v10 := v14.1 c8; (show wp mX12_hasWord 0 rc rs Q 26 [some (vr 89), some (vi x1), some (vi x2), some (vi x3)] [] h from xGo k_X12_hasWord_26 (have c12 := v10.1; have v13 := v10.2; (And.intro c12 (And.intro rfl v13))))) (fun c9 => have v11 := v14.2 (Decidable.not_not.mp c9); (show wp mX12_hasWord 0 rc rs Q 24 [some (vr 89), some (vi x1), some (vi x2), some (vi x3)] [] h from xZ k_X12_hasWord_24 (And.intro rfl (And.intro (Or.inr rfl) v11))))))))))))))))))))))
def b_X12_bufferPlace_0 : List IE := [(.iconst 0, 1, 0, 0, 0, 0), (.istore_n 2, 1, 0, 0, 2, 0)]
theorem k_X12_bufferPlace_0 : ckB mX12_bufferPlace 12 0 b_X12_bufferPlace_0 2 = true := by decide +kernel
def b_X12_bufferPlace_2 : List IE := [(.iload_n 2, 1, 0, 0, 2, 0), (.aload_n 0, 1, 0, 0, 0, 0), (.getfield 140, 3, 0, 12, 15, 0)]
theorem k_X12_bufferPlace_2 : ckIc mX12_bufferPlace 12 2 b_X12_bufferPlace_2 7 3 26 33 10 = true := by decide +kernel
def b_X12_bufferPlace_10 : List IE := [(.aload_n 0, 1, 0, 0, 0, 0), (.getfield 9, 3, 0, 12, 1, 1), (.aload_n 0, 1, 0, 0, 0, 0), (.getfield 51, 3, 0, 12, 16, 1), (.iload_n 2, 1, 0, 0, 2, 0), (.iaload, 1, 0, 0, 0, 0), (.iaload, 1, 0, 0, 0, 0), (.iload_n 1, 1, 0, 0, 1, 0)]
theorem k_X12_bufferPlace_10 : ckIc mX12_bufferPlace 12 10 b_X12_bufferPlace_10 22 1 5 27 25 = true := by decide +kernel
def b_X12_bufferPlace_25 : List IE := [(.iload_n 2, 1, 0, 0, 2, 0)]
theorem k_X12_bufferPlace_25 : ckI mX12_bufferPlace 12 25 b_X12_bufferPlace_25 26 = true := by decide +kernel
def b_X12_bufferPlace_27 : List IE := [(.iinc 2 1, 3, 1, 0, 2, 0)]
theorem k_X12_bufferPlace_27 : ckGo mX12_bufferPlace 12 27 b_X12_bufferPlace_27 30 (-28) 2 = true := by decide +kernel
def b_X12_bufferPlace_33 : List IE := [(.iconst (-1), 1, (-1), 0, 0, 0)]
theorem k_X12_bufferPlace_33 : ckI mX12_bufferPlace 12 33 b_X12_bufferPlace_33 34 = true := by decide +kernel
theorem t_X12_bufferPlace_0 {rc rs : Nat} {Q : Option AV → AH → Prop} {h : AH} {x1 : Int} (hL : LayM h) (hv : wp mX12_bufferPlace 0 rc rs Q 2 [some (vr 89), some (vi x1), some (vi 0)] [] h) : wp mX12_bufferPlace 0 rc rs Q 0 [some (vr 89), some (vi x1), none] [] h :=
  (show wp mX12_bufferPlace 0 rc rs Q 0 [some (vr 89), some (vi x1), none] [] h from xB k_X12_bufferPlace_0 (And.intro rfl hv))
theorem e_X12_bufferPlace {mc ms : Nat} {Q : Option AV → AH → Prop} {h : AH} {x1 : Int} (hL : LayM h) (hv : wp mX12_bufferPlace 0 mc ms Q 2 [some (vr 89), some (vi x1), some (vi 0)] [] h) : Ct 0 mc ms mX12_bufferPlace [vr 89, vi x1] h Q := Ct.of (by decide +kernel) (Nat.le_of_ble_eq_true rfl) (t_X12_bufferPlace_0 hL hv)
theorem t_X12_bufferPlace_2 {rc rs : Nat} {Q : Option AV → AH → Prop} {h : AH} {x1 x2 : Int} (hL : LayM h) (hv : (((iH h 89 15) ≤ x2 → Q (some (vi (-1))) h) ∧ (x2 < (iH h 89 15) → (0 ≤ x2 ∧ x2 < 4) ∧ (0 ≤ iH h 1156 x2.toNat ∧ iH h 1156 x2.toNat < 520) ∧ (((iH h 90 ((iH h 1156 x2.toNat).toNat)) ≠ x1 → (-2147483648 ≤ (x2 + 1) ∧ (x2 + 1) < 2147483648) ∧ wp mX12_bufferPlace 0 rc rs Q 2 [some (vr 89), some (vi x1), some (vi (x2 + 1))] [] h) ∧ ((iH h 90 ((iH h 1156 x2.toNat).toNat)) = x1 → Q (some (vi x2)) h))))) : wp mX12_bufferPlace 0 rc rs Q 2 [some (vr 89), some (vi x1), some (vi x2)] [] h :=
  (show wp mX12_bufferPlace 0 rc rs Q 2 [some (vr 89), some (vi x1), some (vi x2)] [] h from xIc k_X12_bufferPlace_2 (And.intro (lm_89 hL) (And.intro (fun c1 => have v3 := hv.1 c1; (show wp mX12_bufferPlace 0 rc rs Q 33 [some (vr 89), some (vi x1), some (vi x2)] [] h from xI k_X12_bufferPlace_33 (And.intro rfl v3))) (fun c2 => have v4 := hv.2 (Int.not_le.mp c2); (show wp mX12_bufferPlace 0 rc rs Q 10 [some (vr 89), some (vi x1), some (vi x2)] [] h from xIc k_X12_bufferPlace_10 (And.intro (lm_89 hL) (Exists.intro 90 (And.intro (lf_89_1 hL) (And.intro (lm_89 hL) (Exists.intro 1156 (And.intro (lf_89_16 hL) (have c5 := v4.1; have v14 := v4.2; (And.intro (sdI (lm_1156 hL) c5) (have c6 := v14.1; have v13 := v14.2; (And.intro (sdI (lm_90 hL) c6) (And.intro (fun c7 => have v9 := v13.1 c7; (show wp mX12_bufferPlace 0 rc rs Q 27 [some (vr 89), some (vi x1), some (vi x2)] [] h from xGo k_X12_bufferPlace_27 (have c11 := v9.1; have v12 := v9.2; (And.intro c11 (And.intro rfl v12))))) (fun c8 => have v10 := v13.2 (Decidable.not_not.mp c8); (show wp mX12_bufferPlace 0 rc rs Q 25 [some (vr 89), some (vi x1), some (vi x2)] [] h from xI k_X12_bufferPlace_25 (And.intro rfl v10)))))))))))))))))))
def b_X12_stands_0 : List IE := [(.aload_n 0, 1, 0, 0, 0, 0), (.getfield 34, 3, 0, 12, 9, 1), (.iload_n 1, 1, 0, 0, 1, 0), (.baload, 1, 0, 0, 0, 0)]
theorem k_X12_stands_0 : ckIf mX12_stands 12 0 b_X12_stands_0 6 1 5 11 9 = true := by decide +kernel
def b_X12_stands_9 : List IE := [(.iconst 0, 1, 0, 0, 0, 0)]
theorem k_X12_stands_9 : ckZ mX12_stands 12 9 b_X12_stands_9 10 = true := by decide +kernel
def b_X12_stands_11 : List IE := [(.iconst 0, 1, 0, 0, 0, 0), (.istore_n 3, 1, 0, 0, 3, 0)]
theorem k_X12_stands_11 : ckB mX12_stands 12 11 b_X12_stands_11 13 = true := by decide +kernel
def b_X12_stands_13 : List IE := [(.iload_n 3, 1, 0, 0, 3, 0), (.aload_n 0, 1, 0, 0, 0, 0), (.getfield 37, 3, 0, 12, 10, 1), (.iload_n 1, 1, 0, 0, 1, 0), (.iaload, 1, 0, 0, 0, 0)]
theorem k_X12_stands_13 : ckIc mX12_stands 12 13 b_X12_stands_13 20 3 23 43 23 = true := by decide +kernel
def b_X12_stands_23 : List IE := [(.aload_n 0, 1, 0, 0, 0, 0), (.getfield 40, 3, 0, 12, 11, 1), (.iload_n 1, 1, 0, 0, 1, 0), (.aaload, 1, 0, 0, 0, 0), (.iload_n 3, 1, 0, 0, 3, 0), (.iaload, 1, 0, 0, 0, 0), (.iload_n 2, 1, 0, 0, 2, 0)]
theorem k_X12_stands_23 : ckIc mX12_stands 12 23 b_X12_stands_23 32 1 5 37 35 = true := by decide +kernel
def b_X12_stands_35 : List IE := [(.iconst 1, 1, 1, 0, 0, 0)]
theorem k_X12_stands_35 : ckZ mX12_stands 12 35 b_X12_stands_35 36 = true := by decide +kernel
def b_X12_stands_37 : List IE := [(.iinc 3 1, 3, 1, 0, 3, 0)]
theorem k_X12_stands_37 : ckGo mX12_stands 12 37 b_X12_stands_37 40 (-27) 13 = true := by decide +kernel
def b_X12_stands_43 : List IE := [(.iconst 0, 1, 0, 0, 0, 0)]
theorem k_X12_stands_43 : ckZ mX12_stands 12 43 b_X12_stands_43 44 = true := by decide +kernel
theorem t_X12_stands_0 {rc rs : Nat} {Q : Option AV → AH → Prop} {h : AH} {x1 x2 : Int} (hL : LayM h) (hv : (0 ≤ x1 ∧ x1 < 7) ∧ (((iH h 1137 x1.toNat) ≠ 0 → wp mX12_stands 0 rc rs Q 13 [some (vr 89), some (vi x1), some (vi x2), some (vi 0)] [] h) ∧ ((iH h 1137 x1.toNat) = 0 → Q (some (vi 0)) h))) : wp mX12_stands 0 rc rs Q 0 [some (vr 89), some (vi x1), some (vi x2), none] [] h :=
  (show wp mX12_stands 0 rc rs Q 0 [some (vr 89), some (vi x1), some (vi x2), none] [] h from xIf k_X12_stands_0 (And.intro (lm_89 hL) (Exists.intro 1137 (And.intro (lf_89_9 hL) (have c1 := hv.1; have v6 := hv.2; (And.intro (sdZ (lm_1137 hL) c1) (And.intro (fun c2 => have v4 := v6.1 c2; (show wp mX12_stands 0 rc rs Q 11 [some (vr 89), some (vi x1), some (vi x2), none] [] h from xB k_X12_stands_11 (And.intro rfl v4))) (fun c3 => have v5 := v6.2 (Decidable.not_not.mp c3); (show wp mX12_stands 0 rc rs Q 9 [some (vr 89), some (vi x1), some (vi x2), none] [] h from xZ k_X12_stands_9 (And.intro rfl (And.intro (Or.inl rfl) v5)))))))))))
theorem e_X12_stands {mc ms : Nat} {Q : Option AV → AH → Prop} {h : AH} {x1 x2 : Int} (hL : LayM h) (hv : (0 ≤ x1 ∧ x1 < 7) ∧ (((iH h 1137 x1.toNat) ≠ 0 → wp mX12_stands 0 mc ms Q 13 [some (vr 89), some (vi x1), some (vi x2), some (vi 0)] [] h) ∧ ((iH h 1137 x1.toNat) = 0 → Q (some (vi 0)) h))) : Ct 0 mc ms mX12_stands [vr 89, vi x1, vi x2] h Q := Ct.of (by decide +kernel) (Nat.le_of_ble_eq_true rfl) (t_X12_stands_0 hL hv)
theorem t_X12_stands_13 {rc rs : Nat} {Q : Option AV → AH → Prop} {h : AH} {x1 x2 x3 : Int} (hL : LayM h) (hv : (0 ≤ x1 ∧ x1 < 7) ∧ (((iH h 1138 x1.toNat) ≤ x3 → Q (some (vi 0)) h) ∧ (x3 < (iH h 1138 x1.toNat) → (0 ≤ x3 ∧ x3 < 8) ∧ (((iH h (1140 + x1.toNat) x3.toNat) ≠ x2 → (-2147483648 ≤ (x3 + 1) ∧ (x3 + 1) < 2147483648) ∧ wp mX12_stands 0 rc rs Q 13 [some (vr 89), some (vi x1), some (vi x2), some (vi (x3 + 1))] [] h) ∧ ((iH h (1140 + x1.toNat) x3.toNat) = x2 → Q (some (vi 1)) h))))) : wp mX12_stands 0 rc rs Q 13 [some (vr 89), some (vi x1), some (vi x2), some (vi x3)] [] h :=
  (show wp mX12_stands 0 rc rs Q 13 [some (vr 89), some (vi x1), some (vi x2), some (vi x3)] [] h from xIc k_X12_stands_13 (And.intro (lm_89 hL) (Exists.intro 1138 (And.intro (lf_89_10 hL) (have c1 := hv.1; have v15 := hv.2; (And.intro (sdI (lm_1138 hL) c1) (And.intro (fun c2 => have v4 := v15.1 c2; (show wp mX12_stands 0 rc rs Q 43 [some (vr 89), some (vi x1), some (vi x2), some (vi x3)] [] h from xZ k_X12_stands_43 (And.intro rfl (And.intro (Or.inl rfl) v4)))) (fun c3 => have v5 := v15.2 (Int.not_le.mp c3); (show wp mX12_stands 0 rc rs Q 23 [some (vr 89), some (vi x1), some (vi x2), some (vi x3)] [] h from xIc k_X12_stands_23 (And.intro (lm_89 hL) (Exists.intro 1139 (And.intro (lf_89_11 hL) (And.intro (sdQ (lm_1139 hL) c1) (Exists.intro (1140 + x1.toNat) (And.intro (lr_rows hL (tnl c1)) (have c7 := v5.1; have v14 := v5.2; (And.intro (sdI (lk_rows hL (tnl c1)) c7) (And.intro (fun c8 => have v10 := v14.1 c8; (show wp mX12_stands 0 rc rs Q 37 [some (vr 89), some (vi x1), some (vi x2), some (vi x3)] [] h from xGo k_X12_stands_37 (have c12 := v10.1; have v13 := v10.2; (And.intro c12 (And.intro rfl v13))))) (fun c9 => have v11 := v14.2 (Decidable.not_not.mp c9); (show wp mX12_stands 0 rc rs Q 35 [some (vr 89), some (vi x1), some (vi x2), some (vi x3)] [] h from xZ k_X12_stands_35 (And.intro rfl (And.intro (Or.inr rfl) v11))))))))))))))))))))))
def b_X12_power_0 : List IE := [(.iconst 1, 1, 1, 0, 0, 0), (.istore_n 1, 1, 0, 0, 1, 0), (.iconst 0, 1, 0, 0, 0, 0), (.istore_n 2, 1, 0, 0, 2, 0)]
theorem k_X12_power_0 : ckB mX12_power 12 0 b_X12_power_0 4 = true := by decide +kernel
def b_X12_power_4 : List IE := [(.iload_n 2, 1, 0, 0, 2, 0), (.iload_n 0, 1, 0, 0, 0, 0)]
theorem k_X12_power_4 : ckIc mX12_power 12 4 b_X12_power_4 6 3 14 20 9 = true := by decide +kernel
def b_X12_power_9 : List IE := [(.iload_n 1, 1, 0, 0, 1, 0), (.bipush 27, 2, 27, 0, 0, 0), (.imul, 1, 0, 0, 0, 0), (.istore_n 1, 1, 0, 0, 1, 0), (.iinc 2 1, 3, 1, 0, 2, 0)]
theorem k_X12_power_9 : ckGo mX12_power 12 9 b_X12_power_9 17 (-13) 4 = true := by decide +kernel
def b_X12_power_20 : List IE := [(.iload_n 1, 1, 0, 0, 1, 0)]
theorem k_X12_power_20 : ckI mX12_power 12 20 b_X12_power_20 21 = true := by decide +kernel
theorem t_X12_power_0 {rc rs : Nat} {Q : Option AV → AH → Prop} {h : AH} {x0 : Int} (hv : wp mX12_power 0 rc rs Q 4 [some (vi x0), some (vi 1), some (vi 0)] [] h) : wp mX12_power 0 rc rs Q 0 [some (vi x0), none, none] [] h :=
  (show wp mX12_power 0 rc rs Q 0 [some (vi x0), none, none] [] h from xB k_X12_power_0 (And.intro rfl (And.intro rfl hv)))
theorem e_X12_power {mc ms : Nat} {Q : Option AV → AH → Prop} {h : AH} {x0 : Int} (hv : wp mX12_power 0 mc ms Q 4 [some (vi x0), some (vi 1), some (vi 0)] [] h) : Ct 0 mc ms mX12_power [vi x0] h Q := Ct.of (by decide +kernel) (Nat.le_of_ble_eq_true rfl) (t_X12_power_0 hv)
theorem t_X12_power_4 {rc rs : Nat} {Q : Option AV → AH → Prop} {h : AH} {x0 x1 x2 : Int} (hv : ((x0 ≤ x2 → Q (some (vi x1)) h) ∧ (x2 < x0 → (-2147483648 ≤ (x1 * 27) ∧ (x1 * 27) < 2147483648) ∧ (-2147483648 ≤ (x2 + 1) ∧ (x2 + 1) < 2147483648) ∧ wp mX12_power 0 rc rs Q 4 [some (vi x0), some (vi (x1 * 27)), some (vi (x2 + 1))] [] h))) : wp mX12_power 0 rc rs Q 4 [some (vi x0), some (vi x1), some (vi x2)] [] h :=
  (show wp mX12_power 0 rc rs Q 4 [some (vi x0), some (vi x1), some (vi x2)] [] h from xIc k_X12_power_4 (And.intro (fun c1 => have v3 := hv.1 c1; (show wp mX12_power 0 rc rs Q 20 [some (vi x0), some (vi x1), some (vi x2)] [] h from xI k_X12_power_20 (And.intro rfl v3))) (fun c2 => have v4 := hv.2 (Int.not_le.mp c2); (show wp mX12_power 0 rc rs Q 9 [some (vi x0), some (vi x1), some (vi x2)] [] h from xGo k_X12_power_9 (have c5 := v4.1; have v8 := v4.2; (And.intro c5 (And.intro rfl (have c6 := v8.1; have v7 := v8.2; (And.intro c6 (And.intro rfl v7))))))))))
def b_X12_plainWord_0 : List IE := [(.iload_n 0, 1, 0, 0, 0, 0), (.istore_n 1, 1, 0, 0, 1, 0)]
theorem k_X12_plainWord_0 : ckB mX12_plainWord 12 0 b_X12_plainWord_0 2 = true := by decide +kernel
def b_X12_plainWord_2 : List IE := [(.iload_n 1, 1, 0, 0, 1, 0), (.bipush 27, 2, 27, 0, 0, 0), (.irem, 1, 0, 0, 0, 0)]
theorem k_X12_plainWord_2 : ckIf mX12_plainWord 12 2 b_X12_plainWord_2 6 1 11 17 9 = true := by decide +kernel
def b_X12_plainWord_9 : List IE := [(.iload_n 1, 1, 0, 0, 1, 0), (.bipush 27, 2, 27, 0, 0, 0), (.idiv, 1, 0, 0, 0, 0), (.istore_n 1, 1, 0, 0, 1, 0)]
theorem k_X12_plainWord_9 : ckGo mX12_plainWord 12 9 b_X12_plainWord_9 14 (-12) 2 = true := by decide +kernel
def b_X12_plainWord_17 : List IE := [(.iload_n 1, 1, 0, 0, 1, 0)]
theorem k_X12_plainWord_17 : ckI mX12_plainWord 12 17 b_X12_plainWord_17 18 = true := by decide +kernel
theorem t_X12_plainWord_0 {rc rs : Nat} {Q : Option AV → AH → Prop} {h : AH} {x0 : Int} (hv : wp mX12_plainWord 0 rc rs Q 2 [none, some (vi x0)] [] h) : wp mX12_plainWord 0 rc rs Q 0 [some (vi x0), none] [] h :=
  (show wp mX12_plainWord 0 rc rs Q 0 [some (vi x0), none] [] h from xB k_X12_plainWord_0 (And.intro rfl (w_fg [false, true] hv)))
theorem e_X12_plainWord {mc ms : Nat} {Q : Option AV → AH → Prop} {h : AH} {x0 : Int} (hv : wp mX12_plainWord 0 mc ms Q 2 [none, some (vi x0)] [] h) : Ct 0 mc ms mX12_plainWord [vi x0] h Q := Ct.of (by decide +kernel) (Nat.le_of_ble_eq_true rfl) (t_X12_plainWord_0 hv)
theorem t_X12_plainWord_2 {rc rs : Nat} {Q : Option AV → AH → Prop} {h : AH} {x1 : Int} (hv : (0 ≤ x1 ∧ x1 < 2147483648) ∧ (((x1 % 27) ≠ 0 → Q (some (vi x1)) h) ∧ ((x1 % 27) = 0 → wp mX12_plainWord 0 rc rs Q 2 [none, some (vi (x1 / 27))] [] h))) : wp mX12_plainWord 0 rc rs Q 2 [none, some (vi x1)] [] h :=
  (show wp mX12_plainWord 0 rc rs Q 2 [none, some (vi x1)] [] h from xIf k_X12_plainWord_2 (have c1 := hv.1; have v7 := hv.2; (And.intro (sd_irem (z := 27) (by decide) c1) (And.intro (fun c2 => have v4 := v7.1 c2; (show wp mX12_plainWord 0 rc rs Q 17 [none, some (vi x1)] [] h from xI k_X12_plainWord_17 (And.intro rfl v4))) (fun c3 => have v5 := v7.2 (Decidable.not_not.mp c3); (show wp mX12_plainWord 0 rc rs Q 9 [none, some (vi x1)] [] h from xGo k_X12_plainWord_9 (And.intro (sd_idiv (z := 27) (by decide) c1) (And.intro rfl v5))))))))
def b_X12_wordFrom_0 : List IE := [(.iconst 0, 1, 0, 0, 0, 0), (.istore_n 3, 1, 0, 0, 3, 0), (.iconst 0, 1, 0, 0, 0, 0), (.istore 4, 2, 0, 0, 4, 0)]
theorem k_X12_wordFrom_0 : ckB mX12_wordFrom 12 0 b_X12_wordFrom_0 5 = true := by decide +kernel
def b_X12_wordFrom_5 : List IE := [(.iload 4, 2, 0, 0, 4, 0), (.bipush 6, 2, 6, 0, 0, 0)]
theorem k_X12_wordFrom_5 : ckIc mX12_wordFrom 12 5 b_X12_wordFrom_5 9 3 41 50 12 = true := by decide +kernel
def b_X12_wordFrom_12 : List IE := [(.bipush 27, 2, 27, 0, 0, 0), (.iload_n 3, 1, 0, 0, 3, 0), (.imul, 1, 0, 0, 0, 0), (.iload_n 1, 1, 0, 0, 1, 0), (.iload 4, 2, 0, 0, 4, 0), (.iadd, 1, 0, 0, 0, 0), (.iload_n 2, 1, 0, 0, 2, 0)]
theorem k_X12_wordFrom_12 : ckIc mX12_wordFrom 12 12 b_X12_wordFrom_12 21 3 20 41 24 = true := by decide +kernel
def b_X12_wordFrom_24 : List IE := [(.aload_n 0, 1, 0, 0, 0, 0), (.getfield 54, 3, 0, 12, 17, 1), (.iload_n 1, 1, 0, 0, 1, 0), (.iload 4, 2, 0, 0, 4, 0), (.iadd, 1, 0, 0, 0, 0), (.iaload, 1, 0, 0, 0, 0), (.bipush 97, 2, 97, 0, 0, 0), (.isub, 1, 0, 0, 0, 0), (.iconst 1, 1, 1, 0, 0, 0), (.iadd, 1, 0, 0, 0, 0)]
theorem k_X12_wordFrom_24 : ckGo mX12_wordFrom 12 24 b_X12_wordFrom_24 38 4 42 = true := by decide +kernel
def b_X12_wordFrom_41 : List IE := [(.iconst 0, 1, 0, 0, 0, 0), (.iadd, 1, 0, 0, 0, 0), (.istore_n 3, 1, 0, 0, 3, 0), (.iinc 4 1, 3, 1, 0, 4, 0)]
theorem k_X12_wordFrom_41 : ckGo mX12_wordFrom 12 41 b_X12_wordFrom_41 47 (-42) 5 = true := by decide +kernel
def b_X12_wordFrom_42 : List IE := [(.iadd, 1, 0, 0, 0, 0), (.istore_n 3, 1, 0, 0, 3, 0), (.iinc 4 1, 3, 1, 0, 4, 0)]
theorem k_X12_wordFrom_42 : ckGo mX12_wordFrom 12 42 b_X12_wordFrom_42 47 (-42) 5 = true := by decide +kernel
def b_X12_wordFrom_50 : List IE := [(.iload_n 3, 1, 0, 0, 3, 0)]
theorem k_X12_wordFrom_50 : ckI mX12_wordFrom 12 50 b_X12_wordFrom_50 51 = true := by decide +kernel
theorem t_X12_wordFrom_0 {rc rs : Nat} {Q : Option AV → AH → Prop} {h : AH} {x1 x2 : Int} (hL : LayM h) (hv : wp mX12_wordFrom 0 rc rs Q 5 [some (vr 89), some (vi x1), some (vi x2), some (vi 0), some (vi 0)] [] h) : wp mX12_wordFrom 0 rc rs Q 0 [some (vr 89), some (vi x1), some (vi x2), none, none] [] h :=
  (show wp mX12_wordFrom 0 rc rs Q 0 [some (vr 89), some (vi x1), some (vi x2), none, none] [] h from xB k_X12_wordFrom_0 (And.intro rfl (And.intro rfl hv)))
theorem e_X12_wordFrom {mc ms : Nat} {Q : Option AV → AH → Prop} {h : AH} {x1 x2 : Int} (hL : LayM h) (hv : wp mX12_wordFrom 0 mc ms Q 5 [some (vr 89), some (vi x1), some (vi x2), some (vi 0), some (vi 0)] [] h) : Ct 0 mc ms mX12_wordFrom [vr 89, vi x1, vi x2] h Q := Ct.of (by decide +kernel) (Nat.le_of_ble_eq_true rfl) (t_X12_wordFrom_0 hL hv)
theorem t_X12_wordFrom_5 {rc rs : Nat} {Q : Option AV → AH → Prop} {h : AH} {x1 x2 x3 x4 : Int} (hL : LayM h) (hv : ((6 ≤ x4 → Q (some (vi x3)) h) ∧ (x4 < 6 → (-2147483648 ≤ (27 * x3) ∧ (27 * x3) < 2147483648) ∧ (-2147483648 ≤ (x1 + x4) ∧ (x1 + x4) < 2147483648) ∧ ((x2 ≤ (x1 + x4) → (-2147483648 ≤ ((27 * x3) + 0) ∧ ((27 * x3) + 0) < 2147483648) ∧ (-2147483648 ≤ (x4 + 1) ∧ (x4 + 1) < 2147483648) ∧ wp mX12_wordFrom 0 rc rs Q 5 [some (vr 89), some (vi x1), some (vi x2), some (vi ((27 * x3) + 0)), some (vi (x4 + 1))] [] h) ∧ ((x1 + x4) < x2 → (0 ≤ (x1 + x4) ∧ (x1 + x4) < 64) ∧ (-2147483648 ≤ (iH h 1157 ((x1 + x4).toNat) - 97) ∧ (iH h 1157 ((x1 + x4).toNat) - 97) < 2147483648) ∧ (-2147483648 ≤ ((iH h 1157 ((x1 + x4).toNat) - 97) + 1) ∧ ((iH h 1157 ((x1 + x4).toNat) - 97) + 1) < 2147483648) ∧ (-2147483648 ≤ ((27 * x3) + ((iH h 1157 ((x1 + x4).toNat) - 97) + 1)) ∧ ((27 * x3) + ((iH h 1157 ((x1 + x4).toNat) - 97) + 1)) < 2147483648) ∧ (-2147483648 ≤ (x4 + 1) ∧ (x4 + 1) < 2147483648) ∧ wp mX12_wordFrom 0 rc rs Q 5 [some (vr 89), some (vi x1), some (vi x2), some (vi ((27 * x3) + ((iH h 1157 ((x1 + x4).toNat) - 97) + 1))), some (vi (x4 + 1))] [] h))))) : wp mX12_wordFrom 0 rc rs Q 5 [some (vr 89), some (vi x1), some (vi x2), some (vi x3), some (vi x4)] [] h :=
  (show wp mX12_wordFrom 0 rc rs Q 5 [some (vr 89), some (vi x1), some (vi x2), some (vi x3), some (vi x4)] [] h from xIc k_X12_wordFrom_5 (And.intro (fun c1 => have v3 := hv.1 c1; (show wp mX12_wordFrom 0 rc rs Q 50 [some (vr 89), some (vi x1), some (vi x2), some (vi x3), some (vi x4)] [] h from xI k_X12_wordFrom_50 (And.intro rfl v3))) (fun c2 => have v4 := hv.2 (Int.not_le.mp c2); (show wp mX12_wordFrom 0 rc rs Q 12 [some (vr 89), some (vi x1), some (vi x2), some (vi x3), some (vi x4)] [] h from xIc k_X12_wordFrom_12 (have c5 := v4.1; have v27 := v4.2; (And.intro c5 (have c6 := v27.1; have v26 := v27.2; (And.intro c6 (And.intro (fun c7 => have v9 := v26.1 c7; (show wp mX12_wordFrom 0 rc rs Q 41 [some (vr 89), some (vi x1), some (vi x2), some (vi x3), some (vi x4)] [vi (27 * x3)] h from xGo k_X12_wordFrom_41 (have c11 := v9.1; have v14 := v9.2; (And.intro c11 (And.intro rfl (have c12 := v14.1; have v13 := v14.2; (And.intro c12 (And.intro rfl v13)))))))) (fun c8 => have v10 := v26.2 (Int.not_le.mp c8); (show wp mX12_wordFrom 0 rc rs Q 24 [some (vr 89), some (vi x1), some (vi x2), some (vi x3), some (vi x4)] [vi (27 * x3)] h from xGo k_X12_wordFrom_24 (And.intro (lm_89 hL) (Exists.intro 1157 (And.intro (lf_89_17 hL) (And.intro c6 (have c16 := v10.1; have v25 := v10.2; (And.intro (sdI (lm_1157 hL) c16) (have c17 := v25.1; have v24 := v25.2; (And.intro c17 (have c18 := v24.1; have v23 := v24.2; (And.intro c18 (show wp mX12_wordFrom 0 rc rs Q 42 [some (vr 89), some (vi x1), some (vi x2), some (vi x3), some (vi x4)] [vi ((iH h 1157 ((x1 + x4).toNat) - 97) + 1), vi (27 * x3)] h from xGo k_X12_wordFrom_42 (have c19 := v23.1; have v22 := v23.2; (And.intro c19 (And.intro rfl (have c20 := v22.1; have v21 := v22.2; (And.intro c20 (And.intro rfl v21))))))))))))))))))))))))))))
def b_X12_wasFound_0 : List IE := [(.iconst 0, 1, 0, 0, 0, 0), (.istore 4, 2, 0, 0, 4, 0)]
theorem k_X12_wasFound_0 : ckB mX12_wasFound 12 0 b_X12_wasFound_0 3 = true := by decide +kernel
def b_X12_wasFound_3 : List IE := [(.iload 4, 2, 0, 0, 4, 0), (.iload_n 3, 1, 0, 0, 3, 0)]
theorem k_X12_wasFound_3 : ckIc mX12_wasFound 12 3 b_X12_wasFound_3 6 3 19 25 9 = true := by decide +kernel
def b_X12_wasFound_9 : List IE := [(.aload_n 2, 1, 0, 0, 2, 0), (.iload 4, 2, 0, 0, 4, 0), (.iaload, 1, 0, 0, 0, 0), (.iload_n 1, 1, 0, 0, 1, 0)]
theorem k_X12_wasFound_9 : ckIc mX12_wasFound 12 9 b_X12_wasFound_9 14 1 5 19 17 = true := by decide +kernel
def b_X12_wasFound_17 : List IE := [(.iconst 1, 1, 1, 0, 0, 0)]
theorem k_X12_wasFound_17 : ckZ mX12_wasFound 12 17 b_X12_wasFound_17 18 = true := by decide +kernel
def b_X12_wasFound_19 : List IE := [(.iinc 4 1, 3, 1, 0, 4, 0)]
theorem k_X12_wasFound_19 : ckGo mX12_wasFound 12 19 b_X12_wasFound_19 22 (-19) 3 = true := by decide +kernel
def b_X12_wasFound_25 : List IE := [(.iconst 0, 1, 0, 0, 0, 0)]
theorem k_X12_wasFound_25 : ckZ mX12_wasFound 12 25 b_X12_wasFound_25 26 = true := by decide +kernel
theorem t_X12_wasFound_0 {rc rs : Nat} {Q : Option AV → AH → Prop} {h : AH} {x1 x3 : Int} {a2 n2 : Nat} (hL : LayM h) (hA2 : a2 < nH h ∧ kH h a2 = (13, n2)) (hv : wp mX12_wasFound 0 rc rs Q 3 [none, some (vi x1), some (vr a2), some (vi x3), some (vi 0)] [] h) : wp mX12_wasFound 0 rc rs Q 0 [some (vr 89), some (vi x1), some (vr a2), some (vi x3), none] [] h :=
  (show wp mX12_wasFound 0 rc rs Q 0 [some (vr 89), some (vi x1), some (vr a2), some (vi x3), none] [] h from xB k_X12_wasFound_0 (And.intro rfl (w_fg [false, true, true, true, true] hv)))
theorem e_X12_wasFound {mc ms : Nat} {Q : Option AV → AH → Prop} {h : AH} {x1 x3 : Int} {a2 n2 : Nat} (hL : LayM h) (hA2 : a2 < nH h ∧ kH h a2 = (13, n2)) (hv : wp mX12_wasFound 0 mc ms Q 3 [none, some (vi x1), some (vr a2), some (vi x3), some (vi 0)] [] h) : Ct 0 mc ms mX12_wasFound [vr 89, vi x1, vr a2, vi x3] h Q := Ct.of (by decide +kernel) (Nat.le_of_ble_eq_true rfl) (t_X12_wasFound_0 hL hA2 hv)
theorem t_X12_wasFound_3 {rc rs : Nat} {Q : Option AV → AH → Prop} {h : AH} {x1 x3 x4 : Int} {a2 n2 : Nat} (hL : LayM h) (hA2 : a2 < nH h ∧ kH h a2 = (13, n2)) (hv : ((x3 ≤ x4 → Q (some (vi 0)) h) ∧ (x4 < x3 → (0 ≤ x4 ∧ x4 < n2) ∧ (((iH h a2 x4.toNat) ≠ x1 → (-2147483648 ≤ (x4 + 1) ∧ (x4 + 1) < 2147483648) ∧ wp mX12_wasFound 0 rc rs Q 3 [none, some (vi x1), some (vr a2), some (vi x3), some (vi (x4 + 1))] [] h) ∧ ((iH h a2 x4.toNat) = x1 → Q (some (vi 1)) h))))) : wp mX12_wasFound 0 rc rs Q 3 [none, some (vi x1), some (vr a2), some (vi x3), some (vi x4)] [] h :=
  (show wp mX12_wasFound 0 rc rs Q 3 [none, some (vi x1), some (vr a2), some (vi x3), some (vi x4)] [] h from xIc k_X12_wasFound_3 (And.intro (fun c1 => have v3 := hv.1 c1; (show wp mX12_wasFound 0 rc rs Q 25 [none, some (vi x1), some (vr a2), some (vi x3), some (vi x4)] [] h from xZ k_X12_wasFound_25 (And.intro rfl (And.intro (Or.inl rfl) v3)))) (fun c2 => have v4 := hv.2 (Int.not_le.mp c2); (show wp mX12_wasFound 0 rc rs Q 9 [none, some (vi x1), some (vr a2), some (vi x3), some (vi x4)] [] h from xIc k_X12_wasFound_9 (have c5 := v4.1; have v12 := v4.2; (And.intro (sdI hA2 c5) (And.intro (fun c6 => have v8 := v12.1 c6; (show wp mX12_wasFound 0 rc rs Q 19 [none, some (vi x1), some (vr a2), some (vi x3), some (vi x4)] [] h from xGo k_X12_wasFound_19 (have c10 := v8.1; have v11 := v8.2; (And.intro c10 (And.intro rfl v11))))) (fun c7 => have v9 := v12.2 (Decidable.not_not.mp c7); (show wp mX12_wasFound 0 rc rs Q 17 [none, some (vi x1), some (vr a2), some (vi x3), some (vi x4)] [] h from xZ k_X12_wasFound_17 (And.intro rfl (And.intro (Or.inr rfl) v9)))))))))))
def b_X12_viewsOpen_0 : List IE := [(.iconst 0, 1, 0, 0, 0, 0), (.istore_n 1, 1, 0, 0, 1, 0), (.iconst 0, 1, 0, 0, 0, 0), (.istore_n 2, 1, 0, 0, 2, 0)]
theorem k_X12_viewsOpen_0 : ckB mX12_viewsOpen 12 0 b_X12_viewsOpen_0 4 = true := by decide +kernel
def b_X12_viewsOpen_4 : List IE := [(.iload_n 2, 1, 0, 0, 2, 0), (.iconst 4, 1, 4, 0, 0, 0)]
theorem k_X12_viewsOpen_4 : ckIc mX12_viewsOpen 12 4 b_X12_viewsOpen_4 6 3 21 27 9 = true := by decide +kernel
def b_X12_viewsOpen_9 : List IE := [(.aload_n 0, 1, 0, 0, 0, 0), (.getfield 34, 3, 0, 12, 9, 1), (.iload_n 2, 1, 0, 0, 2, 0), (.baload, 1, 0, 0, 0, 0)]
theorem k_X12_viewsOpen_9 : ckIf mX12_viewsOpen 12 9 b_X12_viewsOpen_9 15 0 6 21 18 = true := by decide +kernel
def b_X12_viewsOpen_18 : List IE := [(.iinc 1 1, 3, 1, 0, 1, 0), (.iinc 2 1, 3, 1, 0, 2, 0)]
theorem k_X12_viewsOpen_18 : ckGo mX12_viewsOpen 12 18 b_X12_viewsOpen_18 24 (-20) 4 = true := by decide +kernel
def b_X12_viewsOpen_21 : List IE := [(.iinc 2 1, 3, 1, 0, 2, 0)]
theorem k_X12_viewsOpen_21 : ckGo mX12_viewsOpen 12 21 b_X12_viewsOpen_21 24 (-20) 4 = true := by decide +kernel
def b_X12_viewsOpen_27 : List IE := [(.iload_n 1, 1, 0, 0, 1, 0)]
theorem k_X12_viewsOpen_27 : ckI mX12_viewsOpen 12 27 b_X12_viewsOpen_27 28 = true := by decide +kernel
theorem t_X12_viewsOpen_0 {rc rs : Nat} {Q : Option AV → AH → Prop} {h : AH}  (hL : LayM h) (hv : wp mX12_viewsOpen 0 rc rs Q 4 [some (vr 89), some (vi 0), some (vi 0)] [] h) : wp mX12_viewsOpen 0 rc rs Q 0 [some (vr 89), none, none] [] h :=
  (show wp mX12_viewsOpen 0 rc rs Q 0 [some (vr 89), none, none] [] h from xB k_X12_viewsOpen_0 (And.intro rfl (And.intro rfl hv)))
theorem e_X12_viewsOpen {mc ms : Nat} {Q : Option AV → AH → Prop} {h : AH}  (hL : LayM h) (hv : wp mX12_viewsOpen 0 mc ms Q 4 [some (vr 89), some (vi 0), some (vi 0)] [] h) : Ct 0 mc ms mX12_viewsOpen [vr 89] h Q := Ct.of (by decide +kernel) (Nat.le_of_ble_eq_true rfl) (t_X12_viewsOpen_0 hL hv)
theorem t_X12_viewsOpen_4 {rc rs : Nat} {Q : Option AV → AH → Prop} {h : AH} {x1 x2 : Int} (hL : LayM h) (hv : ((4 ≤ x2 → Q (some (vi x1)) h) ∧ (x2 < 4 → (0 ≤ x2 ∧ x2 < 7) ∧ (((iH h 1137 x2.toNat) = 0 → (-2147483648 ≤ (x2 + 1) ∧ (x2 + 1) < 2147483648) ∧ wp mX12_viewsOpen 0 rc rs Q 4 [some (vr 89), some (vi x1), some (vi (x2 + 1))] [] h) ∧ ((iH h 1137 x2.toNat) ≠ 0 → (-2147483648 ≤ (x1 + 1) ∧ (x1 + 1) < 2147483648) ∧ (-2147483648 ≤ (x2 + 1) ∧ (x2 + 1) < 2147483648) ∧ wp mX12_viewsOpen 0 rc rs Q 4 [some (vr 89), some (vi (x1 + 1)), some (vi (x2 + 1))] [] h))))) : wp mX12_viewsOpen 0 rc rs Q 4 [some (vr 89), some (vi x1), some (vi x2)] [] h :=
  (show wp mX12_viewsOpen 0 rc rs Q 4 [some (vr 89), some (vi x1), some (vi x2)] [] h from xIc k_X12_viewsOpen_4 (And.intro (fun c1 => have v3 := hv.1 c1; (show wp mX12_viewsOpen 0 rc rs Q 27 [some (vr 89), some (vi x1), some (vi x2)] [] h from xI k_X12_viewsOpen_27 (And.intro rfl v3))) (fun c2 => have v4 := hv.2 (Int.not_le.mp c2); (show wp mX12_viewsOpen 0 rc rs Q 9 [some (vr 89), some (vi x1), some (vi x2)] [] h from xIf k_X12_viewsOpen_9 (And.intro (lm_89 hL) (Exists.intro 1137 (And.intro (lf_89_9 hL) (have c5 := v4.1; have v16 := v4.2; (And.intro (sdZ (lm_1137 hL) c5) (And.intro (fun c6 => have v8 := v16.1 c6; (show wp mX12_viewsOpen 0 rc rs Q 21 [some (vr 89), some (vi x1), some (vi x2)] [] h from xGo k_X12_viewsOpen_21 (have c10 := v8.1; have v11 := v8.2; (And.intro c10 (And.intro rfl v11))))) (fun c7 => have v9 := v16.2 c7; (show wp mX12_viewsOpen 0 rc rs Q 18 [some (vr 89), some (vi x1), some (vi x2)] [] h from xGo k_X12_viewsOpen_18 (have c12 := v9.1; have v15 := v9.2; (And.intro c12 (And.intro rfl (have c13 := v15.1; have v14 := v15.2; (And.intro c13 (And.intro rfl v14))))))))))))))))))
def b_X12_held_0 : List IE := [(.iconst 0, 1, 0, 0, 0, 0), (.istore_n 1, 1, 0, 0, 1, 0), (.iconst 0, 1, 0, 0, 0, 0), (.istore_n 2, 1, 0, 0, 2, 0)]
theorem k_X12_held_0 : ckB mX12_held 12 0 b_X12_held_0 4 = true := by decide +kernel
def b_X12_held_4 : List IE := [(.iload_n 2, 1, 0, 0, 2, 0), (.aload_n 0, 1, 0, 0, 0, 0), (.getfield 106, 3, 0, 12, 13, 0)]
theorem k_X12_held_4 : ckIc mX12_held 12 4 b_X12_held_4 9 3 23 32 12 = true := by decide +kernel
def b_X12_held_12 : List IE := [(.iload_n 1, 1, 0, 0, 1, 0), (.aload_n 0, 1, 0, 0, 0, 0), (.getfield 28, 3, 0, 12, 7, 1), (.aload_n 0, 1, 0, 0, 0, 0), (.getfield 48, 3, 0, 12, 14, 1), (.iload_n 2, 1, 0, 0, 2, 0), (.iaload, 1, 0, 0, 0, 0), (.iaload, 1, 0, 0, 0, 0), (.iadd, 1, 0, 0, 0, 0), (.istore_n 1, 1, 0, 0, 1, 0), (.iinc 2 1, 3, 1, 0, 2, 0)]
theorem k_X12_held_12 : ckGo mX12_held 12 12 b_X12_held_12 29 (-25) 4 = true := by decide +kernel
def b_X12_held_32 : List IE := [(.iload_n 1, 1, 0, 0, 1, 0)]
theorem k_X12_held_32 : ckI mX12_held 12 32 b_X12_held_32 33 = true := by decide +kernel
theorem t_X12_held_0 {rc rs : Nat} {Q : Option AV → AH → Prop} {h : AH}  (hL : LayM h) (hv : wp mX12_held 0 rc rs Q 4 [some (vr 89), some (vi 0), some (vi 0)] [] h) : wp mX12_held 0 rc rs Q 0 [some (vr 89), none, none] [] h :=
  (show wp mX12_held 0 rc rs Q 0 [some (vr 89), none, none] [] h from xB k_X12_held_0 (And.intro rfl (And.intro rfl hv)))
theorem e_X12_held {mc ms : Nat} {Q : Option AV → AH → Prop} {h : AH}  (hL : LayM h) (hv : wp mX12_held 0 mc ms Q 4 [some (vr 89), some (vi 0), some (vi 0)] [] h) : Ct 0 mc ms mX12_held [vr 89] h Q := Ct.of (by decide +kernel) (Nat.le_of_ble_eq_true rfl) (t_X12_held_0 hL hv)
theorem t_X12_held_4 {rc rs : Nat} {Q : Option AV → AH → Prop} {h : AH} {x1 x2 : Int} (hL : LayM h) (hv : (((iH h 89 13) ≤ x2 → Q (some (vi x1)) h) ∧ (x2 < (iH h 89 13) → (0 ≤ x2 ∧ x2 < 8) ∧ (0 ≤ iH h 1155 x2.toNat ∧ iH h 1155 x2.toNat < 520) ∧ (-2147483648 ≤ (x1 + iH h 615 ((iH h 1155 x2.toNat).toNat)) ∧ (x1 + iH h 615 ((iH h 1155 x2.toNat).toNat)) < 2147483648) ∧ (-2147483648 ≤ (x2 + 1) ∧ (x2 + 1) < 2147483648) ∧ wp mX12_held 0 rc rs Q 4 [some (vr 89), some (vi (x1 + iH h 615 ((iH h 1155 x2.toNat).toNat))), some (vi (x2 + 1))] [] h))) : wp mX12_held 0 rc rs Q 4 [some (vr 89), some (vi x1), some (vi x2)] [] h :=
  (show wp mX12_held 0 rc rs Q 4 [some (vr 89), some (vi x1), some (vi x2)] [] h from xIc k_X12_held_4 (And.intro (lm_89 hL) (And.intro (fun c1 => have v3 := hv.1 c1; (show wp mX12_held 0 rc rs Q 32 [some (vr 89), some (vi x1), some (vi x2)] [] h from xI k_X12_held_32 (And.intro rfl v3))) (fun c2 => have v4 := hv.2 (Int.not_le.mp c2); (show wp mX12_held 0 rc rs Q 12 [some (vr 89), some (vi x1), some (vi x2)] [] h from xGo k_X12_held_12 (And.intro (lm_89 hL) (Exists.intro 615 (And.intro (lf_89_7 hL) (And.intro (lm_89 hL) (Exists.intro 1155 (And.intro (lf_89_14 hL) (have c5 := v4.1; have v12 := v4.2; (And.intro (sdI (lm_1155 hL) c5) (have c6 := v12.1; have v11 := v12.2; (And.intro (sdI (lm_615 hL) c6) (have c7 := v11.1; have v10 := v11.2; (And.intro c7 (And.intro rfl (have c8 := v10.1; have v9 := v10.2; (And.intro c8 (And.intro rfl v9)))))))))))))))))))))
/-- a segment's documents are some; a document's words are some -/
def m_seg (h : AH) (g : Int) : Prop := (0 ≤ g ∧ g < 520) ∧ (0 ≤ iH h 615 g.toNat ∧ iH h 615 g.toNat ≤ 64) ∧ ∀ k : Nat, (k : Int) < iH h 615 g.toNat → 0 ≤ iH h (617 + g.toNat) k ∧ iH h (617 + g.toNat) k < 520
def m_doc (h : AH) (d : Int) : Prop := (0 ≤ d ∧ d < 520) ∧ (0 ≤ iH h 91 d.toNat ∧ iH h 91 d.toNat ≤ 12) ∧ ∀ i : Nat, (i : Int) < iH h 91 d.toNat → 0 < iH h (93 + d.toNat) i ∧ iH h (93 + d.toNat) i < 387420489
def m_liveP (h : AH) (g : Int) (k : Nat) : Prop := iH h 613 (iH h (617 + g.toNat) k).toNat = 0
noncomputable def m_live (h : AH) (g : Int) : Int := cnt (m_liveP h g) (iH h 615 g.toNat).toNat
theorem m_live_bd {h : AH} {g : Int} (hg : m_seg h g) : 0 ≤ m_live h g ∧ m_live h g ≤ iH h 615 g.toNat := by
  have h1 := cnt_bd (m_liveP h g) (iH h 615 g.toNat).toNat
  have h2 := hg.2.1
  unfold m_live; omega
theorem c_liveOf {h : AH} (hL : LayM h) {g : Int} (hg : m_seg h g) : Ct 0 0 0 mX12_liveOf [vr 89, vi g] h (QI fun x h' => x = m_live h g ∧ h' = h) := by
  have hl := hg.2.1
  refine e_X12_liveOf hL (up (P := fun k => wp mX12_liveOf 0 _ _ _ 4 [some (vr 89), some (vi g), some (vi (cnt (m_liveP h g) k)), some (vi k)] [] h) (iH h 615 g.toNat).toNat ?_ ?_)
  · exact t_X12_liveOf_4 hL ⟨hg.1, fun _ => ⟨_, rfl, rfl, rfl⟩, fun c => absurd c (by omega)⟩
  · intro k hk ih
    have hb := cnt_bd (m_liveP h g) k
    refine t_X12_liveOf_4 hL ⟨hg.1, fun c => absurd c (by omega), fun c => ⟨by omega, hg.2.2 k c, fun c2 => ⟨by omega, ?_⟩, fun c2 => ⟨by omega, by omega, ?_⟩⟩⟩
    · rw [← cnt_n (p := m_liveP h g) (n := k) c2]; exact ih
    · rw [← cnt_s (p := m_liveP h g) (n := k) c2]; exact ih
def m_hasP (h : AH) (d w : Int) (k : Nat) : Prop := iH h (93 + d.toNat) k = w
def m_has (h : AH) (d w : Int) : Prop := ∃ k : Nat, (k : Int) < iH h 91 d.toNat ∧ m_hasP h d w k
theorem c_hasWord {h : AH} (hL : LayM h) {d w : Int} (hd : m_doc h d) : Ct 0 0 0 mX12_hasWord [vr 89, vi d, vi w] h (QI fun x h' => x = b01 (m_has h d w) ∧ h' = h) := by
  have hl := hd.2.1
  refine e_X12_hasWord hL (up (P := fun k => (∀ j, j < k → ¬ m_hasP h d w j) → wp mX12_hasWord 0 _ _ _ 2 [some (vr 89), some (vi d), some (vi w), some (vi k)] [] h) (iH h 91 d.toNat).toNat ?_ ?_ (fun j hj => by omega))
  · intro hn
    refine t_X12_hasWord_2 hL ⟨hd.1, fun _ => ⟨_, rfl, (b01_f ?_).symm, rfl⟩, fun c => absurd c (by omega)⟩
    rintro ⟨k, hk, hp⟩
    exact hn k (by omega) hp
  · intro k hk ih hn
    refine t_X12_hasWord_2 hL ⟨hd.1, fun c => absurd c (by omega), fun c => ⟨by omega, fun c2 => ⟨by omega, ih fun j hj => ?_⟩, fun c2 => ⟨_, rfl, (b01_t ⟨k, by omega, c2⟩).symm, rfl⟩⟩⟩
    by_cases e : j = k
    · subst e; exact c2
    · exact hn j (by omega)
def m_bufP (h : AH) (key : Int) (k : Nat) : Prop := iH h 90 (iH h 1156 k).toNat = key
def m_buf (h : AH) : Prop := (0 ≤ iH h 89 15 ∧ iH h 89 15 ≤ 4) ∧ ∀ k : Nat, (k : Int) < iH h 89 15 → 0 ≤ iH h 1156 k ∧ iH h 1156 k < 520
noncomputable def m_bp (h : AH) (key : Int) : Int := fst (m_bufP h key) (iH h 89 15).toNat
theorem c_bufferPlace {h : AH} (hL : LayM h) {key : Int} (hb : m_buf h) : Ct 0 0 0 mX12_bufferPlace [vr 89, vi key] h (QI fun x h' => x = m_bp h key ∧ h' = h) := by
  have hl := hb.1
  refine e_X12_bufferPlace hL (up (P := fun k => (∀ j, j < k → ¬ m_bufP h key j) → wp mX12_bufferPlace 0 _ _ _ 2 [some (vr 89), some (vi key), some (vi k)] [] h) (iH h 89 15).toNat ?_ ?_ (fun j hj => by omega))
  · intro hn
    exact t_X12_bufferPlace_2 hL ⟨fun _ => ⟨_, rfl, (fst_no hn).symm, rfl⟩, fun c => absurd c (by omega)⟩
  · intro k hk ih hn
    refine t_X12_bufferPlace_2 hL ⟨fun c => absurd c (by omega), fun c => ⟨by omega, hb.2 k c, fun c2 => ⟨by omega, ih fun j hj => ?_⟩, fun c2 => ⟨_, rfl, (fst_at hk hn c2).symm, rfl⟩⟩⟩
    by_cases e : j = k
    · subst e; exact c2
    · exact hn j (by omega)
def m_std (h : AH) (t : Int) : Prop := (0 ≤ t ∧ t < 7) ∧ (0 ≤ iH h 1138 t.toNat ∧ iH h 1138 t.toNat ≤ 8)
def m_stands (h : AH) (t g : Int) : Prop := iH h 1137 t.toNat ≠ 0 ∧ ∃ k : Nat, (k : Int) < iH h 1138 t.toNat ∧ iH h (1140 + t.toNat) k = g
theorem c_stands {h : AH} (hL : LayM h) {t g : Int} (ht : m_std h t) : Ct 0 0 0 mX12_stands [vr 89, vi t, vi g] h (QI fun x h' => x = b01 (m_stands h t g) ∧ h' = h) := by
  have hl := ht.2
  refine e_X12_stands hL ⟨ht.1, fun c0 => ?_, fun c0 => ⟨_, rfl, (b01_f (fun q => q.1 c0)).symm, rfl⟩⟩
  refine up (P := fun k => (∀ j, j < k → ¬ iH h (1140 + t.toNat) j = g) → wp mX12_stands 0 _ _ _ 13 [some (vr 89), some (vi t), some (vi g), some (vi k)] [] h) (iH h 1138 t.toNat).toNat ?_ ?_ (fun j hj => by omega)
  · intro hn
    refine t_X12_stands_13 hL ⟨ht.1, fun _ => ⟨_, rfl, (b01_f ?_).symm, rfl⟩, fun c => absurd c (by omega)⟩
    rintro ⟨-, k, hk, hp⟩
    exact hn k (by omega) hp
  · intro k hk ih hn
    refine t_X12_stands_13 hL ⟨ht.1, fun c => absurd c (by omega), fun c => ⟨by omega, fun c2 => ⟨by omega, ih fun j hj => ?_⟩, fun c2 => ⟨_, rfl, (b01_t ⟨c0, k, by omega, c2⟩).symm, rfl⟩⟩⟩
    by_cases e : j = k
    · subst e; exact c2
    · exact hn j (by omega)
theorem p27 : ∀ k, k < 6 → 0 < (27 : Int) ^ k ∧ (27 : Int) ^ k ≤ 14348907 := by decide
theorem c_power {h : AH} {n : Int} (hn : 0 ≤ n ∧ n ≤ 6) : Ct 0 0 0 mX12_power [vi n] h (QI fun x h' => x = (27 : Int) ^ n.toNat ∧ h' = h) := by
  refine e_X12_power (up (P := fun k => wp mX12_power 0 _ _ _ 4 [some (vi n), some (vi ((27 : Int) ^ k)), some (vi k)] [] h) n.toNat ?_ ?_)
  · exact t_X12_power_4 ⟨fun _ => ⟨_, rfl, rfl, rfl⟩, fun c => absurd c (by omega)⟩
  · intro k hk ih
    have h1 := p27 k (by omega)
    refine t_X12_power_4 ⟨fun c => absurd c (by omega), fun c => ⟨by omega, by omega, ?_⟩⟩
    rw [← Int.pow_succ]; exact ih
def b_X12_begins_0 : List IE := [(.bipush 6, 2, 6, 0, 0, 0), (.iload_n 2, 1, 0, 0, 2, 0), (.isub, 1, 0, 0, 0, 0)]
theorem k_X12_begins_0 : ckB mX12_begins 12 0 b_X12_begins_0 4 = true := by decide +kernel
def b_X12_begins_7 : List IE := [(.istore_n 3, 1, 0, 0, 3, 0), (.iload_n 0, 1, 0, 0, 0, 0), (.iload_n 3, 1, 0, 0, 3, 0), (.idiv, 1, 0, 0, 0, 0), (.iload_n 1, 1, 0, 0, 1, 0), (.iload_n 3, 1, 0, 0, 3, 0), (.idiv, 1, 0, 0, 0, 0)]
theorem k_X12_begins_7 : ckIc mX12_begins 12 7 b_X12_begins_7 14 1 7 21 17 = true := by decide +kernel
def b_X12_begins_17 : List IE := [(.iconst 1, 1, 1, 0, 0, 0)]
theorem k_X12_begins_17 : ckGo mX12_begins 12 17 b_X12_begins_17 18 4 22 = true := by decide +kernel
def b_X12_begins_21 : List IE := [(.iconst 0, 1, 0, 0, 0, 0)]
theorem k_X12_begins_21 : ckZ mX12_begins 12 21 b_X12_begins_21 22 = true := by decide +kernel
def b_X12_begins_22 : List IE := []
theorem k_X12_begins_22 : ckZ mX12_begins 12 22 b_X12_begins_22 22 = true := by decide +kernel
theorem s_X12_begins_4 : cS mX12_begins 4 mX12_power 339 1 := ⟨by decide +kernel, ⟨ml_X12_power, li_RX12_339, st_X12_power⟩, by decide +kernel⟩
theorem t_X12_begins_0 {rc rs : Nat} {Q : Option AV → AH → Prop} {h : AH} {x0 x1 x2 : Int} (hv : (-2147483648 ≤ (6 - x2) ∧ (6 - x2) < 2147483648) ∧ (0 ≤ (6 - x2) ∧ (6 - x2) ≤ 6) ∧ (0 ≤ x0 ∧ 0 < ((27 : Int) ^ ((6 - x2)).toNat) ∧ x0 < 2147483648) ∧ (0 ≤ x1 ∧ 0 < ((27 : Int) ^ ((6 - x2)).toNat) ∧ x1 < 2147483648) ∧ (((x0 / ((27 : Int) ^ ((6 - x2)).toNat)) ≠ (x1 / ((27 : Int) ^ ((6 - x2)).toNat)) → Q (some (vi 0)) h) ∧ ((x0 / ((27 : Int) ^ ((6 - x2)).toNat)) = (x1 / ((27 : Int) ^ ((6 - x2)).toNat)) → Q (some (vi 1)) h))) : wp mX12_begins 1 rc rs Q 0 [some (vi x0), some (vi x1), some (vi x2), none] [] h :=
  (show wp mX12_begins 1 rc rs Q 0 [some (vi x0), some (vi x1), some (vi x2), none] [] h from xcS k_X12_begins_0 s_X12_begins_4 (have c1 := hv.1; have v13 := hv.2; (And.intro c1 (have c10 := v13.1; have v11 := v13.2; (Exists.intro [vi (6 - x2)] (Exists.intro [] (And.intro (And.intro rfl (And.intro rfl (Nat.le_of_ble_eq_true rfl))) (Exists.intro 0 (Exists.intro 0 (Exists.intro 0 (Exists.intro _ (And.intro (c_power c10) (And.intro (And.intro (by decide) (And.intro (Nat.zero_le _) (Nat.zero_le _))) (eQP (show wp mX12_begins 1 rc rs Q 7 [some (vi x0), some (vi x1), some (vi x2), none] [vi ((27 : Int) ^ ((6 - x2)).toNat)] h from xIc k_X12_begins_7 (And.intro rfl (have c2 := v11.1; have v9 := v11.2; (And.intro (sd_idiv c2.2.1 (And.intro c2.1 c2.2.2)) (have c3 := v9.1; have v8 := v9.2; (And.intro (sd_idiv c3.2.1 (And.intro c3.1 c3.2.2)) (And.intro (fun c4 => have v6 := v8.1 c4; (show wp mX12_begins 1 rc rs Q 21 [some (vi x0), some (vi x1), some (vi x2), some (vi ((27 : Int) ^ ((6 - x2)).toNat))] [] h from xZ k_X12_begins_21 (And.intro rfl (And.intro (Or.inl rfl) v6)))) (fun c5 => have v7 := v8.2 (Decidable.not_not.mp c5); (show wp mX12_begins 1 rc rs Q 17 [some (vi x0), some (vi x1), some (vi x2), some (vi ((27 : Int) ^ ((6 - x2)).toNat))] [] h from xGo k_X12_begins_17 (show wp mX12_begins 1 rc rs Q 22 [some (vi x0), some (vi x1), some (vi x2), some (vi ((27 : Int) ^ ((6 - x2)).toNat))] [vi 1] h from xZ k_X12_begins_22 (And.intro rfl (And.intro (Or.inr rfl) v7))))))))))))))))))))))))))
theorem e_X12_begins {mc ms : Nat} {Q : Option AV → AH → Prop} {h : AH} {x0 x1 x2 : Int} (hv : (-2147483648 ≤ (6 - x2) ∧ (6 - x2) < 2147483648) ∧ (0 ≤ (6 - x2) ∧ (6 - x2) ≤ 6) ∧ (0 ≤ x0 ∧ 0 < ((27 : Int) ^ ((6 - x2)).toNat) ∧ x0 < 2147483648) ∧ (0 ≤ x1 ∧ 0 < ((27 : Int) ^ ((6 - x2)).toNat) ∧ x1 < 2147483648) ∧ (((x0 / ((27 : Int) ^ ((6 - x2)).toNat)) ≠ (x1 / ((27 : Int) ^ ((6 - x2)).toNat)) → Q (some (vi 0)) h) ∧ ((x0 / ((27 : Int) ^ ((6 - x2)).toNat)) = (x1 / ((27 : Int) ^ ((6 - x2)).toNat)) → Q (some (vi 1)) h))) : Ct 1 mc ms mX12_begins [vi x0, vi x1, vi x2] h Q := Ct.of (by decide +kernel) (Nat.le_of_ble_eq_true rfl) (t_X12_begins_0 hv)
def m_beg (w b l : Int) : Prop := w / 27 ^ (6 - l).toNat = b / 27 ^ (6 - l).toNat
theorem c_begins {h : AH} {w b l : Int} (hp : (0 ≤ w ∧ w < 2147483648) ∧ (0 ≤ b ∧ b < 2147483648) ∧ (0 ≤ l ∧ l ≤ 6)) : Ct 1 0 0 mX12_begins [vi w, vi b, vi l] h (QI fun x h' => x = b01 (m_beg w b l) ∧ h' = h) := by
  have h0 : 0 < (27 : Int) ^ (6 - l).toNat := Int.pow_pos (by decide)
  refine e_X12_begins ⟨by omega, by omega, ⟨hp.1.1, h0, hp.1.2⟩, ⟨hp.2.1.1, h0, hp.2.1.2⟩, fun c => ⟨_, rfl, (b01_f c).symm, rfl⟩, fun c => ⟨_, rfl, (b01_t c).symm, rfl⟩⟩
def m_pl : Nat → Int → Int
  | 0, v => v
  | n + 1, v => if v % 27 = 0 then m_pl n (v / 27) else v
theorem c_plainWord {h : AH} {w : Int} (hw : 0 < w ∧ w < 387420489) : Ct 0 0 0 mX12_plainWord [vi w] h (QI fun x h' => x = m_pl 6 w ∧ h' = h) := by
  refine e_X12_plainWord ?_
  have : ∀ (n : Nat) (v : Int), 0 < v → v < 27 ^ n → v < 2147483648 → m_pl n v = m_pl 6 w → wp mX12_plainWord 0 0 0 (QI fun x h' => x = m_pl 6 w ∧ h' = h) 2 [none, some (vi v)] [] h := by
    intro n
    induction n with
    | zero => intro v h1 h2; simp at h2; omega
    | succ n ih =>
      intro v h1 h2 h3 h4
      rw [Int.pow_succ] at h2
      unfold m_pl at h4
      refine t_X12_plainWord_2 ⟨by omega, fun c => ⟨_, rfl, by rw [if_neg c] at h4; exact h4, rfl⟩, fun c => ?_⟩
      rw [if_pos c] at h4
      exact ih _ (by omega) (by omega) (by omega) h4
  exact this 6 w hw.1 (by omega) (by omega) rfl
def m_wf (h : AH) (a b : Int) : Nat → Int
  | 0 => 0
  | k + 1 => 27 * m_wf h a b k + (if a + k < b then iH h 1157 (a + k).toNat - 96 else 0)
def m_let (h : AH) (a b : Int) : Prop := 0 ≤ a ∧ b ≤ 64 ∧ ∀ j : Nat, j < 6 → a + j < b → 97 ≤ iH h 1157 (a + j).toNat ∧ iH h 1157 (a + j).toNat ≤ 122
theorem m_wf_bd {h : AH} {a b : Int} (hl : m_let h a b) : ∀ k : Nat, k ≤ 6 → 0 ≤ m_wf h a b k ∧ m_wf h a b k < 27 ^ k
  | 0, _ => by simp [m_wf]
  | k + 1, hk => by
    have h1 := m_wf_bd hl k (by omega)
    unfold m_wf
    rw [Int.pow_succ]
    split
    · have h2 := hl.2.2 k (by omega) (by assumption)
      omega
    · omega
theorem c_wordFrom {h : AH} (hL : LayM h) {a b : Int} (hl : m_let h a b ∧ a ≤ 64) : Ct 0 0 0 mX12_wordFrom [vr 89, vi a, vi b] h (QI fun x h' => x = m_wf h a b 6 ∧ h' = h) := by
  refine e_X12_wordFrom hL (up (P := fun k => wp mX12_wordFrom 0 _ _ _ 5 [some (vr 89), some (vi a), some (vi b), some (vi (m_wf h a b k)), some (vi k)] [] h) 6 ?_ ?_)
  · exact t_X12_wordFrom_5 hL ⟨fun _ => ⟨_, rfl, rfl, rfl⟩, fun c => absurd c (by omega)⟩
  · intro k hk ih
    have h1 := m_wf_bd hl.1 k (by omega)
    have h3 := p27 k hk
    have h4 := hl.1.1
    have h5 := hl.1.2.1
    refine t_X12_wordFrom_5 hL ⟨fun c => absurd c (by omega), fun c => ⟨by omega, by omega, fun c2 => ⟨by omega, by omega, ?_⟩, fun c2 => ?_⟩⟩
    · have e : m_wf h a b (k + 1) = 27 * m_wf h a b k + 0 := by show 27 * m_wf h a b k + (if a + (k : Int) < b then _ else 0) = _; rw [if_neg (by omega)]
      rw [← e]; exact ih
    · have h2 := hl.1.2.2 k hk c2
      refine ⟨by omega, by omega, by omega, by omega, by omega, ?_⟩
      have e : m_wf h a b (k + 1) = 27 * m_wf h a b k + ((iH h 1157 (a + k).toNat - 97) + 1) := by show 27 * m_wf h a b k + (if a + (k : Int) < b then iH h 1157 (a + k).toNat - 96 else 0) = _; rw [if_pos c2]; omega
      rw [← e]; exact ih
def m_inRow (h : AH) (a : Nat) (d n : Int) : Prop := ∃ k : Nat, (k : Int) < n ∧ iH h a k = d
theorem c_wasFound {h : AH} (hL : LayM h) {a na : Nat} {d n : Int} (ha : a < nH h ∧ kH h a = (13, na)) (hn : n ≤ na ∧ na ≤ 520) : Ct 0 0 0 mX12_wasFound [vr 89, vi d, vr a, vi n] h (QI fun x h' => x = b01 (m_inRow h a d n) ∧ h' = h) := by
  refine e_X12_wasFound hL ha (up (P := fun k => (∀ j, j < k → ¬ iH h a j = d) → wp mX12_wasFound 0 _ _ _ 3 [none, some (vi d), some (vr a), some (vi n), some (vi k)] [] h) n.toNat ?_ ?_ (fun j hj => by omega))
  · intro hn
    refine t_X12_wasFound_3 hL ha ⟨fun _ => ⟨_, rfl, (b01_f ?_).symm, rfl⟩, fun c => absurd c (by omega)⟩
    rintro ⟨k, hk, hp⟩
    exact hn k (by omega) hp
  · intro k hk ih hnn
    refine t_X12_wasFound_3 hL ha ⟨fun c => absurd c (by omega), fun c => ⟨by omega, fun c2 => ⟨by omega, ih fun j hj => ?_⟩, fun c2 => ⟨_, rfl, (b01_t ⟨k, by omega, c2⟩).symm, rfl⟩⟩⟩
    by_cases e : j = k
    · subst e; exact c2
    · exact hnn j (by omega)
noncomputable def m_views (h : AH) : Int := cnt (fun v => ¬ iH h 1137 v = 0) 4
theorem c_viewsOpen {h : AH} (hL : LayM h) : Ct 0 0 0 mX12_viewsOpen [vr 89] h (QI fun x h' => x = m_views h ∧ h' = h) := by
  refine e_X12_viewsOpen hL (up (P := fun k => wp mX12_viewsOpen 0 _ _ _ 4 [some (vr 89), some (vi (cnt (fun v => ¬ iH h 1137 v = 0) k)), some (vi k)] [] h) 4 ?_ ?_)
  · exact t_X12_viewsOpen_4 hL ⟨fun _ => ⟨_, rfl, rfl, rfl⟩, fun c => absurd c (by omega)⟩
  · intro k hk ih
    have hb := cnt_bd (fun v => ¬ iH h 1137 v = 0) k
    refine t_X12_viewsOpen_4 hL ⟨fun c => absurd c (by omega), fun c => ⟨by omega, fun c2 => ⟨by omega, ?_⟩, fun c2 => ⟨by omega, by omega, ?_⟩⟩⟩
    · rw [← cnt_n (p := fun v => ¬ iH h 1137 v = 0) (n := k) (fun q => q c2)]; exact ih
    · rw [← cnt_s (p := fun v => ¬ iH h 1137 v = 0) (n := k) c2]; exact ih
def m_now (h : AH) : Prop := (0 ≤ iH h 89 13 ∧ iH h 89 13 ≤ 8) ∧ ∀ s : Nat, (s : Int) < iH h 89 13 → m_seg h (iH h 1155 s)
def m_held (h : AH) : Int := sumN (fun s => iH h 615 (iH h 1155 s).toNat) (iH h 89 13).toNat
theorem c_held {h : AH} (hL : LayM h) (hn : m_now h) : Ct 0 0 0 mX12_held [vr 89] h (QI fun x h' => x = m_held h ∧ h' = h) := by
  have hl := hn.1
  refine e_X12_held hL (up (P := fun k => wp mX12_held 0 _ _ _ 4 [some (vr 89), some (vi (sumN (fun s => iH h 615 (iH h 1155 s).toNat) k)), some (vi k)] [] h) (iH h 89 13).toNat ?_ ?_)
  · exact t_X12_held_4 hL ⟨fun _ => ⟨_, rfl, rfl, rfl⟩, fun c => absurd c (by omega)⟩
  · intro k hk ih
    have h1 := hn.2 k (by omega)
    have hb := sumN_bd (fun s => iH h 615 (iH h 1155 s).toNat) 64 (by omega) k (fun j hj => (hn.2 j (by omega)).2.1)
    have h2 := h1.2.1
    refine t_X12_held_4 hL ?_
    simp only [Int.toNat_natCast]
    exact ⟨fun c => absurd c (by omega), fun c => ⟨by omega, h1.1, by omega, by omega, ih⟩⟩
