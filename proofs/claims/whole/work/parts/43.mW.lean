/-! THE REFERENCE: THE PARSER, THE RECURSION -/
def cF (h : AH) (op : Int) (y : MI) (D : Nat) (f : Nat → qL → qS) : Prop := ∀ (p : Nat) (o : qL) (h' : AH), pG h op p o.flatten h' → 2 * q_szL o ≤ 3 * p → Ct D 0 0 y [vr 89] h' (QV (pRt h op (f p o)))
def b_X12_one_0 : List IE := [(.aload_n 0, 1, 0, 0, 0, 0), (.getfield 288, 3, 0, 12, 40, 0)]
theorem k_X12_one_0 : ckIf mX12_one 12 0 b_X12_one_0 4 0 4 8 7 = true := by decide +kernel
def b_X12_one_7 : List IE := []
theorem k_X12_one_7 : ckV mX12_one 12 7 b_X12_one_7 7 = true := by decide +kernel
def b_X12_one_8 : List IE := [(.aload_n 0, 1, 0, 0, 0, 0), (.iconst 2, 1, 2, 0, 0, 0), (.iconst 2, 1, 2, 0, 0, 0)]
theorem k_X12_one_8 : ckB mX12_one 12 8 b_X12_one_8 11 = true := by decide +kernel
def b_X12_one_14 : List IE := []
theorem k_X12_one_14 : ckIf mX12_one 12 14 b_X12_one_14 14 0 29 43 17 = true := by decide +kernel
def b_X12_one_17 : List IE := [(.aload_n 0, 1, 0, 0, 0, 0)]
theorem k_X12_one_17 : ckB mX12_one 12 17 b_X12_one_17 18 = true := by decide +kernel
def b_X12_one_21 : List IE := [(.aload_n 0, 1, 0, 0, 0, 0)]
theorem k_X12_one_21 : ckB mX12_one 12 21 b_X12_one_21 22 = true := by decide +kernel
def b_X12_one_25 : List IE := [(.aload_n 0, 1, 0, 0, 0, 0), (.dup, 1, 0, 0, 0, 0), (.getfield 324, 3, 0, 12, 39, 0), (.iconst 1, 1, 1, 0, 0, 0), (.isub, 1, 0, 0, 0, 0), (.putfield 324, 3, 0, 12, 39, 0), (.aload_n 0, 1, 0, 0, 0, 0), (.iconst 4, 1, 4, 0, 0, 0)]
theorem k_X12_one_25 : ckB mX12_one 12 25 b_X12_one_25 37 = true := by decide +kernel
def b_X12_one_40 : List IE := []
theorem k_X12_one_40 : ckGo mX12_one 12 40 b_X12_one_40 40 93 133 = true := by decide +kernel
def b_X12_one_43 : List IE := [(.aload_n 0, 1, 0, 0, 0, 0), (.iconst 3, 1, 3, 0, 0, 0), (.bipush 40, 2, 40, 0, 0, 0)]
theorem k_X12_one_43 : ckB mX12_one 12 43 b_X12_one_43 47 = true := by decide +kernel
def b_X12_one_50 : List IE := []
theorem k_X12_one_50 : ckIf mX12_one 12 50 b_X12_one_50 50 0 46 96 53 = true := by decide +kernel
def b_X12_one_53 : List IE := [(.aload_n 0, 1, 0, 0, 0, 0)]
theorem k_X12_one_53 : ckB mX12_one 12 53 b_X12_one_53 54 = true := by decide +kernel
def b_X12_one_57 : List IE := [(.aload_n 0, 1, 0, 0, 0, 0)]
theorem k_X12_one_57 : ckB mX12_one 12 57 b_X12_one_57 58 = true := by decide +kernel
def b_X12_one_61 : List IE := [(.aload_n 0, 1, 0, 0, 0, 0), (.iconst 3, 1, 3, 0, 0, 0), (.bipush 41, 2, 41, 0, 0, 0)]
theorem k_X12_one_61 : ckB mX12_one 12 61 b_X12_one_61 65 = true := by decide +kernel
def b_X12_one_68 : List IE := []
theorem k_X12_one_68 : ckIf mX12_one 12 68 b_X12_one_68 68 0 20 88 71 = true := by decide +kernel
def b_X12_one_71 : List IE := [(.aload_n 0, 1, 0, 0, 0, 0), (.dup, 1, 0, 0, 0, 0), (.getfield 324, 3, 0, 12, 39, 0), (.iconst 1, 1, 1, 0, 0, 0), (.isub, 1, 0, 0, 0, 0), (.putfield 324, 3, 0, 12, 39, 0), (.aload_n 0, 1, 0, 0, 0, 0)]
theorem k_X12_one_71 : ckB mX12_one 12 71 b_X12_one_71 82 = true := by decide +kernel
def b_X12_one_85 : List IE := []
theorem k_X12_one_85 : ckGo mX12_one 12 85 b_X12_one_85 85 48 133 = true := by decide +kernel
def b_X12_one_88 : List IE := [(.aload_n 0, 1, 0, 0, 0, 0), (.iconst 1, 1, 1, 0, 0, 0), (.putfield 288, 3, 0, 12, 40, 2)]
theorem k_X12_one_88 : ckGo mX12_one 12 88 b_X12_one_88 93 40 133 = true := by decide +kernel
def b_X12_one_96 : List IE := [(.aload_n 0, 1, 0, 0, 0, 0), (.iconst 3, 1, 3, 0, 0, 0), (.bipush 34, 2, 34, 0, 0, 0)]
theorem k_X12_one_96 : ckB mX12_one 12 96 b_X12_one_96 100 = true := by decide +kernel
def b_X12_one_103 : List IE := []
theorem k_X12_one_103 : ckIf mX12_one 12 103 b_X12_one_103 103 0 10 113 106 = true := by decide +kernel
def b_X12_one_106 : List IE := [(.aload_n 0, 1, 0, 0, 0, 0)]
theorem k_X12_one_106 : ckB mX12_one 12 106 b_X12_one_106 107 = true := by decide +kernel
def b_X12_one_110 : List IE := []
theorem k_X12_one_110 : ckGo mX12_one 12 110 b_X12_one_110 110 23 133 = true := by decide +kernel
def b_X12_one_113 : List IE := [(.aload_n 0, 1, 0, 0, 0, 0), (.getfield 297, 3, 0, 12, 37, 0), (.iconst 1, 1, 1, 0, 0, 0)]
theorem k_X12_one_113 : ckIc mX12_one 12 113 b_X12_one_113 118 1 10 128 121 = true := by decide +kernel
def b_X12_one_121 : List IE := [(.aload_n 0, 1, 0, 0, 0, 0)]
theorem k_X12_one_121 : ckB mX12_one 12 121 b_X12_one_121 122 = true := by decide +kernel
def b_X12_one_125 : List IE := []
theorem k_X12_one_125 : ckGo mX12_one 12 125 b_X12_one_125 125 8 133 = true := by decide +kernel
def b_X12_one_128 : List IE := [(.aload_n 0, 1, 0, 0, 0, 0), (.iconst 1, 1, 1, 0, 0, 0), (.putfield 288, 3, 0, 12, 40, 2)]
theorem k_X12_one_128 : ckV mX12_one 12 128 b_X12_one_128 133 = true := by decide +kernel
def b_X12_one_133 : List IE := []
theorem k_X12_one_133 : ckV mX12_one 12 133 b_X12_one_133 133 = true := by decide +kernel
theorem s_X12_one_11 : cV mX12_one 11 mX12_is 312 2 12 := ⟨by decide +kernel, ⟨ml_X12_is, li_RX12_312, im_X12_is, se_X12_is⟩, ⟨by decide +kernel, by decide +kernel⟩, by decide +kernel⟩
theorem s_X12_one_18 : cV mX12_one 18 mX12_opens 327 0 12 := ⟨by decide +kernel, ⟨ml_X12_opens, li_RX12_327, im_X12_opens, se_X12_opens⟩, ⟨by decide +kernel, by decide +kernel⟩, by decide +kernel⟩
theorem s_X12_one_22 : cV mX12_one 22 mX12_one 321 0 12 := ⟨by decide +kernel, ⟨ml_X12_one, li_RX12_321, im_X12_one, se_X12_one⟩, ⟨by decide +kernel, by decide +kernel⟩, by decide +kernel⟩
theorem s_X12_one_37 : cV mX12_one 37 mX12_mark 318 1 12 := ⟨by decide +kernel, ⟨ml_X12_mark, li_RX12_318, im_X12_mark, se_X12_mark⟩, ⟨by decide +kernel, by decide +kernel⟩, by decide +kernel⟩
theorem s_X12_one_47 : cV mX12_one 47 mX12_is 312 2 12 := ⟨by decide +kernel, ⟨ml_X12_is, li_RX12_312, im_X12_is, se_X12_is⟩, ⟨by decide +kernel, by decide +kernel⟩, by decide +kernel⟩
theorem s_X12_one_54 : cV mX12_one 54 mX12_opens 327 0 12 := ⟨by decide +kernel, ⟨ml_X12_opens, li_RX12_327, im_X12_opens, se_X12_opens⟩, ⟨by decide +kernel, by decide +kernel⟩, by decide +kernel⟩
theorem s_X12_one_58 : cV mX12_one 58 mX12_either 330 0 12 := ⟨by decide +kernel, ⟨ml_X12_either, li_RX12_330, im_X12_either, se_X12_either⟩, ⟨by decide +kernel, by decide +kernel⟩, by decide +kernel⟩
theorem s_X12_one_65 : cV mX12_one 65 mX12_is 312 2 12 := ⟨by decide +kernel, ⟨ml_X12_is, li_RX12_312, im_X12_is, se_X12_is⟩, ⟨by decide +kernel, by decide +kernel⟩, by decide +kernel⟩
theorem s_X12_one_82 : cV mX12_one 82 mX12_next 315 0 12 := ⟨by decide +kernel, ⟨ml_X12_next, li_RX12_315, im_X12_next, se_X12_next⟩, ⟨by decide +kernel, by decide +kernel⟩, by decide +kernel⟩
theorem s_X12_one_100 : cV mX12_one 100 mX12_is 312 2 12 := ⟨by decide +kernel, ⟨ml_X12_is, li_RX12_312, im_X12_is, se_X12_is⟩, ⟨by decide +kernel, by decide +kernel⟩, by decide +kernel⟩
theorem s_X12_one_107 : cV mX12_one 107 mX12_phrase 333 0 12 := ⟨by decide +kernel, ⟨ml_X12_phrase, li_RX12_333, im_X12_phrase, se_X12_phrase⟩, ⟨by decide +kernel, by decide +kernel⟩, by decide +kernel⟩
theorem s_X12_one_122 : cV mX12_one 122 mX12_plain 336 0 12 := ⟨by decide +kernel, ⟨ml_X12_plain, li_RX12_336, im_X12_plain, se_X12_plain⟩, ⟨by decide +kernel, by decide +kernel⟩, by decide +kernel⟩
theorem t_X12_one_0 {d : Nat} {rc rs : Nat} {Q : Option AV → AH → Prop} {h : AH}  (hL : LayM h) (hv : (((iH h 89 40) = 0 → 0 + 1 ≤ d ∧ ((¬ (m_is h (2 : Int) (2 : Int)) → 0 + 1 ≤ d ∧ ((¬ (m_is h (3 : Int) (40 : Int)) → 0 + 1 ≤ d ∧ ((¬ (m_is h (3 : Int) (34 : Int)) → (((iH h 89 37) ≠ 1 → Q none (sI h 89 40 1)) ∧ ((iH h 89 37) = 1 → (∃ P23 : AH → Prop, 7 + 1 ≤ d ∧ Ct 7 0 0 mX12_plain [vr 89] h (QV P23) ∧ ∀ h21 : AH, P23 h21 → LayM h21 ∧ Q none h21)))) ∧ ((m_is h (3 : Int) (34 : Int)) → (∃ P30 : AH → Prop, 7 + 1 ≤ d ∧ Ct 7 0 0 mX12_phrase [vr 89] h (QV P30) ∧ ∀ h28 : AH, P30 h28 → LayM h28 ∧ Q none h28)))) ∧ ((m_is h (3 : Int) (40 : Int)) → (∃ P40 : AH → Prop, 7 + 1 ≤ d ∧ Ct 7 0 0 mX12_opens [vr 89] h (QV P40) ∧ ∀ h38 : AH, P40 h38 → LayM h38 ∧ (∃ d41 : Nat, (∃ P44 : AH → Prop, d41 + 1 ≤ d ∧ Ct d41 0 0 mX12_either [vr 89] h38 (QV P44) ∧ ∀ h42 : AH, P44 h42 → LayM h42 ∧ 0 + 1 ≤ d ∧ ((¬ (m_is h42 (3 : Int) (41 : Int)) → Q none (sI h42 89 40 1)) ∧ ((m_is h42 (3 : Int) (41 : Int)) → (-2147483648 ≤ (iH h42 89 39 - 1) ∧ (iH h42 89 39 - 1) < 2147483648) ∧ (∃ P52 : AH → Prop, 6 + 1 ≤ d ∧ Ct 6 0 0 mX12_next [vr 89] (sI h42 89 39 (iH h42 89 39 - 1)) (QV P52) ∧ ∀ h50 : AH, P52 h50 → LayM h50 ∧ Q none h50))))))))) ∧ ((m_is h (2 : Int) (2 : Int)) → (∃ P74 : AH → Prop, 7 + 1 ≤ d ∧ Ct 7 0 0 mX12_opens [vr 89] h (QV P74) ∧ ∀ h72 : AH, P74 h72 → LayM h72 ∧ (∃ d75 : Nat, (∃ P78 : AH → Prop, d75 + 1 ≤ d ∧ Ct d75 0 0 mX12_one [vr 89] h72 (QV P78) ∧ ∀ h76 : AH, P78 h76 → LayM h76 ∧ (-2147483648 ≤ (iH h76 89 39 - 1) ∧ (iH h76 89 39 - 1) < 2147483648) ∧ (∃ P82 : AH → Prop, 0 + 1 ≤ d ∧ Ct 0 0 0 mX12_mark [vr 89, vi 4] (sI h76 89 39 (iH h76 89 39 - 1)) (QV P82) ∧ ∀ h80 : AH, P82 h80 → LayM h80 ∧ Q none h80))))))) ∧ ((iH h 89 40) ≠ 0 → Q none h))) : wp mX12_one d rc rs Q 0 [some (vr 89)] [] h :=
  (show wp mX12_one d rc rs Q 0 [some (vr 89)] [] h from xIf k_X12_one_0 (And.intro (lm_89 hL) (And.intro (fun c1 => have v3 := hv.1 c1; (show wp mX12_one d rc rs Q 8 [some (vr 89)] [] h from xcV k_X12_one_8 s_X12_one_11 ((Exists.intro [vi 2, vi 2] (Exists.intro 89 (Exists.intro [] (And.intro (And.intro rfl (And.intro rfl (Nat.le_of_ble_eq_true rfl))) (And.intro (lm_89 hL) (Exists.intro 0 (Exists.intro 0 (Exists.intro 0 (Exists.intro _ (And.intro (c_is (h := h) hL) (And.intro (And.intro v3.1 (And.intro (Nat.zero_le _) (Nat.zero_le _))) (eQP (show wp mX12_one d rc rs Q 14 [some (vr 89)] [vi (b01 (m_is h (2 : Int) (2 : Int)))] h from xIf k_X12_one_14 (And.intro (fun c5 => have v7 := v3.2.1 (b01_n.mp c5); (show wp mX12_one d rc rs Q 43 [some (vr 89)] [] h from xcV k_X12_one_43 s_X12_one_47 ((Exists.intro [vi 3, vi 40] (Exists.intro 89 (Exists.intro [] (And.intro (And.intro rfl (And.intro rfl (Nat.le_of_ble_eq_true rfl))) (And.intro (lm_89 hL) (Exists.intro 0 (Exists.intro 0 (Exists.intro 0 (Exists.intro _ (And.intro (c_is (h := h) hL) (And.intro (And.intro v7.1 (And.intro (Nat.zero_le _) (Nat.zero_le _))) (eQP (show wp mX12_one d rc rs Q 50 [some (vr 89)] [vi (b01 (m_is h (3 : Int) (40 : Int)))] h from xIf k_X12_one_50 (And.intro (fun c9 => have v11 := v7.2.1 (b01_n.mp c9); (show wp mX12_one d rc rs Q 96 [some (vr 89)] [] h from xcV k_X12_one_96 s_X12_one_100 ((Exists.intro [vi 3, vi 34] (Exists.intro 89 (Exists.intro [] (And.intro (And.intro rfl (And.intro rfl (Nat.le_of_ble_eq_true rfl))) (And.intro (lm_89 hL) (Exists.intro 0 (Exists.intro 0 (Exists.intro 0 (Exists.intro _ (And.intro (c_is (h := h) hL) (And.intro (And.intro v11.1 (And.intro (Nat.zero_le _) (Nat.zero_le _))) (eQP (show wp mX12_one d rc rs Q 103 [some (vr 89)] [vi (b01 (m_is h (3 : Int) (34 : Int)))] h from xIf k_X12_one_103 (And.intro (fun c13 => have v15 := v11.2.1 (b01_n.mp c13); (show wp mX12_one d rc rs Q 113 [some (vr 89)] [] h from xIc k_X12_one_113 (And.intro (lm_89 hL) (And.intro (fun c17 => have v19 := v15.1 c17; (show wp mX12_one d rc rs Q 128 [some (vr 89)] [] h from xV k_X12_one_128 (And.intro (lm_89 hL) (And.intro (Or.inr rfl) (And.intro rfl v19))))) (fun c18 => have v20 := v15.2 (Decidable.not_not.mp c18); (show wp mX12_one d rc rs Q 121 [some (vr 89)] [] h from xcV k_X12_one_121 s_X12_one_122 (Exists.elim v20 (fun P23 v24 => (Exists.intro [] (Exists.intro 89 (Exists.intro [] (And.intro (And.intro rfl (And.intro rfl (Nat.le_of_ble_eq_true rfl))) (And.intro (lm_89 hL) (Exists.intro 7 (Exists.intro 0 (Exists.intro 0 (Exists.intro (QV P23) (And.intro v24.2.1 (And.intro (And.intro v24.1 (And.intro (Nat.zero_le _) (Nat.zero_le _))) (eQV (fun h21 e26 => have v25 := v24.2.2 h21 e26; have hL := v25.1; have v25 := v25.2; (show wp mX12_one d rc rs Q 125 [some (vr 89)] [] h21 from xGo k_X12_one_125 (show wp mX12_one d rc rs Q 133 [some (vr 89)] [] h21 from xV k_X12_one_133 (And.intro rfl v25)))))))))))))))))))))))) (fun c14 => have v16 := v11.2.2 (b01_p.mp c14); (show wp mX12_one d rc rs Q 106 [some (vr 89)] [] h from xcV k_X12_one_106 s_X12_one_107 (Exists.elim v16 (fun P30 v31 => (Exists.intro [] (Exists.intro 89 (Exists.intro [] (And.intro (And.intro rfl (And.intro rfl (Nat.le_of_ble_eq_true rfl))) (And.intro (lm_89 hL) (Exists.intro 7 (Exists.intro 0 (Exists.intro 0 (Exists.intro (QV P30) (And.intro v31.2.1 (And.intro (And.intro v31.1 (And.intro (Nat.zero_le _) (Nat.zero_le _))) (eQV (fun h28 e33 => have v32 := v31.2.2 h28 e33; have hL := v32.1; have v32 := v32.2; (show wp mX12_one d rc rs Q 110 [some (vr 89)] [] h28 from xGo k_X12_one_110 (show wp mX12_one d rc rs Q 133 [some (vr 89)] [] h28 from xV k_X12_one_133 (And.intro rfl v32))))))))))))))))))))))))))))))))))))) (fun c10 => have v12 := v7.2.2 (b01_p.mp c10); (show wp mX12_one d rc rs Q 53 [some (vr 89)] [] h from xcV k_X12_one_53 s_X12_one_54 (Exists.elim v12 (fun P40 v65 => (Exists.intro [] (Exists.intro 89 (Exists.intro [] (And.intro (And.intro rfl (And.intro rfl (Nat.le_of_ble_eq_true rfl))) (And.intro (lm_89 hL) (Exists.intro 7 (Exists.intro 0 (Exists.intro 0 (Exists.intro (QV P40) (And.intro v65.2.1 (And.intro (And.intro v65.1 (And.intro (Nat.zero_le _) (Nat.zero_le _))) (eQV (fun h38 e67 => have v66 := v65.2.2 h38 e67; have hL := v66.1; have v66 := v66.2; (show wp mX12_one d rc rs Q 57 [some (vr 89)] [] h38 from xcV k_X12_one_57 s_X12_one_58 (Exists.elim v66 (fun d41 v61 => Exists.elim v61 (fun P44 v61 => (Exists.intro [] (Exists.intro 89 (Exists.intro [] (And.intro (And.intro rfl (And.intro rfl (Nat.le_of_ble_eq_true rfl))) (And.intro (lm_89 hL) (Exists.intro d41 (Exists.intro 0 (Exists.intro 0 (Exists.intro (QV P44) (And.intro v61.2.1 (And.intro (And.intro v61.1 (And.intro (Nat.zero_le _) (Nat.zero_le _))) (eQV (fun h42 e63 => have v62 := v61.2.2 h42 e63; have hL := v62.1; have v62 := v62.2; (show wp mX12_one d rc rs Q 61 [some (vr 89)] [] h42 from xcV k_X12_one_61 s_X12_one_65 ((Exists.intro [vi 3, vi 41] (Exists.intro 89 (Exists.intro [] (And.intro (And.intro rfl (And.intro rfl (Nat.le_of_ble_eq_true rfl))) (And.intro (lm_89 hL) (Exists.intro 0 (Exists.intro 0 (Exists.intro 0 (Exists.intro _ (And.intro (c_is (h := h42) hL) (And.intro (And.intro v62.1 (And.intro (Nat.zero_le _) (Nat.zero_le _))) (eQP (show wp mX12_one d rc rs Q 68 [some (vr 89)] [vi (b01 (m_is h42 (3 : Int) (41 : Int)))] h42 from xIf k_X12_one_68 (And.intro (fun c45 => have v47 := v62.2.1 (b01_n.mp c45); (show wp mX12_one d rc rs Q 88 [some (vr 89)] [] h42 from xGo k_X12_one_88 (And.intro (lm_89 hL) (And.intro (Or.inr rfl) (show wp mX12_one d rc rs Q 133 [some (vr 89)] [] (sI h42 89 40 1) from xV k_X12_one_133 (And.intro rfl v47)))))) (fun c46 => have v48 := v62.2.2 (b01_p.mp c46); (show wp mX12_one d rc rs Q 71 [some (vr 89)] [] h42 from xcV k_X12_one_71 s_X12_one_82 (And.intro rfl (And.intro (lm_89 hL) (have c49 := v48.1; have v57 := v48.2; (And.intro c49 (And.intro (lm_89 hL) (Exists.elim v57 (fun P52 v53 => (Exists.intro [] (Exists.intro 89 (Exists.intro [] (And.intro (And.intro rfl (And.intro rfl (Nat.le_of_ble_eq_true rfl))) (And.intro (lm_89 hL) (Exists.intro 6 (Exists.intro 0 (Exists.intro 0 (Exists.intro (QV P52) (And.intro v53.2.1 (And.intro (And.intro v53.1 (And.intro (Nat.zero_le _) (Nat.zero_le _))) (eQV (fun h50 e55 => have v54 := v53.2.2 h50 e55; have hL := v54.1; have v54 := v54.2; (show wp mX12_one d rc rs Q 85 [some (vr 89)] [] h50 from xGo k_X12_one_85 (show wp mX12_one d rc rs Q 133 [some (vr 89)] [] h50 from xV k_X12_one_133 (And.intro rfl v54)))))))))))))))))))))))))))))))))))))))))))))))))))))))))))))))))))))))))))))))))))))))))))) (fun c6 => have v8 := v3.2.2 (b01_p.mp c6); (show wp mX12_one d rc rs Q 17 [some (vr 89)] [] h from xcV k_X12_one_17 s_X12_one_18 (Exists.elim v8 (fun P74 v92 => (Exists.intro [] (Exists.intro 89 (Exists.intro [] (And.intro (And.intro rfl (And.intro rfl (Nat.le_of_ble_eq_true rfl))) (And.intro (lm_89 hL) (Exists.intro 7 (Exists.intro 0 (Exists.intro 0 (Exists.intro (QV P74) (And.intro v92.2.1 (And.intro (And.intro v92.1 (And.intro (Nat.zero_le _) (Nat.zero_le _))) (eQV (fun h72 e94 => have v93 := v92.2.2 h72 e94; have hL := v93.1; have v93 := v93.2; (show wp mX12_one d rc rs Q 21 [some (vr 89)] [] h72 from xcV k_X12_one_21 s_X12_one_22 (Exists.elim v93 (fun d75 v88 => Exists.elim v88 (fun P78 v88 => (Exists.intro [] (Exists.intro 89 (Exists.intro [] (And.intro (And.intro rfl (And.intro rfl (Nat.le_of_ble_eq_true rfl))) (And.intro (lm_89 hL) (Exists.intro d75 (Exists.intro 0 (Exists.intro 0 (Exists.intro (QV P78) (And.intro v88.2.1 (And.intro (And.intro v88.1 (And.intro (Nat.zero_le _) (Nat.zero_le _))) (eQV (fun h76 e90 => have v89 := v88.2.2 h76 e90; have hL := v89.1; have v89 := v89.2; (show wp mX12_one d rc rs Q 25 [some (vr 89)] [] h76 from xcV k_X12_one_25 s_X12_one_37 (And.intro rfl (And.intro (lm_89 hL) (have c79 := v89.1; have v87 := v89.2; (And.intro c79 (And.intro (lm_89 hL) (Exists.elim v87 (fun P82 v83 => (Exists.intro [vi 4] (Exists.intro 89 (Exists.intro [] (And.intro (And.intro rfl (And.intro rfl (Nat.le_of_ble_eq_true rfl))) (And.intro (lm_89 hL) (Exists.intro 0 (Exists.intro 0 (Exists.intro 0 (Exists.intro (QV P82) (And.intro v83.2.1 (And.intro (And.intro v83.1 (And.intro (Nat.zero_le _) (Nat.zero_le _))) (eQV (fun h80 e85 => have v84 := v83.2.2 h80 e85; have hL := v84.1; have v84 := v84.2; (show wp mX12_one d rc rs Q 40 [some (vr 89)] [] h80 from xGo k_X12_one_40 (show wp mX12_one d rc rs Q 133 [some (vr 89)] [] h80 from xV k_X12_one_133 (And.intro rfl v84))))))))))))))))))))))))))))))))))))))))))))))))))))))))))))))))))))))))))) (fun c2 => have v4 := hv.2 c2; (show wp mX12_one d rc rs Q 7 [some (vr 89)] [] h from xV k_X12_one_7 (And.intro rfl v4))))))
theorem e_X12_one {d : Nat} {mc ms : Nat} {Q : Option AV → AH → Prop} {h : AH}  (hL : LayM h) (hv : (((iH h 89 40) = 0 → 0 + 1 ≤ d ∧ ((¬ (m_is h (2 : Int) (2 : Int)) → 0 + 1 ≤ d ∧ ((¬ (m_is h (3 : Int) (40 : Int)) → 0 + 1 ≤ d ∧ ((¬ (m_is h (3 : Int) (34 : Int)) → (((iH h 89 37) ≠ 1 → Q none (sI h 89 40 1)) ∧ ((iH h 89 37) = 1 → (∃ P23 : AH → Prop, 7 + 1 ≤ d ∧ Ct 7 0 0 mX12_plain [vr 89] h (QV P23) ∧ ∀ h21 : AH, P23 h21 → LayM h21 ∧ Q none h21)))) ∧ ((m_is h (3 : Int) (34 : Int)) → (∃ P30 : AH → Prop, 7 + 1 ≤ d ∧ Ct 7 0 0 mX12_phrase [vr 89] h (QV P30) ∧ ∀ h28 : AH, P30 h28 → LayM h28 ∧ Q none h28)))) ∧ ((m_is h (3 : Int) (40 : Int)) → (∃ P40 : AH → Prop, 7 + 1 ≤ d ∧ Ct 7 0 0 mX12_opens [vr 89] h (QV P40) ∧ ∀ h38 : AH, P40 h38 → LayM h38 ∧ (∃ d41 : Nat, (∃ P44 : AH → Prop, d41 + 1 ≤ d ∧ Ct d41 0 0 mX12_either [vr 89] h38 (QV P44) ∧ ∀ h42 : AH, P44 h42 → LayM h42 ∧ 0 + 1 ≤ d ∧ ((¬ (m_is h42 (3 : Int) (41 : Int)) → Q none (sI h42 89 40 1)) ∧ ((m_is h42 (3 : Int) (41 : Int)) → (-2147483648 ≤ (iH h42 89 39 - 1) ∧ (iH h42 89 39 - 1) < 2147483648) ∧ (∃ P52 : AH → Prop, 6 + 1 ≤ d ∧ Ct 6 0 0 mX12_next [vr 89] (sI h42 89 39 (iH h42 89 39 - 1)) (QV P52) ∧ ∀ h50 : AH, P52 h50 → LayM h50 ∧ Q none h50))))))))) ∧ ((m_is h (2 : Int) (2 : Int)) → (∃ P74 : AH → Prop, 7 + 1 ≤ d ∧ Ct 7 0 0 mX12_opens [vr 89] h (QV P74) ∧ ∀ h72 : AH, P74 h72 → LayM h72 ∧ (∃ d75 : Nat, (∃ P78 : AH → Prop, d75 + 1 ≤ d ∧ Ct d75 0 0 mX12_one [vr 89] h72 (QV P78) ∧ ∀ h76 : AH, P78 h76 → LayM h76 ∧ (-2147483648 ≤ (iH h76 89 39 - 1) ∧ (iH h76 89 39 - 1) < 2147483648) ∧ (∃ P82 : AH → Prop, 0 + 1 ≤ d ∧ Ct 0 0 0 mX12_mark [vr 89, vi 4] (sI h76 89 39 (iH h76 89 39 - 1)) (QV P82) ∧ ∀ h80 : AH, P82 h80 → LayM h80 ∧ Q none h80))))))) ∧ ((iH h 89 40) ≠ 0 → Q none h))) : Ct d mc ms mX12_one [vr 89] h Q := Ct.of (by decide +kernel) (Nat.le_of_ble_eq_true rfl) (t_X12_one_0 hL hv)
def b_X12_both_0 : List IE := [(.aload_n 0, 1, 0, 0, 0, 0)]
theorem k_X12_both_0 : ckB mX12_both 12 0 b_X12_both_0 1 = true := by decide +kernel
def b_X12_both_4 : List IE := [(.aload_n 0, 1, 0, 0, 0, 0), (.iconst 2, 1, 2, 0, 0, 0), (.iconst 1, 1, 1, 0, 0, 0)]
theorem k_X12_both_4 : ckB mX12_both 12 4 b_X12_both_4 7 = true := by decide +kernel
def b_X12_both_10 : List IE := []
theorem k_X12_both_10 : ckIf mX12_both 12 10 b_X12_both_10 10 0 19 29 13 = true := by decide +kernel
def b_X12_both_13 : List IE := [(.aload_n 0, 1, 0, 0, 0, 0)]
theorem k_X12_both_13 : ckB mX12_both 12 13 b_X12_both_13 14 = true := by decide +kernel
def b_X12_both_17 : List IE := [(.aload_n 0, 1, 0, 0, 0, 0)]
theorem k_X12_both_17 : ckB mX12_both 12 17 b_X12_both_17 18 = true := by decide +kernel
def b_X12_both_21 : List IE := [(.aload_n 0, 1, 0, 0, 0, 0), (.iconst 5, 1, 5, 0, 0, 0)]
theorem k_X12_both_21 : ckB mX12_both 12 21 b_X12_both_21 23 = true := by decide +kernel
def b_X12_both_26 : List IE := []
theorem k_X12_both_26 : ckGo mX12_both 12 26 b_X12_both_26 26 (-22) 4 = true := by decide +kernel
def b_X12_both_29 : List IE := []
theorem k_X12_both_29 : ckV mX12_both 12 29 b_X12_both_29 29 = true := by decide +kernel
theorem s_X12_both_1 : cV mX12_both 1 mX12_one 321 0 12 := ⟨by decide +kernel, ⟨ml_X12_one, li_RX12_321, im_X12_one, se_X12_one⟩, ⟨by decide +kernel, by decide +kernel⟩, by decide +kernel⟩
theorem s_X12_both_7 : cV mX12_both 7 mX12_is 312 2 12 := ⟨by decide +kernel, ⟨ml_X12_is, li_RX12_312, im_X12_is, se_X12_is⟩, ⟨by decide +kernel, by decide +kernel⟩, by decide +kernel⟩
theorem s_X12_both_14 : cV mX12_both 14 mX12_next 315 0 12 := ⟨by decide +kernel, ⟨ml_X12_next, li_RX12_315, im_X12_next, se_X12_next⟩, ⟨by decide +kernel, by decide +kernel⟩, by decide +kernel⟩
theorem s_X12_both_18 : cV mX12_both 18 mX12_one 321 0 12 := ⟨by decide +kernel, ⟨ml_X12_one, li_RX12_321, im_X12_one, se_X12_one⟩, ⟨by decide +kernel, by decide +kernel⟩, by decide +kernel⟩
theorem s_X12_both_23 : cV mX12_both 23 mX12_mark 318 1 12 := ⟨by decide +kernel, ⟨ml_X12_mark, li_RX12_318, im_X12_mark, se_X12_mark⟩, ⟨by decide +kernel, by decide +kernel⟩, by decide +kernel⟩
theorem t_X12_both_0 {d : Nat} {rc rs : Nat} {Q : Option AV → AH → Prop} {h : AH}  (hL : LayM h) (hv : (∃ d1 : Nat, (∃ P4 : AH → Prop, d1 + 1 ≤ d ∧ Ct d1 0 0 mX12_one [vr 89] h (QV P4) ∧ ∀ h2 : AH, P4 h2 → LayM h2 ∧ wp mX12_both d rc rs Q 4 [some (vr 89)] [] h2))) : wp mX12_both d rc rs Q 0 [some (vr 89)] [] h :=
  (show wp mX12_both d rc rs Q 0 [some (vr 89)] [] h from xcV k_X12_both_0 s_X12_both_1 (Exists.elim hv (fun d1 v5 => Exists.elim v5 (fun P4 v5 => (Exists.intro [] (Exists.intro 89 (Exists.intro [] (And.intro (And.intro rfl (And.intro rfl (Nat.le_of_ble_eq_true rfl))) (And.intro (lm_89 hL) (Exists.intro d1 (Exists.intro 0 (Exists.intro 0 (Exists.intro (QV P4) (And.intro v5.2.1 (And.intro (And.intro v5.1 (And.intro (Nat.zero_le _) (Nat.zero_le _))) (eQV (fun h2 e7 => have v6 := v5.2.2 h2 e7; have hL := v6.1; have v6 := v6.2; v6)))))))))))))))))
theorem e_X12_both {d : Nat} {mc ms : Nat} {Q : Option AV → AH → Prop} {h : AH}  (hL : LayM h) (hv : (∃ d1 : Nat, (∃ P4 : AH → Prop, d1 + 1 ≤ d ∧ Ct d1 0 0 mX12_one [vr 89] h (QV P4) ∧ ∀ h2 : AH, P4 h2 → LayM h2 ∧ wp mX12_both d mc ms Q 4 [some (vr 89)] [] h2))) : Ct d mc ms mX12_both [vr 89] h Q := Ct.of (by decide +kernel) (Nat.le_of_ble_eq_true rfl) (t_X12_both_0 hL hv)
theorem t_X12_both_4 {d : Nat} {rc rs : Nat} {Q : Option AV → AH → Prop} {h : AH}  (hL : LayM h) (hv : 0 + 1 ≤ d ∧ ((¬ (m_is h (2 : Int) (1 : Int)) → Q none h) ∧ ((m_is h (2 : Int) (1 : Int)) → (∃ P7 : AH → Prop, 6 + 1 ≤ d ∧ Ct 6 0 0 mX12_next [vr 89] h (QV P7) ∧ ∀ h5 : AH, P7 h5 → LayM h5 ∧ (∃ d8 : Nat, (∃ P11 : AH → Prop, d8 + 1 ≤ d ∧ Ct d8 0 0 mX12_one [vr 89] h5 (QV P11) ∧ ∀ h9 : AH, P11 h9 → LayM h9 ∧ (∃ P14 : AH → Prop, 0 + 1 ≤ d ∧ Ct 0 0 0 mX12_mark [vr 89, vi 5] h9 (QV P14) ∧ ∀ h12 : AH, P14 h12 → LayM h12 ∧ wp mX12_both d rc rs Q 4 [some (vr 89)] [] h12))))))) : wp mX12_both d rc rs Q 4 [some (vr 89)] [] h :=
  (show wp mX12_both d rc rs Q 4 [some (vr 89)] [] h from xcV k_X12_both_4 s_X12_both_7 ((Exists.intro [vi 2, vi 1] (Exists.intro 89 (Exists.intro [] (And.intro (And.intro rfl (And.intro rfl (Nat.le_of_ble_eq_true rfl))) (And.intro (lm_89 hL) (Exists.intro 0 (Exists.intro 0 (Exists.intro 0 (Exists.intro _ (And.intro (c_is (h := h) hL) (And.intro (And.intro hv.1 (And.intro (Nat.zero_le _) (Nat.zero_le _))) (eQP (show wp mX12_both d rc rs Q 10 [some (vr 89)] [vi (b01 (m_is h (2 : Int) (1 : Int)))] h from xIf k_X12_both_10 (And.intro (fun c1 => have v3 := hv.2.1 (b01_n.mp c1); (show wp mX12_both d rc rs Q 29 [some (vr 89)] [] h from xV k_X12_both_29 (And.intro rfl v3))) (fun c2 => have v4 := hv.2.2 (b01_p.mp c2); (show wp mX12_both d rc rs Q 13 [some (vr 89)] [] h from xcV k_X12_both_13 s_X12_both_14 (Exists.elim v4 (fun P7 v23 => (Exists.intro [] (Exists.intro 89 (Exists.intro [] (And.intro (And.intro rfl (And.intro rfl (Nat.le_of_ble_eq_true rfl))) (And.intro (lm_89 hL) (Exists.intro 6 (Exists.intro 0 (Exists.intro 0 (Exists.intro (QV P7) (And.intro v23.2.1 (And.intro (And.intro v23.1 (And.intro (Nat.zero_le _) (Nat.zero_le _))) (eQV (fun h5 e25 => have v24 := v23.2.2 h5 e25; have hL := v24.1; have v24 := v24.2; (show wp mX12_both d rc rs Q 17 [some (vr 89)] [] h5 from xcV k_X12_both_17 s_X12_both_18 (Exists.elim v24 (fun d8 v19 => Exists.elim v19 (fun P11 v19 => (Exists.intro [] (Exists.intro 89 (Exists.intro [] (And.intro (And.intro rfl (And.intro rfl (Nat.le_of_ble_eq_true rfl))) (And.intro (lm_89 hL) (Exists.intro d8 (Exists.intro 0 (Exists.intro 0 (Exists.intro (QV P11) (And.intro v19.2.1 (And.intro (And.intro v19.1 (And.intro (Nat.zero_le _) (Nat.zero_le _))) (eQV (fun h9 e21 => have v20 := v19.2.2 h9 e21; have hL := v20.1; have v20 := v20.2; (show wp mX12_both d rc rs Q 21 [some (vr 89)] [] h9 from xcV k_X12_both_21 s_X12_both_23 (Exists.elim v20 (fun P14 v15 => (Exists.intro [vi 5] (Exists.intro 89 (Exists.intro [] (And.intro (And.intro rfl (And.intro rfl (Nat.le_of_ble_eq_true rfl))) (And.intro (lm_89 hL) (Exists.intro 0 (Exists.intro 0 (Exists.intro 0 (Exists.intro (QV P14) (And.intro v15.2.1 (And.intro (And.intro v15.1 (And.intro (Nat.zero_le _) (Nat.zero_le _))) (eQV (fun h12 e17 => have v16 := v15.2.2 h12 e17; have hL := v16.1; have v16 := v16.2; (show wp mX12_both d rc rs Q 26 [some (vr 89)] [] h12 from xGo k_X12_both_26 v16)))))))))))))))))))))))))))))))))))))))))))))))))))))))))))))))))))
def b_X12_either_0 : List IE := [(.aload_n 0, 1, 0, 0, 0, 0)]
theorem k_X12_either_0 : ckB mX12_either 12 0 b_X12_either_0 1 = true := by decide +kernel
def b_X12_either_4 : List IE := [(.aload_n 0, 1, 0, 0, 0, 0), (.iconst 2, 1, 2, 0, 0, 0), (.iconst 0, 1, 0, 0, 0, 0)]
theorem k_X12_either_4 : ckB mX12_either 12 4 b_X12_either_4 7 = true := by decide +kernel
def b_X12_either_10 : List IE := []
theorem k_X12_either_10 : ckIf mX12_either 12 10 b_X12_either_10 10 0 20 30 13 = true := by decide +kernel
def b_X12_either_13 : List IE := [(.aload_n 0, 1, 0, 0, 0, 0)]
theorem k_X12_either_13 : ckB mX12_either 12 13 b_X12_either_13 14 = true := by decide +kernel
def b_X12_either_17 : List IE := [(.aload_n 0, 1, 0, 0, 0, 0)]
theorem k_X12_either_17 : ckB mX12_either 12 17 b_X12_either_17 18 = true := by decide +kernel
def b_X12_either_21 : List IE := [(.aload_n 0, 1, 0, 0, 0, 0), (.bipush 6, 2, 6, 0, 0, 0)]
theorem k_X12_either_21 : ckB mX12_either 12 21 b_X12_either_21 24 = true := by decide +kernel
def b_X12_either_27 : List IE := []
theorem k_X12_either_27 : ckGo mX12_either 12 27 b_X12_either_27 27 (-23) 4 = true := by decide +kernel
def b_X12_either_30 : List IE := []
theorem k_X12_either_30 : ckV mX12_either 12 30 b_X12_either_30 30 = true := by decide +kernel
theorem s_X12_either_1 : cV mX12_either 1 mX12_both 309 0 12 := ⟨by decide +kernel, ⟨ml_X12_both, li_RX12_309, im_X12_both, se_X12_both⟩, ⟨by decide +kernel, by decide +kernel⟩, by decide +kernel⟩
theorem s_X12_either_7 : cV mX12_either 7 mX12_is 312 2 12 := ⟨by decide +kernel, ⟨ml_X12_is, li_RX12_312, im_X12_is, se_X12_is⟩, ⟨by decide +kernel, by decide +kernel⟩, by decide +kernel⟩
theorem s_X12_either_14 : cV mX12_either 14 mX12_next 315 0 12 := ⟨by decide +kernel, ⟨ml_X12_next, li_RX12_315, im_X12_next, se_X12_next⟩, ⟨by decide +kernel, by decide +kernel⟩, by decide +kernel⟩
theorem s_X12_either_18 : cV mX12_either 18 mX12_both 309 0 12 := ⟨by decide +kernel, ⟨ml_X12_both, li_RX12_309, im_X12_both, se_X12_both⟩, ⟨by decide +kernel, by decide +kernel⟩, by decide +kernel⟩
theorem s_X12_either_24 : cV mX12_either 24 mX12_mark 318 1 12 := ⟨by decide +kernel, ⟨ml_X12_mark, li_RX12_318, im_X12_mark, se_X12_mark⟩, ⟨by decide +kernel, by decide +kernel⟩, by decide +kernel⟩
theorem t_X12_either_0 {d : Nat} {rc rs : Nat} {Q : Option AV → AH → Prop} {h : AH}  (hL : LayM h) (hv : (∃ d1 : Nat, (∃ P4 : AH → Prop, d1 + 1 ≤ d ∧ Ct d1 0 0 mX12_both [vr 89] h (QV P4) ∧ ∀ h2 : AH, P4 h2 → LayM h2 ∧ wp mX12_either d rc rs Q 4 [some (vr 89)] [] h2))) : wp mX12_either d rc rs Q 0 [some (vr 89)] [] h :=
  (show wp mX12_either d rc rs Q 0 [some (vr 89)] [] h from xcV k_X12_either_0 s_X12_either_1 (Exists.elim hv (fun d1 v5 => Exists.elim v5 (fun P4 v5 => (Exists.intro [] (Exists.intro 89 (Exists.intro [] (And.intro (And.intro rfl (And.intro rfl (Nat.le_of_ble_eq_true rfl))) (And.intro (lm_89 hL) (Exists.intro d1 (Exists.intro 0 (Exists.intro 0 (Exists.intro (QV P4) (And.intro v5.2.1 (And.intro (And.intro v5.1 (And.intro (Nat.zero_le _) (Nat.zero_le _))) (eQV (fun h2 e7 => have v6 := v5.2.2 h2 e7; have hL := v6.1; have v6 := v6.2; v6)))))))))))))))))
theorem e_X12_either {d : Nat} {mc ms : Nat} {Q : Option AV → AH → Prop} {h : AH}  (hL : LayM h) (hv : (∃ d1 : Nat, (∃ P4 : AH → Prop, d1 + 1 ≤ d ∧ Ct d1 0 0 mX12_both [vr 89] h (QV P4) ∧ ∀ h2 : AH, P4 h2 → LayM h2 ∧ wp mX12_either d mc ms Q 4 [some (vr 89)] [] h2))) : Ct d mc ms mX12_either [vr 89] h Q := Ct.of (by decide +kernel) (Nat.le_of_ble_eq_true rfl) (t_X12_either_0 hL hv)
theorem t_X12_either_4 {d : Nat} {rc rs : Nat} {Q : Option AV → AH → Prop} {h : AH}  (hL : LayM h) (hv : 0 + 1 ≤ d ∧ ((¬ (m_is h (2 : Int) (0 : Int)) → Q none h) ∧ ((m_is h (2 : Int) (0 : Int)) → (∃ P7 : AH → Prop, 6 + 1 ≤ d ∧ Ct 6 0 0 mX12_next [vr 89] h (QV P7) ∧ ∀ h5 : AH, P7 h5 → LayM h5 ∧ (∃ d8 : Nat, (∃ P11 : AH → Prop, d8 + 1 ≤ d ∧ Ct d8 0 0 mX12_both [vr 89] h5 (QV P11) ∧ ∀ h9 : AH, P11 h9 → LayM h9 ∧ (∃ P14 : AH → Prop, 0 + 1 ≤ d ∧ Ct 0 0 0 mX12_mark [vr 89, vi 6] h9 (QV P14) ∧ ∀ h12 : AH, P14 h12 → LayM h12 ∧ wp mX12_either d rc rs Q 4 [some (vr 89)] [] h12))))))) : wp mX12_either d rc rs Q 4 [some (vr 89)] [] h :=
  (show wp mX12_either d rc rs Q 4 [some (vr 89)] [] h from xcV k_X12_either_4 s_X12_either_7 ((Exists.intro [vi 2, vi 0] (Exists.intro 89 (Exists.intro [] (And.intro (And.intro rfl (And.intro rfl (Nat.le_of_ble_eq_true rfl))) (And.intro (lm_89 hL) (Exists.intro 0 (Exists.intro 0 (Exists.intro 0 (Exists.intro _ (And.intro (c_is (h := h) hL) (And.intro (And.intro hv.1 (And.intro (Nat.zero_le _) (Nat.zero_le _))) (eQP (show wp mX12_either d rc rs Q 10 [some (vr 89)] [vi (b01 (m_is h (2 : Int) (0 : Int)))] h from xIf k_X12_either_10 (And.intro (fun c1 => have v3 := hv.2.1 (b01_n.mp c1); (show wp mX12_either d rc rs Q 30 [some (vr 89)] [] h from xV k_X12_either_30 (And.intro rfl v3))) (fun c2 => have v4 := hv.2.2 (b01_p.mp c2); (show wp mX12_either d rc rs Q 13 [some (vr 89)] [] h from xcV k_X12_either_13 s_X12_either_14 (Exists.elim v4 (fun P7 v23 => (Exists.intro [] (Exists.intro 89 (Exists.intro [] (And.intro (And.intro rfl (And.intro rfl (Nat.le_of_ble_eq_true rfl))) (And.intro (lm_89 hL) (Exists.intro 6 (Exists.intro 0 (Exists.intro 0 (Exists.intro (QV P7) (And.intro v23.2.1 (And.intro (And.intro v23.1 (And.intro (Nat.zero_le _) (Nat.zero_le _))) (eQV (fun h5 e25 => have v24 := v23.2.2 h5 e25; have hL := v24.1; have v24 := v24.2; (show wp mX12_either d rc rs Q 17 [some (vr 89)] [] h5 from xcV k_X12_either_17 s_X12_either_18 (Exists.elim v24 (fun d8 v19 => Exists.elim v19 (fun P11 v19 => (Exists.intro [] (Exists.intro 89 (Exists.intro [] (And.intro (And.intro rfl (And.intro rfl (Nat.le_of_ble_eq_true rfl))) (And.intro (lm_89 hL) (Exists.intro d8 (Exists.intro 0 (Exists.intro 0 (Exists.intro (QV P11) (And.intro v19.2.1 (And.intro (And.intro v19.1 (And.intro (Nat.zero_le _) (Nat.zero_le _))) (eQV (fun h9 e21 => have v20 := v19.2.2 h9 e21; have hL := v20.1; have v20 := v20.2; (show wp mX12_either d rc rs Q 21 [some (vr 89)] [] h9 from xcV k_X12_either_21 s_X12_either_24 (Exists.elim v20 (fun P14 v15 => (Exists.intro [vi 6] (Exists.intro 89 (Exists.intro [] (And.intro (And.intro rfl (And.intro rfl (Nat.le_of_ble_eq_true rfl))) (And.intro (lm_89 hL) (Exists.intro 0 (Exists.intro 0 (Exists.intro 0 (Exists.intro (QV P14) (And.intro v15.2.1 (And.intro (And.intro v15.1 (And.intro (Nat.zero_le _) (Nat.zero_le _))) (eQV (fun h12 e17 => have v16 := v15.2.2 h12 e17; have hL := v16.1; have v16 := v16.2; (show wp mX12_either d rc rs Q 27 [some (vr 89)] [] h12 from xGo k_X12_either_27 v16)))))))))))))))))))))))))))))))))))))))))))))))))))))))))))))))))))
theorem c_oneE {h h' : AH} (hL : LayM h) {op : Int} {e D : Nat} (g : pE h op e h') : Ct D 0 0 mX12_one [vr 89] h' (QV (pE h op e)) :=
  e_X12_one (pE_L hL g) ⟨fun z => absurd (pE_40 g) (by omega), fun _ => ⟨rfl, g⟩⟩
theorem c_bothE {h h' : AH} (hL : LayM h) {op : Int} {e D : Nat} (hD : 1 ≤ D) (g : pE h op e h') : Ct D 0 0 mX12_both [vr 89] h' (QV (pE h op e)) :=
  e_X12_both (pE_L hL g) ⟨D - 1, _, by omega, c_oneE hL g, fun h2 q => ⟨pE_L hL q, t_X12_both_4 (pE_L hL q) ⟨by omega, fun _ => ⟨rfl, q⟩, fun z => absurd z (is_E q)⟩⟩⟩
theorem c_eitherE {h h' : AH} (hL : LayM h) {op : Int} {e D : Nat} (hD : 2 ≤ D) (g : pE h op e h') : Ct D 0 0 mX12_either [vr 89] h' (QV (pE h op e)) :=
  e_X12_either (pE_L hL g) ⟨D - 1, _, by omega, c_bothE hL (by omega) g, fun h2 q => ⟨pE_L hL q, t_X12_either_4 (pE_L hL q) ⟨by omega, fun _ => ⟨rfl, q⟩, fun z => absurd z (is_E q)⟩⟩⟩
theorem c_bothL {h : AH} (hL : LayM h) (ht : q_tp h) (hy : ∀ k, k < d_n h → 0 ≤ iH h 1157 k) {op c : Int} (hop : op ≤ 5) {D : Nat} (hD : 6 ≤ D) {f : Nat → qL → qS} (hG : q_G h c 3 f) (hf : cF h op mX12_one D f) : ∀ (n p : Nat) (o : qL) (h' : AH), d_n h ≤ p + n → pG h op p o.flatten h' → 2 * q_szL o ≤ 3 * p + 3 → wp mX12_both (D + 1) 0 0 (QV (pRt h op (q_lp h 3 5 f n p o))) 4 [some (vr 89)] [] h' := by
  have hE : ∀ (e : Nat) (h' : AH), pE h op e h' → wp mX12_both (D + 1) 0 0 (QV (pE h op e)) 4 [some (vr 89)] [] h' := fun e h' g => t_X12_both_4 (pE_L hL g) ⟨by omega, fun _ => ⟨rfl, g⟩, fun z => absurd z (is_E g)⟩
  intro n
  induction n with
  | zero =>
    intro p o h' hn g hs
    have b1 := q_b_ge (h := h) (p := p)
    have k0 : q_k h p = 0 := q_k_0.mpr (by omega)
    exact t_X12_both_4 (pG_L hL g) ⟨by omega, fun _ => ⟨rfl, g⟩, fun z => absurd ((is_2 (k := 3) g (by omega)).mp z) (by omega)⟩
  | succ n ih =>
    intro p o h' hn g hs
    refine t_X12_both_4 (pG_L hL g) ⟨by omega, fun z => ⟨rfl, ?_⟩, fun z => ?_⟩
    · unfold q_lp
      rw [if_neg (fun w => z ((is_2 (k := 3) g (by omega)).mpr w))]; exact g
    · have k1 : q_k h p = 3 := (is_2 (k := 3) g (by omega)).mp z
      have b1 := q_b_ge (h := h) (p := p)
      have b2 := q_k_2 (h := h) (p := p) (by omega)
      have f7 := (pG_f g).2.2.2.2.2.2.1
      have f8 := q_e_le f7
      have hn64 : d_n h ≤ 64 := by have := ht.2; unfold d_n; omega
      unfold q_lp
      rw [if_pos k1]
      refine ⟨_, by omega, cn_G hL ht hy hop g, fun h2 q2 => ?_⟩
      rcases q2 with ⟨c2, q2⟩ | ⟨c2, q2⟩
      · rw [go_E c2]
        exact ⟨pE_L hL q2, D, _, by omega, c_oneE hL q2, fun h3 q3 => ⟨pE_L hL q3, _, by omega, cm_E hL q3, fun h4 q4 => ⟨pE_L hL q4, hE _ _ q4⟩⟩⟩
      · rw [go_G c2]
        refine ⟨pG_L hL q2, D, _, by omega, hf _ _ _ q2 (by omega), fun h3 q3 => ⟨pRt_L hL q3, ?_⟩⟩
        have hP3 := hG (q_e h p) o f8 c2
        have er : q_bd (.inr (q_e h p, o)) f = f (q_e h p) o := rfl
        rw [er]
        revert q3 hP3
        generalize f (q_e h p) o = s3
        cases s3 with
        | inl e => exact fun q3 _ => ⟨_, by omega, cm_E hL q3, fun h4 q4 => ⟨pE_L hL q4, hE _ _ q4⟩⟩
        | inr x =>
          rintro q3 ⟨j1, j2, j3, gg, j4, j5, j6⟩
          have q3 : pG h op x.1 x.2.flatten h3 := q3
          have sz : q_szL x.2 = q_szL o + q_szL gg := by rw [j4, q_szL_app]
          have hl := fl_len x.2
          refine ⟨_, by omega, cm_G hL q3 (by omega), fun h4 q4 => ⟨pG_L hL q4, ih x.1 (x.2 ++ [[5]]) h4 (by omega) (by rw [fl_snoc]; exact q4) ?_⟩⟩
          have s1 : q_szL (x.2 ++ [[5]]) = q_szL x.2 + 1 := by rw [q_szL_app]; rfl
          omega
theorem c_bothF {h : AH} (hL : LayM h) (ht : q_tp h) (hy : ∀ k, k < d_n h → 0 ≤ iH h 1157 k) {op c : Int} (hop : op ≤ 5) {D : Nat} (hD : 6 ≤ D) {f : Nat → qL → qS} (hG : q_G h c 3 f) (hf : cF h op mX12_one D f) : cF h op mX12_both (D + 1) (q_bo h f) := fun p o h' g hs => by
  have hn64 : d_n h ≤ 64 := by have := ht.2; unfold d_n; omega
  have f7 := (pG_f g).2.2.2.2.2.2
  have hP3 := hG p o f7.1 f7.2
  refine e_X12_both (pG_L hL g) ⟨D, _, by omega, hf _ _ _ g hs, fun h3 q3 => ⟨pRt_L hL q3, ?_⟩⟩
  unfold q_bo
  revert q3 hP3
  generalize f p o = s3
  cases s3 with
  | inl e => exact fun _ q3 => t_X12_both_4 (pE_L hL q3) ⟨by omega, fun _ => ⟨rfl, q3⟩, fun z => absurd z (is_E q3)⟩
  | inr x =>
    rintro ⟨j1, j2, j3, gg, j4, j5, j6⟩ q3
    have sz : q_szL x.2 = q_szL o + q_szL gg := by rw [j4, q_szL_app]
    exact c_bothL hL ht hy hop hD hG hf 64 x.1 x.2 h3 (by omega) q3 (by omega)
theorem c_eitherL {h : AH} (hL : LayM h) (ht : q_tp h) (hy : ∀ k, k < d_n h → 0 ≤ iH h 1157 k) {op c : Int} (hop : op ≤ 5) {D : Nat} (hD : 6 ≤ D) {f : Nat → qL → qS} (hG : q_G h c 3 f) (hf : cF h op mX12_both D f) : ∀ (n p : Nat) (o : qL) (h' : AH), d_n h ≤ p + n → pG h op p o.flatten h' → 2 * q_szL o ≤ 3 * p + 3 → wp mX12_either (D + 1) 0 0 (QV (pRt h op (q_lp h 2 6 f n p o))) 4 [some (vr 89)] [] h' := by
  have hE : ∀ (e : Nat) (h' : AH), pE h op e h' → wp mX12_either (D + 1) 0 0 (QV (pE h op e)) 4 [some (vr 89)] [] h' := fun e h' g => t_X12_either_4 (pE_L hL g) ⟨by omega, fun _ => ⟨rfl, g⟩, fun z => absurd z (is_E g)⟩
  intro n
  induction n with
  | zero =>
    intro p o h' hn g hs
    have b1 := q_b_ge (h := h) (p := p)
    have k0 : q_k h p = 0 := q_k_0.mpr (by omega)
    exact t_X12_either_4 (pG_L hL g) ⟨by omega, fun _ => ⟨rfl, g⟩, fun z => absurd ((is_2 (k := 2) g (by omega)).mp z) (by omega)⟩
  | succ n ih =>
    intro p o h' hn g hs
    refine t_X12_either_4 (pG_L hL g) ⟨by omega, fun z => ⟨rfl, ?_⟩, fun z => ?_⟩
    · unfold q_lp
      rw [if_neg (fun w => z ((is_2 (k := 2) g (by omega)).mpr w))]; exact g
    · have k1 : q_k h p = 2 := (is_2 (k := 2) g (by omega)).mp z
      have b1 := q_b_ge (h := h) (p := p)
      have b2 := q_k_2 (h := h) (p := p) (by omega)
      have f7 := (pG_f g).2.2.2.2.2.2.1
      have f8 := q_e_le f7
      have hn64 : d_n h ≤ 64 := by have := ht.2; unfold d_n; omega
      unfold q_lp
      rw [if_pos k1]
      refine ⟨_, by omega, cn_G hL ht hy hop g, fun h2 q2 => ?_⟩
      rcases q2 with ⟨c2, q2⟩ | ⟨c2, q2⟩
      · rw [go_E c2]
        exact ⟨pE_L hL q2, D, _, by omega, c_bothE hL (by omega) q2, fun h3 q3 => ⟨pE_L hL q3, _, by omega, cm_E hL q3, fun h4 q4 => ⟨pE_L hL q4, hE _ _ q4⟩⟩⟩
      · rw [go_G c2]
        refine ⟨pG_L hL q2, D, _, by omega, hf _ _ _ q2 (by omega), fun h3 q3 => ⟨pRt_L hL q3, ?_⟩⟩
        have hP3 := hG (q_e h p) o f8 c2
        have er : q_bd (.inr (q_e h p, o)) f = f (q_e h p) o := rfl
        rw [er]
        revert q3 hP3
        generalize f (q_e h p) o = s3
        cases s3 with
        | inl e => exact fun q3 _ => ⟨_, by omega, cm_E hL q3, fun h4 q4 => ⟨pE_L hL q4, hE _ _ q4⟩⟩
        | inr x =>
          rintro q3 ⟨j1, j2, j3, gg, j4, j5, j6⟩
          have q3 : pG h op x.1 x.2.flatten h3 := q3
          have sz : q_szL x.2 = q_szL o + q_szL gg := by rw [j4, q_szL_app]
          have hl := fl_len x.2
          refine ⟨_, by omega, cm_G hL q3 (by omega), fun h4 q4 => ⟨pG_L hL q4, ih x.1 (x.2 ++ [[6]]) h4 (by omega) (by rw [fl_snoc]; exact q4) ?_⟩⟩
          have s1 : q_szL (x.2 ++ [[6]]) = q_szL x.2 + 1 := by rw [q_szL_app]; rfl
          omega
theorem c_eitherF {h : AH} (hL : LayM h) (ht : q_tp h) (hy : ∀ k, k < d_n h → 0 ≤ iH h 1157 k) {op c : Int} (hop : op ≤ 5) {D : Nat} (hD : 6 ≤ D) {f : Nat → qL → qS} (hG : q_G h c 3 (q_bo h f)) (hf : cF h op mX12_both D (q_bo h f)) : cF h op mX12_either (D + 1) (q_ei h f) := fun p o h' g hs => by
  have hn64 : d_n h ≤ 64 := by have := ht.2; unfold d_n; omega
  have f7 := (pG_f g).2.2.2.2.2.2
  have hP3 := hG p o f7.1 f7.2
  refine e_X12_either (pG_L hL g) ⟨D, _, by omega, hf _ _ _ g hs, fun h3 q3 => ⟨pRt_L hL q3, ?_⟩⟩
  unfold q_ei
  revert q3 hP3
  generalize q_bo h f p o = s3
  cases s3 with
  | inl e => exact fun _ q3 => t_X12_either_4 (pE_L hL q3) ⟨by omega, fun _ => ⟨rfl, q3⟩, fun z => absurd z (is_E q3)⟩
  | inr x =>
    rintro ⟨j1, j2, j3, gg, j4, j5, j6⟩ q3
    have sz : q_szL x.2 = q_szL o + q_szL gg := by rw [j4, q_szL_app]
    exact c_eitherL hL ht hy hop hD hG hf 64 x.1 x.2 h3 (by omega) q3 (by omega)
theorem pE_m {h h' : AH} {op op2 : Int} {e : Nat} (hv : op2 ≤ op) (g : pE h op e h') : pE h op2 e h' := by
  obtain ⟨F, mk, rfl, g40, g36, g39⟩ := g
  exact ⟨F, mk, rfl, g40, g36, by omega⟩
theorem o1_leaf {h h' : AH} (hL : LayM h) (ht : q_tp h) (hy : ∀ k, k < d_n h → 0 ≤ iH h 1157 k) {op : Int} (hop : op ≤ 5) {D : Nat} (hD : 8 ≤ D) {p : Nat} {o : qL} (g : pG h op p o.flatten h') (hs : 2 * q_szL o ≤ 3 * p) {ng br : Nat → qL → qS} (c1 : q_k h p ≠ 4) (c2 : q_k h p ≠ 40) :
    (¬ m_is h' 3 34 → ((iH h' 89 37 ≠ 1 → QV (pRt h op (q_o1 h ng br p o)) none (sI h' 89 40 1)) ∧ (iH h' 89 37 = 1 → ∃ P : AH → Prop, 7 + 1 ≤ D ∧ Ct 7 0 0 mX12_plain [vr 89] h' (QV P) ∧ ∀ h2 : AH, P h2 → LayM h2 ∧ QV (pRt h op (q_o1 h ng br p o)) none h2))) ∧ (m_is h' 3 34 → ∃ P : AH → Prop, 7 + 1 ≤ D ∧ Ct 7 0 0 mX12_phrase [vr 89] h' (QV P) ∧ ∀ h2 : AH, P h2 → LayM h2 ∧ QV (pRt h op (q_o1 h ng br p o)) none h2) := by
  unfold q_o1
  rw [if_neg c1, if_neg c2]
  refine ⟨fun z => ⟨fun z2 => ⟨rfl, ?_⟩, fun z2 => ?_⟩, fun z => ?_⟩
  · rw [if_neg (fun w => z ((is_3 g (by omega)).mpr w)), if_neg (fun w => z2 ((is_1 g).mpr w))]
    exact pG_w hop g
  · have k1 := (is_1 g).mp z2
    rw [if_neg (by omega), if_pos k1]
    exact ⟨_, by omega, c_plain hL ht hy hop g k1 hs, fun h2 q => ⟨pRt_L hL q, rfl, q⟩⟩
  · have k1 := (is_3 g (by omega)).mp z
    rw [if_pos k1]
    exact ⟨_, by omega, c_phrase hL ht hy hop g hs, fun h2 q => ⟨pRt_L hL q, rfl, q⟩⟩
theorem c_one0 {h : AH} (hL : LayM h) (ht : q_tp h) (hy : ∀ k, k < d_n h → 0 ≤ iH h 1157 k) : cF h 4 mX12_one 8 (q_one h 0) := fun p o h' g hs => by
  refine e_X12_one (pG_L hL g) ?_
  rw [(pG_f g).1]
  refine ⟨fun _ => ⟨by omega, fun z => ⟨by omega, fun z2 => ⟨by omega, ?_⟩, fun z2 => ?_⟩, fun z => ?_⟩, fun z => absurd rfl z⟩
  · exact o1_leaf hL ht hy (by omega) (by omega) g hs (fun w => z ((is_2 (k := 4) g (by omega)).mpr w)) (fun w => z2 ((is_3 g (by omega)).mpr w))
  · have k1 := (is_3 g (by omega)).mp z2
    have er : q_one h 0 p o = .inl (q_b h p) := by
      show (if q_k h p = 4 then _ else if q_k h p = 40 then _ else _) = _
      rw [if_neg (by omega), if_pos k1]
    rw [er]
    refine ⟨_, by omega, c_opens4 hL ht hy g, fun h2 q => ⟨pE_L hL q, 2, _, by omega, c_eitherE hL (by omega) q, fun h3 q3 => ⟨pE_L hL q3, by omega, fun _ => ⟨rfl, pE_m (by omega) (pE_w q3)⟩, fun w => absurd w (is_E q3)⟩⟩⟩
  · have k1 := (is_2 (k := 4) g (by omega)).mp z
    have er : q_one h 0 p o = .inl (q_b h p) := by
      show (if q_k h p = 4 then _ else _) = _
      rw [if_pos k1]
    rw [er]
    refine ⟨_, by omega, c_opens4 hL ht hy g, fun h2 q => ⟨pE_L hL q, 0, _, by omega, c_oneE hL q, fun h3 q3 => ?_⟩⟩
    have f := (pE_f q3).1
    refine ⟨pE_L hL q3, by omega, _, by omega, cm_E hL (pE_o (op2 := 4) (by omega) q3), fun h4 q4 => ⟨pE_L hL q4, rfl, q4⟩⟩
theorem c_oneS {h : AH} (hL : LayM h) (ht : q_tp h) (hy : ∀ k, k < d_n h → 0 ≤ iH h 1157 k) {d : Nat} {op : Int} (hop : 0 ≤ op ∧ op < 4) {D : Nat} (hD : 8 ≤ D) (ih : cF h (op + 1) mX12_one D (q_one h d)) : cF h op mX12_one (D + 3) (q_one h (d + 1)) := fun p o h' g hs => by
  have hn64 : d_n h ≤ 64 := by have := ht.2; unfold d_n; omega
  have hG := q_one_P ht d
  have hE := c_eitherF hL ht hy (by omega) (by omega) (q_bo_P hG (by omega)) (c_bothF hL ht hy (by omega) (by omega) hG ih)
  have hGE := q_ei_P hG (by omega)
  obtain ⟨-, -, -, -, -, -, f7, -⟩ := pG_f g
  have f8 := q_e_le f7
  have b1 := q_b_ge (h := h) (p := p)
  refine e_X12_one (pG_L hL g) ?_
  rw [(pG_f g).1]
  refine ⟨fun _ => ⟨by omega, fun z => ⟨by omega, fun z2 => ⟨by omega, ?_⟩, fun z2 => ?_⟩, fun z => ?_⟩, fun z => absurd rfl z⟩
  · exact o1_leaf hL ht hy (by omega) (by omega) g hs (fun w => z ((is_2 (k := 4) g (by omega)).mpr w)) (fun w => z2 ((is_3 g (by omega)).mpr w))
  · have k1 := (is_3 g (by omega)).mp z2
    have g2 := q_e_gt (h := h) (p := p) (by omega)
    have er : q_one h (d + 1) p o = q_br h (q_one h d) p o := by
      show (if q_k h p = 4 then _ else if q_k h p = 40 then _ else _) = _
      rw [if_neg (by omega), if_pos k1]
    rw [er]
    unfold q_br
    refine ⟨_, by omega, c_opens hL ht hy hop (o := o) g, fun h2 q => ⟨pRt_L hL q, D + 2, ?_⟩⟩
    have fE : ∀ e h3, pE h (op + 1) e h3 → LayM h3 ∧ 0 + 1 ≤ D + 3 ∧ ((¬ m_is h3 3 41 → QV (pE h op e) none (sI h3 89 40 1)) ∧ (m_is h3 3 41 → (-2147483648 ≤ iH h3 89 39 - 1 ∧ iH h3 89 39 - 1 < 2147483648) ∧ (∃ P : AH → Prop, 6 + 1 ≤ D + 3 ∧ Ct 6 0 0 mX12_next [vr 89] (sI h3 89 39 (iH h3 89 39 - 1)) (QV P) ∧ ∀ h4 : AH, P h4 → LayM h4 ∧ QV (pE h op e) none h4))) := fun e h3 q3 => ⟨pE_L hL q3, by omega, fun _ => ⟨rfl, pE_m (by omega) (pE_w q3)⟩, fun w => absurd w (is_E q3)⟩
    revert q
    unfold q_go
    by_cases c5 : q_k h (q_e h p) = 5
    · rw [if_pos c5]
      exact fun q => ⟨_, by omega, c_eitherE hL (by omega) q, fun h3 q3 => fE _ _ q3⟩
    · rw [if_neg c5]
      intro q
      refine ⟨_, by omega, hE (q_e h p) o _ q (by omega), fun h3 q3 => ?_⟩
      have hP3 := hGE (q_e h p) o f8 c5
      have er2 : q_bd (.inr (q_e h p, o)) (q_ei h (q_one h d)) = q_ei h (q_one h d) (q_e h p) o := rfl
      rw [er2]
      revert hP3 q3
      generalize q_ei h (q_one h d) (q_e h p) o = s3
      cases s3 with
      | inl e => exact fun q3 _ => fE _ _ q3
      | inr x =>
        intro q3 hP3
        have q3 : pG h (op + 1) x.1 x.2.flatten h3 := q3
        have ff := (pG_f q3).2.2.2.2.1
        show LayM h3 ∧ 0 + 1 ≤ D + 3 ∧ ((¬ m_is h3 3 41 → QV (pRt h op (if q_k h x.1 = 41 then q_go h (q_e h x.1) x.2 else .inl (q_b h x.1))) none (sI h3 89 40 1)) ∧ _)
        refine ⟨pG_L hL q3, by omega, fun w => ⟨rfl, ?_⟩, fun w => ⟨by omega, ?_⟩⟩
        · rw [if_neg (fun v => w ((is_3 q3 (by omega)).mpr v))]
          exact pE_m (by omega) (pG_w (by omega) q3)
        · have k3 := (is_3 q3 (by omega)).mp w
          rw [ff, show op + 1 - 1 = op by omega]
          refine ⟨_, by omega, cn_G hL ht hy (by omega) (pG_o q3), fun h4 q4 => ?_⟩
          have := nx_go q4
          refine ⟨pRt_L hL this, rfl, ?_⟩
          show pRt h op (if q_k h x.1 = 41 then _ else _) h4
          rw [if_pos k3]; exact this
  · have k1 := (is_2 (k := 4) g (by omega)).mp z
    have g2 := q_e_gt (h := h) (p := p) (by omega)
    have er : q_one h (d + 1) p o = q_ng h (q_one h d) p o := by
      show (if q_k h p = 4 then _ else _) = _
      rw [if_pos k1]
    rw [er]
    unfold q_ng
    refine ⟨_, by omega, c_opens hL ht hy hop (o := o) g, fun h2 q => ⟨pRt_L hL q, D, ?_⟩⟩
    have fE : ∀ e h3, pE h (op + 1) e h3 → LayM h3 ∧ (-2147483648 ≤ iH h3 89 39 - 1 ∧ iH h3 89 39 - 1 < 2147483648) ∧ (∃ P : AH → Prop, 0 + 1 ≤ D + 3 ∧ Ct 0 0 0 mX12_mark [vr 89, vi 4] (sI h3 89 39 (iH h3 89 39 - 1)) (QV P) ∧ ∀ h4 : AH, P h4 → LayM h4 ∧ QV (pE h op e) none h4) := fun e h3 q3 => by
      have f := (pE_f q3).1
      exact ⟨pE_L hL q3, by omega, _, by omega, cm_E hL (pE_o (op2 := op) (by omega) q3), fun h4 q4 => ⟨pE_L hL q4, rfl, q4⟩⟩
    revert q
    unfold q_go
    by_cases c5 : q_k h (q_e h p) = 5
    · rw [if_pos c5]
      exact fun q => ⟨_, by omega, c_oneE hL q, fun h3 q3 => fE _ _ q3⟩
    · rw [if_neg c5]
      intro q
      refine ⟨_, by omega, ih (q_e h p) o _ q (by omega), fun h3 q3 => ?_⟩
      have hP3 := hG (q_e h p) o f8 c5
      have er2 : q_bd (.inr (q_e h p, o)) (q_one h d) = q_one h d (q_e h p) o := rfl
      rw [er2]
      revert hP3 q3
      generalize q_one h d (q_e h p) o = s3
      cases s3 with
      | inl e => exact fun q3 _ => fE _ _ q3
      | inr x =>
        rintro q3 ⟨j1, j2, j3, gg, j4, j5, j6⟩
        have q3 : pG h (op + 1) x.1 x.2.flatten h3 := q3
        have ff := (pG_f q3).2.2.2.2.1
        have sz : q_szL x.2 = q_szL o + q_szL gg := by rw [j4, q_szL_app]
        have hl := fl_len x.2
        rw [ff, show op + 1 - 1 = op by omega]
        refine ⟨pG_L hL q3, by omega, _, by omega, cm_G hL (pG_o q3) (by omega), fun h4 q4 => ⟨pG_L hL q4, rfl, ?_⟩⟩
        show pG h op x.1 (x.2 ++ [[4]]).flatten h4
        rw [fl_snoc]; exact q4
theorem c_oneA {h : AH} (hL : LayM h) (ht : q_tp h) (hy : ∀ k, k < d_n h → 0 ≤ iH h 1157 k) : ∀ d : Nat, d ≤ 4 → cF h (4 - (d : Int)) mX12_one (8 + 3 * d) (q_one h d)
  | 0, _ => c_one0 hL ht hy
  | d + 1, hd => by
    have ih := c_oneA hL ht hy d (by omega)
    have := c_oneS (d := d) (op := 4 - ((d + 1 : Nat) : Int)) (D := 8 + 3 * d) hL ht hy (by omega) (by omega) (by rw [show 4 - ((d + 1 : Nat) : Int) + 1 = 4 - (d : Int) by omega]; exact ih)
    exact this
theorem c_eitherA {h : AH} (hL : LayM h) (ht : q_tp h) (hy : ∀ k, k < d_n h → 0 ≤ iH h 1157 k) : cF h 0 mX12_either 22 (q_ei h (q_one h 4)) := by
  have hG := q_one_P ht 4
  exact c_eitherF hL ht hy (by omega) (by omega) (q_bo_P hG (by omega)) (c_bothF hL ht hy (by omega) (by omega) hG (c_oneA hL ht hy 4 (Nat.le_refl _)))
