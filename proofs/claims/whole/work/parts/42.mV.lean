/-! THE REFERENCE: THE PARSER, LEAVES -/
def pRt (h : AH) (op : Int) (s : qS) (h' : AH) : Prop := match s with
  | .inl e => pE h op e h'
  | .inr x => pG h op x.1 x.2.flatten h'
theorem fl_len : ∀ o : qL, o.flatten.length ≤ q_szL o
  | [] => Nat.le_refl _
  | x :: o => by
    have ih := fl_len o
    have h1 : (x :: o).flatten.length = x.length + o.flatten.length := by simp
    have h2 : q_szL (x :: o) = q_zL x + q_szL o := rfl
    have h3 : x.length ≤ q_zL x := by unfold q_zL; split <;> omega
    omega
theorem fl_snoc {o : qL} {x : List Int} : (o ++ [x]).flatten = o.flatten ++ x := by simp
theorem pG_f {h h' : AH} {op : Int} {p : Nat} {l : List Int} (g : pG h op p l h') : iH h' 89 40 = 0 ∧ iH h' 89 35 = q_e h p ∧ iH h' 89 36 = q_b h p ∧ (q_k h p = 1 → iH h' 89 38 = q_v h p) ∧ iH h' 89 39 = op ∧ iH h' 89 34 = l.length ∧ p ≤ d_n h ∧ q_k h p ≠ 5 := by
  obtain ⟨F, mk, rfl, g40, g35, g36, g1, g2, g3, g39, gr⟩ := g
  rw [hP_F (by omega), hP_F (by omega), hP_F (by omega), hP_F (by omega), hP_F (by omega), hP_F (by omega)]
  refine ⟨g40, g35, g36, fun q => ?_, g39, gr.1, g1, g2⟩
  rcases g3 with ⟨a, b⟩ | ⟨a, b, c⟩ | ⟨a, b, c⟩ | ⟨a, b, c⟩ <;> omega
theorem pE_40 {h h' : AH} {op : Int} {e : Nat} (g : pE h op e h') : iH h' 89 40 = 1 := by
  obtain ⟨F, mk, rfl, g40, g36, g39⟩ := g
  rw [hP_F (by omega)]; exact g40
theorem pE_w {h h' : AH} {op : Int} {e : Nat} (g : pE h op e h') : pE h op e (sI h' 89 40 1) := by
  obtain ⟨F, mk, rfl, g40, g36, g39⟩ := g
  exact ⟨_, mk, hP_s (by omega), by simp [updF], by simp [updF, g36], by simp [updF]; omega⟩
theorem pG_w {h h' : AH} {op : Int} {p : Nat} {l : List Int} (hop : op ≤ 5) (g : pG h op p l h') : pE h op (q_b h p) (sI h' 89 40 1) := by
  obtain ⟨F, mk, rfl, g40, g35, g36, g1, g2, g3, g39, gr⟩ := g
  exact ⟨_, mk, hP_s (by omega), by simp [updF], by simp [updF, g36], by simp [updF]; omega⟩
theorem go_E {h : AH} {p : Nat} {o : qL} (c : q_k h p = 5) : q_go h p o = .inl (q_b h p) := if_pos c
theorem go_G {h : AH} {p : Nat} {o : qL} (c : q_k h p ≠ 5) : q_go h p o = .inr (p, o) := if_neg c
/-- what next leaves, as an answer -/
theorem nx_go {h h' : AH} {op : Int} {p : Nat} {o : qL} (q : (q_k h p = 5 ∧ pE h op (q_b h p) h') ∨ (q_k h p ≠ 5 ∧ pG h op p o.flatten h')) : pRt h op (q_go h p o) h' := by
  rcases q with ⟨c, q⟩ | ⟨c, q⟩
  · rw [go_E c]; exact q
  · rw [go_G c]; exact q
def b_X12_plain_0 : List IE := [(.aload_n 0, 1, 0, 0, 0, 0), (.getfield 303, 3, 0, 12, 38, 0), (.istore_n 1, 1, 0, 0, 1, 0), (.aload_n 0, 1, 0, 0, 0, 0), (.getfield 291, 3, 0, 12, 35, 0), (.aload_n 0, 1, 0, 0, 0, 0), (.getfield 294, 3, 0, 12, 36, 0), (.isub, 1, 0, 0, 0, 0), (.istore_n 2, 1, 0, 0, 2, 0), (.aload_n 0, 1, 0, 0, 0, 0)]
theorem k_X12_plain_0 : ckB mX12_plain 12 0 b_X12_plain_0 16 = true := by decide +kernel
def b_X12_plain_19 : List IE := [(.aload_n 0, 1, 0, 0, 0, 0), (.iconst 3, 1, 3, 0, 0, 0), (.bipush 42, 2, 42, 0, 0, 0)]
theorem k_X12_plain_19 : ckB mX12_plain 12 19 b_X12_plain_19 23 = true := by decide +kernel
def b_X12_plain_26 : List IE := []
theorem k_X12_plain_26 : ckIf mX12_plain 12 26 b_X12_plain_26 26 0 25 51 29 = true := by decide +kernel
def b_X12_plain_29 : List IE := [(.aload_n 0, 1, 0, 0, 0, 0), (.iconst 1, 1, 1, 0, 0, 0)]
theorem k_X12_plain_29 : ckB mX12_plain 12 29 b_X12_plain_29 31 = true := by decide +kernel
def b_X12_plain_34 : List IE := [(.aload_n 0, 1, 0, 0, 0, 0), (.iload_n 1, 1, 0, 0, 1, 0)]
theorem k_X12_plain_34 : ckB mX12_plain 12 34 b_X12_plain_34 36 = true := by decide +kernel
def b_X12_plain_39 : List IE := [(.aload_n 0, 1, 0, 0, 0, 0), (.iload_n 2, 1, 0, 0, 2, 0)]
theorem k_X12_plain_39 : ckB mX12_plain 12 39 b_X12_plain_39 41 = true := by decide +kernel
def b_X12_plain_44 : List IE := [(.aload_n 0, 1, 0, 0, 0, 0)]
theorem k_X12_plain_44 : ckB mX12_plain 12 44 b_X12_plain_44 45 = true := by decide +kernel
def b_X12_plain_48 : List IE := []
theorem k_X12_plain_48 : ckGo mX12_plain 12 48 b_X12_plain_48 48 73 121 = true := by decide +kernel
def b_X12_plain_51 : List IE := [(.aload_n 0, 1, 0, 0, 0, 0), (.iconst 3, 1, 3, 0, 0, 0), (.bipush 126, 2, 126, 0, 0, 0)]
theorem k_X12_plain_51 : ckB mX12_plain 12 51 b_X12_plain_51 55 = true := by decide +kernel
def b_X12_plain_58 : List IE := []
theorem k_X12_plain_58 : ckIf mX12_plain 12 58 b_X12_plain_58 58 0 53 111 61 = true := by decide +kernel
def b_X12_plain_61 : List IE := [(.aload_n 0, 1, 0, 0, 0, 0)]
theorem k_X12_plain_61 : ckB mX12_plain 12 61 b_X12_plain_61 62 = true := by decide +kernel
def b_X12_plain_65 : List IE := [(.aload_n 0, 1, 0, 0, 0, 0), (.getfield 288, 3, 0, 12, 40, 0)]
theorem k_X12_plain_65 : ckIf mX12_plain 12 65 b_X12_plain_65 69 1 11 80 72 = true := by decide +kernel
def b_X12_plain_72 : List IE := [(.aload_n 0, 1, 0, 0, 0, 0), (.getfield 297, 3, 0, 12, 37, 0), (.iconst 1, 1, 1, 0, 0, 0)]
theorem k_X12_plain_72 : ckIc mX12_plain 12 72 b_X12_plain_72 77 0 9 86 80 = true := by decide +kernel
def b_X12_plain_80 : List IE := [(.aload_n 0, 1, 0, 0, 0, 0), (.iconst 1, 1, 1, 0, 0, 0), (.putfield 288, 3, 0, 12, 40, 2)]
theorem k_X12_plain_80 : ckV mX12_plain 12 80 b_X12_plain_80 85 = true := by decide +kernel
def b_X12_plain_86 : List IE := [(.aload_n 0, 1, 0, 0, 0, 0), (.iconst 2, 1, 2, 0, 0, 0)]
theorem k_X12_plain_86 : ckB mX12_plain 12 86 b_X12_plain_86 88 = true := by decide +kernel
def b_X12_plain_91 : List IE := [(.aload_n 0, 1, 0, 0, 0, 0), (.iload_n 1, 1, 0, 0, 1, 0)]
theorem k_X12_plain_91 : ckB mX12_plain 12 91 b_X12_plain_91 93 = true := by decide +kernel
def b_X12_plain_96 : List IE := [(.aload_n 0, 1, 0, 0, 0, 0), (.aload_n 0, 1, 0, 0, 0, 0), (.getfield 303, 3, 0, 12, 38, 0)]
theorem k_X12_plain_96 : ckB mX12_plain 12 96 b_X12_plain_96 101 = true := by decide +kernel
def b_X12_plain_104 : List IE := [(.aload_n 0, 1, 0, 0, 0, 0)]
theorem k_X12_plain_104 : ckB mX12_plain 12 104 b_X12_plain_104 105 = true := by decide +kernel
def b_X12_plain_108 : List IE := []
theorem k_X12_plain_108 : ckGo mX12_plain 12 108 b_X12_plain_108 108 13 121 = true := by decide +kernel
def b_X12_plain_111 : List IE := [(.aload_n 0, 1, 0, 0, 0, 0), (.iconst 0, 1, 0, 0, 0, 0)]
theorem k_X12_plain_111 : ckB mX12_plain 12 111 b_X12_plain_111 113 = true := by decide +kernel
def b_X12_plain_116 : List IE := [(.aload_n 0, 1, 0, 0, 0, 0), (.iload_n 1, 1, 0, 0, 1, 0)]
theorem k_X12_plain_116 : ckB mX12_plain 12 116 b_X12_plain_116 118 = true := by decide +kernel
def b_X12_plain_121 : List IE := []
theorem k_X12_plain_121 : ckV mX12_plain 12 121 b_X12_plain_121 121 = true := by decide +kernel
theorem s_X12_plain_16 : cV mX12_plain 16 mX12_next 315 0 12 := ⟨by decide +kernel, ⟨ml_X12_next, li_RX12_315, im_X12_next, se_X12_next⟩, ⟨by decide +kernel, by decide +kernel⟩, by decide +kernel⟩
theorem s_X12_plain_23 : cV mX12_plain 23 mX12_is 312 2 12 := ⟨by decide +kernel, ⟨ml_X12_is, li_RX12_312, im_X12_is, se_X12_is⟩, ⟨by decide +kernel, by decide +kernel⟩, by decide +kernel⟩
theorem s_X12_plain_31 : cV mX12_plain 31 mX12_mark 318 1 12 := ⟨by decide +kernel, ⟨ml_X12_mark, li_RX12_318, im_X12_mark, se_X12_mark⟩, ⟨by decide +kernel, by decide +kernel⟩, by decide +kernel⟩
theorem s_X12_plain_36 : cV mX12_plain 36 mX12_mark 318 1 12 := ⟨by decide +kernel, ⟨ml_X12_mark, li_RX12_318, im_X12_mark, se_X12_mark⟩, ⟨by decide +kernel, by decide +kernel⟩, by decide +kernel⟩
theorem s_X12_plain_41 : cV mX12_plain 41 mX12_mark 318 1 12 := ⟨by decide +kernel, ⟨ml_X12_mark, li_RX12_318, im_X12_mark, se_X12_mark⟩, ⟨by decide +kernel, by decide +kernel⟩, by decide +kernel⟩
theorem s_X12_plain_45 : cV mX12_plain 45 mX12_next 315 0 12 := ⟨by decide +kernel, ⟨ml_X12_next, li_RX12_315, im_X12_next, se_X12_next⟩, ⟨by decide +kernel, by decide +kernel⟩, by decide +kernel⟩
theorem s_X12_plain_55 : cV mX12_plain 55 mX12_is 312 2 12 := ⟨by decide +kernel, ⟨ml_X12_is, li_RX12_312, im_X12_is, se_X12_is⟩, ⟨by decide +kernel, by decide +kernel⟩, by decide +kernel⟩
theorem s_X12_plain_62 : cV mX12_plain 62 mX12_next 315 0 12 := ⟨by decide +kernel, ⟨ml_X12_next, li_RX12_315, im_X12_next, se_X12_next⟩, ⟨by decide +kernel, by decide +kernel⟩, by decide +kernel⟩
theorem s_X12_plain_88 : cV mX12_plain 88 mX12_mark 318 1 12 := ⟨by decide +kernel, ⟨ml_X12_mark, li_RX12_318, im_X12_mark, se_X12_mark⟩, ⟨by decide +kernel, by decide +kernel⟩, by decide +kernel⟩
theorem s_X12_plain_93 : cV mX12_plain 93 mX12_mark 318 1 12 := ⟨by decide +kernel, ⟨ml_X12_mark, li_RX12_318, im_X12_mark, se_X12_mark⟩, ⟨by decide +kernel, by decide +kernel⟩, by decide +kernel⟩
theorem s_X12_plain_101 : cV mX12_plain 101 mX12_mark 318 1 12 := ⟨by decide +kernel, ⟨ml_X12_mark, li_RX12_318, im_X12_mark, se_X12_mark⟩, ⟨by decide +kernel, by decide +kernel⟩, by decide +kernel⟩
theorem s_X12_plain_105 : cV mX12_plain 105 mX12_next 315 0 12 := ⟨by decide +kernel, ⟨ml_X12_next, li_RX12_315, im_X12_next, se_X12_next⟩, ⟨by decide +kernel, by decide +kernel⟩, by decide +kernel⟩
theorem s_X12_plain_113 : cV mX12_plain 113 mX12_mark 318 1 12 := ⟨by decide +kernel, ⟨ml_X12_mark, li_RX12_318, im_X12_mark, se_X12_mark⟩, ⟨by decide +kernel, by decide +kernel⟩, by decide +kernel⟩
theorem s_X12_plain_118 : cV mX12_plain 118 mX12_mark 318 1 12 := ⟨by decide +kernel, ⟨ml_X12_mark, li_RX12_318, im_X12_mark, se_X12_mark⟩, ⟨by decide +kernel, by decide +kernel⟩, by decide +kernel⟩
theorem t_X12_plain_0 {rc rs : Nat} {Q : Option AV → AH → Prop} {h : AH}  (hL : LayM h) (hv : (-2147483648 ≤ (iH h 89 35 - iH h 89 36) ∧ (iH h 89 35 - iH h 89 36) < 2147483648) ∧ (∃ P4 : AH → Prop, Ct 6 0 0 mX12_next [vr 89] h (QV P4) ∧ ∀ h2 : AH, P4 h2 → LayM h2 ∧ ((¬ (m_is h2 (3 : Int) (42 : Int)) → ((¬ (m_is h2 (3 : Int) (126 : Int)) → (∃ P15 : AH → Prop, Ct 0 0 0 mX12_mark [vr 89, vi 0] h2 (QV P15) ∧ ∀ h13 : AH, P15 h13 → LayM h13 ∧ (∃ P18 : AH → Prop, Ct 0 0 0 mX12_mark [vr 89, vi (iH h 89 38)] h13 (QV P18) ∧ ∀ h16 : AH, P18 h16 → LayM h16 ∧ Q none h16))) ∧ ((m_is h2 (3 : Int) (126 : Int)) → (∃ P29 : AH → Prop, Ct 6 0 0 mX12_next [vr 89] h2 (QV P29) ∧ ∀ h27 : AH, P29 h27 → LayM h27 ∧ (((iH h27 89 40) ≠ 0 → Q none (sI h27 89 40 1)) ∧ ((iH h27 89 40) = 0 → (((iH h27 89 37) = 1 → (∃ P40 : AH → Prop, Ct 0 0 0 mX12_mark [vr 89, vi 2] h27 (QV P40) ∧ ∀ h38 : AH, P40 h38 → LayM h38 ∧ (∃ P43 : AH → Prop, Ct 0 0 0 mX12_mark [vr 89, vi (iH h 89 38)] h38 (QV P43) ∧ ∀ h41 : AH, P43 h41 → LayM h41 ∧ (∃ P46 : AH → Prop, Ct 0 0 0 mX12_mark [vr 89, vi (iH h41 89 38)] h41 (QV P46) ∧ ∀ h44 : AH, P46 h44 → LayM h44 ∧ (∃ P49 : AH → Prop, Ct 6 0 0 mX12_next [vr 89] h44 (QV P49) ∧ ∀ h47 : AH, P49 h47 → LayM h47 ∧ Q none h47))))) ∧ ((iH h27 89 37) ≠ 1 → Q none (sI h27 89 40 1))))))))) ∧ ((m_is h2 (3 : Int) (42 : Int)) → (∃ P75 : AH → Prop, Ct 0 0 0 mX12_mark [vr 89, vi 1] h2 (QV P75) ∧ ∀ h73 : AH, P75 h73 → LayM h73 ∧ (∃ P78 : AH → Prop, Ct 0 0 0 mX12_mark [vr 89, vi (iH h 89 38)] h73 (QV P78) ∧ ∀ h76 : AH, P78 h76 → LayM h76 ∧ (∃ P81 : AH → Prop, Ct 0 0 0 mX12_mark [vr 89, vi (iH h 89 35 - iH h 89 36)] h76 (QV P81) ∧ ∀ h79 : AH, P81 h79 → LayM h79 ∧ (∃ P84 : AH → Prop, Ct 6 0 0 mX12_next [vr 89] h79 (QV P84) ∧ ∀ h82 : AH, P84 h82 → LayM h82 ∧ Q none h82)))))))) : wp mX12_plain 7 rc rs Q 0 [some (vr 89), none, none] [] h :=
  (show wp mX12_plain 7 rc rs Q 0 [some (vr 89), none, none] [] h from xcV k_X12_plain_0 s_X12_plain_16 (And.intro (lm_89 hL) (And.intro rfl (And.intro (lm_89 hL) (And.intro (lm_89 hL) (have c1 := hv.1; have v108 := hv.2; (And.intro c1 (And.intro rfl (Exists.elim v108 (fun P4 v104 => (Exists.intro [] (Exists.intro 89 (Exists.intro [] (And.intro (And.intro rfl (And.intro rfl (Nat.le_of_ble_eq_true rfl))) (And.intro (lm_89 hL) (Exists.intro 6 (Exists.intro 0 (Exists.intro 0 (Exists.intro (QV P4) (And.intro v104.1 (And.intro (And.intro (by decide) (And.intro (Nat.zero_le _) (Nat.zero_le _))) (eQV (fun h2 e106 => have v105 := v104.2 h2 e106; have hL := v105.1; have v105 := v105.2; (show wp mX12_plain 7 rc rs Q 19 [some (vr 89), some (vi (iH h 89 38)), some (vi (iH h 89 35 - iH h 89 36))] [] h2 from xcV k_X12_plain_19 s_X12_plain_23 ((Exists.intro [vi 3, vi 42] (Exists.intro 89 (Exists.intro [] (And.intro (And.intro rfl (And.intro rfl (Nat.le_of_ble_eq_true rfl))) (And.intro (lm_89 hL) (Exists.intro 0 (Exists.intro 0 (Exists.intro 0 (Exists.intro _ (And.intro (c_is (h := h2) hL) (And.intro (And.intro (by decide) (And.intro (Nat.zero_le _) (Nat.zero_le _))) (eQP (show wp mX12_plain 7 rc rs Q 26 [some (vr 89), some (vi (iH h 89 38)), some (vi (iH h 89 35 - iH h 89 36))] [vi (b01 (m_is h2 (3 : Int) (42 : Int)))] h2 from xIf k_X12_plain_26 (And.intro (fun c5 => have v7 := v105.1 (b01_n.mp c5); (show wp mX12_plain 7 rc rs Q 51 [some (vr 89), some (vi (iH h 89 38)), some (vi (iH h 89 35 - iH h 89 36))] [] h2 from xcV k_X12_plain_51 s_X12_plain_55 ((Exists.intro [vi 3, vi 126] (Exists.intro 89 (Exists.intro [] (And.intro (And.intro rfl (And.intro rfl (Nat.le_of_ble_eq_true rfl))) (And.intro (lm_89 hL) (Exists.intro 0 (Exists.intro 0 (Exists.intro 0 (Exists.intro _ (And.intro (c_is (h := h2) hL) (And.intro (And.intro (by decide) (And.intro (Nat.zero_le _) (Nat.zero_le _))) (eQP (show wp mX12_plain 7 rc rs Q 58 [some (vr 89), some (vi (iH h 89 38)), some (vi (iH h 89 35 - iH h 89 36))] [vi (b01 (m_is h2 (3 : Int) (126 : Int)))] h2 from xIf k_X12_plain_58 (And.intro (fun c9 => have v11 := v7.1 (b01_n.mp c9); (show wp mX12_plain 7 rc rs Q 111 [some (vr 89), some (vi (iH h 89 38)), some (vi (iH h 89 35 - iH h 89 36))] [] h2 from xcV k_X12_plain_111 s_X12_plain_113 (Exists.elim v11 (fun P15 v23 => (Exists.intro [vi 0] (Exists.intro 89 (Exists.intro [] (And.intro (And.intro rfl (And.intro rfl (Nat.le_of_ble_eq_true rfl))) (And.intro (lm_89 hL) (Exists.intro 0 (Exists.intro 0 (Exists.intro 0 (Exists.intro (QV P15) (And.intro v23.1 (And.intro (And.intro (by decide) (And.intro (Nat.zero_le _) (Nat.zero_le _))) (eQV (fun h13 e25 => have v24 := v23.2 h13 e25; have hL := v24.1; have v24 := v24.2; (show wp mX12_plain 7 rc rs Q 116 [some (vr 89), some (vi (iH h 89 38)), some (vi (iH h 89 35 - iH h 89 36))] [] h13 from xcV k_X12_plain_116 s_X12_plain_118 (Exists.elim v24 (fun P18 v19 => (Exists.intro [vi (iH h 89 38)] (Exists.intro 89 (Exists.intro [] (And.intro (And.intro rfl (And.intro rfl (Nat.le_of_ble_eq_true rfl))) (And.intro (lm_89 hL) (Exists.intro 0 (Exists.intro 0 (Exists.intro 0 (Exists.intro (QV P18) (And.intro v19.1 (And.intro (And.intro (by decide) (And.intro (Nat.zero_le _) (Nat.zero_le _))) (eQV (fun h16 e21 => have v20 := v19.2 h16 e21; have hL := v20.1; have v20 := v20.2; (show wp mX12_plain 7 rc rs Q 121 [some (vr 89), some (vi (iH h 89 38)), some (vi (iH h 89 35 - iH h 89 36))] [] h16 from xV k_X12_plain_121 (And.intro rfl v20))))))))))))))))))))))))))))))))))) (fun c10 => have v12 := v7.2 (b01_p.mp c10); (show wp mX12_plain 7 rc rs Q 61 [some (vr 89), some (vi (iH h 89 38)), some (vi (iH h 89 35 - iH h 89 36))] [] h2 from xcV k_X12_plain_61 s_X12_plain_62 (Exists.elim v12 (fun P29 v66 => (Exists.intro [] (Exists.intro 89 (Exists.intro [] (And.intro (And.intro rfl (And.intro rfl (Nat.le_of_ble_eq_true rfl))) (And.intro (lm_89 hL) (Exists.intro 6 (Exists.intro 0 (Exists.intro 0 (Exists.intro (QV P29) (And.intro v66.1 (And.intro (And.intro (by decide) (And.intro (Nat.zero_le _) (Nat.zero_le _))) (eQV (fun h27 e68 => have v67 := v66.2 h27 e68; have hL := v67.1; have v67 := v67.2; (show wp mX12_plain 7 rc rs Q 65 [some (vr 89), some (vi (iH h 89 38)), some (vi (iH h 89 35 - iH h 89 36))] [] h27 from xIf k_X12_plain_65 (And.intro (lm_89 hL) (And.intro (fun c30 => have v32 := v67.1 c30; (show wp mX12_plain 7 rc rs Q 80 [some (vr 89), some (vi (iH h 89 38)), some (vi (iH h 89 35 - iH h 89 36))] [] h27 from xV k_X12_plain_80 (And.intro (lm_89 hL) (And.intro (Or.inr rfl) (And.intro rfl v32))))) (fun c31 => have v33 := v67.2 (Decidable.not_not.mp c31); (show wp mX12_plain 7 rc rs Q 72 [some (vr 89), some (vi (iH h 89 38)), some (vi (iH h 89 35 - iH h 89 36))] [] h27 from xIc k_X12_plain_72 (And.intro (lm_89 hL) (And.intro (fun c34 => have v36 := v33.1 c34; (show wp mX12_plain 7 rc rs Q 86 [some (vr 89), some (vi (iH h 89 38)), some (vi (iH h 89 35 - iH h 89 36))] [] h27 from xcV k_X12_plain_86 s_X12_plain_88 (Exists.elim v36 (fun P40 v62 => (Exists.intro [vi 2] (Exists.intro 89 (Exists.intro [] (And.intro (And.intro rfl (And.intro rfl (Nat.le_of_ble_eq_true rfl))) (And.intro (lm_89 hL) (Exists.intro 0 (Exists.intro 0 (Exists.intro 0 (Exists.intro (QV P40) (And.intro v62.1 (And.intro (And.intro (by decide) (And.intro (Nat.zero_le _) (Nat.zero_le _))) (eQV (fun h38 e64 => have v63 := v62.2 h38 e64; have hL := v63.1; have v63 := v63.2; (show wp mX12_plain 7 rc rs Q 91 [some (vr 89), some (vi (iH h 89 38)), some (vi (iH h 89 35 - iH h 89 36))] [] h38 from xcV k_X12_plain_91 s_X12_plain_93 (Exists.elim v63 (fun P43 v58 => (Exists.intro [vi (iH h 89 38)] (Exists.intro 89 (Exists.intro [] (And.intro (And.intro rfl (And.intro rfl (Nat.le_of_ble_eq_true rfl))) (And.intro (lm_89 hL) (Exists.intro 0 (Exists.intro 0 (Exists.intro 0 (Exists.intro (QV P43) (And.intro v58.1 (And.intro (And.intro (by decide) (And.intro (Nat.zero_le _) (Nat.zero_le _))) (eQV (fun h41 e60 => have v59 := v58.2 h41 e60; have hL := v59.1; have v59 := v59.2; (show wp mX12_plain 7 rc rs Q 96 [some (vr 89), some (vi (iH h 89 38)), some (vi (iH h 89 35 - iH h 89 36))] [] h41 from xcV k_X12_plain_96 s_X12_plain_101 (And.intro (lm_89 hL) (Exists.elim v59 (fun P46 v54 => (Exists.intro [vi (iH h41 89 38)] (Exists.intro 89 (Exists.intro [] (And.intro (And.intro rfl (And.intro rfl (Nat.le_of_ble_eq_true rfl))) (And.intro (lm_89 hL) (Exists.intro 0 (Exists.intro 0 (Exists.intro 0 (Exists.intro (QV P46) (And.intro v54.1 (And.intro (And.intro (by decide) (And.intro (Nat.zero_le _) (Nat.zero_le _))) (eQV (fun h44 e56 => have v55 := v54.2 h44 e56; have hL := v55.1; have v55 := v55.2; (show wp mX12_plain 7 rc rs Q 104 [some (vr 89), some (vi (iH h 89 38)), some (vi (iH h 89 35 - iH h 89 36))] [] h44 from xcV k_X12_plain_104 s_X12_plain_105 (Exists.elim v55 (fun P49 v50 => (Exists.intro [] (Exists.intro 89 (Exists.intro [] (And.intro (And.intro rfl (And.intro rfl (Nat.le_of_ble_eq_true rfl))) (And.intro (lm_89 hL) (Exists.intro 6 (Exists.intro 0 (Exists.intro 0 (Exists.intro (QV P49) (And.intro v50.1 (And.intro (And.intro (by decide) (And.intro (Nat.zero_le _) (Nat.zero_le _))) (eQV (fun h47 e52 => have v51 := v50.2 h47 e52; have hL := v51.1; have v51 := v51.2; (show wp mX12_plain 7 rc rs Q 108 [some (vr 89), some (vi (iH h 89 38)), some (vi (iH h 89 35 - iH h 89 36))] [] h47 from xGo k_X12_plain_108 (show wp mX12_plain 7 rc rs Q 121 [some (vr 89), some (vi (iH h 89 38)), some (vi (iH h 89 35 - iH h 89 36))] [] h47 from xV k_X12_plain_121 (And.intro rfl v51))))))))))))))))))))))))))))))))))))))))))))))))))))))))))))))))))))) (fun c35 => have v37 := v33.2 c35; (show wp mX12_plain 7 rc rs Q 80 [some (vr 89), some (vi (iH h 89 38)), some (vi (iH h 89 35 - iH h 89 36))] [] h27 from xV k_X12_plain_80 (And.intro (lm_89 hL) (And.intro (Or.inr rfl) (And.intro rfl v37)))))))))))))))))))))))))))))))))))))))))))))) (fun c6 => have v8 := v105.2 (b01_p.mp c6); (show wp mX12_plain 7 rc rs Q 29 [some (vr 89), some (vi (iH h 89 38)), some (vi (iH h 89 35 - iH h 89 36))] [] h2 from xcV k_X12_plain_29 s_X12_plain_31 (Exists.elim v8 (fun P75 v97 => (Exists.intro [vi 1] (Exists.intro 89 (Exists.intro [] (And.intro (And.intro rfl (And.intro rfl (Nat.le_of_ble_eq_true rfl))) (And.intro (lm_89 hL) (Exists.intro 0 (Exists.intro 0 (Exists.intro 0 (Exists.intro (QV P75) (And.intro v97.1 (And.intro (And.intro (by decide) (And.intro (Nat.zero_le _) (Nat.zero_le _))) (eQV (fun h73 e99 => have v98 := v97.2 h73 e99; have hL := v98.1; have v98 := v98.2; (show wp mX12_plain 7 rc rs Q 34 [some (vr 89), some (vi (iH h 89 38)), some (vi (iH h 89 35 - iH h 89 36))] [] h73 from xcV k_X12_plain_34 s_X12_plain_36 (Exists.elim v98 (fun P78 v93 => (Exists.intro [vi (iH h 89 38)] (Exists.intro 89 (Exists.intro [] (And.intro (And.intro rfl (And.intro rfl (Nat.le_of_ble_eq_true rfl))) (And.intro (lm_89 hL) (Exists.intro 0 (Exists.intro 0 (Exists.intro 0 (Exists.intro (QV P78) (And.intro v93.1 (And.intro (And.intro (by decide) (And.intro (Nat.zero_le _) (Nat.zero_le _))) (eQV (fun h76 e95 => have v94 := v93.2 h76 e95; have hL := v94.1; have v94 := v94.2; (show wp mX12_plain 7 rc rs Q 39 [some (vr 89), some (vi (iH h 89 38)), some (vi (iH h 89 35 - iH h 89 36))] [] h76 from xcV k_X12_plain_39 s_X12_plain_41 (Exists.elim v94 (fun P81 v89 => (Exists.intro [vi (iH h 89 35 - iH h 89 36)] (Exists.intro 89 (Exists.intro [] (And.intro (And.intro rfl (And.intro rfl (Nat.le_of_ble_eq_true rfl))) (And.intro (lm_89 hL) (Exists.intro 0 (Exists.intro 0 (Exists.intro 0 (Exists.intro (QV P81) (And.intro v89.1 (And.intro (And.intro (by decide) (And.intro (Nat.zero_le _) (Nat.zero_le _))) (eQV (fun h79 e91 => have v90 := v89.2 h79 e91; have hL := v90.1; have v90 := v90.2; (show wp mX12_plain 7 rc rs Q 44 [some (vr 89), some (vi (iH h 89 38)), some (vi (iH h 89 35 - iH h 89 36))] [] h79 from xcV k_X12_plain_44 s_X12_plain_45 (Exists.elim v90 (fun P84 v85 => (Exists.intro [] (Exists.intro 89 (Exists.intro [] (And.intro (And.intro rfl (And.intro rfl (Nat.le_of_ble_eq_true rfl))) (And.intro (lm_89 hL) (Exists.intro 6 (Exists.intro 0 (Exists.intro 0 (Exists.intro (QV P84) (And.intro v85.1 (And.intro (And.intro (by decide) (And.intro (Nat.zero_le _) (Nat.zero_le _))) (eQV (fun h82 e87 => have v86 := v85.2 h82 e87; have hL := v86.1; have v86 := v86.2; (show wp mX12_plain 7 rc rs Q 48 [some (vr 89), some (vi (iH h 89 38)), some (vi (iH h 89 35 - iH h 89 36))] [] h82 from xGo k_X12_plain_48 (show wp mX12_plain 7 rc rs Q 121 [some (vr 89), some (vi (iH h 89 38)), some (vi (iH h 89 35 - iH h 89 36))] [] h82 from xV k_X12_plain_121 (And.intro rfl v86)))))))))))))))))))))))))))))))))))))))))))))))))))))))))))))))))))))))))))))))))))))))))))))))))))))))))))
theorem e_X12_plain {mc ms : Nat} {Q : Option AV → AH → Prop} {h : AH}  (hL : LayM h) (hv : (-2147483648 ≤ (iH h 89 35 - iH h 89 36) ∧ (iH h 89 35 - iH h 89 36) < 2147483648) ∧ (∃ P4 : AH → Prop, Ct 6 0 0 mX12_next [vr 89] h (QV P4) ∧ ∀ h2 : AH, P4 h2 → LayM h2 ∧ ((¬ (m_is h2 (3 : Int) (42 : Int)) → ((¬ (m_is h2 (3 : Int) (126 : Int)) → (∃ P15 : AH → Prop, Ct 0 0 0 mX12_mark [vr 89, vi 0] h2 (QV P15) ∧ ∀ h13 : AH, P15 h13 → LayM h13 ∧ (∃ P18 : AH → Prop, Ct 0 0 0 mX12_mark [vr 89, vi (iH h 89 38)] h13 (QV P18) ∧ ∀ h16 : AH, P18 h16 → LayM h16 ∧ Q none h16))) ∧ ((m_is h2 (3 : Int) (126 : Int)) → (∃ P29 : AH → Prop, Ct 6 0 0 mX12_next [vr 89] h2 (QV P29) ∧ ∀ h27 : AH, P29 h27 → LayM h27 ∧ (((iH h27 89 40) ≠ 0 → Q none (sI h27 89 40 1)) ∧ ((iH h27 89 40) = 0 → (((iH h27 89 37) = 1 → (∃ P40 : AH → Prop, Ct 0 0 0 mX12_mark [vr 89, vi 2] h27 (QV P40) ∧ ∀ h38 : AH, P40 h38 → LayM h38 ∧ (∃ P43 : AH → Prop, Ct 0 0 0 mX12_mark [vr 89, vi (iH h 89 38)] h38 (QV P43) ∧ ∀ h41 : AH, P43 h41 → LayM h41 ∧ (∃ P46 : AH → Prop, Ct 0 0 0 mX12_mark [vr 89, vi (iH h41 89 38)] h41 (QV P46) ∧ ∀ h44 : AH, P46 h44 → LayM h44 ∧ (∃ P49 : AH → Prop, Ct 6 0 0 mX12_next [vr 89] h44 (QV P49) ∧ ∀ h47 : AH, P49 h47 → LayM h47 ∧ Q none h47))))) ∧ ((iH h27 89 37) ≠ 1 → Q none (sI h27 89 40 1))))))))) ∧ ((m_is h2 (3 : Int) (42 : Int)) → (∃ P75 : AH → Prop, Ct 0 0 0 mX12_mark [vr 89, vi 1] h2 (QV P75) ∧ ∀ h73 : AH, P75 h73 → LayM h73 ∧ (∃ P78 : AH → Prop, Ct 0 0 0 mX12_mark [vr 89, vi (iH h 89 38)] h73 (QV P78) ∧ ∀ h76 : AH, P78 h76 → LayM h76 ∧ (∃ P81 : AH → Prop, Ct 0 0 0 mX12_mark [vr 89, vi (iH h 89 35 - iH h 89 36)] h76 (QV P81) ∧ ∀ h79 : AH, P81 h79 → LayM h79 ∧ (∃ P84 : AH → Prop, Ct 6 0 0 mX12_next [vr 89] h79 (QV P84) ∧ ∀ h82 : AH, P84 h82 → LayM h82 ∧ Q none h82)))))))) : Ct 7 mc ms mX12_plain [vr 89] h Q := Ct.of (by decide +kernel) (Nat.le_of_ble_eq_true rfl) (t_X12_plain_0 hL hv)
theorem c_plain {h h' : AH} (hL : LayM h) (ht : q_tp h) (hy : ∀ k, k < d_n h → 0 ≤ iH h 1157 k) {op : Int} (hop : op ≤ 5) {p : Nat} {o : qL} (g : pG h op p o.flatten h') (hk : q_k h p = 1) (hs : 2 * q_szL o ≤ 3 * p) : Ct 7 0 0 mX12_plain [vr 89] h' (QV (pRt h op (q_pl h p o))) := by
  obtain ⟨f1, f2, f3, f4, f5, f6, f7, f8⟩ := pG_f g
  have hn64 : d_n h ≤ 64 := by have := ht.2; unfold d_n; omega
  have f4 := f4 hk
  have hfl := fl_len o
  have b1 := q_b_le f7
  have b2 := q_e_le f7
  refine e_X12_plain (pG_L hL g) ⟨by omega, _, cn_G hL ht hy hop g, fun h2 q => ?_⟩
  rw [f2, f3, f4]
  unfold q_pl
  rcases q with ⟨c, q⟩ | ⟨c, q⟩
  · rw [go_E c]
    refine ⟨pE_L hL q, fun _ => ⟨fun _ => ⟨_, cm_E hL q, fun h3 q3 => ⟨pE_L hL q3, _, cm_E hL q3, fun h4 q4 => ⟨pE_L hL q4, rfl, q4⟩⟩⟩, fun z => absurd z (is_E q)⟩, fun z => absurd z (is_E q)⟩
  · rw [go_G c]
    refine ⟨pG_L hL q, fun z => ⟨fun z2 => ?_, fun z2 => ?_⟩, fun z => ?_⟩
    · refine ⟨_, cm_G hL q (by omega), fun h3 q3 => ⟨pG_L hL q3, _, cm_G hL q3 (by simp only [List.length_append, List.length_cons, List.length_nil]; omega), fun h4 q4 => ⟨pG_L hL q4, rfl, ?_⟩⟩⟩
      show pRt h op (if q_k h (q_e h p) = 42 then _ else if q_k h (q_e h p) = 126 then _ else _) h4
      rw [if_neg (fun w => z ((is_3 q (by omega)).mpr w)), if_neg (fun w => z2 ((is_3 q (by omega)).mpr w))]
      show pG h op (q_e h p) (o ++ [[0, q_v h p]]).flatten h4
      rw [fl_snoc]
      simpa using q4
    · have k1 : q_k h (q_e h p) = 126 := (is_3 q (by omega)).mp z2
      show ∃ P, _
      refine ⟨_, cn_G hL ht hy hop q, fun h3 q3 => ?_⟩
      show LayM h3 ∧ _
      have er : q_bd (.inr (q_e h p, o)) (fun p1 o1 => if q_k h p1 = 42 then q_go h (q_e h p1) (o1 ++ [[1, q_v h p, (q_e h p : Int) - q_b h p]]) else if q_k h p1 = 126 then q_bd (q_go h (q_e h p1) o1) (fun p2 o2 => if q_k h p2 = 1 then q_go h (q_e h p2) (o2 ++ [[2, q_v h p, q_v h p2]]) else .inl (q_b h p2)) else .inr (p1, o1 ++ [[0, q_v h p]])) = q_bd (q_go h (q_e h (q_e h p)) o) (fun p2 o2 => if q_k h p2 = 1 then q_go h (q_e h p2) (o2 ++ [[2, q_v h p, q_v h p2]]) else .inl (q_b h p2)) := by
        show (if q_k h (q_e h p) = 42 then _ else if q_k h (q_e h p) = 126 then _ else _) = _
        rw [if_neg (by omega), if_pos k1]
      rw [er]
      rcases q3 with ⟨c3, q3⟩ | ⟨c3, q3⟩
      · rw [go_E c3]
        exact ⟨pE_L hL q3, fun _ => ⟨rfl, pE_w q3⟩, fun z3 => absurd (pE_40 q3) (by omega)⟩
      · rw [go_G c3]
        refine ⟨pG_L hL q3, fun z3 => absurd (pG_f q3).1 z3, fun _ => ⟨fun z4 => ?_, fun z4 => ⟨rfl, ?_⟩⟩⟩
        · have k3 := (is_1 q3).mp z4
          refine ⟨_, cm_G hL q3 (by omega), fun h4 q4 => ⟨pG_L hL q4, _, cm_G hL q4 (by simp only [List.length_append, List.length_cons, List.length_nil]; omega), fun h5 q5 => ⟨pG_L hL q5, _, cm_G hL q5 (by simp only [List.length_append, List.length_cons, List.length_nil]; omega), fun h6 q6 => ⟨pG_L hL q6, _, cn_G hL ht hy hop q6, fun h7 q7 => ⟨?_, rfl, ?_⟩⟩⟩⟩⟩
          · rcases q7 with q7 | q7
            · exact pE_L hL q7.2
            · exact pG_L hL q7.2
          · show pRt h op (if q_k h (q_e h (q_e h p)) = 1 then _ else _) h7
            rw [if_pos k3]
            refine nx_go ?_
            rw [fl_snoc]
            rw [(pG_f q5).2.2.2.1 k3] at q7
            simpa using q7
        · show pRt h op (if q_k h (q_e h (q_e h p)) = 1 then _ else _) _
          rw [if_neg (fun w => z4 ((is_1 q3).mpr w))]
          exact pG_w hop q3
    · have k1 : q_k h (q_e h p) = 42 := (is_3 q (by omega)).mp z
      refine ⟨_, cm_G hL q (by omega), fun h4 q4 => ⟨pG_L hL q4, _, cm_G hL q4 (by simp only [List.length_append, List.length_cons, List.length_nil]; omega), fun h5 q5 => ⟨pG_L hL q5, _, cm_G hL q5 (by simp only [List.length_append, List.length_cons, List.length_nil]; omega), fun h6 q6 => ⟨pG_L hL q6, _, cn_G hL ht hy hop q6, fun h7 q7 => ⟨?_, rfl, ?_⟩⟩⟩⟩⟩
      · rcases q7 with q7 | q7
        · exact pE_L hL q7.2
        · exact pG_L hL q7.2
      · show pRt h op (if q_k h (q_e h p) = 42 then _ else _) h7
        rw [if_pos k1]
        refine nx_go ?_
        rw [fl_snoc]
        simpa using q7
theorem pG_o {h h' : AH} {op v : Int} {p : Nat} {l : List Int} (g : pG h op p l h') : pG h v p l (sI h' 89 39 v) := by
  obtain ⟨F, mk, rfl, g40, g35, g36, g1, g2, g3, g39, gr⟩ := g
  exact ⟨_, mk, hP_s (by omega), by simp [updF, g40], by simp [updF, g35], by simp [updF, g36], g1, g2, by unfold p_tv at *; simpa [updF] using g3, by simp [updF], by simpa [updF] using gr⟩
theorem pE_o {h h' : AH} {op v op2 : Int} {e : Nat} (hv : op2 ≤ v ∧ v ≤ 5) (g : pE h op e h') : pE h op2 e (sI h' 89 39 v) := by
  obtain ⟨F, mk, rfl, g40, g36, g39⟩ := g
  exact ⟨_, mk, hP_s (by omega), by simp [updF, g40], by simp [updF, g36], by simp [updF]; omega⟩
theorem pE_f {h h' : AH} {op : Int} {e : Nat} (g : pE h op e h') : (op ≤ iH h' 89 39 ∧ iH h' 89 39 ≤ 5) ∧ iH h' 89 36 = e := by
  obtain ⟨F, mk, rfl, g40, g36, g39⟩ := g
  rw [hP_F (by omega), hP_F (by omega)]; exact ⟨g39, g36⟩
theorem pRt_L {h h' : AH} (hL : LayM h) {op : Int} {s : qS} (g : pRt h op s h') : LayM h' := by
  cases s with
  | inl e => exact pE_L hL g
  | inr x => exact pG_L hL g
def b_X12_opens_0 : List IE := [(.aload_n 0, 1, 0, 0, 0, 0), (.getfield 324, 3, 0, 12, 39, 0), (.iconst 4, 1, 4, 0, 0, 0)]
theorem k_X12_opens_0 : ckIc mX12_opens 12 0 b_X12_opens_0 5 1 8 13 8 = true := by decide +kernel
def b_X12_opens_8 : List IE := [(.aload_n 0, 1, 0, 0, 0, 0), (.iconst 1, 1, 1, 0, 0, 0), (.putfield 288, 3, 0, 12, 40, 2), (.aload_n 0, 1, 0, 0, 0, 0), (.dup, 1, 0, 0, 0, 0), (.getfield 324, 3, 0, 12, 39, 0), (.iconst 1, 1, 1, 0, 0, 0), (.iadd, 1, 0, 0, 0, 0), (.putfield 324, 3, 0, 12, 39, 0), (.aload_n 0, 1, 0, 0, 0, 0)]
theorem k_X12_opens_8 : ckB mX12_opens 12 8 b_X12_opens_8 24 = true := by decide +kernel
def b_X12_opens_13 : List IE := [(.aload_n 0, 1, 0, 0, 0, 0), (.dup, 1, 0, 0, 0, 0), (.getfield 324, 3, 0, 12, 39, 0), (.iconst 1, 1, 1, 0, 0, 0), (.iadd, 1, 0, 0, 0, 0), (.putfield 324, 3, 0, 12, 39, 0), (.aload_n 0, 1, 0, 0, 0, 0)]
theorem k_X12_opens_13 : ckB mX12_opens 12 13 b_X12_opens_13 24 = true := by decide +kernel
def b_X12_opens_27 : List IE := []
theorem k_X12_opens_27 : ckV mX12_opens 12 27 b_X12_opens_27 27 = true := by decide +kernel
theorem s_X12_opens_24 : cV mX12_opens 24 mX12_next 315 0 12 := ⟨by decide +kernel, ⟨ml_X12_next, li_RX12_315, im_X12_next, se_X12_next⟩, ⟨by decide +kernel, by decide +kernel⟩, by decide +kernel⟩
theorem t_X12_opens_0 {rc rs : Nat} {Q : Option AV → AH → Prop} {h : AH}  (hL : LayM h) (hv : (((iH h 89 39) ≠ 4 → (-2147483648 ≤ (iH h 89 39 + 1) ∧ (iH h 89 39 + 1) < 2147483648) ∧ (∃ P8 : AH → Prop, Ct 6 0 0 mX12_next [vr 89] (sI h 89 39 (iH h 89 39 + 1)) (QV P8) ∧ ∀ h6 : AH, P8 h6 → LayM h6 ∧ Q none h6)) ∧ ((iH h 89 39) = 4 → (-2147483648 ≤ (iH h 89 39 + 1) ∧ (iH h 89 39 + 1) < 2147483648) ∧ (∃ P17 : AH → Prop, Ct 6 0 0 mX12_next [vr 89] (sI (sI h 89 40 1) 89 39 (iH h 89 39 + 1)) (QV P17) ∧ ∀ h15 : AH, P17 h15 → LayM h15 ∧ Q none h15)))) : wp mX12_opens 7 rc rs Q 0 [some (vr 89)] [] h :=
  (show wp mX12_opens 7 rc rs Q 0 [some (vr 89)] [] h from xIc k_X12_opens_0 (And.intro (lm_89 hL) (And.intro (fun c1 => have v3 := hv.1 c1; (show wp mX12_opens 7 rc rs Q 13 [some (vr 89)] [] h from xcV k_X12_opens_13 s_X12_opens_24 (And.intro rfl (And.intro (lm_89 hL) (have c5 := v3.1; have v13 := v3.2; (And.intro c5 (And.intro (lm_89 hL) (Exists.elim v13 (fun P8 v9 => (Exists.intro [] (Exists.intro 89 (Exists.intro [] (And.intro (And.intro rfl (And.intro rfl (Nat.le_of_ble_eq_true rfl))) (And.intro (lm_89 hL) (Exists.intro 6 (Exists.intro 0 (Exists.intro 0 (Exists.intro (QV P8) (And.intro v9.1 (And.intro (And.intro (by decide) (And.intro (Nat.zero_le _) (Nat.zero_le _))) (eQV (fun h6 e11 => have v10 := v9.2 h6 e11; have hL := v10.1; have v10 := v10.2; (show wp mX12_opens 7 rc rs Q 27 [some (vr 89)] [] h6 from xV k_X12_opens_27 (And.intro rfl v10)))))))))))))))))))))))) (fun c2 => have v4 := hv.2 (Decidable.not_not.mp c2); (show wp mX12_opens 7 rc rs Q 8 [some (vr 89)] [] h from xcV k_X12_opens_8 s_X12_opens_24 (And.intro (lm_89 hL) (And.intro (Or.inr rfl) (And.intro rfl (And.intro (lm_89 hL) (have c14 := v4.1; have v22 := v4.2; (And.intro c14 (And.intro (lm_89 hL) (Exists.elim v22 (fun P17 v18 => (Exists.intro [] (Exists.intro 89 (Exists.intro [] (And.intro (And.intro rfl (And.intro rfl (Nat.le_of_ble_eq_true rfl))) (And.intro (lm_89 hL) (Exists.intro 6 (Exists.intro 0 (Exists.intro 0 (Exists.intro (QV P17) (And.intro v18.1 (And.intro (And.intro (by decide) (And.intro (Nat.zero_le _) (Nat.zero_le _))) (eQV (fun h15 e20 => have v19 := v18.2 h15 e20; have hL := v19.1; have v19 := v19.2; (show wp mX12_opens 7 rc rs Q 27 [some (vr 89)] [] h15 from xV k_X12_opens_27 (And.intro rfl v19)))))))))))))))))))))))))))))
theorem e_X12_opens {mc ms : Nat} {Q : Option AV → AH → Prop} {h : AH}  (hL : LayM h) (hv : (((iH h 89 39) ≠ 4 → (-2147483648 ≤ (iH h 89 39 + 1) ∧ (iH h 89 39 + 1) < 2147483648) ∧ (∃ P8 : AH → Prop, Ct 6 0 0 mX12_next [vr 89] (sI h 89 39 (iH h 89 39 + 1)) (QV P8) ∧ ∀ h6 : AH, P8 h6 → LayM h6 ∧ Q none h6)) ∧ ((iH h 89 39) = 4 → (-2147483648 ≤ (iH h 89 39 + 1) ∧ (iH h 89 39 + 1) < 2147483648) ∧ (∃ P17 : AH → Prop, Ct 6 0 0 mX12_next [vr 89] (sI (sI h 89 40 1) 89 39 (iH h 89 39 + 1)) (QV P17) ∧ ∀ h15 : AH, P17 h15 → LayM h15 ∧ Q none h15)))) : Ct 7 mc ms mX12_opens [vr 89] h Q := Ct.of (by decide +kernel) (Nat.le_of_ble_eq_true rfl) (t_X12_opens_0 hL hv)
def b_X12_phrase_0 : List IE := [(.aload_n 0, 1, 0, 0, 0, 0)]
theorem k_X12_phrase_0 : ckB mX12_phrase 12 0 b_X12_phrase_0 1 = true := by decide +kernel
def b_X12_phrase_4 : List IE := [(.aload_n 0, 1, 0, 0, 0, 0), (.getfield 288, 3, 0, 12, 40, 0)]
theorem k_X12_phrase_4 : ckIf mX12_phrase 12 4 b_X12_phrase_4 8 1 11 19 11 = true := by decide +kernel
def b_X12_phrase_11 : List IE := [(.aload_n 0, 1, 0, 0, 0, 0), (.getfield 297, 3, 0, 12, 37, 0), (.iconst 1, 1, 1, 0, 0, 0)]
theorem k_X12_phrase_11 : ckIc mX12_phrase 12 11 b_X12_phrase_11 16 0 9 25 19 = true := by decide +kernel
def b_X12_phrase_19 : List IE := [(.aload_n 0, 1, 0, 0, 0, 0), (.iconst 1, 1, 1, 0, 0, 0), (.putfield 288, 3, 0, 12, 40, 2)]
theorem k_X12_phrase_19 : ckV mX12_phrase 12 19 b_X12_phrase_19 24 = true := by decide +kernel
def b_X12_phrase_25 : List IE := [(.aload_n 0, 1, 0, 0, 0, 0), (.iconst 3, 1, 3, 0, 0, 0)]
theorem k_X12_phrase_25 : ckB mX12_phrase 12 25 b_X12_phrase_25 27 = true := by decide +kernel
def b_X12_phrase_30 : List IE := [(.aload_n 0, 1, 0, 0, 0, 0), (.getfield 306, 3, 0, 12, 34, 0), (.istore_n 1, 1, 0, 0, 1, 0), (.aload_n 0, 1, 0, 0, 0, 0), (.iconst 0, 1, 0, 0, 0, 0)]
theorem k_X12_phrase_30 : ckB mX12_phrase 12 30 b_X12_phrase_30 37 = true := by decide +kernel
def b_X12_phrase_40 : List IE := [(.iconst 0, 1, 0, 0, 0, 0), (.istore_n 2, 1, 0, 0, 2, 0)]
theorem k_X12_phrase_40 : ckB mX12_phrase 12 40 b_X12_phrase_40 42 = true := by decide +kernel
def b_X12_phrase_42 : List IE := [(.aload_n 0, 1, 0, 0, 0, 0), (.getfield 288, 3, 0, 12, 40, 0)]
theorem k_X12_phrase_42 : ckIf mX12_phrase 12 42 b_X12_phrase_42 46 1 35 81 49 = true := by decide +kernel
def b_X12_phrase_49 : List IE := [(.aload_n 0, 1, 0, 0, 0, 0), (.getfield 297, 3, 0, 12, 37, 0), (.iconst 1, 1, 1, 0, 0, 0)]
theorem k_X12_phrase_49 : ckIc mX12_phrase 12 49 b_X12_phrase_49 54 1 27 81 57 = true := by decide +kernel
def b_X12_phrase_57 : List IE := [(.iload_n 2, 1, 0, 0, 2, 0), (.bipush 6, 2, 6, 0, 0, 0)]
theorem k_X12_phrase_57 : ckIc mX12_phrase 12 57 b_X12_phrase_57 60 3 21 81 63 = true := by decide +kernel
def b_X12_phrase_63 : List IE := [(.aload_n 0, 1, 0, 0, 0, 0), (.aload_n 0, 1, 0, 0, 0, 0), (.getfield 303, 3, 0, 12, 38, 0)]
theorem k_X12_phrase_63 : ckB mX12_phrase 12 63 b_X12_phrase_63 68 = true := by decide +kernel
def b_X12_phrase_71 : List IE := [(.iinc 2 1, 3, 1, 0, 2, 0), (.aload_n 0, 1, 0, 0, 0, 0)]
theorem k_X12_phrase_71 : ckB mX12_phrase 12 71 b_X12_phrase_71 75 = true := by decide +kernel
def b_X12_phrase_78 : List IE := []
theorem k_X12_phrase_78 : ckGo mX12_phrase 12 78 b_X12_phrase_78 78 (-36) 42 = true := by decide +kernel
def b_X12_phrase_81 : List IE := [(.aload_n 0, 1, 0, 0, 0, 0), (.iconst 3, 1, 3, 0, 0, 0), (.bipush 34, 2, 34, 0, 0, 0)]
theorem k_X12_phrase_81 : ckB mX12_phrase 12 81 b_X12_phrase_81 85 = true := by decide +kernel
def b_X12_phrase_88 : List IE := []
theorem k_X12_phrase_88 : ckIf mX12_phrase 12 88 b_X12_phrase_88 88 1 9 97 91 = true := by decide +kernel
def b_X12_phrase_91 : List IE := [(.aload_n 0, 1, 0, 0, 0, 0), (.iconst 1, 1, 1, 0, 0, 0), (.putfield 288, 3, 0, 12, 40, 2)]
theorem k_X12_phrase_91 : ckV mX12_phrase 12 91 b_X12_phrase_91 96 = true := by decide +kernel
def b_X12_phrase_97 : List IE := [(.aload_n 0, 1, 0, 0, 0, 0), (.getfield 76, 3, 0, 12, 33, 1), (.iload_n 1, 1, 0, 0, 1, 0), (.iload_n 2, 1, 0, 0, 2, 0), (.iastore, 1, 0, 0, 0, 0), (.aload_n 0, 1, 0, 0, 0, 0)]
theorem k_X12_phrase_97 : ckB mX12_phrase 12 97 b_X12_phrase_97 105 = true := by decide +kernel
def b_X12_phrase_108 : List IE := []
theorem k_X12_phrase_108 : ckV mX12_phrase 12 108 b_X12_phrase_108 108 = true := by decide +kernel
theorem s_X12_phrase_1 : cV mX12_phrase 1 mX12_next 315 0 12 := ⟨by decide +kernel, ⟨ml_X12_next, li_RX12_315, im_X12_next, se_X12_next⟩, ⟨by decide +kernel, by decide +kernel⟩, by decide +kernel⟩
theorem s_X12_phrase_27 : cV mX12_phrase 27 mX12_mark 318 1 12 := ⟨by decide +kernel, ⟨ml_X12_mark, li_RX12_318, im_X12_mark, se_X12_mark⟩, ⟨by decide +kernel, by decide +kernel⟩, by decide +kernel⟩
theorem s_X12_phrase_37 : cV mX12_phrase 37 mX12_mark 318 1 12 := ⟨by decide +kernel, ⟨ml_X12_mark, li_RX12_318, im_X12_mark, se_X12_mark⟩, ⟨by decide +kernel, by decide +kernel⟩, by decide +kernel⟩
theorem s_X12_phrase_68 : cV mX12_phrase 68 mX12_mark 318 1 12 := ⟨by decide +kernel, ⟨ml_X12_mark, li_RX12_318, im_X12_mark, se_X12_mark⟩, ⟨by decide +kernel, by decide +kernel⟩, by decide +kernel⟩
theorem s_X12_phrase_75 : cV mX12_phrase 75 mX12_next 315 0 12 := ⟨by decide +kernel, ⟨ml_X12_next, li_RX12_315, im_X12_next, se_X12_next⟩, ⟨by decide +kernel, by decide +kernel⟩, by decide +kernel⟩
theorem s_X12_phrase_85 : cV mX12_phrase 85 mX12_is 312 2 12 := ⟨by decide +kernel, ⟨ml_X12_is, li_RX12_312, im_X12_is, se_X12_is⟩, ⟨by decide +kernel, by decide +kernel⟩, by decide +kernel⟩
theorem s_X12_phrase_105 : cV mX12_phrase 105 mX12_next 315 0 12 := ⟨by decide +kernel, ⟨ml_X12_next, li_RX12_315, im_X12_next, se_X12_next⟩, ⟨by decide +kernel, by decide +kernel⟩, by decide +kernel⟩
theorem t_X12_phrase_0 {rc rs : Nat} {Q : Option AV → AH → Prop} {h : AH}  (hL : LayM h) (hv : (∃ P3 : AH → Prop, Ct 6 0 0 mX12_next [vr 89] h (QV P3) ∧ ∀ h1 : AH, P3 h1 → LayM h1 ∧ (((iH h1 89 40) ≠ 0 → Q none (sI h1 89 40 1)) ∧ ((iH h1 89 40) = 0 → (((iH h1 89 37) = 1 → (∃ P14 : AH → Prop, Ct 0 0 0 mX12_mark [vr 89, vi 3] h1 (QV P14) ∧ ∀ h12 : AH, P14 h12 → LayM h12 ∧ (∃ P17 : AH → Prop, Ct 0 0 0 mX12_mark [vr 89, vi 0] h12 (QV P17) ∧ ∀ h15 : AH, P17 h15 → LayM h15 ∧ wp mX12_phrase 7 rc rs Q 42 [some (vr 89), some (vi (iH h12 89 34)), some (vi 0)] [] h15))) ∧ ((iH h1 89 37) ≠ 1 → Q none (sI h1 89 40 1))))))) : wp mX12_phrase 7 rc rs Q 0 [some (vr 89), none, none] [] h :=
  (show wp mX12_phrase 7 rc rs Q 0 [some (vr 89), none, none] [] h from xcV k_X12_phrase_0 s_X12_phrase_1 (Exists.elim hv (fun P3 v26 => (Exists.intro [] (Exists.intro 89 (Exists.intro [] (And.intro (And.intro rfl (And.intro rfl (Nat.le_of_ble_eq_true rfl))) (And.intro (lm_89 hL) (Exists.intro 6 (Exists.intro 0 (Exists.intro 0 (Exists.intro (QV P3) (And.intro v26.1 (And.intro (And.intro (by decide) (And.intro (Nat.zero_le _) (Nat.zero_le _))) (eQV (fun h1 e28 => have v27 := v26.2 h1 e28; have hL := v27.1; have v27 := v27.2; (show wp mX12_phrase 7 rc rs Q 4 [some (vr 89), none, none] [] h1 from xIf k_X12_phrase_4 (And.intro (lm_89 hL) (And.intro (fun c4 => have v6 := v27.1 c4; (show wp mX12_phrase 7 rc rs Q 19 [some (vr 89), none, none] [] h1 from xV k_X12_phrase_19 (And.intro (lm_89 hL) (And.intro (Or.inr rfl) (And.intro rfl v6))))) (fun c5 => have v7 := v27.2 (Decidable.not_not.mp c5); (show wp mX12_phrase 7 rc rs Q 11 [some (vr 89), none, none] [] h1 from xIc k_X12_phrase_11 (And.intro (lm_89 hL) (And.intro (fun c8 => have v10 := v7.1 c8; (show wp mX12_phrase 7 rc rs Q 25 [some (vr 89), none, none] [] h1 from xcV k_X12_phrase_25 s_X12_phrase_27 (Exists.elim v10 (fun P14 v22 => (Exists.intro [vi 3] (Exists.intro 89 (Exists.intro [] (And.intro (And.intro rfl (And.intro rfl (Nat.le_of_ble_eq_true rfl))) (And.intro (lm_89 hL) (Exists.intro 0 (Exists.intro 0 (Exists.intro 0 (Exists.intro (QV P14) (And.intro v22.1 (And.intro (And.intro (by decide) (And.intro (Nat.zero_le _) (Nat.zero_le _))) (eQV (fun h12 e24 => have v23 := v22.2 h12 e24; have hL := v23.1; have v23 := v23.2; (show wp mX12_phrase 7 rc rs Q 30 [some (vr 89), none, none] [] h12 from xcV k_X12_phrase_30 s_X12_phrase_37 (And.intro (lm_89 hL) (And.intro rfl (Exists.elim v23 (fun P17 v18 => (Exists.intro [vi 0] (Exists.intro 89 (Exists.intro [] (And.intro (And.intro rfl (And.intro rfl (Nat.le_of_ble_eq_true rfl))) (And.intro (lm_89 hL) (Exists.intro 0 (Exists.intro 0 (Exists.intro 0 (Exists.intro (QV P17) (And.intro v18.1 (And.intro (And.intro (by decide) (And.intro (Nat.zero_le _) (Nat.zero_le _))) (eQV (fun h15 e20 => have v19 := v18.2 h15 e20; have hL := v19.1; have v19 := v19.2; (show wp mX12_phrase 7 rc rs Q 40 [some (vr 89), some (vi (iH h12 89 34)), none] [] h15 from xB k_X12_phrase_40 (And.intro rfl v19))))))))))))))))))))))))))))))))))))) (fun c9 => have v11 := v7.2 c9; (show wp mX12_phrase 7 rc rs Q 19 [some (vr 89), none, none] [] h1 from xV k_X12_phrase_19 (And.intro (lm_89 hL) (And.intro (Or.inr rfl) (And.intro rfl v11))))))))))))))))))))))))))))
theorem e_X12_phrase {mc ms : Nat} {Q : Option AV → AH → Prop} {h : AH}  (hL : LayM h) (hv : (∃ P3 : AH → Prop, Ct 6 0 0 mX12_next [vr 89] h (QV P3) ∧ ∀ h1 : AH, P3 h1 → LayM h1 ∧ (((iH h1 89 40) ≠ 0 → Q none (sI h1 89 40 1)) ∧ ((iH h1 89 40) = 0 → (((iH h1 89 37) = 1 → (∃ P14 : AH → Prop, Ct 0 0 0 mX12_mark [vr 89, vi 3] h1 (QV P14) ∧ ∀ h12 : AH, P14 h12 → LayM h12 ∧ (∃ P17 : AH → Prop, Ct 0 0 0 mX12_mark [vr 89, vi 0] h12 (QV P17) ∧ ∀ h15 : AH, P17 h15 → LayM h15 ∧ wp mX12_phrase 7 mc ms Q 42 [some (vr 89), some (vi (iH h12 89 34)), some (vi 0)] [] h15))) ∧ ((iH h1 89 37) ≠ 1 → Q none (sI h1 89 40 1))))))) : Ct 7 mc ms mX12_phrase [vr 89] h Q := Ct.of (by decide +kernel) (Nat.le_of_ble_eq_true rfl) (t_X12_phrase_0 hL hv)
theorem t_X12_phrase_42 {rc rs : Nat} {Q : Option AV → AH → Prop} {h : AH} {x1 x2 : Int} (hL : LayM h) (hv : (((iH h 89 40) ≠ 0 → (((m_is h (3 : Int) (34 : Int)) → (0 ≤ x1 ∧ x1 < 128) ∧ (∃ P12 : AH → Prop, Ct 6 0 0 mX12_next [vr 89] (sI h 1177 x1.toNat x2) (QV P12) ∧ ∀ h10 : AH, P12 h10 → LayM h10 ∧ Q none h10)) ∧ (¬ (m_is h (3 : Int) (34 : Int)) → Q none (sI h 89 40 1)))) ∧ ((iH h 89 40) = 0 → (((iH h 89 37) ≠ 1 → (((m_is h (3 : Int) (34 : Int)) → (0 ≤ x1 ∧ x1 < 128) ∧ (∃ P32 : AH → Prop, Ct 6 0 0 mX12_next [vr 89] (sI h 1177 x1.toNat x2) (QV P32) ∧ ∀ h30 : AH, P32 h30 → LayM h30 ∧ Q none h30)) ∧ (¬ (m_is h (3 : Int) (34 : Int)) → Q none (sI h 89 40 1)))) ∧ ((iH h 89 37) = 1 → ((6 ≤ x2 → (((m_is h (3 : Int) (34 : Int)) → (0 ≤ x1 ∧ x1 < 128) ∧ (∃ P52 : AH → Prop, Ct 6 0 0 mX12_next [vr 89] (sI h 1177 x1.toNat x2) (QV P52) ∧ ∀ h50 : AH, P52 h50 → LayM h50 ∧ Q none h50)) ∧ (¬ (m_is h (3 : Int) (34 : Int)) → Q none (sI h 89 40 1)))) ∧ (x2 < 6 → (∃ P63 : AH → Prop, Ct 0 0 0 mX12_mark [vr 89, vi (iH h 89 38)] h (QV P63) ∧ ∀ h61 : AH, P63 h61 → LayM h61 ∧ (-2147483648 ≤ (x2 + 1) ∧ (x2 + 1) < 2147483648) ∧ (∃ P67 : AH → Prop, Ct 6 0 0 mX12_next [vr 89] h61 (QV P67) ∧ ∀ h65 : AH, P67 h65 → LayM h65 ∧ wp mX12_phrase 7 rc rs Q 42 [some (vr 89), some (vi x1), some (vi (x2 + 1))] [] h65))))))))) : wp mX12_phrase 7 rc rs Q 42 [some (vr 89), some (vi x1), some (vi x2)] [] h :=
  (show wp mX12_phrase 7 rc rs Q 42 [some (vr 89), some (vi x1), some (vi x2)] [] h from xIf k_X12_phrase_42 (And.intro (lm_89 hL) (And.intro (fun c1 => have v3 := hv.1 c1; (show wp mX12_phrase 7 rc rs Q 81 [some (vr 89), some (vi x1), some (vi x2)] [] h from xcV k_X12_phrase_81 s_X12_phrase_85 ((Exists.intro [vi 3, vi 34] (Exists.intro 89 (Exists.intro [] (And.intro (And.intro rfl (And.intro rfl (Nat.le_of_ble_eq_true rfl))) (And.intro (lm_89 hL) (Exists.intro 0 (Exists.intro 0 (Exists.intro 0 (Exists.intro _ (And.intro (c_is (h := h) hL) (And.intro (And.intro (by decide) (And.intro (Nat.zero_le _) (Nat.zero_le _))) (eQP (show wp mX12_phrase 7 rc rs Q 88 [some (vr 89), some (vi x1), some (vi x2)] [vi (b01 (m_is h (3 : Int) (34 : Int)))] h from xIf k_X12_phrase_88 (And.intro (fun c5 => have v7 := v3.1 (b01_p.mp c5); (show wp mX12_phrase 7 rc rs Q 97 [some (vr 89), some (vi x1), some (vi x2)] [] h from xcV k_X12_phrase_97 s_X12_phrase_105 (And.intro (lm_89 hL) (Exists.intro 1177 (And.intro (lf_89_33 hL) (have c9 := v7.1; have v17 := v7.2; (And.intro (sdI (lm_1177 hL) c9) (Exists.elim v17 (fun P12 v13 => (Exists.intro [] (Exists.intro 89 (Exists.intro [] (And.intro (And.intro rfl (And.intro rfl (Nat.le_of_ble_eq_true rfl))) (And.intro (lm_89 hL) (Exists.intro 6 (Exists.intro 0 (Exists.intro 0 (Exists.intro (QV P12) (And.intro v13.1 (And.intro (And.intro (by decide) (And.intro (Nat.zero_le _) (Nat.zero_le _))) (eQV (fun h10 e15 => have v14 := v13.2 h10 e15; have hL := v14.1; have v14 := v14.2; (show wp mX12_phrase 7 rc rs Q 108 [some (vr 89), some (vi x1), some (vi x2)] [] h10 from xV k_X12_phrase_108 (And.intro rfl v14)))))))))))))))))))))))) (fun c6 => have v8 := v3.2 (b01_nn.mp c6); (show wp mX12_phrase 7 rc rs Q 91 [some (vr 89), some (vi x1), some (vi x2)] [] h from xV k_X12_phrase_91 (And.intro (lm_89 hL) (And.intro (Or.inr rfl) (And.intro rfl v8)))))))))))))))))))))) (fun c2 => have v4 := hv.2 (Decidable.not_not.mp c2); (show wp mX12_phrase 7 rc rs Q 49 [some (vr 89), some (vi x1), some (vi x2)] [] h from xIc k_X12_phrase_49 (And.intro (lm_89 hL) (And.intro (fun c21 => have v23 := v4.1 c21; (show wp mX12_phrase 7 rc rs Q 81 [some (vr 89), some (vi x1), some (vi x2)] [] h from xcV k_X12_phrase_81 s_X12_phrase_85 ((Exists.intro [vi 3, vi 34] (Exists.intro 89 (Exists.intro [] (And.intro (And.intro rfl (And.intro rfl (Nat.le_of_ble_eq_true rfl))) (And.intro (lm_89 hL) (Exists.intro 0 (Exists.intro 0 (Exists.intro 0 (Exists.intro _ (And.intro (c_is (h := h) hL) (And.intro (And.intro (by decide) (And.intro (Nat.zero_le _) (Nat.zero_le _))) (eQP (show wp mX12_phrase 7 rc rs Q 88 [some (vr 89), some (vi x1), some (vi x2)] [vi (b01 (m_is h (3 : Int) (34 : Int)))] h from xIf k_X12_phrase_88 (And.intro (fun c25 => have v27 := v23.1 (b01_p.mp c25); (show wp mX12_phrase 7 rc rs Q 97 [some (vr 89), some (vi x1), some (vi x2)] [] h from xcV k_X12_phrase_97 s_X12_phrase_105 (And.intro (lm_89 hL) (Exists.intro 1177 (And.intro (lf_89_33 hL) (have c29 := v27.1; have v37 := v27.2; (And.intro (sdI (lm_1177 hL) c29) (Exists.elim v37 (fun P32 v33 => (Exists.intro [] (Exists.intro 89 (Exists.intro [] (And.intro (And.intro rfl (And.intro rfl (Nat.le_of_ble_eq_true rfl))) (And.intro (lm_89 hL) (Exists.intro 6 (Exists.intro 0 (Exists.intro 0 (Exists.intro (QV P32) (And.intro v33.1 (And.intro (And.intro (by decide) (And.intro (Nat.zero_le _) (Nat.zero_le _))) (eQV (fun h30 e35 => have v34 := v33.2 h30 e35; have hL := v34.1; have v34 := v34.2; (show wp mX12_phrase 7 rc rs Q 108 [some (vr 89), some (vi x1), some (vi x2)] [] h30 from xV k_X12_phrase_108 (And.intro rfl v34)))))))))))))))))))))))) (fun c26 => have v28 := v23.2 (b01_nn.mp c26); (show wp mX12_phrase 7 rc rs Q 91 [some (vr 89), some (vi x1), some (vi x2)] [] h from xV k_X12_phrase_91 (And.intro (lm_89 hL) (And.intro (Or.inr rfl) (And.intro rfl v28)))))))))))))))))))))) (fun c22 => have v24 := v4.2 (Decidable.not_not.mp c22); (show wp mX12_phrase 7 rc rs Q 57 [some (vr 89), some (vi x1), some (vi x2)] [] h from xIc k_X12_phrase_57 (And.intro (fun c41 => have v43 := v24.1 c41; (show wp mX12_phrase 7 rc rs Q 81 [some (vr 89), some (vi x1), some (vi x2)] [] h from xcV k_X12_phrase_81 s_X12_phrase_85 ((Exists.intro [vi 3, vi 34] (Exists.intro 89 (Exists.intro [] (And.intro (And.intro rfl (And.intro rfl (Nat.le_of_ble_eq_true rfl))) (And.intro (lm_89 hL) (Exists.intro 0 (Exists.intro 0 (Exists.intro 0 (Exists.intro _ (And.intro (c_is (h := h) hL) (And.intro (And.intro (by decide) (And.intro (Nat.zero_le _) (Nat.zero_le _))) (eQP (show wp mX12_phrase 7 rc rs Q 88 [some (vr 89), some (vi x1), some (vi x2)] [vi (b01 (m_is h (3 : Int) (34 : Int)))] h from xIf k_X12_phrase_88 (And.intro (fun c45 => have v47 := v43.1 (b01_p.mp c45); (show wp mX12_phrase 7 rc rs Q 97 [some (vr 89), some (vi x1), some (vi x2)] [] h from xcV k_X12_phrase_97 s_X12_phrase_105 (And.intro (lm_89 hL) (Exists.intro 1177 (And.intro (lf_89_33 hL) (have c49 := v47.1; have v57 := v47.2; (And.intro (sdI (lm_1177 hL) c49) (Exists.elim v57 (fun P52 v53 => (Exists.intro [] (Exists.intro 89 (Exists.intro [] (And.intro (And.intro rfl (And.intro rfl (Nat.le_of_ble_eq_true rfl))) (And.intro (lm_89 hL) (Exists.intro 6 (Exists.intro 0 (Exists.intro 0 (Exists.intro (QV P52) (And.intro v53.1 (And.intro (And.intro (by decide) (And.intro (Nat.zero_le _) (Nat.zero_le _))) (eQV (fun h50 e55 => have v54 := v53.2 h50 e55; have hL := v54.1; have v54 := v54.2; (show wp mX12_phrase 7 rc rs Q 108 [some (vr 89), some (vi x1), some (vi x2)] [] h50 from xV k_X12_phrase_108 (And.intro rfl v54)))))))))))))))))))))))) (fun c46 => have v48 := v43.2 (b01_nn.mp c46); (show wp mX12_phrase 7 rc rs Q 91 [some (vr 89), some (vi x1), some (vi x2)] [] h from xV k_X12_phrase_91 (And.intro (lm_89 hL) (And.intro (Or.inr rfl) (And.intro rfl v48)))))))))))))))))))))) (fun c42 => have v44 := v24.2 (Int.not_le.mp c42); (show wp mX12_phrase 7 rc rs Q 63 [some (vr 89), some (vi x1), some (vi x2)] [] h from xcV k_X12_phrase_63 s_X12_phrase_68 (And.intro (lm_89 hL) (Exists.elim v44 (fun P63 v73 => (Exists.intro [vi (iH h 89 38)] (Exists.intro 89 (Exists.intro [] (And.intro (And.intro rfl (And.intro rfl (Nat.le_of_ble_eq_true rfl))) (And.intro (lm_89 hL) (Exists.intro 0 (Exists.intro 0 (Exists.intro 0 (Exists.intro (QV P63) (And.intro v73.1 (And.intro (And.intro (by decide) (And.intro (Nat.zero_le _) (Nat.zero_le _))) (eQV (fun h61 e75 => have v74 := v73.2 h61 e75; have hL := v74.1; have v74 := v74.2; (show wp mX12_phrase 7 rc rs Q 71 [some (vr 89), some (vi x1), some (vi x2)] [] h61 from xcV k_X12_phrase_71 s_X12_phrase_75 (have c64 := v74.1; have v72 := v74.2; (And.intro c64 (And.intro rfl (Exists.elim v72 (fun P67 v68 => (Exists.intro [] (Exists.intro 89 (Exists.intro [] (And.intro (And.intro rfl (And.intro rfl (Nat.le_of_ble_eq_true rfl))) (And.intro (lm_89 hL) (Exists.intro 6 (Exists.intro 0 (Exists.intro 0 (Exists.intro (QV P67) (And.intro v68.1 (And.intro (And.intro (by decide) (And.intro (Nat.zero_le _) (Nat.zero_le _))) (eQV (fun h65 e70 => have v69 := v68.2 h65 e70; have hL := v69.1; have v69 := v69.2; (show wp mX12_phrase 7 rc rs Q 78 [some (vr 89), some (vi x1), some (vi (x2 + 1))] [] h65 from xGo k_X12_phrase_78 v69))))))))))))))))))))))))))))))))))))))))))))))))
theorem c_opens {h h' : AH} (hL : LayM h) (ht : q_tp h) (hy : ∀ k, k < d_n h → 0 ≤ iH h 1157 k) {op : Int} (hop : 0 ≤ op ∧ op < 4) {p : Nat} {o : qL} (g : pG h op p o.flatten h') : Ct 7 0 0 mX12_opens [vr 89] h' (QV (pRt h (op + 1) (q_go h (q_e h p) o))) := by
  obtain ⟨f1, f2, f3, f4, f5, f6, f7, f8⟩ := pG_f g
  refine e_X12_opens (pG_L hL g) ?_
  rw [f5]
  refine ⟨fun _ => ⟨by omega, _, cn_G hL ht hy (by omega) (pG_o g), fun h2 q => ?_⟩, fun c => absurd c (by omega)⟩
  have := nx_go q
  exact ⟨pRt_L hL this, rfl, this⟩
theorem c_opens4 {h h' : AH} (hL : LayM h) (ht : q_tp h) (hy : ∀ k, k < d_n h → 0 ≤ iH h 1157 k) {p : Nat} {l : List Int} (g : pG h 4 p l h') : Ct 7 0 0 mX12_opens [vr 89] h' (QV (pE h 5 (q_b h p))) := by
  obtain ⟨f1, f2, f3, f4, f5, f6, f7, f8⟩ := pG_f g
  refine e_X12_opens (pG_L hL g) ?_
  rw [f5]
  exact ⟨fun c => absurd rfl c, fun _ => ⟨by omega, _, cn_E hL ht hy (pE_o (op2 := 5) (by omega) (pG_w (by omega) g)), fun h2 q => ⟨pE_L hL q, rfl, q⟩⟩⟩
theorem getD_mid {a b : List Int} {x y : Int} {i : Nat} : (a ++ [x] ++ b).getD i 0 = if i = a.length then x else (a ++ [y] ++ b).getD i 0 := by
  simp only [List.getD_eq_getElem?_getD, List.getElem?_append, List.length_append, List.length_cons, List.length_nil]
  by_cases c : i = a.length
  · subst c; simp
  · rw [if_neg c]
    by_cases c2 : i < a.length
    · simp [c2, show i < a.length + 1 by omega]
    · simp [show ¬ i < a.length + 1 by omega]
theorem pG_patch {h h' : AH} {op v : Int} {p : Nat} {a b : List Int} (g : pG h op p (a ++ [0] ++ b) h') : pG h op p (a ++ [v] ++ b) (sI h' 1177 a.length v) := by
  obtain ⟨F, mk, rfl, g40, g35, g36, g1, g2, g3, g39, gr⟩ := g
  refine ⟨F, _, hP_sm, g40, g35, g36, g1, g2, g3, g39, ?_⟩
  obtain ⟨r1, r2⟩ := gr
  have e : (a ++ [v] ++ b).length = (a ++ [0] ++ b).length := by simp
  refine ⟨by rw [e]; exact r1, fun i hi => ?_⟩
  rw [e] at hi
  rw [getD_mid (x := v) (y := 0)]
  unfold updF
  by_cases c : i = a.length
  · rw [if_pos c, if_pos c]
  · rw [if_neg c, if_neg c]; exact r2 i hi
theorem c_phrase {h h' : AH} (hL : LayM h) (ht : q_tp h) (hy : ∀ k, k < d_n h → 0 ≤ iH h 1157 k) {op : Int} (hop : op ≤ 5) {p : Nat} {o : qL} (g : pG h op p o.flatten h') (hs : 2 * q_szL o ≤ 3 * p) : Ct 7 0 0 mX12_phrase [vr 89] h' (QV (pRt h op (q_ph h p o))) := by
  obtain ⟨f1, f2, f3, f4, f5, f6, f7, f8⟩ := pG_f g
  have hn64 : d_n h ≤ 64 := by have := ht.2; unfold d_n; omega
  have hfl := fl_len o
  generalize hl : o.flatten = l at *
  have hl96 : l.length ≤ 96 := by omega
  have L42 : ∀ (k p : Nat) (ws : List Int) (h' : AH), ws.length + k = 6 → pG h op p (l ++ [3] ++ [0] ++ ws) h' → wp mX12_phrase 7 0 0 (QV (pRt h op (q_pf h o (q_ws h k p ws)))) 42 [some (vr 89), some (vi ((l.length : Int) + 1)), some (vi ws.length)] [] h' := by
    have fin : ∀ (p : Nat) (ws : List Int) (h' : AH), pG h op p (l ++ [3] ++ [0] ++ ws) h' → (m_is h' 3 34 → (0 ≤ (l.length : Int) + 1 ∧ (l.length : Int) + 1 < 128) ∧ (∃ P : AH → Prop, Ct 6 0 0 mX12_next [vr 89] (sI h' 1177 ((l.length : Int) + 1).toNat ws.length) (QV P) ∧ ∀ h2 : AH, P h2 → LayM h2 ∧ QV (pRt h op (q_pf h o (.inr (p, ws)))) none h2)) ∧ (¬ m_is h' 3 34 → QV (pRt h op (q_pf h o (.inr (p, ws)))) none (sI h' 89 40 1)) := fun p ws h' g => by
      refine ⟨fun z => ⟨by omega, ?_⟩, fun z => ⟨rfl, ?_⟩⟩
      · have k1 := (is_3 g (by omega)).mp z
        have gp := pG_patch (v := (ws.length : Int)) (a := l ++ [3]) g
        have e1 : List.length (l ++ [3]) = ((l.length : Int) + 1).toNat := by simp only [List.length_append, List.length_cons, List.length_nil]; omega
        rw [e1] at gp
        refine ⟨_, cn_G hL ht hy hop gp, fun h2 q => ?_⟩
        have q2 : pRt h op (q_go h (q_e h p) (o ++ [3 :: (ws.length : Int) :: ws])) h2 := nx_go (by
          rw [fl_snoc, hl]
          simpa using q)
        refine ⟨pRt_L hL q2, rfl, ?_⟩
        show pRt h op (if q_k h p = 34 then _ else _) h2
        rw [if_pos k1]
        exact q2
      · show pRt h op (if q_k h p = 34 then _ else _) _
        rw [if_neg (fun w => z ((is_3 g (by omega)).mpr w))]
        exact pG_w hop g
    intro k
    induction k with
    | zero =>
      intro p ws h' hk g
      refine t_X12_phrase_42 (pG_L hL g) ?_
      rw [(pG_f g).1]
      exact ⟨fun z => absurd rfl z, fun _ => ⟨fun _ => fin p ws h' g, fun _ => ⟨fun _ => fin p ws h' g, fun z => absurd z (by omega)⟩⟩⟩
    | succ k ih =>
      intro p ws h' hk g
      refine t_X12_phrase_42 (pG_L hL g) ?_
      rw [(pG_f g).1]
      unfold q_ws
      refine ⟨fun z => absurd rfl z, fun _ => ⟨fun z => ?_, fun z => ⟨fun z2 => absurd z2 (by omega), fun _ => ?_⟩⟩⟩
      · rw [if_neg (fun w => z ((is_1 g).mpr w))]
        exact fin p ws h' g
      · have k1 := (is_1 g).mp z
        rw [if_pos k1, (pG_f g).2.2.2.1 k1]
        refine ⟨_, cm_G hL g (by simp only [List.length_append, List.length_cons, List.length_nil]; omega), fun h2 q2 => ⟨pG_L hL q2, by omega, _, cn_G hL ht hy hop q2, fun h3 q3 => ?_⟩⟩
        rcases q3 with ⟨c, q3⟩ | ⟨c, q3⟩
        · rw [if_pos c]
          refine ⟨pE_L hL q3, ?_⟩
          refine t_X12_phrase_42 (pE_L hL q3) ?_
          rw [pE_40 q3]
          exact ⟨fun _ => ⟨fun z => absurd z (is_E q3), fun _ => ⟨rfl, pE_w q3⟩⟩, fun z => absurd z (by omega)⟩
        · rw [if_neg c]
          refine ⟨pG_L hL q3, ?_⟩
          have := ih (q_e h p) (ws ++ [q_v h p]) h3 (by simp only [List.length_append, List.length_cons, List.length_nil]; omega) (by simpa using q3)
          rw [show ((ws ++ [q_v h p]).length : Int) = (ws.length : Int) + 1 by simp only [List.length_append, List.length_cons, List.length_nil]; omega] at this
          exact this
  refine e_X12_phrase (pG_L hL g) ⟨_, cn_G hL ht hy hop g, fun h2 q => ?_⟩
  unfold q_ph
  rcases q with ⟨c, q⟩ | ⟨c, q⟩
  · rw [go_E c]
    exact ⟨pE_L hL q, fun _ => ⟨rfl, pE_w q⟩, fun z => absurd (pE_40 q) (by omega)⟩
  · rw [go_G c]
    refine ⟨pG_L hL q, fun z => absurd (pG_f q).1 z, fun _ => ⟨fun z => ?_, fun z => ⟨rfl, ?_⟩⟩⟩
    · have k1 := (is_1 q).mp z
      refine ⟨_, cm_G hL q (by omega), fun h3 q3 => ⟨pG_L hL q3, _, cm_G hL q3 (by simp only [List.length_append, List.length_cons, List.length_nil]; omega), fun h4 q4 => ⟨pG_L hL q4, ?_⟩⟩⟩
      have := L42 6 (q_e h p) [] h4 rfl (by simpa using q4)
      have e1 : ((List.length (l ++ [3]) : Nat) : Int) = (l.length : Int) + 1 := by simp only [List.length_append, List.length_cons, List.length_nil]; omega
      rw [(pG_f q3).2.2.2.2.2.1, e1]
      have er : q_bd (.inr (q_e h p, o)) (fun p1 o1 => if q_k h p1 = 1 then q_pf h o1 (q_ws h 6 p1 []) else .inl (q_b h p1)) = q_pf h o (q_ws h 6 (q_e h p) []) := if_pos k1
      rw [er]
      exact this
    · show pRt h op (if q_k h (q_e h p) = 1 then _ else _) _
      rw [if_neg (fun w => z ((is_1 q).mpr w))]
      exact pG_w hop q
