/-! THE REFERENCE: MORE CALLS THAT ASK -/
/-- one by one they are dropped -/
def m_dbD (D f : Nat → Int) : Nat → Nat → Int
  | 0 => D
  | i + 1 => fun d => if d = (f i).toNat then 1 else m_dbD D f i d
def p_dropBy (h : AH) (q : Int) (x : Int) (h' : AH) : Prop := (¬ (0 ≤ q ∧ q ≤ iH h 89 30 - 1) ∧ x = -2 ∧ h' = h) ∨ ((0 ≤ q ∧ q ≤ iH h 89 30 - 1) ∧ x = (m_F (m_lay h 6) 6 q).1 ∧ ∃ n sm f w hp, h' = sW (m_fH (m_lay h 6) n sm f w hp) 613 (m_dbD (iH h 613) (m_F (m_lay h 6) 6 q).2.2.1 (m_F (m_lay h 6) 6 q).1))
theorem c_dropBy {h : AH} (hL : LayM h) {q : Int} (hq : m_qs h) (hg : m_gN h) : Ct 5 0 0 mX12_dropBy [vr 89, vi q] h (QI (p_dropBy h q)) := by
  refine e_X12_dropBy hL ⟨hq.1, fun c => ⟨⟨hg.1, by omega⟩, by exact hL, ?_⟩, fun c => ⟨_, rfl, Or.inl ⟨c, rfl, rfl⟩⟩⟩
  have hqk := m_qs_lay (hq.2 q c.1 c.2)
  refine ⟨_, c_find (h := m_lay h 6) (by exact hL) hg.2.1 hqk, fun h2 hf => ?_⟩
  obtain ⟨f, w, hp, rfl, ha⟩ := hf
  have hb := m_F_bd hg.2.1 hqk
  have hdoc := fun i (hi : i < (m_F (m_lay h 6) 6 q).1) => (m_F_doc hg.2.1 hi).1
  refine ⟨by exact hL, ?_⟩
  have eD : iH (m_fH (m_lay h 6) (m_F (m_lay h 6) 6 q).1 (m_F (m_lay h 6) 6 q).2.1 f w hp) 613 = iH h 613 := funext fun k => by rw [r_fH (by decide) (by decide) (by decide) (by decide), rL (by decide) (by decide) (by decide) (by decide)]
  generalize hS : m_F (m_lay h 6) 6 q = S at *
  have main := up (P := fun i => wp mX12_dropBy 5 0 0 (QI (p_dropBy h q)) 26 [some (vr 89), none, some (vi i)] [] (sW (m_fH (m_lay h 6) S.1 S.2.1 f w hp) 613 (m_dbD (iH h 613) S.2.2.1 i))) S.1 ?_ ?_
  · rw [sW_id (fun k => by rw [eD]; rfl)] at main; exact main
  · refine t_X12_dropBy_26 (by exact hL) ?_
    rw [rW_ne (by decide), r_fHn]
    exact ⟨fun _ => ⟨_, rfl, Or.inr ⟨c, by rw [hS], _, _, _, _, _, by rw [hS]⟩⟩, fun q => absurd q (by omega)⟩
  · intro i hi ih
    have hd := hdoc i hi
    refine t_X12_dropBy_26 (by exact hL) ?_
    rw [rW_ne (by decide), r_fHn, rW_ne (by decide), r_fHf, show ((i : Int)).toNat = i from rfl, (ha i hi).1]
    refine ⟨fun q => absurd q (by omega), fun _ => ⟨by omega, hd, by omega, ?_⟩⟩
    rw [sI_sW (g' := m_dbD (iH h 613) S.2.2.1 (i + 1)) (fun d => rfl)]
    exact ih
def m_lk1 (h : AH) : AH := m_shutL (sI h 89 46 (iH h 89 46 + 1)) (iH h 89 46 + 1)
theorem r_lk1 {h : AH} {a k : Nat} (h1 : a ≠ 89) (h2 : a ≠ 1181) : iH (m_lk1 h) a k = iH h a k := by
  unfold m_lk1 m_shutL
  rw [rI_ne h1, rI_ne h2, rI_ne h1]
theorem r_lk71 {h : AH} {k : Nat} (h1 : k ≠ 46) (h2 : k ≠ 47) : iH (m_lk1 h) 89 k = iH h 89 k := by
  unfold m_lk1 m_shutL
  rw [rI_nk h2, rI_ne (by decide), rI_nk h1]
theorem m_nowL_cg {h h' : AH} (hn : m_nowL h) (e0 : iH h' 89 13 = iH h 89 13) (e : ∀ a k, 90 ≤ a → a < 1178 → iH h' a k = iH h a k) : m_nowL h' := by
  refine ⟨m_now_cg hn.1 e0 (fun k => e _ k (by decide) (by decide)) (fun g k hg => e _ k (by omega) (by omega)) (fun k => e _ k (by decide) (by decide)), ?_, fun d hd => by rw [e _ _ (by decide) (by decide)]; exact hn.2.2 d hd⟩
  have : m_held h' = m_held h := by
    unfold m_held
    rw [e0]
    exact sumN_cg fun i _ => by rw [e 615 _ (by decide) (by decide), e 1155 _ (by decide) (by decide)]
  rw [this]; exact hn.2.1
theorem m_gN_cg {h h' : AH} (hn : m_gN h) (e0 : iH h' 89 13 = iH h 89 13) (e : ∀ a k, 90 ≤ a → a < 1178 → iH h' a k = iH h a k) : m_gN h' := ⟨m_nowL_cg hn.1 e0 e, m_gS_cg (AgQ_lay6 hn.1.1 e e0) hn.2⟩
noncomputable def a_look (h : AH) (q w : Int) : Int := if iH h 89 23 < m_cost (m_lay h 6) 6 q then -6 else a_ans (m_lay h 6) 6 q w
def p_look (h : AH) (q w : Int) (x : Int) (h' : AH) : Prop := ((¬ (0 ≤ q ∧ q ≤ iH h 89 30 - 1) ∨ ¬ m_asked w) ∧ x = -2 ∧ h' = h) ∨ (((0 ≤ q ∧ q ≤ iH h 89 30 - 1) ∧ m_asked w) ∧ x = a_look h q w ∧ m_scr (m_lay (m_lk1 h) 6) h')
theorem c_look {h : AH} (hL : LayM h) {q w : Int} (hq : m_qs h) (hg : m_gN h) (hlk : 0 ≤ iH h 89 46 ∧ iH h 89 46 ≤ 2000) (hlg : 0 ≤ iH h 89 47 ∧ iH h 89 47 < 1040) : Ct 6 0 0 mX12_look [vr 89, vi q, vi w] h (QI (p_look h q w)) := by
  have e0 : iH (m_lk1 h) 89 13 = iH h 89 13 := r_lk71 (by decide) (by decide)
  have e : ∀ a k, 90 ≤ a → a < 1178 → iH (m_lk1 h) a k = iH h a k := fun a k h1 h2 => r_lk1 (by omega) (by omega)
  have g1 : m_gN (m_lk1 h) := m_gN_cg hg e0 e
  have eQ := AgQ_lay6 hg.1.1 e e0
  have eLim : iH (m_lay (m_lk1 h) 6) 89 23 = iH h 89 23 := by rw [rL (by decide) (by decide) (by decide) (by decide), r_lk71 (by decide) (by decide)]
  refine e_X12_look hL ⟨hq.1, fun c => ⟨_, rfl, Or.inl ⟨Or.inl c, rfl, rfl⟩⟩, fun c => ⟨fun c2 => ?_, fun c2 => ⟨_, rfl, Or.inl ⟨Or.inr c2, rfl, rfl⟩⟩⟩⟩
  have hqk := hq.2 q c.1 c.2
  have hqk1 : m_qok (m_lay (m_lk1 h) 6) q := m_qok_cg2 eQ (m_qs_lay hqk)
  have ec : m_cost (m_lay (m_lk1 h) 6) 6 q = m_cost (m_lay h 6) 6 q := m_cost_cg eQ hg.2.2 (m_qs_lay hqk)
  have ea : a_ans (m_lay (m_lk1 h) 6) 6 q w = a_ans (m_lay h 6) 6 q w := a_ans_cg eQ hg.2.1 hg.2.2 (m_qs_lay hqk)
  refine ⟨by omega, by rw [rI_nk (by decide)]; exact hlg, by exact hL, ⟨g1.1, by omega⟩, by exact hL, ⟨g1.2.2, hqk1⟩, ?_⟩
  show (m_cost (m_lay (m_lk1 h) 6) 6 q ≤ iH (m_lay (m_lk1 h) 6) 89 23 → _) ∧ (iH (m_lay (m_lk1 h) 6) 89 23 < m_cost (m_lay (m_lk1 h) 6) 6 q → _)
  rw [ec, eLim]
  refine ⟨fun c3 => ⟨_, c_answer (h := m_lay (m_lk1 h) 6) (by exact hL) ⟨g1.2.1, g1.2.2, hqk1, c2⟩, fun x h2 _ hx => ⟨m_scr_L (by exact hL) hx.2, _, rfl, Or.inr ⟨⟨c, c2⟩, ?_, hx.2⟩⟩⟩, fun c3 => ⟨_, rfl, Or.inr ⟨⟨c, c2⟩, ?_, Or.inl rfl⟩⟩⟩
  · rw [hx.1, ea]; exact (if_neg (by omega)).symm
  · exact (if_pos c3).symm
def b_X12_count_0 : List IE := [(.iload_n 1, 1, 0, 0, 1, 0)]
theorem k_X12_count_0 : ckTs mX12_count 12 0 b_X12_count_0 1 115 0 9 #[55, 60, 65, 70, 75, 82, 87, 92, 97, 110] 55 116 [(0, 56), (1, 61), (2, 66), (3, 71), (4, 76), (5, 83), (6, 88), (7, 93), (8, 98), (9, 111)] = true := by decide +kernel
def b_X12_count_56 : List IE := [(.aload_n 0, 1, 0, 0, 0, 0)]
theorem k_X12_count_56 : ckB mX12_count 12 56 b_X12_count_56 57 = true := by decide +kernel
def b_X12_count_60 : List IE := []
theorem k_X12_count_60 : ckI mX12_count 12 60 b_X12_count_60 60 = true := by decide +kernel
def b_X12_count_61 : List IE := [(.aload_n 0, 1, 0, 0, 0, 0), (.getfield 140, 3, 0, 12, 15, 0)]
theorem k_X12_count_61 : ckI mX12_count 12 61 b_X12_count_61 65 = true := by decide +kernel
def b_X12_count_66 : List IE := [(.aload_n 0, 1, 0, 0, 0, 0), (.getfield 106, 3, 0, 12, 13, 0)]
theorem k_X12_count_66 : ckI mX12_count 12 66 b_X12_count_66 70 = true := by decide +kernel
def b_X12_count_71 : List IE := [(.aload_n 0, 1, 0, 0, 0, 0)]
theorem k_X12_count_71 : ckB mX12_count 12 71 b_X12_count_71 72 = true := by decide +kernel
def b_X12_count_75 : List IE := []
theorem k_X12_count_75 : ckI mX12_count 12 75 b_X12_count_75 75 = true := by decide +kernel
def b_X12_count_76 : List IE := [(.aload_n 0, 1, 0, 0, 0, 0), (.getfield 37, 3, 0, 12, 10, 1), (.iconst 5, 1, 5, 0, 0, 0), (.iaload, 1, 0, 0, 0, 0)]
theorem k_X12_count_76 : ckI mX12_count 12 76 b_X12_count_76 82 = true := by decide +kernel
def b_X12_count_83 : List IE := [(.aload_n 0, 1, 0, 0, 0, 0)]
theorem k_X12_count_83 : ckB mX12_count 12 83 b_X12_count_83 84 = true := by decide +kernel
def b_X12_count_87 : List IE := []
theorem k_X12_count_87 : ckI mX12_count 12 87 b_X12_count_87 87 = true := by decide +kernel
def b_X12_count_88 : List IE := [(.aload_n 0, 1, 0, 0, 0, 0), (.getfield 113, 3, 0, 12, 30, 0)]
theorem k_X12_count_88 : ckI mX12_count 12 88 b_X12_count_88 92 = true := by decide +kernel
def b_X12_count_93 : List IE := [(.aload_n 0, 1, 0, 0, 0, 0), (.getfield 120, 3, 0, 12, 18, 0)]
theorem k_X12_count_93 : ckI mX12_count 12 93 b_X12_count_93 97 = true := by decide +kernel
def b_X12_count_98 : List IE := [(.aload_n 0, 1, 0, 0, 0, 0), (.getfield 229, 3, 0, 12, 24, 0)]
theorem k_X12_count_98 : ckIf mX12_count 12 98 b_X12_count_98 102 0 7 109 105 = true := by decide +kernel
def b_X12_count_105 : List IE := [(.iconst 1, 1, 1, 0, 0, 0)]
theorem k_X12_count_105 : ckGo mX12_count 12 105 b_X12_count_105 106 4 110 = true := by decide +kernel
def b_X12_count_109 : List IE := [(.iconst 0, 1, 0, 0, 0, 0)]
theorem k_X12_count_109 : ckI mX12_count 12 109 b_X12_count_109 110 = true := by decide +kernel
def b_X12_count_110 : List IE := []
theorem k_X12_count_110 : ckI mX12_count 12 110 b_X12_count_110 110 = true := by decide +kernel
def b_X12_count_111 : List IE := [(.aload_n 0, 1, 0, 0, 0, 0), (.getfield 397, 3, 0, 12, 46, 0)]
theorem k_X12_count_111 : ckI mX12_count 12 111 b_X12_count_111 115 = true := by decide +kernel
def b_X12_count_116 : List IE := [(.iload_n 1, 1, 0, 0, 1, 0), (.bipush 10, 2, 10, 0, 0, 0), (.bipush 17, 2, 17, 0, 0, 0)]
theorem k_X12_count_116 : ckB mX12_count 12 116 b_X12_count_116 121 = true := by decide +kernel
def b_X12_count_124 : List IE := []
theorem k_X12_count_124 : ckIf mX12_count 12 124 b_X12_count_124 124 1 6 130 127 = true := by decide +kernel
def b_X12_count_127 : List IE := [(.bipush (-2), 2, (-2), 0, 0, 0)]
theorem k_X12_count_127 : ckI mX12_count 12 127 b_X12_count_127 129 = true := by decide +kernel
def b_X12_count_130 : List IE := [(.iload_n 1, 1, 0, 0, 1, 0), (.bipush 10, 2, 10, 0, 0, 0), (.isub, 1, 0, 0, 0, 0), (.aload_n 0, 1, 0, 0, 0, 0), (.getfield 394, 3, 0, 12, 47, 0)]
theorem k_X12_count_130 : ckIc mX12_count 12 130 b_X12_count_130 138 3 22 160 141 = true := by decide +kernel
def b_X12_count_141 : List IE := [(.aload_n 0, 1, 0, 0, 0, 0), (.getfield 88, 3, 0, 12, 48, 1), (.aload_n 0, 1, 0, 0, 0, 0), (.getfield 394, 3, 0, 12, 47, 0), (.iconst 1, 1, 1, 0, 0, 0), (.isub, 1, 0, 0, 0, 0), (.iload_n 1, 1, 0, 0, 1, 0), (.bipush 10, 2, 10, 0, 0, 0), (.isub, 1, 0, 0, 0, 0), (.isub, 1, 0, 0, 0, 0), (.iaload, 1, 0, 0, 0, 0)]
theorem k_X12_count_141 : ckGo mX12_count 12 141 b_X12_count_141 157 4 161 = true := by decide +kernel
def b_X12_count_160 : List IE := [(.iconst (-1), 1, (-1), 0, 0, 0)]
theorem k_X12_count_160 : ckI mX12_count 12 160 b_X12_count_160 161 = true := by decide +kernel
def b_X12_count_161 : List IE := []
theorem k_X12_count_161 : ckI mX12_count 12 161 b_X12_count_161 161 = true := by decide +kernel
theorem s_X12_count_57 : cV mX12_count 57 mX12_liveMany 413 0 12 := ⟨by decide +kernel, ⟨ml_X12_liveMany, li_RX12_413, im_X12_liveMany, se_X12_liveMany⟩, ⟨by decide +kernel, by decide +kernel⟩, by decide +kernel⟩
theorem s_X12_count_72 : cV mX12_count 72 mX12_heldSegments 266 0 12 := ⟨by decide +kernel, ⟨ml_X12_heldSegments, li_RX12_266, im_X12_heldSegments, se_X12_heldSegments⟩, ⟨by decide +kernel, by decide +kernel⟩, by decide +kernel⟩
theorem s_X12_count_84 : cV mX12_count 84 mX12_viewsOpen 416 0 12 := ⟨by decide +kernel, ⟨ml_X12_viewsOpen, li_RX12_416, im_X12_viewsOpen, se_X12_viewsOpen⟩, ⟨by decide +kernel, by decide +kernel⟩, by decide +kernel⟩
theorem s_X12_count_121 : cS mX12_count 121 mX12_in 109 3 := ⟨by decide +kernel, ⟨ml_X12_in, li_RX12_109, st_X12_in⟩, by decide +kernel⟩
theorem t_X12_count_0 {rc rs : Nat} {Q : Option AV → AH → Prop} {h : AH} {x1 : Int} (hL : LayM h) (hv : ((x1 = 0 → (m_cap h) ∧ Q (some (vi (m_many h))) h) ∧ (x1 ≠ 0 → ((x1 = 1 → Q (some (vi (iH h 89 15))) h) ∧ (x1 ≠ 1 → ((x1 = 2 → Q (some (vi (iH h 89 13))) h) ∧ (x1 ≠ 2 → ((x1 = 3 → (m_nowL h ∧ (0 ≤ iH h 89 5 ∧ iH h 89 5 ≤ 520) ∧ ∀ v : Nat, v < 7 → m_std h v) ∧ LayM (m_lay h 6) ∧ Q (some (vi (m_hs h))) (m_lay h 6)) ∧ (x1 ≠ 3 → ((x1 = 4 → Q (some (vi (iH h 1138 5))) h) ∧ (x1 ≠ 4 → ((x1 = 5 → Q (some (vi (m_views h))) h) ∧ (x1 ≠ 5 → ((x1 = 6 → Q (some (vi (iH h 89 30))) h) ∧ (x1 ≠ 6 → ((x1 = 7 → Q (some (vi (iH h 89 18))) h) ∧ (x1 ≠ 7 → ((x1 = 8 → (((iH h 89 24) = 0 → Q (some (vi 0)) h) ∧ ((iH h 89 24) ≠ 0 → Q (some (vi 1)) h))) ∧ (x1 ≠ 8 → ((x1 = 9 → Q (some (vi (iH h 89 46))) h) ∧ (x1 ≠ 9 → ((((10 : Int) ≤ x1 ∧ x1 ≤ (17 : Int)) → (-2147483648 ≤ (x1 - 10) ∧ (x1 - 10) < 2147483648) ∧ (((iH h 89 47) ≤ (x1 - 10) → Q (some (vi (-1))) h) ∧ ((x1 - 10) < (iH h 89 47) → (-2147483648 ≤ (iH h 89 47 - 1) ∧ (iH h 89 47 - 1) < 2147483648) ∧ (-2147483648 ≤ ((iH h 89 47 - 1) - (x1 - 10)) ∧ ((iH h 89 47 - 1) - (x1 - 10)) < 2147483648) ∧ (0 ≤ ((iH h 89 47 - 1) - (x1 - 10)) ∧ ((iH h 89 47 - 1) - (x1 - 10)) < 1040) ∧ Q (some (vi (iH h 1181 (((iH h 89 47 - 1) - (x1 - 10)).toNat)))) h))) ∧ (¬ ((10 : Int) ≤ x1 ∧ x1 ≤ (17 : Int)) → Q (some (vi (-2))) h))))))))))))))))))))))) : wp mX12_count 3 rc rs Q 0 [some (vr 89), some (vi x1)] [] h :=
  (show wp mX12_count 3 rc rs Q 0 [some (vr 89), some (vi x1)] [] h from xTs k_X12_count_0 (And.intro (fun c73 => have v75 := hv.1 c73; (show wp mX12_count 3 rc rs Q 56 [some (vr 89), some (vi x1)] [] h from xcV k_X12_count_56 s_X12_count_57 (have c70 := v75.1; have v71 := v75.2; (Exists.intro [] (Exists.intro 89 (Exists.intro [] (And.intro (And.intro rfl (And.intro rfl (Nat.le_of_ble_eq_true rfl))) (And.intro (lm_89 hL) (Exists.intro 2 (Exists.intro 0 (Exists.intro 0 (Exists.intro _ (And.intro (c_liveMany (h := h) hL c70) (And.intro (And.intro (by decide) (And.intro (Nat.zero_le _) (Nat.zero_le _))) (eQP (show wp mX12_count 3 rc rs Q 60 [some (vr 89), some (vi x1)] [vi (m_many h)] h from xI k_X12_count_60 (And.intro rfl v71))))))))))))))))) (fun c74 => have v76 := hv.2 c74; (And.intro (fun c66 => have v68 := v76.1 c66; (show wp mX12_count 3 rc rs Q 61 [some (vr 89), some (vi x1)] [] h from xI k_X12_count_61 (And.intro (lm_89 hL) (And.intro rfl v68)))) (fun c67 => have v69 := v76.2 c67; (And.intro (fun c62 => have v64 := v69.1 c62; (show wp mX12_count 3 rc rs Q 66 [some (vr 89), some (vi x1)] [] h from xI k_X12_count_66 (And.intro (lm_89 hL) (And.intro rfl v64)))) (fun c63 => have v65 := v69.2 c63; (And.intro (fun c58 => have v60 := v65.1 c58; (show wp mX12_count 3 rc rs Q 71 [some (vr 89), some (vi x1)] [] h from xcV k_X12_count_71 s_X12_count_72 (have c56 := v60.1; have v57 := v60.2; (Exists.intro [] (Exists.intro 89 (Exists.intro [] (And.intro (And.intro rfl (And.intro rfl (Nat.le_of_ble_eq_true rfl))) (And.intro (lm_89 hL) (Exists.intro 1 (Exists.intro 0 (Exists.intro 0 (Exists.intro _ (And.intro (c_heldSegments (h := h) hL c56) (And.intro (And.intro (by decide) (And.intro (Nat.zero_le _) (Nat.zero_le _))) (eQP (have hL := v57.1; have v55 := v57.2; (show wp mX12_count 3 rc rs Q 75 [some (vr 89), some (vi x1)] [vi (m_hs h)] (m_lay h 6) from xI k_X12_count_75 (And.intro rfl v55)))))))))))))))))) (fun c59 => have v61 := v65.2 c59; (And.intro (fun c48 => have v50 := v61.1 c48; (show wp mX12_count 3 rc rs Q 76 [some (vr 89), some (vi x1)] [] h from xI k_X12_count_76 (And.intro (lm_89 hL) (Exists.intro 1138 (And.intro (lf_89_10 hL) (And.intro (sdI (lm_1138 hL) (by decide)) (And.intro rfl v50))))))) (fun c49 => have v51 := v61.2 c49; (And.intro (fun c44 => have v46 := v51.1 c44; (show wp mX12_count 3 rc rs Q 83 [some (vr 89), some (vi x1)] [] h from xcV k_X12_count_83 s_X12_count_84 ((Exists.intro [] (Exists.intro 89 (Exists.intro [] (And.intro (And.intro rfl (And.intro rfl (Nat.le_of_ble_eq_true rfl))) (And.intro (lm_89 hL) (Exists.intro 0 (Exists.intro 0 (Exists.intro 0 (Exists.intro _ (And.intro (c_viewsOpen (h := h) hL) (And.intro (And.intro (by decide) (And.intro (Nat.zero_le _) (Nat.zero_le _))) (eQP (show wp mX12_count 3 rc rs Q 87 [some (vr 89), some (vi x1)] [vi (m_views h)] h from xI k_X12_count_87 (And.intro rfl v46))))))))))))))))) (fun c45 => have v47 := v51.2 c45; (And.intro (fun c37 => have v39 := v47.1 c37; (show wp mX12_count 3 rc rs Q 88 [some (vr 89), some (vi x1)] [] h from xI k_X12_count_88 (And.intro (lm_89 hL) (And.intro rfl v39)))) (fun c38 => have v40 := v47.2 c38; (And.intro (fun c33 => have v35 := v40.1 c33; (show wp mX12_count 3 rc rs Q 93 [some (vr 89), some (vi x1)] [] h from xI k_X12_count_93 (And.intro (lm_89 hL) (And.intro rfl v35)))) (fun c34 => have v36 := v40.2 c34; (And.intro (fun c29 => have v31 := v36.1 c29; (show wp mX12_count 3 rc rs Q 98 [some (vr 89), some (vi x1)] [] h from xIf k_X12_count_98 (And.intro (lm_89 hL) (And.intro (fun c25 => have v27 := v31.1 c25; (show wp mX12_count 3 rc rs Q 109 [some (vr 89), some (vi x1)] [] h from xI k_X12_count_109 (And.intro rfl v27))) (fun c26 => have v28 := v31.2 c26; (show wp mX12_count 3 rc rs Q 105 [some (vr 89), some (vi x1)] [] h from xGo k_X12_count_105 (show wp mX12_count 3 rc rs Q 110 [some (vr 89), some (vi x1)] [vi 1] h from xI k_X12_count_110 (And.intro rfl v28)))))))) (fun c30 => have v32 := v36.2 c30; (And.intro (fun c21 => have v23 := v32.1 c21; (show wp mX12_count 3 rc rs Q 111 [some (vr 89), some (vi x1)] [] h from xI k_X12_count_111 (And.intro (lm_89 hL) (And.intro rfl v23)))) (fun c22 => have v24 := v32.2 c22; (show wp mX12_count 3 rc rs Q 116 [some (vr 89), some (vi x1)] [] h from xcS k_X12_count_116 s_X12_count_121 ((Exists.intro [vi x1, vi 10, vi 17] (Exists.intro [] (And.intro (And.intro rfl (And.intro rfl (Nat.le_of_ble_eq_true rfl))) (Exists.intro 0 (Exists.intro 0 (Exists.intro 0 (Exists.intro _ (And.intro c_in (And.intro (And.intro (by decide) (And.intro (Nat.zero_le _) (Nat.zero_le _))) (eQP (show wp mX12_count 3 rc rs Q 124 [some (vr 89), some (vi x1)] [vi (b01 ((10 : Int) ≤ x1 ∧ x1 ≤ (17 : Int)))] h from xIf k_X12_count_124 (And.intro (fun c1 => have v3 := v24.1 (b01_p.mp c1); (show wp mX12_count 3 rc rs Q 130 [some (vr 89), some (vi x1)] [] h from xIc k_X12_count_130 (have c5 := v3.1; have v17 := v3.2; (And.intro c5 (And.intro (lm_89 hL) (And.intro (fun c6 => have v8 := v17.1 c6; (show wp mX12_count 3 rc rs Q 160 [some (vr 89), some (vi x1)] [] h from xI k_X12_count_160 (And.intro rfl v8))) (fun c7 => have v9 := v17.2 (Int.not_le.mp c7); (show wp mX12_count 3 rc rs Q 141 [some (vr 89), some (vi x1)] [] h from xGo k_X12_count_141 (And.intro (lm_89 hL) (Exists.intro 1181 (And.intro (lf_89_48 hL) (And.intro (lm_89 hL) (have c10 := v9.1; have v16 := v9.2; (And.intro c10 (And.intro c5 (have c12 := v16.1; have v15 := v16.2; (And.intro c12 (have c13 := v15.1; have v14 := v15.2; (And.intro (sdI (lm_1181 hL) c13) (show wp mX12_count 3 rc rs Q 161 [some (vr 89), some (vi x1)] [vi (iH h 1181 (((iH h 89 47 - 1) - (x1 - 10)).toNat))] h from xI k_X12_count_161 (And.intro rfl v14))))))))))))))))))))) (fun c2 => have v4 := v24.2 (b01_nn.mp c2); (show wp mX12_count 3 rc rs Q 127 [some (vr 89), some (vi x1)] [] h from xI k_X12_count_127 (And.intro rfl v4))))))))))))))))))))))))))))))))))))))
theorem e_X12_count {mc ms : Nat} {Q : Option AV → AH → Prop} {h : AH} {x1 : Int} (hL : LayM h) (hv : ((x1 = 0 → (m_cap h) ∧ Q (some (vi (m_many h))) h) ∧ (x1 ≠ 0 → ((x1 = 1 → Q (some (vi (iH h 89 15))) h) ∧ (x1 ≠ 1 → ((x1 = 2 → Q (some (vi (iH h 89 13))) h) ∧ (x1 ≠ 2 → ((x1 = 3 → (m_nowL h ∧ (0 ≤ iH h 89 5 ∧ iH h 89 5 ≤ 520) ∧ ∀ v : Nat, v < 7 → m_std h v) ∧ LayM (m_lay h 6) ∧ Q (some (vi (m_hs h))) (m_lay h 6)) ∧ (x1 ≠ 3 → ((x1 = 4 → Q (some (vi (iH h 1138 5))) h) ∧ (x1 ≠ 4 → ((x1 = 5 → Q (some (vi (m_views h))) h) ∧ (x1 ≠ 5 → ((x1 = 6 → Q (some (vi (iH h 89 30))) h) ∧ (x1 ≠ 6 → ((x1 = 7 → Q (some (vi (iH h 89 18))) h) ∧ (x1 ≠ 7 → ((x1 = 8 → (((iH h 89 24) = 0 → Q (some (vi 0)) h) ∧ ((iH h 89 24) ≠ 0 → Q (some (vi 1)) h))) ∧ (x1 ≠ 8 → ((x1 = 9 → Q (some (vi (iH h 89 46))) h) ∧ (x1 ≠ 9 → ((((10 : Int) ≤ x1 ∧ x1 ≤ (17 : Int)) → (-2147483648 ≤ (x1 - 10) ∧ (x1 - 10) < 2147483648) ∧ (((iH h 89 47) ≤ (x1 - 10) → Q (some (vi (-1))) h) ∧ ((x1 - 10) < (iH h 89 47) → (-2147483648 ≤ (iH h 89 47 - 1) ∧ (iH h 89 47 - 1) < 2147483648) ∧ (-2147483648 ≤ ((iH h 89 47 - 1) - (x1 - 10)) ∧ ((iH h 89 47 - 1) - (x1 - 10)) < 2147483648) ∧ (0 ≤ ((iH h 89 47 - 1) - (x1 - 10)) ∧ ((iH h 89 47 - 1) - (x1 - 10)) < 1040) ∧ Q (some (vi (iH h 1181 (((iH h 89 47 - 1) - (x1 - 10)).toNat)))) h))) ∧ (¬ ((10 : Int) ≤ x1 ∧ x1 ≤ (17 : Int)) → Q (some (vi (-2))) h))))))))))))))))))))))) : Ct 3 mc ms mX12_count [vr 89, vi x1] h Q := Ct.of (by decide +kernel) (Nat.le_of_ble_eq_true rfl) (t_X12_count_0 hL hv)
noncomputable def a_count (h : AH) (w : Int) : Int :=
  if w = 0 then m_many h else if w = 1 then iH h 89 15 else if w = 2 then iH h 89 13 else if w = 3 then m_hs h else if w = 4 then iH h 1138 5 else if w = 5 then m_views h else if w = 6 then iH h 89 30 else if w = 7 then iH h 89 18 else if w = 8 then (if iH h 89 24 = 0 then 0 else 1) else if w = 9 then iH h 89 46
  else if 10 ≤ w ∧ w ≤ 17 then (if iH h 89 47 ≤ w - 10 then -1 else iH h 1181 (iH h 89 47 - 1 - (w - 10)).toNat) else -2
theorem c_count {h : AH} (hL : LayM h) {w : Int} (hn : m_nowL h) (hb : 0 ≤ iH h 89 15 ∧ iH h 89 15 ≤ 4) (hse : 0 ≤ iH h 89 5 ∧ iH h 89 5 ≤ 520) (hv : ∀ v : Nat, v < 7 → m_std h v) (hlg : 0 ≤ iH h 89 47 ∧ iH h 89 47 < 1040) : Ct 3 0 0 mX12_count [vr 89, vi w] h (QI fun x h' => x = a_count h w ∧ (h' = h ∨ h' = m_lay h 6)) := by
  refine e_X12_count hL ⟨fun c0 => ⟨⟨hb, hn.1⟩, _, rfl, ?_, Or.inl rfl⟩, fun c0 => ⟨fun c1 => ⟨_, rfl, ?_, Or.inl rfl⟩, fun c1 => ⟨fun c2 => ⟨_, rfl, ?_, Or.inl rfl⟩, fun c2 => ⟨fun c3 => ⟨⟨hn, hse, hv⟩, by exact hL, _, rfl, ?_, Or.inr rfl⟩, fun c3 => ⟨fun c4 => ⟨_, rfl, ?_, Or.inl rfl⟩, fun c4 => ⟨fun c5 => ⟨_, rfl, ?_, Or.inl rfl⟩, fun c5 => ⟨fun c6 => ⟨_, rfl, ?_, Or.inl rfl⟩, fun c6 => ⟨fun c7 => ⟨_, rfl, ?_, Or.inl rfl⟩, fun c7 => ⟨fun c8 => ⟨fun d => ⟨_, rfl, ?_, Or.inl rfl⟩, fun d => ⟨_, rfl, ?_, Or.inl rfl⟩⟩, fun c8 => ⟨fun c9 => ⟨_, rfl, ?_, Or.inl rfl⟩, fun c9 => ⟨fun c10 => ⟨by omega, fun d => ⟨_, rfl, ?_, Or.inl rfl⟩, fun d => ⟨by omega, by omega, by omega, _, rfl, ?_, Or.inl rfl⟩⟩, fun c10 => ⟨_, rfl, ?_, Or.inl rfl⟩⟩⟩⟩⟩⟩⟩⟩⟩⟩⟩⟩
  · unfold a_count; rw [if_pos c0]
  · unfold a_count; rw [if_neg c0, if_pos c1]
  · unfold a_count; rw [if_neg c0, if_neg c1, if_pos c2]
  · unfold a_count; rw [if_neg c0, if_neg c1, if_neg c2, if_pos c3]
  · unfold a_count; rw [if_neg c0, if_neg c1, if_neg c2, if_neg c3, if_pos c4]
  · unfold a_count; rw [if_neg c0, if_neg c1, if_neg c2, if_neg c3, if_neg c4, if_pos c5]
  · unfold a_count; rw [if_neg c0, if_neg c1, if_neg c2, if_neg c3, if_neg c4, if_neg c5, if_pos c6]
  · unfold a_count; rw [if_neg c0, if_neg c1, if_neg c2, if_neg c3, if_neg c4, if_neg c5, if_neg c6, if_pos c7]
  · unfold a_count; rw [if_neg c0, if_neg c1, if_neg c2, if_neg c3, if_neg c4, if_neg c5, if_neg c6, if_neg c7, if_pos c8, if_pos d]
  · unfold a_count; rw [if_neg c0, if_neg c1, if_neg c2, if_neg c3, if_neg c4, if_neg c5, if_neg c6, if_neg c7, if_pos c8, if_neg d]
  · unfold a_count; rw [if_neg c0, if_neg c1, if_neg c2, if_neg c3, if_neg c4, if_neg c5, if_neg c6, if_neg c7, if_neg c8, if_pos c9]
  · unfold a_count; rw [if_neg c0, if_neg c1, if_neg c2, if_neg c3, if_neg c4, if_neg c5, if_neg c6, if_neg c7, if_neg c8, if_neg c9, if_pos c10, if_pos d]
  · unfold a_count; rw [if_neg c0, if_neg c1, if_neg c2, if_neg c3, if_neg c4, if_neg c5, if_neg c6, if_neg c7, if_neg c8, if_neg c9, if_pos c10, if_neg (by omega)]
  · unfold a_count; rw [if_neg c0, if_neg c1, if_neg c2, if_neg c3, if_neg c4, if_neg c5, if_neg c6, if_neg c7, if_neg c8, if_neg c9, if_neg c10]
