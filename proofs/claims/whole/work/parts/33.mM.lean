/-! THE REFERENCE: ANSWERS OUT OF WHAT IS FOUND -/
theorem f_add_all {P : Int → Prop} {S : FS} {d v : Int} (hS : ∀ i, i < S.1 → P (S.2.2.1 i)) (hd : P d) : ∀ i, i < (f_add S d v).1 → P ((f_add S d v).2.2.1 i) := by
  have hp := f_ip_le S.2.2.2 v S.1
  intro i hi
  replace hi : i < S.1 + 1 := hi
  unfold f_add f_in f_sh
  dsimp only
  by_cases q : i = f_ip S.2.2.2 v S.1
  · rw [if_pos q]; exact hd
  · rw [if_neg q]
    by_cases q2 : f_ip S.2.2.2 v S.1 < i ∧ i ≤ S.1
    · rw [if_pos q2]; exact hS (i - 1) (by omega)
    · rw [if_neg q2]; exact hS i (by omega)
theorem m_fI_doc {h : AH} {t q : Int} (hn : m_stT h t) {s : Nat} (hs : (s : Int) < iH h 1138 t.toNat) {S : FS} (hS : ∀ i, i < S.1 → m_doc h (S.2.2.1 i)) : ∀ k : Nat, (k : Int) ≤ iH h 615 (iH h (1140 + t.toNat) s).toNat → ∀ i, i < (m_fI h t q s S k).1 → m_doc h ((m_fI h t q s S k).2.2.1 i)
  | 0, _ => hS
  | k + 1, hk => by
    have ih := m_fI_doc (q := q) hn hs hS k (by omega)
    unfold m_fI
    split
    · exact f_add_all (P := m_doc h) ih ((hn.2.1 s hs).2 k (by omega))
    · exact ih
theorem m_fd_doc {h : AH} {t q : Int} (hn : m_stT h t) : ∀ s : Nat, (s : Int) ≤ iH h 1138 t.toNat → ∀ i, i < (m_fd h t q s).1 → m_doc h ((m_fd h t q s).2.2.1 i)
  | 0, _ => fun i hi => absurd hi (Nat.not_lt_zero i)
  | s + 1, hs => m_fI_doc hn (by omega) (m_fd_doc hn s (by omega)) _ (by have := (hn.2.1 s (by omega)).1.2.1; omega)
theorem m_F_doc {h : AH} {t q : Int} (hn : m_stT h t) {i : Nat} (hi : i < (m_F h t q).1) : m_doc h ((m_F h t q).2.2.1 i) := m_fd_doc hn _ (by have := hn.1.2; omega) i hi
theorem m_F_bd {h : AH} {t q : Int} (hn : m_stT h t) (hq : m_qok h q) : (m_F h t q).1 ≤ 64 ∧ 0 ≤ (m_F h t q).2.1 ∧ (m_F h t q).2.1 ≤ 63936 := by
  have h1 := m_fd_bd hn hq (iH h 1138 t.toNat).toNat (by have := hn.1.2; omega)
  have h2 := hn.2.2
  unfold m_F; omega
/-- which cells the answers of queries rest on -/
def AgQ (h h' : AH) : Prop := ∀ a k, 90 ≤ a → a < 1178 → a ≠ 1137 → iH h' a k = iH h a k
theorem m_fv_cg {h h' : AH} {t q : Int} (e : AgQ h h') (hn : m_stT h t) (hq : m_qok h q) {s k : Nat} (hs : (s : Int) < iH h 1138 t.toNat) (hk : (k : Int) < iH h 615 (iH h (1140 + t.toNat) s).toNat) (eo : m_offT h' t s = m_offT h t s) : m_fv h' t q s k = m_fv h t q s k := by
  have ht := hn.1.1
  have hb := hq.1
  have hg := (hn.2.1 s hs).1.1
  have hd := ((hn.2.1 s hs).2 k hk).1
  unfold m_fv
  rw [eo, e (1148 + t.toNat) _ (by omega) (by omega) (by omega), e (1140 + t.toNat) _ (by omega) (by omega) (by omega), e (617 + (iH h (1140 + t.toNat) s).toNat) _ (by omega) (by omega) (by omega), m_worth_cg (h := h) (fun k => e _ k (by omega) (by omega) (by omega)) (e _ _ (by decide) (by decide) (by decide)) (fun k => e _ k (by omega) (by omega) (by omega)) (e _ _ (by decide) (by decide) (by decide))]
theorem m_offT_cg {h h' : AH} {t : Int} (e : AgQ h h') (ht : 0 ≤ t ∧ t < 7) (s : Nat) : m_offT h' t s = m_offT h t s := sumN_cg fun i _ => by rw [e (1140 + t.toNat) _ (by omega) (by omega) (by omega), e 615 _ (by decide) (by decide) (by decide)]
theorem m_fI_cg {h h' : AH} {t q : Int} (e : AgQ h h') (hn : m_stT h t) (hq : m_qok h q) {s : Nat} (hs : (s : Int) < iH h 1138 t.toNat) (S : FS) : ∀ k : Nat, (k : Int) ≤ iH h 615 (iH h (1140 + t.toNat) s).toNat → m_fI h' t q s S k = m_fI h t q s S k
  | 0, _ => rfl
  | k + 1, hk => by
    have ht := hn.1.1
    have hg := (hn.2.1 s hs).1.1
    unfold m_fI
    rw [m_fI_cg e hn hq hs S k (by omega), m_fv_cg e hn hq hs (by omega) (m_offT_cg e ht s), e (1140 + t.toNat) _ (by omega) (by omega) (by omega), e (617 + (iH h (1140 + t.toNat) s).toNat) _ (by omega) (by omega) (by omega)]
theorem m_fd_cg {h h' : AH} {t q : Int} (e : AgQ h h') (hn : m_stT h t) (hq : m_qok h q) : ∀ s : Nat, (s : Int) ≤ iH h 1138 t.toNat → m_fd h' t q s = m_fd h t q s
  | 0, _ => rfl
  | s + 1, hs => by
    have ht := hn.1.1
    have hl := (hn.2.1 s (by omega)).1.2.1
    unfold m_fd
    rw [m_fd_cg e hn hq s (by omega), e (1140 + t.toNat) _ (by omega) (by omega) (by omega), e 615 _ (by decide) (by decide) (by decide), m_fI_cg e hn hq (by omega) _ _ (by omega)]
theorem m_F_cg {h h' : AH} {t q : Int} (e : AgQ h h') (hn : m_stT h t) (hq : m_qok h q) : m_F h' t q = m_F h t q := by
  unfold m_F
  rw [e 1138 _ (by decide) (by decide) (by decide), m_fd_cg e hn hq _ (by have := hn.1.2; omega)]
theorem m_segd_cg {h h' : AH} {g : Int} (e : AgQ h h') (hg : m_segd h g) : m_segd h' g := by
  have h1 := hg.1.1
  have e1 : iH h' 615 g.toNat = iH h 615 g.toNat := e _ _ (by decide) (by decide) (by decide)
  have e2 : ∀ k, iH h' (617 + g.toNat) k = iH h (617 + g.toNat) k := fun k => e _ k (by omega) (by omega) (by omega)
  refine ⟨⟨h1, by rw [e1]; exact hg.1.2.1, fun k hk => ?_⟩, fun k hk => ?_⟩
  · rw [e1] at hk; rw [e2]; exact hg.1.2.2 k hk
  · rw [e1] at hk; rw [e2]
    have hd := hg.2 k hk
    have hd1 := hd.1
    exact m_doc_cg hd (fun k => e _ k (by omega) (by omega) (by omega)) (e _ _ (by decide) (by decide) (by decide))
theorem m_std_cg {h h' : AH} {t : Int} (e : AgQ h h') (hn : m_std h t) : m_std h' t := ⟨hn.1, by rw [e _ _ (by decide) (by decide) (by decide)]; exact hn.2⟩
theorem m_stT_cg {h h' : AH} {t : Int} (e : AgQ h h') (hn : m_stT h t) : m_stT h' t := by
  have ht := hn.1.1
  have ec : iH h' 1138 t.toNat = iH h 1138 t.toNat := e _ _ (by decide) (by decide) (by decide)
  refine ⟨m_std_cg e hn.1, fun s hs => ?_, ?_⟩
  · rw [ec] at hs
    rw [e (1140 + t.toNat) _ (by omega) (by omega) (by omega)]
    exact m_segd_cg e (hn.2.1 s hs)
  · rw [ec, m_offT_cg e ht]; exact hn.2.2
theorem m_qok_cg2 {h h' : AH} {q : Int} (e : AgQ h h') (hq : m_qok h q) : m_qok h' q := by
  have hb := hq.1
  exact m_qok_cg hq (fun k => e _ k (by omega) (by omega) (by omega)) (e _ _ (by decide) (by decide) (by decide))
theorem m_wd_cg {h h' : AH} {g : Int} (e : AgQ h h') (hg : m_segd h g) : ∀ k i, m_wi h g k i → m_wd h' g k i = m_wd h g k i := by
  intro k i hw
  have h1 := hg.1.1
  have hd := (hg.2 k hw.1).1
  unfold m_wd
  rw [e (617 + g.toNat) _ (by omega) (by omega) (by omega), e (93 + (iH h (617 + g.toNat) k).toNat) _ (by omega) (by omega) (by omega)]
theorem m_wi_cg {h h' : AH} {g : Int} (e : AgQ h h') (hg : m_segd h g) : ∀ k i, m_wi h' g k i ↔ m_wi h g k i := by
  intro k i
  have h1 := hg.1.1
  unfold m_wi
  rw [e 615 _ (by decide) (by decide) (by decide), e (617 + g.toNat) _ (by omega) (by omega) (by omega), e 91 _ (by decide) (by decide) (by decide)]
theorem IsD_cg {f f' : Nat → Nat → Int} {S S' : Nat → Nat → Prop} {n : Nat} {dw : Nat → Int} (eS : ∀ k i, S' k i ↔ S k i) (ef : ∀ k i, S k i → f' k i = f k i) (hD : IsD f S n dw) : IsD f' S' n dw := by
  refine ⟨hD.1, fun k i hk => ?_, fun j hj => ?_⟩
  · rw [ef k i ((eS k i).mp hk)]; exact hD.2.1 k i ((eS k i).mp hk)
  · obtain ⟨k, i, h1, h2⟩ := hD.2.2 j hj
    exact ⟨k, i, (eS k i).mpr h1, by rw [ef k i h1]; exact h2⟩
theorem m_dict_cg {h h' : AH} {g : Int} (e : AgQ h h') (hg : m_dict h g) : m_dict h' g := by
  obtain ⟨hs, n, dw, hn, hD⟩ := hg
  exact ⟨m_segd_cg e hs, n, dw, hn, IsD_cg (m_wi_cg e hs) (m_wd_cg e hs) hD⟩
theorem m_dn_cg {h h' : AH} {g : Int} (e : AgQ h h') (hg : m_dict h g) : m_dn h' g = m_dn h g ∧ ∀ j, j < m_dn h g → m_dw h' g j = m_dw h g j := by
  have hD := m_dict_D hg
  exact m_dw_un (m_segd_cg e hg.1) hD.1 (IsD_cg (m_wi_cg e hg.1) (m_wd_cg e hg.1) hD.2)
theorem m_post_cg {h h' : AH} {g w : Int} (e : AgQ h h') (hg : m_segd h g) : m_post h' g w = m_post h g w := by
  have h1 := hg.1.1
  unfold m_post
  rw [e 615 _ (by decide) (by decide) (by decide)]
  refine cnt_cg fun k hk => ?_
  have hd := (hg.2 k (by omega)).1
  unfold m_postP m_has m_hasP
  rw [e (617 + g.toNat) _ (by omega) (by omega) (by omega), e 91 _ (by decide) (by decide) (by decide)]
  constructor
  · rintro ⟨i, h2, h3⟩; exact ⟨i, h2, by rw [← e (93 + (iH h (617 + g.toNat) k).toNat) _ (by omega) (by omega) (by omega)]; exact h3⟩
  · rintro ⟨i, h2, h3⟩; exact ⟨i, h2, by rw [e (93 + (iH h (617 + g.toNat) k).toNat) _ (by omega) (by omega) (by omega)]; exact h3⟩
theorem m_pb_cg {h h' : AH} {g b l : Int} (e : AgQ h h') (hg : m_dict h g) : m_pb h' g b l = m_pb h g b l := by
  obtain ⟨e1, e2⟩ := m_dn_cg e hg
  unfold m_pb
  rw [e1]
  exact sumN_cg fun j hj => by unfold m_pbF; rw [e2 j hj, m_post_cg e hg.1]
theorem m_stdd_cg {h h' : AH} {t : Int} (e : AgQ h h') (hn : m_stdd h t) : m_stdd h' t := by
  have ht := hn.1.1
  refine ⟨m_std_cg e hn.1, fun s hs => ?_⟩
  rw [e 1138 _ (by decide) (by decide) (by decide)] at hs
  rw [e (1140 + t.toNat) _ (by omega) (by omega) (by omega)]
  exact m_dict_cg e (hn.2 s hs)
theorem m_cow_cg {h h' : AH} {t w l : Int} (e : AgQ h h') (hn : m_stdd h t) : m_cow h' t w l = m_cow h t w l := by
  have ht := hn.1.1
  have hc := hn.1.2
  unfold m_cow
  rw [e 1138 _ (by decide) (by decide) (by decide)]
  refine sumN_cg fun s hs => ?_
  unfold m_cowF
  rw [e (1140 + t.toNat) _ (by omega) (by omega) (by omega), m_post_cg e (hn.2 s (by omega)).1, m_pb_cg e (hn.2 s (by omega))]
theorem m_cost_cg {h h' : AH} {t q : Int} (e : AgQ h h') (hn : m_stdd h t) (hq : m_qok h q) : m_cost h' t q = m_cost h t q := by
  have hb := hq.1
  have er : m_row h' q = m_row h q := m_row_cg fun k => e _ k (by omega) (by omega) (by omega)
  unfold m_cost
  rw [er, show m_nop h' q = m_nop h q from by unfold m_nop; rw [er, e 1176 _ (by decide) (by decide) (by decide)]]
  exact sumN_cg fun j _ => by unfold m_oc; rw [er]; exact sumN_cg fun i _ => by unfold m_ocF; rw [er, m_cow_cg e hn]
def b_X12_answer_0 : List IE := [(.iload_n 3, 1, 0, 0, 3, 0), (.iconst 1, 1, 1, 0, 0, 0)]
theorem k_X12_answer_0 : ckIc mX12_answer 12 0 b_X12_answer_0 2 1 10 12 5 = true := by decide +kernel
def b_X12_answer_5 : List IE := [(.aload_n 0, 1, 0, 0, 0, 0), (.iload_n 1, 1, 0, 0, 1, 0), (.iload_n 2, 1, 0, 0, 2, 0)]
theorem k_X12_answer_5 : ckB mX12_answer 12 5 b_X12_answer_5 8 = true := by decide +kernel
def b_X12_answer_11 : List IE := []
theorem k_X12_answer_11 : ckI mX12_answer 12 11 b_X12_answer_11 11 = true := by decide +kernel
def b_X12_answer_12 : List IE := [(.aload_n 0, 1, 0, 0, 0, 0), (.iload_n 1, 1, 0, 0, 1, 0), (.iload_n 2, 1, 0, 0, 2, 0)]
theorem k_X12_answer_12 : ckB mX12_answer 12 12 b_X12_answer_12 15 = true := by decide +kernel
def b_X12_answer_18 : List IE := [(.iload_n 3, 1, 0, 0, 3, 0)]
theorem k_X12_answer_18 : ckIf mX12_answer 12 18 b_X12_answer_18 19 1 8 27 22 = true := by decide +kernel
def b_X12_answer_22 : List IE := [(.aload_n 0, 1, 0, 0, 0, 0), (.getfield 367, 3, 0, 12, 42, 0)]
theorem k_X12_answer_22 : ckI mX12_answer 12 22 b_X12_answer_22 26 = true := by decide +kernel
def b_X12_answer_27 : List IE := [(.iload_n 3, 1, 0, 0, 3, 0), (.iconst 2, 1, 2, 0, 0, 0)]
theorem k_X12_answer_27 : ckIc mX12_answer 12 27 b_X12_answer_27 29 1 8 37 32 = true := by decide +kernel
def b_X12_answer_32 : List IE := [(.aload_n 0, 1, 0, 0, 0, 0), (.getfield 370, 3, 0, 12, 43, 0)]
theorem k_X12_answer_32 : ckI mX12_answer 12 32 b_X12_answer_32 36 = true := by decide +kernel
def b_X12_answer_37 : List IE := [(.iload_n 3, 1, 0, 0, 3, 0), (.bipush 100, 2, 100, 0, 0, 0)]
theorem k_X12_answer_37 : ckIc mX12_answer 12 37 b_X12_answer_37 40 2 10 50 43 = true := by decide +kernel
def b_X12_answer_43 : List IE := [(.iload_n 3, 1, 0, 0, 3, 0), (.bipush 100, 2, 100, 0, 0, 0), (.isub, 1, 0, 0, 0, 0)]
theorem k_X12_answer_43 : ckGo mX12_answer 12 43 b_X12_answer_43 47 7 54 = true := by decide +kernel
def b_X12_answer_50 : List IE := [(.iload_n 3, 1, 0, 0, 3, 0), (.bipush 10, 2, 10, 0, 0, 0), (.isub, 1, 0, 0, 0, 0), (.istore 4, 2, 0, 0, 4, 0), (.iload 4, 2, 0, 0, 4, 0), (.aload_n 0, 1, 0, 0, 0, 0), (.getfield 367, 3, 0, 12, 42, 0)]
theorem k_X12_answer_50 : ckIc mX12_answer 12 50 b_X12_answer_50 62 2 5 67 65 = true := by decide +kernel
def b_X12_answer_54 : List IE := [(.istore 4, 2, 0, 0, 4, 0), (.iload 4, 2, 0, 0, 4, 0), (.aload_n 0, 1, 0, 0, 0, 0), (.getfield 367, 3, 0, 12, 42, 0)]
theorem k_X12_answer_54 : ckIc mX12_answer 12 54 b_X12_answer_54 62 2 5 67 65 = true := by decide +kernel
def b_X12_answer_65 : List IE := [(.iconst (-1), 1, (-1), 0, 0, 0)]
theorem k_X12_answer_65 : ckI mX12_answer 12 65 b_X12_answer_65 66 = true := by decide +kernel
def b_X12_answer_67 : List IE := [(.iload_n 3, 1, 0, 0, 3, 0), (.bipush 100, 2, 100, 0, 0, 0)]
theorem k_X12_answer_67 : ckIc mX12_answer 12 67 b_X12_answer_67 70 2 13 83 73 = true := by decide +kernel
def b_X12_answer_73 : List IE := [(.aload_n 0, 1, 0, 0, 0, 0), (.getfield 85, 3, 0, 12, 45, 1), (.iload 4, 2, 0, 0, 4, 0), (.iaload, 1, 0, 0, 0, 0)]
theorem k_X12_answer_73 : ckGo mX12_answer 12 73 b_X12_answer_73 80 15 95 = true := by decide +kernel
def b_X12_answer_83 : List IE := [(.aload_n 0, 1, 0, 0, 0, 0), (.getfield 9, 3, 0, 12, 1, 1), (.aload_n 0, 1, 0, 0, 0, 0), (.getfield 82, 3, 0, 12, 44, 1), (.iload 4, 2, 0, 0, 4, 0), (.iaload, 1, 0, 0, 0, 0), (.iaload, 1, 0, 0, 0, 0)]
theorem k_X12_answer_83 : ckI mX12_answer 12 83 b_X12_answer_83 95 = true := by decide +kernel
def b_X12_answer_95 : List IE := []
theorem k_X12_answer_95 : ckI mX12_answer 12 95 b_X12_answer_95 95 = true := by decide +kernel
theorem s_X12_answer_8 : cV mX12_answer 8 mX12_cost 379 2 12 := ⟨by decide +kernel, ⟨ml_X12_cost, li_RX12_379, im_X12_cost, se_X12_cost⟩, ⟨by decide +kernel, by decide +kernel⟩, by decide +kernel⟩
theorem s_X12_answer_15 : cV mX12_answer 15 mX12_find 382 2 12 := ⟨by decide +kernel, ⟨ml_X12_find, li_RX12_382, im_X12_find, se_X12_find⟩, ⟨by decide +kernel, by decide +kernel⟩, by decide +kernel⟩
theorem t_X12_answer_0 {rc rs : Nat} {Q : Option AV → AH → Prop} {h : AH} {x1 x2 x3 : Int} (hL : LayM h) (hv : ((x3 ≠ 1 → (∃ P7 : AH → Prop, Ct 4 0 0 mX12_find [vr 89, vi x1, vi x2] h (QV P7) ∧ ∀ h5 : AH, P7 h5 → LayM h5 ∧ ((x3 ≠ 0 → ((x3 ≠ 2 → ((x3 < 100 → (-2147483648 ≤ (x3 - 10) ∧ (x3 - 10) < 2147483648) ∧ (((x3 - 10) < (iH h5 89 42) → (0 ≤ (x3 - 10) ∧ (x3 - 10) < 64) ∧ (0 ≤ iH h5 1179 ((x3 - 10).toNat) ∧ iH h5 1179 ((x3 - 10).toNat) < 520) ∧ Q (some (vi (iH h5 90 ((iH h5 1179 ((x3 - 10).toNat)).toNat)))) h5) ∧ ((iH h5 89 42) ≤ (x3 - 10) → Q (some (vi (-1))) h5))) ∧ (100 ≤ x3 → (-2147483648 ≤ (x3 - 100) ∧ (x3 - 100) < 2147483648) ∧ (((x3 - 100) < (iH h5 89 42) → (0 ≤ (x3 - 100) ∧ (x3 - 100) < 64) ∧ Q (some (vi (iH h5 1180 ((x3 - 100).toNat)))) h5) ∧ ((iH h5 89 42) ≤ (x3 - 100) → Q (some (vi (-1))) h5))))) ∧ (x3 = 2 → Q (some (vi (iH h5 89 43))) h5))) ∧ (x3 = 0 → Q (some (vi (iH h5 89 42))) h5)))) ∧ (x3 = 1 → (m_stdd h x1 ∧ m_qok h x2) ∧ Q (some (vi (m_cost h x1 x2))) h))) : wp mX12_answer 5 rc rs Q 0 [some (vr 89), some (vi x1), some (vi x2), some (vi x3), none] [] h :=
  (show wp mX12_answer 5 rc rs Q 0 [some (vr 89), some (vi x1), some (vi x2), some (vi x3), none] [] h from xIc k_X12_answer_0 (And.intro (fun c1 => have v3 := hv.1 c1; (show wp mX12_answer 5 rc rs Q 12 [some (vr 89), some (vi x1), some (vi x2), some (vi x3), none] [] h from xcV k_X12_answer_12 s_X12_answer_15 (Exists.elim v3 (fun P7 v38 => (Exists.intro [vi x1, vi x2] (Exists.intro 89 (Exists.intro [] (And.intro (And.intro rfl (And.intro rfl (Nat.le_of_ble_eq_true rfl))) (And.intro (lm_89 hL) (Exists.intro 4 (Exists.intro 0 (Exists.intro 0 (Exists.intro (QV P7) (And.intro v38.1 (And.intro (And.intro (by decide) (And.intro (Nat.zero_le _) (Nat.zero_le _))) (eQV (fun h5 e40 => have v39 := v38.2 h5 e40; have hL := v39.1; have v39 := v39.2; (show wp mX12_answer 5 rc rs Q 18 [some (vr 89), some (vi x1), some (vi x2), some (vi x3), none] [] h5 from xIf k_X12_answer_18 (And.intro (fun c8 => have v10 := v39.1 c8; (show wp mX12_answer 5 rc rs Q 27 [some (vr 89), some (vi x1), some (vi x2), some (vi x3), none] [] h5 from xIc k_X12_answer_27 (And.intro (fun c12 => have v14 := v10.1 c12; (show wp mX12_answer 5 rc rs Q 37 [some (vr 89), some (vi x1), some (vi x2), some (vi x3), none] [] h5 from xIc k_X12_answer_37 (And.intro (fun c16 => have v18 := v14.1 c16; (show wp mX12_answer 5 rc rs Q 50 [some (vr 89), some (vi x1), some (vi x2), some (vi x3), none] [] h5 from xIc k_X12_answer_50 (have c20 := v18.1; have v29 := v18.2; (And.intro c20 (And.intro rfl (And.intro (lm_89 hL) (And.intro (fun c21 => have v23 := v29.1 c21; (show wp mX12_answer 5 rc rs Q 67 [some (vr 89), some (vi x1), some (vi x2), some (vi x3), some (vi (x3 - 10))] [] h5 from xIc k_X12_answer_67 (And.intro (fun _ => (show wp mX12_answer 5 rc rs Q 83 [some (vr 89), some (vi x1), some (vi x2), some (vi x3), some (vi (x3 - 10))] [] h5 from xI k_X12_answer_83 (And.intro (lm_89 hL) (Exists.intro 90 (And.intro (lf_89_1 hL) (And.intro (lm_89 hL) (Exists.intro 1179 (And.intro (lf_89_44 hL) (have c25 := v23.1; have v28 := v23.2; (And.intro (sdI (lm_1179 hL) c25) (have c26 := v28.1; have v27 := v28.2; (And.intro (sdI (lm_90 hL) c26) (And.intro rfl v27))))))))))))) (fun c => absurd (show x3 < 100 from c16) c)))) (fun c22 => have v24 := v29.2 (Int.not_lt.mp c22); (show wp mX12_answer 5 rc rs Q 65 [some (vr 89), some (vi x1), some (vi x2), some (vi x3), some (vi (x3 - 10))] [] h5 from xI k_X12_answer_65 (And.intro rfl v24)))))))))) (fun c17 => have v19 := v14.2 (Int.not_lt.mp c17); (show wp mX12_answer 5 rc rs Q 43 [some (vr 89), some (vi x1), some (vi x2), some (vi x3), none] [] h5 from xGo k_X12_answer_43 (have c30 := v19.1; have v37 := v19.2; (And.intro c30 (show wp mX12_answer 5 rc rs Q 54 [some (vr 89), some (vi x1), some (vi x2), some (vi x3), none] [vi (x3 - 100)] h5 from xIc k_X12_answer_54 (And.intro rfl (And.intro (lm_89 hL) (And.intro (fun c31 => have v33 := v37.1 c31; (show wp mX12_answer 5 rc rs Q 67 [some (vr 89), some (vi x1), some (vi x2), some (vi x3), some (vi (x3 - 100))] [] h5 from xIc k_X12_answer_67 (And.intro (fun c => (by have cq9 : x3 < 100 := c; have cq8 := (show 100 ≤ x3 from (Int.not_lt.mp c17)); omega)) (fun _ => (show wp mX12_answer 5 rc rs Q 73 [some (vr 89), some (vi x1), some (vi x2), some (vi x3), some (vi (x3 - 100))] [] h5 from xGo k_X12_answer_73 (And.intro (lm_89 hL) (Exists.intro 1180 (And.intro (lf_89_45 hL) (have c35 := v33.1; have v36 := v33.2; (And.intro (sdI (lm_1180 hL) c35) (show wp mX12_answer 5 rc rs Q 95 [some (vr 89), some (vi x1), some (vi x2), some (vi x3), some (vi (x3 - 100))] [vi (iH h5 1180 ((x3 - 100).toNat))] h5 from xI k_X12_answer_95 (And.intro rfl v36)))))))))))) (fun c32 => have v34 := v37.2 (Int.not_lt.mp c32); (show wp mX12_answer 5 rc rs Q 65 [some (vr 89), some (vi x1), some (vi x2), some (vi x3), some (vi (x3 - 100))] [] h5 from xI k_X12_answer_65 (And.intro rfl v34)))))))))))))) (fun c13 => have v15 := v10.2 (Decidable.not_not.mp c13); (show wp mX12_answer 5 rc rs Q 32 [some (vr 89), some (vi x1), some (vi x2), some (vi x3), none] [] h5 from xI k_X12_answer_32 (And.intro (lm_89 hL) (And.intro rfl v15))))))) (fun c9 => have v11 := v39.2 (Decidable.not_not.mp c9); (show wp mX12_answer 5 rc rs Q 22 [some (vr 89), some (vi x1), some (vi x2), some (vi x3), none] [] h5 from xI k_X12_answer_22 (And.intro (lm_89 hL) (And.intro rfl v11))))))))))))))))))))))) (fun c2 => have v4 := hv.2 (Decidable.not_not.mp c2); (show wp mX12_answer 5 rc rs Q 5 [some (vr 89), some (vi x1), some (vi x2), some (vi x3), none] [] h from xcV k_X12_answer_5 s_X12_answer_8 (have c42 := v4.1; have v43 := v4.2; (Exists.intro [vi x1, vi x2] (Exists.intro 89 (Exists.intro [] (And.intro (And.intro rfl (And.intro rfl (Nat.le_of_ble_eq_true rfl))) (And.intro (lm_89 hL) (Exists.intro 4 (Exists.intro 0 (Exists.intro 0 (Exists.intro _ (And.intro (c_cost (h := h) hL c42) (And.intro (And.intro (by decide) (And.intro (Nat.zero_le _) (Nat.zero_le _))) (eQP (show wp mX12_answer 5 rc rs Q 11 [some (vr 89), some (vi x1), some (vi x2), some (vi x3), none] [vi (m_cost h x1 x2)] h from xI k_X12_answer_11 (And.intro rfl v43)))))))))))))))))))
theorem e_X12_answer {mc ms : Nat} {Q : Option AV → AH → Prop} {h : AH} {x1 x2 x3 : Int} (hL : LayM h) (hv : ((x3 ≠ 1 → (∃ P7 : AH → Prop, Ct 4 0 0 mX12_find [vr 89, vi x1, vi x2] h (QV P7) ∧ ∀ h5 : AH, P7 h5 → LayM h5 ∧ ((x3 ≠ 0 → ((x3 ≠ 2 → ((x3 < 100 → (-2147483648 ≤ (x3 - 10) ∧ (x3 - 10) < 2147483648) ∧ (((x3 - 10) < (iH h5 89 42) → (0 ≤ (x3 - 10) ∧ (x3 - 10) < 64) ∧ (0 ≤ iH h5 1179 ((x3 - 10).toNat) ∧ iH h5 1179 ((x3 - 10).toNat) < 520) ∧ Q (some (vi (iH h5 90 ((iH h5 1179 ((x3 - 10).toNat)).toNat)))) h5) ∧ ((iH h5 89 42) ≤ (x3 - 10) → Q (some (vi (-1))) h5))) ∧ (100 ≤ x3 → (-2147483648 ≤ (x3 - 100) ∧ (x3 - 100) < 2147483648) ∧ (((x3 - 100) < (iH h5 89 42) → (0 ≤ (x3 - 100) ∧ (x3 - 100) < 64) ∧ Q (some (vi (iH h5 1180 ((x3 - 100).toNat)))) h5) ∧ ((iH h5 89 42) ≤ (x3 - 100) → Q (some (vi (-1))) h5))))) ∧ (x3 = 2 → Q (some (vi (iH h5 89 43))) h5))) ∧ (x3 = 0 → Q (some (vi (iH h5 89 42))) h5)))) ∧ (x3 = 1 → (m_stdd h x1 ∧ m_qok h x2) ∧ Q (some (vi (m_cost h x1 x2))) h))) : Ct 5 mc ms mX12_answer [vr 89, vi x1, vi x2, vi x3] h Q := Ct.of (by decide +kernel) (Nat.le_of_ble_eq_true rfl) (t_X12_answer_0 hL hv)
noncomputable def a_ans (h : AH) (t q w : Int) : Int :=
  if w = 1 then m_cost h t q else if w = 0 then ((m_F h t q).1 : Int) else if w = 2 then (m_F h t q).2.1
  else if w < 100 then (if w - 10 < ((m_F h t q).1 : Int) then iH h 90 ((m_F h t q).2.2.1 (w - 10).toNat).toNat else -1)
  else (if w - 100 < ((m_F h t q).1 : Int) then (m_F h t q).2.2.2 (w - 100).toNat else -1)
def m_asked (w : Int) : Prop := (0 ≤ w ∧ w ≤ 2) ∨ (10 ≤ w ∧ w ≤ 73) ∨ (100 ≤ w ∧ w ≤ 163)
def m_scr (h h' : AH) : Prop := h' = h ∨ ∃ n sm f w hp, h' = m_fH h n sm f w hp
theorem m_scr_L {h h' : AH} (hL : LayM h) (hs : m_scr h h') : LayM h' := by
  rcases hs with rfl | ⟨n, sm, f, w, hp, rfl⟩
  · exact hL
  · exact hL
theorem a_ans_cg {h h' : AH} {t q w : Int} (e : AgQ h h') (hn : m_stT h t) (hd : m_stdd h t) (hq : m_qok h q) : a_ans h' t q w = a_ans h t q w := by
  unfold a_ans
  rw [m_cost_cg e hd hq, m_F_cg e hn hq, e 90 _ (by decide) (by decide) (by decide)]
theorem c_answer {h : AH} (hL : LayM h) {t q w : Int} (hp : m_stT h t ∧ m_stdd h t ∧ m_qok h q ∧ m_asked w) : Ct 5 0 0 mX12_answer [vr 89, vi t, vi q, vi w] h (QI fun x h' => x = a_ans h t q w ∧ m_scr h h') := by
  obtain ⟨hn, hs, hq, hw⟩ := hp
  unfold m_asked at hw
  have hb := m_F_bd hn hq
  refine e_X12_answer hL ⟨fun c => ⟨_, c_find hL hn hq, fun h2 hf => ?_⟩, fun c => ⟨⟨hs, hq⟩, _, rfl, (if_pos c).symm, Or.inl rfl⟩⟩
  obtain ⟨f, ww, hp, rfl, ha⟩ := hf
  have fin : m_scr h (m_fH h (m_F h t q).1 (m_F h t q).2.1 f ww hp) := Or.inr ⟨_, _, _, _, _, rfl⟩
  rw [r_fHn, r_fHs, r_fHf, r_fHw]
  refine ⟨by exact hL, fun c0 => ⟨fun c2 => ⟨fun c3 => ⟨by omega, fun c4 => ?_, fun c4 => ⟨_, rfl, ?_, fin⟩⟩, fun c3 => ⟨by omega, fun c4 => ⟨by omega, _, rfl, ?_, fin⟩, fun c4 => ⟨_, rfl, ?_, fin⟩⟩⟩, fun c2 => ⟨_, rfl, ?_, fin⟩⟩, fun c0 => ⟨_, rfl, ?_, fin⟩⟩
  · have hi : (w - 10).toNat < (m_F h t q).1 := by omega
    have e := (ha _ hi).1
    have hd := (m_F_doc hn hi).1
    rw [e, r_fH (by decide) (by decide) (by decide) (by decide)]
    exact ⟨by omega, hd, _, rfl, by unfold a_ans; rw [if_neg c, if_neg c0, if_neg c2, if_pos c3, if_pos c4], fin⟩
  · unfold a_ans; rw [if_neg c, if_neg c0, if_neg c2, if_pos c3, if_neg (by omega)]
  · have hi : (w - 100).toNat < (m_F h t q).1 := by omega
    unfold a_ans; rw [if_neg c, if_neg c0, if_neg c2, if_neg (by omega), if_pos c4, (ha _ hi).2]
  · unfold a_ans; rw [if_neg c, if_neg c0, if_neg c2, if_neg (by omega), if_neg (by omega)]
  · unfold a_ans; rw [if_neg c, if_neg c0, if_pos c2]
  · unfold a_ans; rw [if_neg c, if_pos c0]
