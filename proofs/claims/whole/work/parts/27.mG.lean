/-! THE REFERENCE: A DOCUMENT OUT OF THE TAPE; MERGES; A CRASH -/
/-- the first place from k on, below n, that isn't so -/
noncomputable def runF (p : Nat → Prop) : Nat → Nat → Nat
  | 0, k => k
  | f + 1, k => @ite _ (p k) (Classical.propDecidable _) (runF p f (k + 1)) k
noncomputable def run (p : Nat → Prop) (n k : Nat) : Nat := runF p (n - k) k
theorem run_y {p : Nat → Prop} {n k : Nat} (hk : k < n) (hp : p k) : run p n k = run p n (k + 1) := by
  unfold run
  rw [show n - k = (n - (k + 1)) + 1 by omega]
  show @ite _ (p k) (Classical.propDecidable _) (runF p (n - (k + 1)) (k + 1)) k = _
  rw [if_pos hp]
theorem run_n {p : Nat → Prop} {n k : Nat} (hp : ¬ p k) : run p n k = k := by
  unfold run
  cases n - k with
  | zero => rfl
  | succ f =>
    show @ite _ (p k) (Classical.propDecidable _) (runF p f (k + 1)) k = _
    rw [if_neg hp]
theorem run_e {p : Nat → Prop} {n k : Nat} (hk : n ≤ k) : run p n k = k := by
  unfold run
  rw [show n - k = 0 by omega]; rfl
theorem run_cs (p : Nat → Prop) (n : Nat) : ∀ (f k : Nat), n - k ≤ f → k ≤ run p n k ∧ (k ≤ n → run p n k ≤ n) ∧ (run p n k < n → ¬ p (run p n k)) ∧ ∀ j, k ≤ j → j < run p n k → p j
  | 0, k, h => by
    rw [run_e (by omega)]
    exact ⟨Nat.le_refl k, fun h => h, fun h => by omega, fun j h1 h2 => by omega⟩
  | f + 1, k, h => by
    by_cases hk : k < n
    · by_cases hp : p k
      · rw [run_y hk hp]
        obtain ⟨h1, h2, h3, h4⟩ := run_cs p n f (k + 1) (by omega)
        refine ⟨by omega, fun _ => h2 (by omega), h3, fun j h5 h6 => ?_⟩
        by_cases e : j = k
        · subst e; exact hp
        · exact h4 j (by omega) h6
      · rw [run_n hp]
        exact ⟨Nat.le_refl k, fun h => h, fun _ => hp, fun j h1 h2 => by omega⟩
    · rw [run_e (by omega)]
      exact ⟨Nat.le_refl k, fun h => h, fun h => by omega, fun j h1 h2 => by omega⟩
theorem run_ge (p : Nat → Prop) (n k : Nat) : k ≤ run p n k := (run_cs p n (n - k) k (Nat.le_refl _)).1
theorem run_le {p : Nat → Prop} {n k : Nat} (h : k ≤ n) : run p n k ≤ n := (run_cs p n (n - k) k (Nat.le_refl _)).2.1 h
theorem run_no {p : Nat → Prop} {n k : Nat} (h : run p n k < n) : ¬ p (run p n k) := (run_cs p n (n - k) k (Nat.le_refl _)).2.2.1 h
theorem run_in {p : Nat → Prop} {n k j : Nat} (h1 : k ≤ j) (h2 : j < run p n k) : p j := (run_cs p n (n - k) k (Nat.le_refl _)).2.2.2 j h1 h2
theorem run_mid {p : Nat → Prop} {n : Nat} : ∀ {k j : Nat}, k ≤ j → j ≤ run p n k → k ≤ n → run p n j = run p n k := by
  intro k j h1 h2 h3
  obtain ⟨i, rfl⟩ := Nat.exists_eq_add_of_le h1
  induction i with
  | zero => rfl
  | succ i ih =>
    rw [← ih (by omega) (by omega)]
    have hr := run_le (p := p) h3
    exact (run_y (p := p) (n := n) (k := k + i) (by omega) (run_in (n := n) (k := k) (by omega) (by omega))).symm
def d_bl (h : AH) (k : Nat) : Prop := iH h 1157 k = 32 ∨ iH h 1157 k = 10
def d_le (h : AH) (k : Nat) : Prop := 97 ≤ iH h 1157 k ∧ iH h 1157 k ≤ 122
def d_n (h : AH) : Nat := (iH h 89 18).toNat
noncomputable def d_sk (h : AH) (k : Nat) : Nat := run (d_bl h) (d_n h) k
noncomputable def d_we (h : AH) (k : Nat) : Nat := run (d_le h) (d_n h) k
noncomputable def d_P (h : AH) : Nat → Nat
  | 0 => d_sk h 0
  | i + 1 => d_sk h (d_we h (d_P h i))
def d_stop (h : AH) (i : Nat) : Prop := d_n h ≤ d_P h i ∨ d_we h (d_P h i) = d_P h i ∨ d_P h i + 6 < d_we h (d_P h i) ∨ i = 12
noncomputable def d_m (h : AH) : Nat := (fst (d_stop h) 13).toNat
noncomputable def d_fault (h : AH) : Int := if d_n h ≤ d_P h (d_m h) then (if d_m h = 0 then (d_n h : Int) else -1) else (d_P h (d_m h) : Int)
noncomputable def d_word (h : AH) (i : Nat) : Int := m_wf h (d_P h i) (d_we h (d_P h i)) 6
noncomputable def d_NW (h : AH) (i j : Nat) : Int := if j < i then d_word h j else iH h 1158 j
noncomputable def d_H (h : AH) (i : Nat) : AH := sI (sW h 1158 (d_NW h i)) 89 20 i
noncomputable def m_docH (h : AH) : AH := d_H h (d_m h)
theorem d_m_cs (h : AH) : d_m h ≤ 12 ∧ d_stop h (d_m h) ∧ ∀ i, i < d_m h → ¬ d_stop h i := by
  rcases fst_cs (d_stop h) 13 with ⟨-, q⟩ | ⟨m, hm, e, q1, q2⟩
  · exact absurd (Or.inr (Or.inr (Or.inr rfl))) (q 12 (by omega))
  · have : d_m h = m := by unfold d_m; rw [e]; rfl
    rw [this]
    exact ⟨by omega, q1, q2⟩
theorem d_P_le (h : AH) : ∀ i, d_P h i ≤ d_n h
  | 0 => run_le (Nat.zero_le _)
  | i + 1 => run_le (run_le (d_P_le h i))
theorem m_wf_cg {h h' : AH} (e : ∀ k, iH h' 1157 k = iH h 1157 k) (a b : Int) : ∀ k, m_wf h' a b k = m_wf h a b k
  | 0 => rfl
  | k + 1 => by unfold m_wf; rw [m_wf_cg e a b k, e]
theorem d_word_let {h : AH} (ht : 0 ≤ iH h 89 18 ∧ iH h 89 18 ≤ 64) {k : Nat} (hk : k ≤ d_n h) : m_let h k (d_we h k) := by
  have h1 : d_we h k ≤ d_n h := run_le hk
  refine ⟨by omega, by unfold d_n at *; omega, fun j hj hj2 => ?_⟩
  have := run_in (p := d_le h) (n := d_n h) (k := k) (j := k + j) (by omega) (by show k + j < d_we h k; omega)
  rw [show ((k : Int) + (j : Int)).toNat = k + j by omega]
  exact this
def b_X12_document_0 : List IE := [(.aload_n 0, 1, 0, 0, 0, 0), (.iconst 0, 1, 0, 0, 0, 0), (.putfield 123, 3, 0, 12, 20, 0), (.iconst 0, 1, 0, 0, 0, 0), (.istore_n 1, 1, 0, 0, 1, 0)]
theorem k_X12_document_0 : ckB mX12_document 12 0 b_X12_document_0 7 = true := by decide +kernel
def b_X12_document_7 : List IE := [(.iload_n 1, 1, 0, 0, 1, 0), (.aload_n 0, 1, 0, 0, 0, 0), (.getfield 120, 3, 0, 12, 18, 0)]
theorem k_X12_document_7 : ckIc mX12_document 12 7 b_X12_document_7 12 3 92 104 15 = true := by decide +kernel
def b_X12_document_15 : List IE := [(.aload_n 0, 1, 0, 0, 0, 0), (.getfield 54, 3, 0, 12, 17, 1), (.iload_n 1, 1, 0, 0, 1, 0), (.iaload, 1, 0, 0, 0, 0)]
theorem k_X12_document_15 : ckB mX12_document 12 15 b_X12_document_15 21 = true := by decide +kernel
def b_X12_document_24 : List IE := []
theorem k_X12_document_24 : ckIf mX12_document 12 24 b_X12_document_24 24 0 9 33 27 = true := by decide +kernel
def b_X12_document_27 : List IE := [(.iinc 1 1, 3, 1, 0, 1, 0)]
theorem k_X12_document_27 : ckGo mX12_document 12 27 b_X12_document_27 30 (-23) 7 = true := by decide +kernel
def b_X12_document_33 : List IE := [(.iload_n 1, 1, 0, 0, 1, 0), (.istore_n 2, 1, 0, 0, 2, 0)]
theorem k_X12_document_33 : ckB mX12_document 12 33 b_X12_document_33 35 = true := by decide +kernel
def b_X12_document_35 : List IE := [(.aload_n 0, 1, 0, 0, 0, 0), (.iload_n 1, 1, 0, 0, 1, 0)]
theorem k_X12_document_35 : ckB mX12_document 12 35 b_X12_document_35 37 = true := by decide +kernel
def b_X12_document_40 : List IE := []
theorem k_X12_document_40 : ckB mX12_document 12 40 b_X12_document_40 40 = true := by decide +kernel
def b_X12_document_43 : List IE := []
theorem k_X12_document_43 : ckIf mX12_document 12 43 b_X12_document_43 43 0 9 52 46 = true := by decide +kernel
def b_X12_document_46 : List IE := [(.iinc 1 1, 3, 1, 0, 1, 0)]
theorem k_X12_document_46 : ckGo mX12_document 12 46 b_X12_document_46 49 (-14) 35 = true := by decide +kernel
def b_X12_document_52 : List IE := [(.iload_n 1, 1, 0, 0, 1, 0), (.iload_n 2, 1, 0, 0, 2, 0)]
theorem k_X12_document_52 : ckIc mX12_document 12 52 b_X12_document_52 54 0 20 74 57 = true := by decide +kernel
def b_X12_document_57 : List IE := [(.iload_n 1, 1, 0, 0, 1, 0), (.iload_n 2, 1, 0, 0, 2, 0), (.isub, 1, 0, 0, 0, 0), (.bipush 6, 2, 6, 0, 0, 0)]
theorem k_X12_document_57 : ckIc mX12_document 12 57 b_X12_document_57 62 4 12 74 65 = true := by decide +kernel
def b_X12_document_65 : List IE := [(.aload_n 0, 1, 0, 0, 0, 0), (.getfield 123, 3, 0, 12, 20, 0), (.bipush 12, 2, 12, 0, 0, 0)]
theorem k_X12_document_65 : ckIc mX12_document 12 65 b_X12_document_65 71 1 5 76 74 = true := by decide +kernel
def b_X12_document_74 : List IE := [(.iload_n 2, 1, 0, 0, 2, 0)]
theorem k_X12_document_74 : ckI mX12_document 12 74 b_X12_document_74 75 = true := by decide +kernel
def b_X12_document_76 : List IE := [(.aload_n 0, 1, 0, 0, 0, 0), (.getfield 57, 3, 0, 12, 19, 1), (.aload_n 0, 1, 0, 0, 0, 0), (.getfield 123, 3, 0, 12, 20, 0), (.aload_n 0, 1, 0, 0, 0, 0), (.iload_n 2, 1, 0, 0, 2, 0), (.iload_n 1, 1, 0, 0, 1, 0)]
theorem k_X12_document_76 : ckB mX12_document 12 76 b_X12_document_76 87 = true := by decide +kernel
def b_X12_document_90 : List IE := [(.iastore, 1, 0, 0, 0, 0), (.aload_n 0, 1, 0, 0, 0, 0), (.dup, 1, 0, 0, 0, 0), (.getfield 123, 3, 0, 12, 20, 0), (.iconst 1, 1, 1, 0, 0, 0), (.iadd, 1, 0, 0, 0, 0), (.putfield 123, 3, 0, 12, 20, 0)]
theorem k_X12_document_90 : ckGo mX12_document 12 90 b_X12_document_90 101 (-94) 7 = true := by decide +kernel
def b_X12_document_104 : List IE := [(.aload_n 0, 1, 0, 0, 0, 0), (.getfield 123, 3, 0, 12, 20, 0)]
theorem k_X12_document_104 : ckIf mX12_document 12 104 b_X12_document_104 108 1 10 118 111 = true := by decide +kernel
def b_X12_document_111 : List IE := [(.aload_n 0, 1, 0, 0, 0, 0), (.getfield 120, 3, 0, 12, 18, 0)]
theorem k_X12_document_111 : ckGo mX12_document 12 111 b_X12_document_111 115 4 119 = true := by decide +kernel
def b_X12_document_118 : List IE := [(.iconst (-1), 1, (-1), 0, 0, 0)]
theorem k_X12_document_118 : ckI mX12_document 12 118 b_X12_document_118 119 = true := by decide +kernel
def b_X12_document_119 : List IE := []
theorem k_X12_document_119 : ckI mX12_document 12 119 b_X12_document_119 119 = true := by decide +kernel
theorem s_X12_document_21 : cS mX12_document 21 mX12_isBlank 126 1 := ⟨by decide +kernel, ⟨ml_X12_isBlank, li_RX12_126, st_X12_isBlank⟩, by decide +kernel⟩
theorem s_X12_document_37 : cV mX12_document 37 mX12_byteAt 129 1 12 := ⟨by decide +kernel, ⟨ml_X12_byteAt, li_RX12_129, im_X12_byteAt, se_X12_byteAt⟩, ⟨by decide +kernel, by decide +kernel⟩, by decide +kernel⟩
theorem s_X12_document_40 : cS mX12_document 40 mX12_isLetter 133 1 := ⟨by decide +kernel, ⟨ml_X12_isLetter, li_RX12_133, st_X12_isLetter⟩, by decide +kernel⟩
theorem s_X12_document_87 : cV mX12_document 87 mX12_wordFrom 136 2 12 := ⟨by decide +kernel, ⟨ml_X12_wordFrom, li_RX12_136, im_X12_wordFrom, se_X12_wordFrom⟩, ⟨by decide +kernel, by decide +kernel⟩, by decide +kernel⟩
theorem t_X12_document_0 {rc rs : Nat} {Q : Option AV → AH → Prop} {h : AH}  (hL : LayM h) (hv : wp mX12_document 2 rc rs Q 7 [some (vr 89), some (vi 0), none] [] (sI h 89 20 0)) : wp mX12_document 2 rc rs Q 0 [some (vr 89), none, none] [] h :=
  (show wp mX12_document 2 rc rs Q 0 [some (vr 89), none, none] [] h from xB k_X12_document_0 (And.intro (lm_89 hL) (And.intro rfl hv)))
theorem e_X12_document {mc ms : Nat} {Q : Option AV → AH → Prop} {h : AH}  (hL : LayM h) (hv : wp mX12_document 2 mc ms Q 7 [some (vr 89), some (vi 0), none] [] (sI h 89 20 0)) : Ct 2 mc ms mX12_document [vr 89] h Q := Ct.of (by decide +kernel) (Nat.le_of_ble_eq_true rfl) (t_X12_document_0 hL hv)
theorem t_X12_document_7 {rc rs : Nat} {Q : Option AV → AH → Prop} {h : AH} {x1 : Int} (hL : LayM h) (hv : (((iH h 89 18) ≤ x1 → (((iH h 89 20) ≠ 0 → Q (some (vi (-1))) h) ∧ ((iH h 89 20) = 0 → Q (some (vi (iH h 89 18))) h))) ∧ (x1 < (iH h 89 18) → (0 ≤ x1 ∧ x1 < 64) ∧ ((¬ ((iH h 1157 x1.toNat) = 32 ∨ (iH h 1157 x1.toNat) = 10) → wp mX12_document 2 rc rs Q 35 [some (vr 89), some (vi x1), some (vi x1)] [] h) ∧ (((iH h 1157 x1.toNat) = 32 ∨ (iH h 1157 x1.toNat) = 10) → (-2147483648 ≤ (x1 + 1) ∧ (x1 + 1) < 2147483648) ∧ wp mX12_document 2 rc rs Q 7 [some (vr 89), some (vi (x1 + 1)), none] [] h))))) : wp mX12_document 2 rc rs Q 7 [some (vr 89), some (vi x1), none] [] h :=
  (show wp mX12_document 2 rc rs Q 7 [some (vr 89), some (vi x1), none] [] h from xIc k_X12_document_7 (And.intro (lm_89 hL) (And.intro (fun c1 => have v3 := hv.1 c1; (show wp mX12_document 2 rc rs Q 104 [some (vr 89), some (vi x1), none] [] h from xIf k_X12_document_104 (And.intro (lm_89 hL) (And.intro (fun c5 => have v7 := v3.1 c5; (show wp mX12_document 2 rc rs Q 118 [some (vr 89), some (vi x1), none] [] h from xI k_X12_document_118 (And.intro rfl v7))) (fun c6 => have v8 := v3.2 (Decidable.not_not.mp c6); (show wp mX12_document 2 rc rs Q 111 [some (vr 89), some (vi x1), none] [] h from xGo k_X12_document_111 (And.intro (lm_89 hL) (show wp mX12_document 2 rc rs Q 119 [some (vr 89), some (vi x1), none] [vi (iH h 89 18)] h from xI k_X12_document_119 (And.intro rfl v8))))))))) (fun c2 => have v4 := hv.2 (Int.not_le.mp c2); (show wp mX12_document 2 rc rs Q 15 [some (vr 89), some (vi x1), none] [] h from xcS k_X12_document_15 s_X12_document_21 (And.intro (lm_89 hL) (Exists.intro 1157 (And.intro (lf_89_17 hL) (have c9 := v4.1; have v19 := v4.2; (And.intro (sdI (lm_1157 hL) c9) ((Exists.intro [vi (iH h 1157 x1.toNat)] (Exists.intro [] (And.intro (And.intro rfl (And.intro rfl (Nat.le_of_ble_eq_true rfl))) (Exists.intro 0 (Exists.intro 0 (Exists.intro 0 (Exists.intro _ (And.intro c_isBlank (And.intro (And.intro (by decide) (And.intro (Nat.zero_le _) (Nat.zero_le _))) (eQP (show wp mX12_document 2 rc rs Q 24 [some (vr 89), some (vi x1), none] [vi (b01 ((iH h 1157 x1.toNat) = 32 ∨ (iH h 1157 x1.toNat) = 10))] h from xIf k_X12_document_24 (And.intro (fun c10 => have v12 := v19.1 (b01_n.mp c10); (show wp mX12_document 2 rc rs Q 33 [some (vr 89), some (vi x1), none] [] h from xB k_X12_document_33 (And.intro rfl v12))) (fun c11 => have v13 := v19.2 (b01_p.mp c11); (show wp mX12_document 2 rc rs Q 27 [some (vr 89), some (vi x1), none] [] h from xGo k_X12_document_27 (have c14 := v13.1; have v15 := v13.2; (And.intro c14 (And.intro rfl v15))))))))))))))))))))))))))))
theorem t_X12_document_35 {rc rs : Nat} {Q : Option AV → AH → Prop} {h : AH} {x1 x2 : Int} (hL : LayM h) (hv : (0 ≤ x1 ∧ iH h 89 18 ≤ 64) ∧ ((¬ (97 ≤ (m_byteAt h x1) ∧ (m_byteAt h x1) ≤ 122) → ((x1 = x2 → Q (some (vi x2)) h) ∧ (x1 ≠ x2 → (-2147483648 ≤ (x1 - x2) ∧ (x1 - x2) < 2147483648) ∧ ((6 < (x1 - x2) → Q (some (vi x2)) h) ∧ ((x1 - x2) ≤ 6 → (((iH h 89 20) ≠ 12 → (m_let h x2 x1 ∧ x2 ≤ 64) ∧ (0 ≤ iH h 89 20 ∧ iH h 89 20 < 12) ∧ (-2147483648 ≤ (iH h 89 20 + 1) ∧ (iH h 89 20 + 1) < 2147483648) ∧ wp mX12_document 2 rc rs Q 7 [some (vr 89), some (vi x1), none] [] (sI (sI h 1158 ((iH h 89 20).toNat) (m_wf h x2 x1 6)) 89 20 (iH h 89 20 + 1))) ∧ ((iH h 89 20) = 12 → Q (some (vi x2)) h))))))) ∧ ((97 ≤ (m_byteAt h x1) ∧ (m_byteAt h x1) ≤ 122) → (-2147483648 ≤ (x1 + 1) ∧ (x1 + 1) < 2147483648) ∧ wp mX12_document 2 rc rs Q 35 [some (vr 89), some (vi (x1 + 1)), some (vi x2)] [] h))) : wp mX12_document 2 rc rs Q 35 [some (vr 89), some (vi x1), some (vi x2)] [] h :=
  (show wp mX12_document 2 rc rs Q 35 [some (vr 89), some (vi x1), some (vi x2)] [] h from xcV k_X12_document_35 s_X12_document_37 (have c31 := hv.1; have v32 := hv.2; (Exists.intro [vi x1] (Exists.intro 89 (Exists.intro [] (And.intro (And.intro rfl (And.intro rfl (Nat.le_of_ble_eq_true rfl))) (And.intro (lm_89 hL) (Exists.intro 0 (Exists.intro 0 (Exists.intro 0 (Exists.intro _ (And.intro (c_byteAt (h := h) hL c31) (And.intro (And.intro (by decide) (And.intro (Nat.zero_le _) (Nat.zero_le _))) (eQP (show wp mX12_document 2 rc rs Q 40 [some (vr 89), some (vi x1), some (vi x2)] [vi (m_byteAt h x1)] h from xcS k_X12_document_40 s_X12_document_40 ((Exists.intro [vi (m_byteAt h x1)] (Exists.intro [] (And.intro (And.intro rfl (And.intro rfl (Nat.le_of_ble_eq_true rfl))) (Exists.intro 1 (Exists.intro 0 (Exists.intro 0 (Exists.intro _ (And.intro c_isLetter (And.intro (And.intro (by decide) (And.intro (Nat.zero_le _) (Nat.zero_le _))) (eQP (show wp mX12_document 2 rc rs Q 43 [some (vr 89), some (vi x1), some (vi x2)] [vi (b01 (97 ≤ (m_byteAt h x1) ∧ (m_byteAt h x1) ≤ 122))] h from xIf k_X12_document_43 (And.intro (fun c1 => have v3 := v32.1 (b01_n.mp c1); (show wp mX12_document 2 rc rs Q 52 [some (vr 89), some (vi x1), some (vi x2)] [] h from xIc k_X12_document_52 (And.intro (fun c5 => have v7 := v3.1 c5; (show wp mX12_document 2 rc rs Q 74 [some (vr 89), some (vi x1), some (vi x2)] [] h from xI k_X12_document_74 (And.intro rfl v7))) (fun c6 => have v8 := v3.2 c6; (show wp mX12_document 2 rc rs Q 57 [some (vr 89), some (vi x1), some (vi x2)] [] h from xIc k_X12_document_57 (have c9 := v8.1; have v25 := v8.2; (And.intro c9 (And.intro (fun c10 => have v12 := v25.1 c10; (show wp mX12_document 2 rc rs Q 74 [some (vr 89), some (vi x1), some (vi x2)] [] h from xI k_X12_document_74 (And.intro rfl v12))) (fun c11 => have v13 := v25.2 (Int.not_lt.mp c11); (show wp mX12_document 2 rc rs Q 65 [some (vr 89), some (vi x1), some (vi x2)] [] h from xIc k_X12_document_65 (And.intro (lm_89 hL) (And.intro (fun c14 => have v16 := v13.1 c14; (show wp mX12_document 2 rc rs Q 76 [some (vr 89), some (vi x1), some (vi x2)] [] h from xcV k_X12_document_76 s_X12_document_87 (And.intro (lm_89 hL) (Exists.intro 1158 (And.intro (lf_89_19 hL) (And.intro (lm_89 hL) (have c22 := v16.1; have v23 := v16.2; (Exists.intro [vi x2, vi x1] (Exists.intro 89 (Exists.intro [vi (iH h 89 20), vr 1158] (And.intro (And.intro rfl (And.intro rfl (Nat.le_of_ble_eq_true rfl))) (And.intro (lm_89 hL) (Exists.intro 0 (Exists.intro 0 (Exists.intro 0 (Exists.intro _ (And.intro (c_wordFrom (h := h) hL c22) (And.intro (And.intro (by decide) (And.intro (Nat.zero_le _) (Nat.zero_le _))) (eQP (show wp mX12_document 2 rc rs Q 90 [some (vr 89), some (vi x1), some (vi x2)] [vi (m_wf h x2 x1 6), vi (iH h 89 20), vr 1158] h from xGo k_X12_document_90 (have c18 := v23.1; have v21 := v23.2; (And.intro (sdI (lm_1158 hL) c18) (And.intro rfl (And.intro (lm_89 hL) (have c19 := v21.1; have v20 := v21.2; (And.intro c19 (And.intro (lm_89 hL) (w_fg [true, true, false] v20)))))))))))))))))))))))))))) (fun c15 => have v17 := v13.2 (Decidable.not_not.mp c15); (show wp mX12_document 2 rc rs Q 74 [some (vr 89), some (vi x1), some (vi x2)] [] h from xI k_X12_document_74 (And.intro rfl v17))))))))))))))) (fun c2 => have v4 := v32.2 (b01_p.mp c2); (show wp mX12_document 2 rc rs Q 46 [some (vr 89), some (vi x1), some (vi x2)] [] h from xGo k_X12_document_46 (have c26 := v4.1; have v27 := v4.2; (And.intro c26 (And.intro rfl v27)))))))))))))))))))))))))))))))))
theorem c_document {h : AH} (hL : LayM h) (ht : 0 ≤ iH h 89 18 ∧ iH h 89 18 ≤ 64) : Ct 2 0 0 mX12_document [vr 89] h (QI fun x h' => x = d_fault h ∧ h' = m_docH h) := by
  obtain ⟨hm12, hst, hns⟩ := d_m_cs h
  have hn : (d_n h : Int) = iH h 89 18 := by unfold d_n; omega
  have hn64 : d_n h ≤ 64 := by omega
  have rT : ∀ i k, iH (d_H h i) 1157 k = iH h 1157 k := fun i k => by unfold d_H; rw [rI_ne (by decide), rW_ne (by decide)]
  have rN : ∀ i, iH (d_H h i) 89 18 = iH h 89 18 := fun i => by unfold d_H; rw [rI_nk (by decide), rW_ne (by decide)]
  have rM : ∀ i : Nat, iH (d_H h i) 89 20 = (i : Int) := fun i => rI_same
  have hLi : ∀ i, LayM (d_H h i) := fun i => by exact hL
  have bA : ∀ i k : Nat, k ≤ d_n h → (m_byteAt (d_H h i) k = if k < d_n h then iH h 1157 k else -1) := fun i k hk => by
    unfold m_byteAt
    rw [rN, rT, ← hn]
    by_cases q : k < d_n h
    · rw [if_pos q, if_pos (by omega)]; rfl
    · rw [if_neg q, if_neg (by omega)]
  have eH0 : sI h 89 20 0 = d_H h 0 := by unfold d_H; rw [sW_id fun k => by unfold d_NW; rw [if_neg (by omega)]]; rfl
  refine e_X12_document hL ?_
  rw [eH0]
  -- letters, one by one
  have lets : ∀ (i a : Nat) (Q : Option AV → AH → Prop), a ≤ d_n h → wp mX12_document 2 0 0 Q 35 [some (vr 89), some (vi (d_we h a)), some (vi a)] [] (d_H h i) → ∀ f e : Nat, d_n h - e ≤ f → a ≤ e → e ≤ d_we h a → wp mX12_document 2 0 0 Q 35 [some (vr 89), some (vi e), some (vi a)] [] (d_H h i) := by
    intro i a Q ha hw f
    induction f with
    | zero =>
      intro e he h1 h2
      have h3 : d_we h a ≤ d_n h := run_le ha
      have : e = d_we h a := by omega
      rw [this]; exact hw
    | succ f ih =>
      intro e he h1 h2
      have h3 : d_we h a ≤ d_n h := run_le ha
      by_cases q : e = d_we h a
      · rw [q]; exact hw
      · have hl : d_le h e := run_in (k := a) h1 (by show e < d_we h a; omega)
        have hb : m_byteAt (d_H h i) e = iH h 1157 e := by rw [bA i e (by omega), if_pos (by omega)]
        refine t_X12_document_35 (hLi i) ⟨by rw [rN]; omega, fun c => ?_, fun c => ⟨by omega, ?_⟩⟩
        · rw [hb] at c; exact absurd hl c
        · exact ih (e + 1) (by omega) (by omega) (by omega)
  -- blanks, one by one
  have blks : ∀ (i : Nat) (Q : Option AV → AH → Prop), wp mX12_document 2 0 0 Q 7 [some (vr 89), some (vi (d_P h i)), none] [] (d_H h i) → ∀ f k : Nat, d_n h - k ≤ f → k ≤ d_n h → d_sk h k = d_P h i → wp mX12_document 2 0 0 Q 7 [some (vr 89), some (vi k), none] [] (d_H h i) := by
    intro i Q hw f
    induction f with
    | zero =>
      intro k hk h1 h2
      rw [← h2, show d_sk h k = k from run_e (by omega)] at hw
      exact hw
    | succ f ih =>
      intro k hk h1 h2
      by_cases q : k < d_n h
      · by_cases q2 : d_bl h k
        · have h3 : d_sk h (k + 1) = d_P h i := by rw [← h2]; exact (run_y q q2).symm
          refine t_X12_document_7 (hLi i) ⟨fun c => absurd c (by rw [rN]; omega), fun c => ⟨by omega, fun c2 => absurd ?_ c2, fun c2 => ⟨by omega, ih (k + 1) (by omega) (by omega) h3⟩⟩⟩
          rw [rT]; exact q2
        · rw [← h2, show d_sk h k = k from run_n q2] at hw
          exact hw
      · rw [← h2, show d_sk h k = k from run_e (by omega)] at hw
        exact hw
  have main := up (P := fun i => wp mX12_document 2 0 0 (QI fun x h' => x = d_fault h ∧ h' = m_docH h) 7 [some (vr 89), some (vi (d_P h i)), none] [] (d_H h i)) (d_m h) ?_ ?_
  · exact blks 0 _ main (d_n h) 0 (by omega) (by omega) rfl
  · have hP := d_P_le h (d_m h)
    have hnb : d_P h (d_m h) < d_n h → ¬ d_bl h (d_P h (d_m h)) := fun q => by
      have : ∀ i, d_P h i < d_n h → ¬ d_bl h (d_P h i) := fun i q => by cases i <;> exact run_no q
      exact this _ q
    refine t_X12_document_7 (hLi _) ⟨fun c => ?_, fun c => ⟨by rw [rN] at c; omega, fun c2 => ?_, fun c2 => absurd c2 ?_⟩⟩
    · rw [rN] at c
      rw [rM, rN]
      have q : d_n h ≤ d_P h (d_m h) := by omega
      refine ⟨fun c2 => ⟨_, rfl, ?_, rfl⟩, fun c2 => ⟨_, rfl, ?_, rfl⟩⟩
      · unfold d_fault; rw [if_pos q, if_neg (by omega)]
      · unfold d_fault; rw [if_pos q, if_pos (by omega), hn]
    · rw [rN] at c
      have hq : d_P h (d_m h) < d_n h := by omega
      refine lets (d_m h) (d_P h (d_m h)) _ hP ?_ (d_n h) _ (by omega) (Nat.le_refl _) (run_ge _ _ _)
      have hw1 : d_P h (d_m h) ≤ d_we h (d_P h (d_m h)) := run_ge _ _ _
      have hw2 : d_we h (d_P h (d_m h)) ≤ d_n h := run_le hP
      have fin : QI (fun x h' => x = d_fault h ∧ h' = m_docH h) (some (vi (d_P h (d_m h) : Int))) (d_H h (d_m h)) := ⟨_, rfl, by unfold d_fault; rw [if_neg (by omega)], rfl⟩
      refine t_X12_document_35 (hLi _) ⟨by rw [rN]; omega, fun _ => ⟨fun _ => fin, fun d0 => ⟨by omega, fun _ => fin, fun d1 => ⟨fun d2 => ?_, fun _ => fin⟩⟩⟩, fun d0 => ?_⟩
      · rw [rM] at d2
        rcases hst with q | q | q | q <;> omega
      · rw [bA _ _ hw2] at d0
        by_cases q : d_we h (d_P h (d_m h)) < d_n h
        · rw [if_pos q] at d0
          exact absurd d0 (run_no q)
        · rw [if_neg q] at d0; omega
    · rw [rN] at c
      have := hnb (by omega)
      rw [rT]; exact this
  · intro i hi ih
    have hns' := hns i hi
    have hP := d_P_le h i
    have q0 : d_P h i < d_n h := by
      by_cases q : d_P h i < d_n h
      · exact q
      · exact absurd (Or.inl (by omega)) hns'
    have q1 : d_we h (d_P h i) ≠ d_P h i := fun q => hns' (Or.inr (Or.inl q))
    have q2 : d_we h (d_P h i) ≤ d_P h i + 6 := by
      by_cases q : d_P h i + 6 < d_we h (d_P h i)
      · exact absurd (Or.inr (Or.inr (Or.inl q))) hns'
      · omega
    have q3 : i ≠ 12 := fun q => hns' (Or.inr (Or.inr (Or.inr q)))
    have hnb : ¬ d_bl h (d_P h i) := by
      have : ∀ i, d_P h i < d_n h → ¬ d_bl h (d_P h i) := fun i q => by cases i <;> exact run_no q
      exact this _ q0
    have hw1 : d_P h i ≤ d_we h (d_P h i) := run_ge _ _ _
    have hw2 : d_we h (d_P h i) ≤ d_n h := run_le hP
    refine t_X12_document_7 (hLi _) ⟨fun c => absurd c (by rw [rN]; omega), fun c => ⟨by omega, fun c2 => ?_, fun c2 => absurd c2 (by rw [rT]; exact hnb)⟩⟩
    refine lets i (d_P h i) _ hP ?_ (d_n h) _ (by omega) (Nat.le_refl _) hw1
    refine t_X12_document_35 (hLi _) ⟨by rw [rN]; omega, fun _ => ⟨fun d0 => by omega, fun d0 => ⟨by omega, fun d1 => by omega, fun d1 => ⟨fun d2 => ?_, fun d2 => ?_⟩⟩⟩, fun d0 => ?_⟩
    · rw [rM] at d2 ⊢
      have hlet := d_word_let ht hP
      refine ⟨⟨⟨hlet.1, hlet.2.1, fun j h1 h2 => by rw [rT]; exact hlet.2.2 j h1 h2⟩, by omega⟩, by omega, by omega, ?_⟩
      rw [m_wf_cg (rT i)]
      have e1 : sI (sI (d_H h i) 1158 ((i : Int)).toNat (m_wf h (d_P h i) (d_we h (d_P h i)) 6)) 89 20 ((i : Int) + 1) = d_H h (i + 1) := by
        unfold d_H
        rw [sI_sI_ne (b := 1158) (by decide), sI_sI, sI_sW (g' := d_NW h (i + 1)) (fun j => by
          unfold d_NW
          by_cases e : j = i
          · subst e
            rw [if_pos (by omega), if_pos (show j = ((j : Int)).toNat from rfl)]; rfl
          · rw [show ((i : Int)).toNat = i from rfl, if_neg e]
            by_cases e2 : j < i
            · rw [if_pos (by omega), if_pos e2]
            · rw [if_neg (by omega), if_neg e2])]
        rfl
      rw [e1]
      exact blks (i + 1) _ ih (d_n h) _ (by omega) hw2 rfl
    · rw [rM] at d2; omega
    · rw [bA _ _ hw2] at d0
      by_cases q : d_we h (d_P h i) < d_n h
      · rw [if_pos q] at d0
        exact absurd d0 (run_no q)
      · rw [if_neg q] at d0; omega
def b_X12_add_0 : List IE := [(.iload_n 1, 1, 0, 0, 1, 0)]
theorem k_X12_add_0 : ckB mX12_add 12 0 b_X12_add_0 1 = true := by decide +kernel
def b_X12_add_4 : List IE := []
theorem k_X12_add_4 : ckIf mX12_add 12 4 b_X12_add_4 4 1 6 10 7 = true := by decide +kernel
def b_X12_add_7 : List IE := [(.bipush (-2), 2, (-2), 0, 0, 0)]
theorem k_X12_add_7 : ckI mX12_add 12 7 b_X12_add_7 9 = true := by decide +kernel
def b_X12_add_10 : List IE := [(.aload_n 0, 1, 0, 0, 0, 0), (.getfield 140, 3, 0, 12, 15, 0), (.iconst 4, 1, 4, 0, 0, 0)]
theorem k_X12_add_10 : ckIc mX12_add 12 10 b_X12_add_10 15 1 15 30 18 = true := by decide +kernel
def b_X12_add_18 : List IE := [(.aload_n 0, 1, 0, 0, 0, 0), (.iload_n 1, 1, 0, 0, 1, 0)]
theorem k_X12_add_18 : ckB mX12_add 12 18 b_X12_add_18 20 = true := by decide +kernel
def b_X12_add_23 : List IE := [(.iconst (-1), 1, (-1), 0, 0, 0)]
theorem k_X12_add_23 : ckIc mX12_add 12 23 b_X12_add_23 24 1 6 30 27 = true := by decide +kernel
def b_X12_add_27 : List IE := [(.bipush (-4), 2, (-4), 0, 0, 0)]
theorem k_X12_add_27 : ckI mX12_add 12 27 b_X12_add_27 29 = true := by decide +kernel
def b_X12_add_30 : List IE := [(.aload_n 0, 1, 0, 0, 0, 0)]
theorem k_X12_add_30 : ckB mX12_add 12 30 b_X12_add_30 31 = true := by decide +kernel
def b_X12_add_34 : List IE := [(.istore_n 2, 1, 0, 0, 2, 0), (.aload_n 0, 1, 0, 0, 0, 0), (.iconst 0, 1, 0, 0, 0, 0), (.putfield 120, 3, 0, 12, 18, 0), (.iload_n 2, 1, 0, 0, 2, 0)]
theorem k_X12_add_34 : ckIf mX12_add 12 34 b_X12_add_34 41 2 8 49 44 = true := by decide +kernel
def b_X12_add_44 : List IE := [(.bipush (-100), 2, (-100), 0, 0, 0), (.iload_n 2, 1, 0, 0, 2, 0), (.isub, 1, 0, 0, 0, 0)]
theorem k_X12_add_44 : ckI mX12_add 12 44 b_X12_add_44 48 = true := by decide +kernel
def b_X12_add_49 : List IE := [(.aload_n 0, 1, 0, 0, 0, 0), (.iload_n 1, 1, 0, 0, 1, 0)]
theorem k_X12_add_49 : ckB mX12_add 12 49 b_X12_add_49 51 = true := by decide +kernel
def b_X12_add_54 : List IE := [(.pop, 1, 0, 0, 0, 0), (.aload_n 0, 1, 0, 0, 0, 0), (.getfield 9, 3, 0, 12, 1, 1), (.aload_n 0, 1, 0, 0, 0, 0), (.getfield 159, 3, 0, 12, 0, 0), (.iload_n 1, 1, 0, 0, 1, 0), (.iastore, 1, 0, 0, 0, 0), (.aload_n 0, 1, 0, 0, 0, 0), (.getfield 13, 3, 0, 12, 2, 1), (.aload_n 0, 1, 0, 0, 0, 0), (.getfield 159, 3, 0, 12, 0, 0), (.aload_n 0, 1, 0, 0, 0, 0), (.getfield 123, 3, 0, 12, 20, 0), (.iastore, 1, 0, 0, 0, 0), (.aload_n 0, 1, 0, 0, 0, 0), (.getfield 57, 3, 0, 12, 19, 1), (.iconst 0, 1, 0, 0, 0, 0), (.aload_n 0, 1, 0, 0, 0, 0), (.getfield 18, 3, 0, 12, 3, 1), (.aload_n 0, 1, 0, 0, 0, 0), (.getfield 159, 3, 0, 12, 0, 0), (.aaload, 1, 0, 0, 0, 0), (.iconst 0, 1, 0, 0, 0, 0), (.aload_n 0, 1, 0, 0, 0, 0), (.getfield 123, 3, 0, 12, 20, 0)]
theorem k_X12_add_54 : ckB mX12_add 12 54 b_X12_add_54 97 = true := by decide +kernel
def b_X12_add_100 : List IE := [(.aload_n 0, 1, 0, 0, 0, 0), (.getfield 51, 3, 0, 12, 16, 1), (.aload_n 0, 1, 0, 0, 0, 0), (.getfield 140, 3, 0, 12, 15, 0), (.aload_n 0, 1, 0, 0, 0, 0), (.getfield 159, 3, 0, 12, 0, 0), (.iastore, 1, 0, 0, 0, 0), (.aload_n 0, 1, 0, 0, 0, 0), (.dup, 1, 0, 0, 0, 0), (.getfield 140, 3, 0, 12, 15, 0), (.iconst 1, 1, 1, 0, 0, 0), (.iadd, 1, 0, 0, 0, 0), (.putfield 140, 3, 0, 12, 15, 0), (.aload_n 0, 1, 0, 0, 0, 0), (.dup, 1, 0, 0, 0, 0), (.getfield 159, 3, 0, 12, 0, 0), (.iconst 1, 1, 1, 0, 0, 0), (.iadd, 1, 0, 0, 0, 0), (.putfield 159, 3, 0, 12, 0, 0), (.aload_n 0, 1, 0, 0, 0, 0), (.getfield 123, 3, 0, 12, 20, 0)]
theorem k_X12_add_100 : ckI mX12_add 12 100 b_X12_add_100 137 = true := by decide +kernel
theorem s_X12_add_1 : cS mX12_add 1 mX12_isKey 143 1 := ⟨by decide +kernel, ⟨ml_X12_isKey, li_RX12_143, st_X12_isKey⟩, by decide +kernel⟩
theorem s_X12_add_20 : cV mX12_add 20 mX12_bufferPlace 146 1 12 := ⟨by decide +kernel, ⟨ml_X12_bufferPlace, li_RX12_146, im_X12_bufferPlace, se_X12_bufferPlace⟩, ⟨by decide +kernel, by decide +kernel⟩, by decide +kernel⟩
theorem s_X12_add_31 : cV mX12_add 31 mX12_document 152 0 12 := ⟨by decide +kernel, ⟨ml_X12_document, li_RX12_152, im_X12_document, se_X12_document⟩, ⟨by decide +kernel, by decide +kernel⟩, by decide +kernel⟩
theorem s_X12_add_51 : cV mX12_add 51 mX12_drop 156 1 12 := ⟨by decide +kernel, ⟨ml_X12_drop, li_RX12_156, im_X12_drop, se_X12_drop⟩, ⟨by decide +kernel, by decide +kernel⟩, by decide +kernel⟩
theorem s_X12_add_97 : cCp mX12_add 97 162 := ⟨by decide +kernel, gt_ok (List.mem_of_getElem? (i := 1193) (by decide +kernel)) (by decide +kernel), gt_ok (List.mem_of_getElem? (i := 456) (by decide +kernel)) (by decide +kernel), gt_ok (List.mem_of_getElem? (i := 455) (by decide +kernel)) (by decide +kernel), gt_ok (List.mem_of_getElem? (i := 102) (by decide +kernel)) (by decide +kernel)⟩
theorem t_X12_add_0 {rc rs : Nat} {Q : Option AV → AH → Prop} {h : AH} {x1 : Int} (hL : LayM h) (hv : (((0 ≤ x1 ∧ x1 ≤ 99) → (((iH h 89 15) ≠ 4 → wp mX12_add 3 rc rs Q 30 [some (vr 89), some (vi x1), none] [] h) ∧ ((iH h 89 15) = 4 → (m_buf h) ∧ (((m_bp h x1) ≠ (-1) → wp mX12_add 3 rc rs Q 30 [some (vr 89), some (vi x1), none] [] h) ∧ ((m_bp h x1) = (-1) → Q (some (vi (-4))) h))))) ∧ (¬ (0 ≤ x1 ∧ x1 ≤ 99) → Q (some (vi (-2))) h))) : wp mX12_add 3 rc rs Q 0 [some (vr 89), some (vi x1), none] [] h :=
  (show wp mX12_add 3 rc rs Q 0 [some (vr 89), some (vi x1), none] [] h from xcS k_X12_add_0 s_X12_add_1 ((Exists.intro [vi x1] (Exists.intro [] (And.intro (And.intro rfl (And.intro rfl (Nat.le_of_ble_eq_true rfl))) (Exists.intro 1 (Exists.intro 0 (Exists.intro 0 (Exists.intro _ (And.intro c_isKey (And.intro (And.intro (by decide) (And.intro (Nat.zero_le _) (Nat.zero_le _))) (eQP (show wp mX12_add 3 rc rs Q 4 [some (vr 89), some (vi x1), none] [vi (b01 (0 ≤ x1 ∧ x1 ≤ 99))] h from xIf k_X12_add_4 (And.intro (fun c1 => have v3 := hv.1 (b01_p.mp c1); (show wp mX12_add 3 rc rs Q 10 [some (vr 89), some (vi x1), none] [] h from xIc k_X12_add_10 (And.intro (lm_89 hL) (And.intro (fun c5 => have v7 := v3.1 c5; v7) (fun c6 => have v8 := v3.2 (Decidable.not_not.mp c6); (show wp mX12_add 3 rc rs Q 18 [some (vr 89), some (vi x1), none] [] h from xcV k_X12_add_18 s_X12_add_20 (have c13 := v8.1; have v14 := v8.2; (Exists.intro [vi x1] (Exists.intro 89 (Exists.intro [] (And.intro (And.intro rfl (And.intro rfl (Nat.le_of_ble_eq_true rfl))) (And.intro (lm_89 hL) (Exists.intro 0 (Exists.intro 0 (Exists.intro 0 (Exists.intro _ (And.intro (c_bufferPlace (h := h) hL c13) (And.intro (And.intro (by decide) (And.intro (Nat.zero_le _) (Nat.zero_le _))) (eQP (show wp mX12_add 3 rc rs Q 23 [some (vr 89), some (vi x1), none] [vi (m_bp h x1)] h from xIc k_X12_add_23 (And.intro (fun c9 => have v11 := v14.1 c9; v11) (fun c10 => have v12 := v14.2 (Decidable.not_not.mp c10); (show wp mX12_add 3 rc rs Q 27 [some (vr 89), some (vi x1), none] [] h from xI k_X12_add_27 (And.intro rfl v12)))))))))))))))))))))))) (fun c2 => have v4 := hv.2 (b01_nn.mp c2); (show wp mX12_add 3 rc rs Q 7 [some (vr 89), some (vi x1), none] [] h from xI k_X12_add_7 (And.intro rfl v4)))))))))))))))))
theorem e_X12_add {mc ms : Nat} {Q : Option AV → AH → Prop} {h : AH} {x1 : Int} (hL : LayM h) (hv : (((0 ≤ x1 ∧ x1 ≤ 99) → (((iH h 89 15) ≠ 4 → wp mX12_add 3 mc ms Q 30 [some (vr 89), some (vi x1), none] [] h) ∧ ((iH h 89 15) = 4 → (m_buf h) ∧ (((m_bp h x1) ≠ (-1) → wp mX12_add 3 mc ms Q 30 [some (vr 89), some (vi x1), none] [] h) ∧ ((m_bp h x1) = (-1) → Q (some (vi (-4))) h))))) ∧ (¬ (0 ≤ x1 ∧ x1 ≤ 99) → Q (some (vi (-2))) h))) : Ct 3 mc ms mX12_add [vr 89, vi x1] h Q := Ct.of (by decide +kernel) (Nat.le_of_ble_eq_true rfl) (t_X12_add_0 hL hv)
theorem t_X12_add_30 {rc rs : Nat} {Q : Option AV → AH → Prop} {h : AH} {x1 : Int} (hL : LayM h) (hv : (0 ≤ iH h 89 18 ∧ iH h 89 18 ≤ 64) ∧ LayM (m_docH h) ∧ (((d_fault h) < 0 → (∃ P11 : Int → AH → Prop, Ct 2 0 0 mX12_drop [vr 89, vi x1] (sI (m_docH h) 89 18 0) (QI P11) ∧ ∀ (r10 : Int) (h9 : AH), (-2147483648 ≤ r10 ∧ r10 < 2147483648) → P11 r10 h9 → LayM h9 ∧ (0 ≤ iH h9 89 0 ∧ iH h9 89 0 < 520) ∧ (0 ≤ (0 : Int) ∧ 0 ≤ (0 : Int) ∧ 0 ≤ iH h9 89 20 ∧ (0 : Int) + iH h9 89 20 ≤ 12 ∧ (0 : Int) + iH h9 89 20 ≤ 12) ∧ (0 ≤ iH (cpI (sI (sI h9 90 ((iH h9 89 0).toNat) x1) 91 ((iH h9 89 0).toNat) (iH h9 89 20)) 1158 0 (93 + (iH h9 89 0).toNat) 0 ((iH h9 89 20).toNat)) 89 15 ∧ iH (cpI (sI (sI h9 90 ((iH h9 89 0).toNat) x1) 91 ((iH h9 89 0).toNat) (iH h9 89 20)) 1158 0 (93 + (iH h9 89 0).toNat) 0 ((iH h9 89 20).toNat)) 89 15 < 4) ∧ (-2147483648 ≤ (iH (cpI (sI (sI h9 90 ((iH h9 89 0).toNat) x1) 91 ((iH h9 89 0).toNat) (iH h9 89 20)) 1158 0 (93 + (iH h9 89 0).toNat) 0 ((iH h9 89 20).toNat)) 89 15 + 1) ∧ (iH (cpI (sI (sI h9 90 ((iH h9 89 0).toNat) x1) 91 ((iH h9 89 0).toNat) (iH h9 89 20)) 1158 0 (93 + (iH h9 89 0).toNat) 0 ((iH h9 89 20).toNat)) 89 15 + 1) < 2147483648) ∧ (-2147483648 ≤ (iH (cpI (sI (sI h9 90 ((iH h9 89 0).toNat) x1) 91 ((iH h9 89 0).toNat) (iH h9 89 20)) 1158 0 (93 + (iH h9 89 0).toNat) 0 ((iH h9 89 20).toNat)) 89 0 + 1) ∧ (iH (cpI (sI (sI h9 90 ((iH h9 89 0).toNat) x1) 91 ((iH h9 89 0).toNat) (iH h9 89 20)) 1158 0 (93 + (iH h9 89 0).toNat) 0 ((iH h9 89 20).toNat)) 89 0 + 1) < 2147483648) ∧ Q (some (vi (iH (cpI (sI (sI h9 90 ((iH h9 89 0).toNat) x1) 91 ((iH h9 89 0).toNat) (iH h9 89 20)) 1158 0 (93 + (iH h9 89 0).toNat) 0 ((iH h9 89 20).toNat)) 89 20))) (sI (sI (sI (cpI (sI (sI h9 90 ((iH h9 89 0).toNat) x1) 91 ((iH h9 89 0).toNat) (iH h9 89 20)) 1158 0 (93 + (iH h9 89 0).toNat) 0 ((iH h9 89 20).toNat)) 1156 ((iH (cpI (sI (sI h9 90 ((iH h9 89 0).toNat) x1) 91 ((iH h9 89 0).toNat) (iH h9 89 20)) 1158 0 (93 + (iH h9 89 0).toNat) 0 ((iH h9 89 20).toNat)) 89 15).toNat) (iH (cpI (sI (sI h9 90 ((iH h9 89 0).toNat) x1) 91 ((iH h9 89 0).toNat) (iH h9 89 20)) 1158 0 (93 + (iH h9 89 0).toNat) 0 ((iH h9 89 20).toNat)) 89 0)) 89 15 (iH (cpI (sI (sI h9 90 ((iH h9 89 0).toNat) x1) 91 ((iH h9 89 0).toNat) (iH h9 89 20)) 1158 0 (93 + (iH h9 89 0).toNat) 0 ((iH h9 89 20).toNat)) 89 15 + 1)) 89 0 (iH (cpI (sI (sI h9 90 ((iH h9 89 0).toNat) x1) 91 ((iH h9 89 0).toNat) (iH h9 89 20)) 1158 0 (93 + (iH h9 89 0).toNat) 0 ((iH h9 89 20).toNat)) 89 0 + 1)))) ∧ (0 ≤ (d_fault h) → (-2147483648 ≤ ((-100) - (d_fault h)) ∧ ((-100) - (d_fault h)) < 2147483648) ∧ Q (some (vi ((-100) - (d_fault h)))) (sI (m_docH h) 89 18 0)))) : wp mX12_add 3 rc rs Q 30 [some (vr 89), some (vi x1), none] [] h :=
  (show wp mX12_add 3 rc rs Q 30 [some (vr 89), some (vi x1), none] [] h from xcV k_X12_add_30 s_X12_add_31 (have c30 := hv.1; have v31 := hv.2; (Exists.intro [] (Exists.intro 89 (Exists.intro [] (And.intro (And.intro rfl (And.intro rfl (Nat.le_of_ble_eq_true rfl))) (And.intro (lm_89 hL) (Exists.intro 2 (Exists.intro 0 (Exists.intro 0 (Exists.intro _ (And.intro (c_document (h := h) hL c30) (And.intro (And.intro (by decide) (And.intro (Nat.zero_le _) (Nat.zero_le _))) (eQP (have hL := v31.1; have v4 := v31.2; (show wp mX12_add 3 rc rs Q 34 [some (vr 89), some (vi x1), none] [vi (d_fault h)] (m_docH h) from xIf k_X12_add_34 (And.intro rfl (And.intro (lm_89 hL) (And.intro (fun c5 => have v7 := v4.1 c5; (show wp mX12_add 3 rc rs Q 49 [some (vr 89), some (vi x1), some (vi (d_fault h))] [] (sI (m_docH h) 89 18 0) from xcV k_X12_add_49 s_X12_add_51 (Exists.elim v7 (fun P11 v24 => (Exists.intro [vi x1] (Exists.intro 89 (Exists.intro [] (And.intro (And.intro rfl (And.intro rfl (Nat.le_of_ble_eq_true rfl))) (And.intro (lm_89 hL) (Exists.intro 2 (Exists.intro 0 (Exists.intro 0 (Exists.intro (QI P11) (And.intro v24.1 (And.intro (And.intro (by decide) (And.intro (Nat.zero_le _) (Nat.zero_le _))) (eQI (fun r10 h9 q27 e26 => have v25 := v24.2 r10 h9 q27 e26; have hL := v25.1; have v25 := v25.2; (show wp mX12_add 3 rc rs Q 54 [some (vr 89), some (vi x1), some (vi (d_fault h))] [vi r10] h9 from xcp k_X12_add_54 s_X12_add_97 (And.intro rfl (And.intro (lm_89 hL) (Exists.intro 90 (And.intro (lf_89_1 hL) (And.intro (lm_89 hL) (have c12 := v25.1; have v23 := v25.2; (And.intro (sdI (lm_90 hL) c12) (And.intro (lm_89 hL) (Exists.intro 91 (And.intro (lf_89_2 hL) (And.intro (lm_89 hL) (And.intro (lm_89 hL) (And.intro (sdI (lm_91 hL) c12) (And.intro (lm_89 hL) (Exists.intro 1158 (And.intro (lf_89_19 hL) (And.intro (lm_89 hL) (Exists.intro 92 (And.intro (lf_89_3 hL) (And.intro (lm_89 hL) (And.intro (sdQ (lm_92 hL) c12) (Exists.intro (93 + (iH h9 89 0).toNat) (And.intro (lr_words hL (tnl c12)) (And.intro (lm_89 hL) (have c21 := v23.1; have v22 := v23.2; Exists.intro _ (Exists.intro _ (Exists.intro 13 (And.intro (lm_1158 hL) (And.intro (lk_words hL (tnl c12)) (And.intro (Or.inl rfl) (And.intro c21 (And.intro (And.intro (Nat.le_of_ble_eq_true rfl) (Nat.le_of_ble_eq_true rfl)) (show wp mX12_add 3 rc rs Q 100 [some (vr 89), some (vi x1), some (vi (d_fault h))] [] (cpI (sI (sI h9 90 ((iH h9 89 0).toNat) x1) 91 ((iH h9 89 0).toNat) (iH h9 89 20)) 1158 0 (93 + (iH h9 89 0).toNat) 0 ((iH h9 89 20).toNat)) from xI k_X12_add_100 (And.intro (lm_89 hL) (Exists.intro 1156 (And.intro (lf_89_16 hL) (And.intro (lm_89 hL) (And.intro (lm_89 hL) (have c15 := v22.1; have v20 := v22.2; (And.intro (sdI (lm_1156 hL) c15) (And.intro rfl (And.intro (lm_89 hL) (have c16 := v20.1; have v19 := v20.2; (And.intro c16 (And.intro (lm_89 hL) (And.intro rfl (And.intro (lm_89 hL) (have c17 := v19.1; have v18 := v19.2; (And.intro c17 (And.intro (lm_89 hL) (And.intro (lm_89 hL) (And.intro rfl v18)))))))))))))))))))))))))))))))))))))))))))))))))))))))))))))))))))))) (fun c6 => have v8 := v4.2 (Int.not_lt.mp c6); (show wp mX12_add 3 rc rs Q 44 [some (vr 89), some (vi x1), some (vi (d_fault h))] [] (sI (m_docH h) 89 18 0) from xI k_X12_add_44 (have c28 := v8.1; have v29 := v8.2; (And.intro c28 (And.intro rfl v29))))))))))))))))))))))))
def m_addH (h : AH) (key : Int) : AH := sI (sI (sI (cpI (sI (sI h 90 (iH h 89 0).toNat key) 91 (iH h 89 0).toNat (iH h 89 20)) 1158 0 (93 + (iH h 89 0).toNat) 0 (iH h 89 20).toNat) 1156 (iH h 89 15).toNat (iH h 89 0)) 89 15 (iH h 89 15 + 1)) 89 0 (iH h 89 0 + 1)
noncomputable def m_add1 (h : AH) : AH := sI (m_docH h) 89 18 0
def p_add (h : AH) (key : Int) (x : Int) (h' : AH) : Prop := (¬ (0 ≤ key ∧ key ≤ 99) ∧ x = -2 ∧ h' = h) ∨ ((0 ≤ key ∧ key ≤ 99) ∧ iH h 89 15 = 4 ∧ m_bp h key = -1 ∧ x = -4 ∧ h' = h) ∨ ((0 ≤ key ∧ key ≤ 99) ∧ ¬ (iH h 89 15 = 4 ∧ m_bp h key = -1) ∧ 0 ≤ d_fault h ∧ x = -100 - d_fault h ∧ h' = m_add1 h) ∨ ((0 ≤ key ∧ key ≤ 99) ∧ ¬ (iH h 89 15 = 4 ∧ m_bp h key = -1) ∧ d_fault h < 0 ∧ x = d_m h ∧ h' = m_addH (m_drop (m_add1 h) key) key)
theorem d_fault_bd {h : AH} (ht : 0 ≤ iH h 89 18 ∧ iH h 89 18 ≤ 64) : -1 ≤ d_fault h ∧ d_fault h ≤ 64 := by
  have h1 := d_P_le h (d_m h)
  have h2 : (d_n h : Int) = iH h 89 18 := by unfold d_n; omega
  unfold d_fault
  split
  · split <;> omega
  · omega
theorem r_doc {h : AH} {a k : Nat} (h1 : a ≠ 1158) (h2 : a ≠ 89) : iH (m_docH h) a k = iH h a k := by
  unfold m_docH d_H; rw [rI_ne h2, rW_ne h1]
theorem r_doc71 {h : AH} {k : Nat} (hk : k ≠ 20) : iH (m_docH h) 89 k = iH h 89 k := by
  unfold m_docH d_H; rw [rI_nk hk, rW_ne (by decide)]
theorem r_add1 {h : AH} {a k : Nat} (h1 : a ≠ 1158) (h2 : a ≠ 89) : iH (m_add1 h) a k = iH h a k := by
  unfold m_add1; rw [rI_ne h2, r_doc h1 h2]
theorem r_add71 {h : AH} {k : Nat} (hk : k ≠ 20) (hk2 : k ≠ 18) : iH (m_add1 h) 89 k = iH h 89 k := by
  unfold m_add1; rw [rI_nk hk2, r_doc71 hk]
theorem m_bp_cg {h h' : AH} {key : Int} (e1 : ∀ k, iH h' 90 k = iH h 90 k) (e2 : ∀ k, iH h' 1156 k = iH h 1156 k) (e3 : iH h' 89 15 = iH h 89 15) : m_bp h' key = m_bp h key := by
  unfold m_bp
  rw [e3]
  refine fst_cg fun k _ => ?_
  unfold m_bufP
  rw [e2, e1]
theorem m_buf_cg {h h' : AH} (hb : m_buf h) (e2 : ∀ k, iH h' 1156 k = iH h 1156 k) (e3 : iH h' 89 15 = iH h 89 15) : m_buf h' := by
  unfold m_buf
  rw [e3]
  exact ⟨hb.1, fun k hk => by rw [e2]; exact hb.2 k hk⟩
theorem m_now_cg {h h' : AH} (hn : m_now h) (e0 : iH h' 89 13 = iH h 89 13) (e2 : ∀ k, iH h' 615 k = iH h 615 k) (e3 : ∀ g k, g < 520 → iH h' (617 + g) k = iH h (617 + g) k) (e4 : ∀ k, iH h' 1155 k = iH h 1155 k) : m_now h' := by
  unfold m_now
  rw [e0]
  exact ⟨hn.1, fun s hs => by rw [e4]; exact m_seg_cg (hn.2 s hs) e2 e3⟩
theorem c_add {h : AH} (hL : LayM h) {key : Int} (ht : 0 ≤ iH h 89 18 ∧ iH h 89 18 ≤ 64) (hb : m_buf h) (hn : m_now h) (hd : 0 ≤ iH h 89 0 ∧ iH h 89 0 < 520) : Ct 3 0 0 mX12_add [vr 89, vi key] h (QI (p_add h key)) := by
  have hf := d_fault_bd ht
  have hb1 := hb.1
  have hdm := (d_m_cs h).1
  have b1 : m_buf (m_add1 h) := m_buf_cg hb (fun k => r_add1 (by decide) (by decide)) (r_add71 (by decide) (by decide))
  have n1 : m_now (m_add1 h) := m_now_cg hn (r_add71 (by decide) (by decide)) (fun k => r_add1 (by decide) (by decide)) (fun g k hg => r_add1 (by omega) (by omega)) (fun k => r_add1 (by decide) (by decide))
  have bp1 : m_bp (m_add1 h) key = m_bp h key := m_bp_cg (fun k => r_add1 (by decide) (by decide)) (fun k => r_add1 (by decide) (by decide)) (r_add71 (by decide) (by decide))
  have main : (0 ≤ key ∧ key ≤ 99) → ¬ (iH h 89 15 = 4 ∧ m_bp h key = -1) → wp mX12_add 3 0 0 (QI (p_add h key)) 30 [some (vr 89), some (vi key), none] [] h := by
    intro hk hbf
    refine t_X12_add_30 hL ⟨ht, by exact hL, fun c => ?_, fun c => ⟨by omega, _, rfl, Or.inr (Or.inr (Or.inl ⟨hk, hbf, c, rfl, rfl⟩))⟩⟩
    refine ⟨_, c_drop (h := m_add1 h) (by exact hL) ⟨b1, n1⟩, fun x h3 _ hx => ?_⟩
    rcases hx with ⟨q, -⟩ | ⟨-, -, rfl⟩
    · exact absurd hk q
    · have r0 : iH (m_drop (m_add1 h) key) 89 0 = iH h 89 0 := by
        unfold m_drop
        split
        · rw [rI_nk (by decide), rW_ne (by decide), r_add71 (by decide) (by decide)]
        · split
          · rw [rI_ne (by decide), r_add71 (by decide) (by decide)]
          · rw [r_add71 (by decide) (by decide)]
      have rm : iH (m_add1 h) 89 20 = d_m h := by unfold m_add1 m_docH d_H; rw [rI_nk (by decide), rI_same]
      have r1 : iH (m_drop (m_add1 h) key) 89 20 = d_m h := by
        unfold m_drop
        split
        · rw [rI_nk (by decide), rW_ne (by decide), rm]
        · split
          · rw [rI_ne (by decide), rm]
          · exact rm
      have r2 : 0 ≤ iH (m_drop (m_add1 h) key) 89 15 ∧ iH (m_drop (m_add1 h) key) 89 15 < 4 := by
        have e := r_add71 (h := h) (k := 15) (by decide) (by decide)
        have q1 := m_bp_bd (key := key) hb
        unfold m_drop
        rw [bp1]
        split
        · rename_i q
          rw [rI_same, e]
          have : 0 < iH h 89 15 := by
            rcases fst_cs (m_bufP h key) (iH h 89 15).toNat with ⟨e, -⟩ | ⟨p, hp, e, -⟩
            · exact absurd e q
            · omega
          omega
        · rename_i q
          have : iH h 89 15 ≠ 4 := fun e => hbf ⟨e, by omega⟩
          split
          · rw [rI_ne (by decide), e]; omega
          · rw [e]; omega
      refine ⟨m_drop_L (by exact hL) key, by rw [r0]; exact hd, by rw [r1]; omega, ?_⟩
      have u1 : ∀ k, k ≠ 20 → iH (cpI (sI (sI (m_drop (m_add1 h) key) 90 (iH (m_drop (m_add1 h) key) 89 0).toNat key) 91 (iH (m_drop (m_add1 h) key) 89 0).toNat (iH (m_drop (m_add1 h) key) 89 20)) 1158 0 (93 + (iH (m_drop (m_add1 h) key) 89 0).toNat) 0 (iH (m_drop (m_add1 h) key) 89 20).toNat) 89 k = iH (m_drop (m_add1 h) key) 89 k := fun k _ => by
        unfold cpI
        rw [rW_ne (by omega), rI_ne (by decide), rI_ne (by decide)]
      have u2 : iH (cpI (sI (sI (m_drop (m_add1 h) key) 90 (iH (m_drop (m_add1 h) key) 89 0).toNat key) 91 (iH (m_drop (m_add1 h) key) 89 0).toNat (iH (m_drop (m_add1 h) key) 89 20)) 1158 0 (93 + (iH (m_drop (m_add1 h) key) 89 0).toNat) 0 (iH (m_drop (m_add1 h) key) 89 20).toNat) 89 20 = iH (m_drop (m_add1 h) key) 89 20 := by
        unfold cpI
        rw [rW_ne (by omega), rI_ne (by decide), rI_ne (by decide)]
      rw [u1 15 (by decide), u1 0 (by decide), u2]
      refine ⟨r2, by omega, by omega, _, rfl, Or.inr (Or.inr (Or.inr ⟨hk, hbf, c, r1, rfl⟩))⟩
  refine e_X12_add hL ⟨fun c => ⟨fun c2 => main c (by omega), fun c2 => ⟨hb, fun c3 => main c (by omega), fun c3 => ⟨_, rfl, Or.inr (Or.inl ⟨c, c2, c3, rfl, rfl⟩)⟩⟩⟩, fun c => ⟨_, rfl, Or.inl ⟨c, rfl, rfl⟩⟩⟩
def b_X12_begin_0 : List IE := [(.aload_n 0, 1, 0, 0, 0, 0), (.getfield 229, 3, 0, 12, 24, 0)]
theorem k_X12_begin_0 : ckIf mX12_begin 12 0 b_X12_begin_0 4 0 6 10 7 = true := by decide +kernel
def b_X12_begin_7 : List IE := [(.bipush (-3), 2, (-3), 0, 0, 0)]
theorem k_X12_begin_7 : ckI mX12_begin 12 7 b_X12_begin_7 9 = true := by decide +kernel
def b_X12_begin_10 : List IE := [(.aload_n 0, 1, 0, 0, 0, 0)]
theorem k_X12_begin_10 : ckB mX12_begin 12 10 b_X12_begin_10 11 = true := by decide +kernel
def b_X12_begin_14 : List IE := [(.istore_n 1, 1, 0, 0, 1, 0), (.iload_n 1, 1, 0, 0, 1, 0), (.iconst (-1), 1, (-1), 0, 0, 0)]
theorem k_X12_begin_14 : ckIc mX12_begin 12 14 b_X12_begin_14 17 1 5 22 20 = true := by decide +kernel
def b_X12_begin_20 : List IE := [(.iconst (-1), 1, (-1), 0, 0, 0)]
theorem k_X12_begin_20 : ckI mX12_begin 12 20 b_X12_begin_20 21 = true := by decide +kernel
def b_X12_begin_22 : List IE := [(.aload_n 0, 1, 0, 0, 0, 0), (.iconst 1, 1, 1, 0, 0, 0), (.putfield 229, 3, 0, 12, 24, 2), (.aload_n 0, 1, 0, 0, 0, 0), (.aload_n 0, 1, 0, 0, 0, 0), (.getfield 48, 3, 0, 12, 14, 1), (.iload_n 1, 1, 0, 0, 1, 0), (.iaload, 1, 0, 0, 0, 0), (.putfield 233, 3, 0, 12, 25, 0), (.aload_n 0, 1, 0, 0, 0, 0), (.aload_n 0, 1, 0, 0, 0, 0)]
theorem k_X12_begin_22 : ckB mX12_begin 12 22 b_X12_begin_22 39 = true := by decide +kernel
def b_X12_begin_42 : List IE := [(.putfield 236, 3, 0, 12, 26, 0), (.aload_n 0, 1, 0, 0, 0, 0), (.iconst 0, 1, 0, 0, 0, 0), (.putfield 239, 3, 0, 12, 27, 0), (.iload_n 1, 1, 0, 0, 1, 0), (.istore_n 2, 1, 0, 0, 2, 0)]
theorem k_X12_begin_42 : ckB mX12_begin 12 42 b_X12_begin_42 52 = true := by decide +kernel
def b_X12_begin_52 : List IE := [(.iload_n 2, 1, 0, 0, 2, 0), (.iload_n 1, 1, 0, 0, 1, 0), (.aload_n 0, 1, 0, 0, 0, 0), (.getfield 236, 3, 0, 12, 26, 0), (.iadd, 1, 0, 0, 0, 0)]
theorem k_X12_begin_52 : ckIc mX12_begin 12 52 b_X12_begin_52 59 3 81 140 62 = true := by decide +kernel
def b_X12_begin_62 : List IE := [(.iconst 0, 1, 0, 0, 0, 0), (.istore_n 3, 1, 0, 0, 3, 0)]
theorem k_X12_begin_62 : ckB mX12_begin 12 62 b_X12_begin_62 64 = true := by decide +kernel
def b_X12_begin_64 : List IE := [(.iload_n 3, 1, 0, 0, 3, 0), (.aload_n 0, 1, 0, 0, 0, 0), (.getfield 28, 3, 0, 12, 7, 1), (.aload_n 0, 1, 0, 0, 0, 0), (.getfield 48, 3, 0, 12, 14, 1), (.iload_n 2, 1, 0, 0, 2, 0), (.iaload, 1, 0, 0, 0, 0), (.iaload, 1, 0, 0, 0, 0)]
theorem k_X12_begin_64 : ckIc mX12_begin 12 64 b_X12_begin_64 76 3 58 134 79 = true := by decide +kernel
def b_X12_begin_79 : List IE := [(.aload_n 0, 1, 0, 0, 0, 0), (.getfield 31, 3, 0, 12, 8, 1), (.aload_n 0, 1, 0, 0, 0, 0), (.getfield 48, 3, 0, 12, 14, 1), (.iload_n 2, 1, 0, 0, 2, 0), (.iaload, 1, 0, 0, 0, 0), (.aaload, 1, 0, 0, 0, 0), (.iload_n 3, 1, 0, 0, 3, 0), (.iaload, 1, 0, 0, 0, 0), (.istore 4, 2, 0, 0, 4, 0), (.aload_n 0, 1, 0, 0, 0, 0), (.getfield 21, 3, 0, 12, 4, 1), (.iload 4, 2, 0, 0, 4, 0), (.baload, 1, 0, 0, 0, 0)]
theorem k_X12_begin_79 : ckIf mX12_begin 12 79 b_X12_begin_79 101 0 6 107 104 = true := by decide +kernel
def b_X12_begin_104 : List IE := []
theorem k_X12_begin_104 : ckGo mX12_begin 12 104 b_X12_begin_104 104 24 128 = true := by decide +kernel
def b_X12_begin_107 : List IE := [(.aload_n 0, 1, 0, 0, 0, 0), (.getfield 64, 3, 0, 12, 28, 1), (.aload_n 0, 1, 0, 0, 0, 0), (.getfield 239, 3, 0, 12, 27, 0), (.iload 4, 2, 0, 0, 4, 0), (.iastore, 1, 0, 0, 0, 0), (.aload_n 0, 1, 0, 0, 0, 0), (.dup, 1, 0, 0, 0, 0), (.getfield 239, 3, 0, 12, 27, 0), (.iconst 1, 1, 1, 0, 0, 0), (.iadd, 1, 0, 0, 0, 0), (.putfield 239, 3, 0, 12, 27, 0), (.iinc 3 1, 3, 1, 0, 3, 0)]
theorem k_X12_begin_107 : ckGo mX12_begin 12 107 b_X12_begin_107 131 (-67) 64 = true := by decide +kernel
def b_X12_begin_128 : List IE := [(.iinc 3 1, 3, 1, 0, 3, 0)]
theorem k_X12_begin_128 : ckGo mX12_begin 12 128 b_X12_begin_128 131 (-67) 64 = true := by decide +kernel
def b_X12_begin_134 : List IE := [(.iinc 2 1, 3, 1, 0, 2, 0)]
theorem k_X12_begin_134 : ckGo mX12_begin 12 134 b_X12_begin_134 137 (-85) 52 = true := by decide +kernel
def b_X12_begin_140 : List IE := [(.aload_n 0, 1, 0, 0, 0, 0), (.getfield 239, 3, 0, 12, 27, 0)]
theorem k_X12_begin_140 : ckI mX12_begin 12 140 b_X12_begin_140 144 = true := by decide +kernel
theorem s_X12_begin_11 : cV mX12_begin 11 mX12_chosen 223 0 12 := ⟨by decide +kernel, ⟨ml_X12_chosen, li_RX12_223, im_X12_chosen, se_X12_chosen⟩, ⟨by decide +kernel, by decide +kernel⟩, by decide +kernel⟩
theorem s_X12_begin_39 : cV mX12_begin 39 mX12_width 217 0 12 := ⟨by decide +kernel, ⟨ml_X12_width, li_RX12_217, im_X12_width, se_X12_width⟩, ⟨by decide +kernel, by decide +kernel⟩, by decide +kernel⟩
theorem t_X12_begin_0 {rc rs : Nat} {Q : Option AV → AH → Prop} {h : AH}  (hL : LayM h) (hv : (((iH h 89 24) = 0 → (m_pol h) ∧ (((m_ch h) ≠ (-1) → (0 ≤ (m_ch h) ∧ (m_ch h) < 8) ∧ wp mX12_begin 5 rc rs Q 52 [some (vr 89), some (vi (m_ch h)), some (vi (m_ch h)), none, none] [] (sI (sI (sI (sI h 89 24 1) 89 25 (iH h 1155 ((m_ch h).toNat))) 89 26 (m_width (sI (sI h 89 24 1) 89 25 (iH h 1155 ((m_ch h).toNat))))) 89 27 0)) ∧ ((m_ch h) = (-1) → Q (some (vi (-1))) h))) ∧ ((iH h 89 24) ≠ 0 → Q (some (vi (-3))) h))) : wp mX12_begin 5 rc rs Q 0 [some (vr 89), none, none, none, none] [] h :=
  (show wp mX12_begin 5 rc rs Q 0 [some (vr 89), none, none, none, none] [] h from xIf k_X12_begin_0 (And.intro (lm_89 hL) (And.intro (fun c1 => have v3 := hv.1 c1; (show wp mX12_begin 5 rc rs Q 10 [some (vr 89), none, none, none, none] [] h from xcV k_X12_begin_10 s_X12_begin_11 (have c14 := v3.1; have v15 := v3.2; (Exists.intro [] (Exists.intro 89 (Exists.intro [] (And.intro (And.intro rfl (And.intro rfl (Nat.le_of_ble_eq_true rfl))) (And.intro (lm_89 hL) (Exists.intro 4 (Exists.intro 0 (Exists.intro 0 (Exists.intro _ (And.intro (c_chosen (h := h) hL c14) (And.intro (And.intro (by decide) (And.intro (Nat.zero_le _) (Nat.zero_le _))) (eQP (show wp mX12_begin 5 rc rs Q 14 [some (vr 89), none, none, none, none] [vi (m_ch h)] h from xIc k_X12_begin_14 (And.intro rfl (And.intro (fun c5 => have v7 := v15.1 c5; (show wp mX12_begin 5 rc rs Q 22 [some (vr 89), some (vi (m_ch h)), none, none, none] [] h from xcV k_X12_begin_22 s_X12_begin_39 (And.intro (lm_89 hL) (And.intro (Or.inr rfl) (And.intro (lm_89 hL) (Exists.intro 1155 (And.intro (lf_89_14 hL) (have c9 := v7.1; have v13 := v7.2; (And.intro (sdI (lm_1155 hL) c9) (And.intro (lm_89 hL) ((Exists.intro [] (Exists.intro 89 (Exists.intro [vr 89] (And.intro (And.intro rfl (And.intro rfl (Nat.le_of_ble_eq_true rfl))) (And.intro (lm_89 hL) (Exists.intro 0 (Exists.intro 0 (Exists.intro 0 (Exists.intro _ (And.intro (c_width (h := (sI (sI h 89 24 1) 89 25 (iH h 1155 ((m_ch h).toNat)))) hL) (And.intro (And.intro (by decide) (And.intro (Nat.zero_le _) (Nat.zero_le _))) (eQP (show wp mX12_begin 5 rc rs Q 42 [some (vr 89), some (vi (m_ch h)), none, none, none] [vi (m_width (sI (sI h 89 24 1) 89 25 (iH h 1155 ((m_ch h).toNat)))), vr 89] (sI (sI h 89 24 1) 89 25 (iH h 1155 ((m_ch h).toNat))) from xB k_X12_begin_42 (And.intro (lm_89 hL) (And.intro (lm_89 hL) (And.intro rfl v13))))))))))))))))))))))))))) (fun c6 => have v8 := v15.2 (Decidable.not_not.mp c6); (show wp mX12_begin 5 rc rs Q 20 [some (vr 89), some (vi (m_ch h)), none, none, none] [] h from xI k_X12_begin_20 (And.intro rfl v8))))))))))))))))))))) (fun c2 => have v4 := hv.2 c2; (show wp mX12_begin 5 rc rs Q 7 [some (vr 89), none, none, none, none] [] h from xI k_X12_begin_7 (And.intro rfl v4))))))
theorem e_X12_begin {mc ms : Nat} {Q : Option AV → AH → Prop} {h : AH}  (hL : LayM h) (hv : (((iH h 89 24) = 0 → (m_pol h) ∧ (((m_ch h) ≠ (-1) → (0 ≤ (m_ch h) ∧ (m_ch h) < 8) ∧ wp mX12_begin 5 mc ms Q 52 [some (vr 89), some (vi (m_ch h)), some (vi (m_ch h)), none, none] [] (sI (sI (sI (sI h 89 24 1) 89 25 (iH h 1155 ((m_ch h).toNat))) 89 26 (m_width (sI (sI h 89 24 1) 89 25 (iH h 1155 ((m_ch h).toNat))))) 89 27 0)) ∧ ((m_ch h) = (-1) → Q (some (vi (-1))) h))) ∧ ((iH h 89 24) ≠ 0 → Q (some (vi (-3))) h))) : Ct 5 mc ms mX12_begin [vr 89] h Q := Ct.of (by decide +kernel) (Nat.le_of_ble_eq_true rfl) (t_X12_begin_0 hL hv)
theorem t_X12_begin_52 {rc rs : Nat} {Q : Option AV → AH → Prop} {h : AH} {x1 x2 : Int} (hL : LayM h) (hv : (-2147483648 ≤ (x1 + iH h 89 26) ∧ (x1 + iH h 89 26) < 2147483648) ∧ (((x1 + iH h 89 26) ≤ x2 → Q (some (vi (iH h 89 27))) h) ∧ (x2 < (x1 + iH h 89 26) → wp mX12_begin 5 rc rs Q 64 [some (vr 89), some (vi x1), some (vi x2), some (vi 0), none] [] h))) : wp mX12_begin 5 rc rs Q 52 [some (vr 89), some (vi x1), some (vi x2), none, none] [] h :=
  (show wp mX12_begin 5 rc rs Q 52 [some (vr 89), some (vi x1), some (vi x2), none, none] [] h from xIc k_X12_begin_52 (And.intro (lm_89 hL) (have c1 := hv.1; have v6 := hv.2; (And.intro c1 (And.intro (fun c2 => have v4 := v6.1 c2; (show wp mX12_begin 5 rc rs Q 140 [some (vr 89), some (vi x1), some (vi x2), none, none] [] h from xI k_X12_begin_140 (And.intro (lm_89 hL) (And.intro rfl v4)))) (fun c3 => have v5 := v6.2 (Int.not_le.mp c3); (show wp mX12_begin 5 rc rs Q 62 [some (vr 89), some (vi x1), some (vi x2), none, none] [] h from xB k_X12_begin_62 (And.intro rfl v5))))))))
theorem t_X12_begin_64 {rc rs : Nat} {Q : Option AV → AH → Prop} {h : AH} {x1 x2 x3 : Int} (hL : LayM h) (hv : (0 ≤ x2 ∧ x2 < 8) ∧ (0 ≤ iH h 1155 x2.toNat ∧ iH h 1155 x2.toNat < 520) ∧ (((iH h 615 ((iH h 1155 x2.toNat).toNat)) ≤ x3 → (-2147483648 ≤ (x2 + 1) ∧ (x2 + 1) < 2147483648) ∧ wp mX12_begin 5 rc rs Q 52 [some (vr 89), some (vi x1), some (vi (x2 + 1)), none, none] [] h) ∧ (x3 < (iH h 615 ((iH h 1155 x2.toNat).toNat)) → (0 ≤ x3 ∧ x3 < 64) ∧ (0 ≤ iH h (617 + (iH h 1155 x2.toNat).toNat) x3.toNat ∧ iH h (617 + (iH h 1155 x2.toNat).toNat) x3.toNat < 520) ∧ (((iH h 613 ((iH h (617 + (iH h 1155 x2.toNat).toNat) x3.toNat).toNat)) = 0 → (0 ≤ iH h 89 27 ∧ iH h 89 27 < 64) ∧ (-2147483648 ≤ (iH h 89 27 + 1) ∧ (iH h 89 27 + 1) < 2147483648) ∧ (-2147483648 ≤ (x3 + 1) ∧ (x3 + 1) < 2147483648) ∧ wp mX12_begin 5 rc rs Q 64 [some (vr 89), some (vi x1), some (vi x2), some (vi (x3 + 1)), none] [] (sI (sI h 1159 ((iH h 89 27).toNat) (iH h (617 + (iH h 1155 x2.toNat).toNat) x3.toNat)) 89 27 (iH h 89 27 + 1))) ∧ ((iH h 613 ((iH h (617 + (iH h 1155 x2.toNat).toNat) x3.toNat).toNat)) ≠ 0 → (-2147483648 ≤ (x3 + 1) ∧ (x3 + 1) < 2147483648) ∧ wp mX12_begin 5 rc rs Q 64 [some (vr 89), some (vi x1), some (vi x2), some (vi (x3 + 1)), none] [] h))))) : wp mX12_begin 5 rc rs Q 64 [some (vr 89), some (vi x1), some (vi x2), some (vi x3), none] [] h :=
  (show wp mX12_begin 5 rc rs Q 64 [some (vr 89), some (vi x1), some (vi x2), some (vi x3), none] [] h from xIc k_X12_begin_64 (And.intro (lm_89 hL) (Exists.intro 615 (And.intro (lf_89_7 hL) (And.intro (lm_89 hL) (Exists.intro 1155 (And.intro (lf_89_14 hL) (have c1 := hv.1; have v28 := hv.2; (And.intro (sdI (lm_1155 hL) c1) (have c2 := v28.1; have v27 := v28.2; (And.intro (sdI (lm_615 hL) c2) (And.intro (fun c3 => have v5 := v27.1 c3; (show wp mX12_begin 5 rc rs Q 134 [some (vr 89), some (vi x1), some (vi x2), some (vi x3), none] [] h from xGo k_X12_begin_134 (have c7 := v5.1; have v8 := v5.2; (And.intro c7 (And.intro rfl (w_fg [true, true, true, false, false] v8)))))) (fun c4 => have v6 := v27.2 (Int.not_le.mp c4); (show wp mX12_begin 5 rc rs Q 79 [some (vr 89), some (vi x1), some (vi x2), some (vi x3), none] [] h from xIf k_X12_begin_79 (And.intro (lm_89 hL) (Exists.intro 616 (And.intro (lf_89_8 hL) (And.intro (lm_89 hL) (Exists.intro 1155 (And.intro (lf_89_14 hL) (And.intro (sdI (lm_1155 hL) c1) (And.intro (sdQ (lm_616 hL) c2) (Exists.intro (617 + (iH h 1155 x2.toNat).toNat) (And.intro (lr_members hL (tnl c2)) (have c11 := v6.1; have v26 := v6.2; (And.intro (sdI (lk_members hL (tnl c2)) c11) (And.intro rfl (And.intro (lm_89 hL) (Exists.intro 613 (And.intro (lf_89_4 hL) (have c12 := v26.1; have v25 := v26.2; (And.intro (sdZ (lm_613 hL) c12) (And.intro (fun c13 => have v15 := v25.1 c13; (show wp mX12_begin 5 rc rs Q 107 [some (vr 89), some (vi x1), some (vi x2), some (vi x3), some (vi (iH h (617 + (iH h 1155 x2.toNat).toNat) x3.toNat))] [] h from xGo k_X12_begin_107 (And.intro (lm_89 hL) (Exists.intro 1159 (And.intro (lf_89_28 hL) (And.intro (lm_89 hL) (have c17 := v15.1; have v22 := v15.2; (And.intro (sdI (lm_1159 hL) c17) (And.intro rfl (And.intro (lm_89 hL) (have c18 := v22.1; have v21 := v22.2; (And.intro c18 (And.intro (lm_89 hL) (have c19 := v21.1; have v20 := v21.2; (And.intro c19 (And.intro rfl (w_fg [true, true, true, true, false] v20))))))))))))))))) (fun c14 => have v16 := v25.2 c14; (show wp mX12_begin 5 rc rs Q 104 [some (vr 89), some (vi x1), some (vi x2), some (vi x3), some (vi (iH h (617 + (iH h 1155 x2.toNat).toNat) x3.toNat))] [] h from xGo k_X12_begin_104 (show wp mX12_begin 5 rc rs Q 128 [some (vr 89), some (vi x1), some (vi x2), some (vi x3), some (vi (iH h (617 + (iH h 1155 x2.toNat).toNat) x3.toNat))] [] h from xGo k_X12_begin_128 (have c23 := v16.1; have v24 := v16.2; (And.intro c23 (And.intro rfl (w_fg [true, true, true, true, false] v24))))))))))))))))))))))))))))))))))))))))
def b_X12_finish_0 : List IE := [(.aload_n 0, 1, 0, 0, 0, 0), (.getfield 229, 3, 0, 12, 24, 0)]
theorem k_X12_finish_0 : ckIf mX12_finish 12 0 b_X12_finish_0 4 1 6 10 7 = true := by decide +kernel
def b_X12_finish_7 : List IE := [(.bipush (-3), 2, (-3), 0, 0, 0)]
theorem k_X12_finish_7 : ckI mX12_finish 12 7 b_X12_finish_7 9 = true := by decide +kernel
def b_X12_finish_10 : List IE := [(.aload_n 0, 1, 0, 0, 0, 0), (.iconst 0, 1, 0, 0, 0, 0), (.putfield 229, 3, 0, 12, 24, 2), (.iconst 0, 1, 0, 0, 0, 0), (.istore_n 1, 1, 0, 0, 1, 0)]
theorem k_X12_finish_10 : ckB mX12_finish 12 10 b_X12_finish_10 17 = true := by decide +kernel
def b_X12_finish_17 : List IE := [(.aload_n 0, 1, 0, 0, 0, 0), (.getfield 48, 3, 0, 12, 14, 1), (.iload_n 1, 1, 0, 0, 1, 0), (.iaload, 1, 0, 0, 0, 0), (.aload_n 0, 1, 0, 0, 0, 0), (.getfield 233, 3, 0, 12, 25, 0)]
theorem k_X12_finish_17 : ckIc mX12_finish 12 17 b_X12_finish_17 27 0 9 36 30 = true := by decide +kernel
def b_X12_finish_30 : List IE := [(.iinc 1 1, 3, 1, 0, 1, 0)]
theorem k_X12_finish_30 : ckGo mX12_finish 12 30 b_X12_finish_30 33 (-16) 17 = true := by decide +kernel
def b_X12_finish_36 : List IE := [(.aload_n 0, 1, 0, 0, 0, 0), (.getfield 236, 3, 0, 12, 26, 0), (.istore_n 2, 1, 0, 0, 2, 0), (.iconst 0, 1, 0, 0, 0, 0), (.istore_n 3, 1, 0, 0, 3, 0), (.aload_n 0, 1, 0, 0, 0, 0), (.getfield 239, 3, 0, 12, 27, 0)]
theorem k_X12_finish_36 : ckIf mX12_finish 12 36 b_X12_finish_36 47 5 62 109 50 = true := by decide +kernel
def b_X12_finish_50 : List IE := [(.aload_n 0, 1, 0, 0, 0, 0)]
theorem k_X12_finish_50 : ckB mX12_finish 12 50 b_X12_finish_50 51 = true := by decide +kernel
def b_X12_finish_54 : List IE := [(.istore 4, 2, 0, 0, 4, 0), (.iconst 0, 1, 0, 0, 0, 0), (.istore 5, 2, 0, 0, 5, 0)]
theorem k_X12_finish_54 : ckB mX12_finish 12 54 b_X12_finish_54 59 = true := by decide +kernel
def b_X12_finish_59 : List IE := [(.iload 5, 2, 0, 0, 5, 0), (.aload_n 0, 1, 0, 0, 0, 0), (.getfield 239, 3, 0, 12, 27, 0)]
theorem k_X12_finish_59 : ckIc mX12_finish 12 59 b_X12_finish_59 65 3 22 87 68 = true := by decide +kernel
def b_X12_finish_68 : List IE := [(.aload_n 0, 1, 0, 0, 0, 0), (.iload 4, 2, 0, 0, 4, 0), (.aload_n 0, 1, 0, 0, 0, 0), (.getfield 64, 3, 0, 12, 28, 1), (.iload 5, 2, 0, 0, 5, 0), (.iaload, 1, 0, 0, 0, 0)]
theorem k_X12_finish_68 : ckB mX12_finish 12 68 b_X12_finish_68 78 = true := by decide +kernel
def b_X12_finish_81 : List IE := [(.iinc 5 1, 3, 1, 0, 5, 0)]
theorem k_X12_finish_81 : ckGo mX12_finish 12 81 b_X12_finish_81 84 (-25) 59 = true := by decide +kernel
def b_X12_finish_87 : List IE := [(.aload_n 0, 1, 0, 0, 0, 0), (.getfield 48, 3, 0, 12, 14, 1), (.iload_n 1, 1, 0, 0, 1, 0), (.iload 4, 2, 0, 0, 4, 0), (.iastore, 1, 0, 0, 0, 0), (.iinc 1 1, 3, 1, 0, 1, 0), (.iinc 2 (-1), 3, (-1), 0, 2, 0), (.aload_n 0, 1, 0, 0, 0, 0), (.getfield 25, 3, 0, 12, 6, 1), (.iload 4, 2, 0, 0, 4, 0), (.iaload, 1, 0, 0, 0, 0), (.istore_n 3, 1, 0, 0, 3, 0), (.iload_n 1, 1, 0, 0, 1, 0), (.iload_n 2, 1, 0, 0, 2, 0), (.iadd, 1, 0, 0, 0, 0), (.istore 4, 2, 0, 0, 4, 0)]
theorem k_X12_finish_87 : ckB mX12_finish 12 87 b_X12_finish_87 114 = true := by decide +kernel
def b_X12_finish_109 : List IE := [(.iload_n 1, 1, 0, 0, 1, 0), (.iload_n 2, 1, 0, 0, 2, 0), (.iadd, 1, 0, 0, 0, 0), (.istore 4, 2, 0, 0, 4, 0)]
theorem k_X12_finish_109 : ckB mX12_finish 12 109 b_X12_finish_109 114 = true := by decide +kernel
def b_X12_finish_114 : List IE := [(.iload 4, 2, 0, 0, 4, 0), (.aload_n 0, 1, 0, 0, 0, 0), (.getfield 106, 3, 0, 12, 13, 0)]
theorem k_X12_finish_114 : ckIc mX12_finish 12 114 b_X12_finish_114 120 3 25 145 123 = true := by decide +kernel
def b_X12_finish_123 : List IE := [(.aload_n 0, 1, 0, 0, 0, 0), (.getfield 48, 3, 0, 12, 14, 1), (.iload 4, 2, 0, 0, 4, 0), (.iload_n 2, 1, 0, 0, 2, 0), (.isub, 1, 0, 0, 0, 0), (.aload_n 0, 1, 0, 0, 0, 0), (.getfield 48, 3, 0, 12, 14, 1), (.iload 4, 2, 0, 0, 4, 0), (.iaload, 1, 0, 0, 0, 0), (.iastore, 1, 0, 0, 0, 0), (.iinc 4 1, 3, 1, 0, 4, 0)]
theorem k_X12_finish_123 : ckGo mX12_finish 12 123 b_X12_finish_123 142 (-28) 114 = true := by decide +kernel
def b_X12_finish_145 : List IE := [(.aload_n 0, 1, 0, 0, 0, 0), (.dup, 1, 0, 0, 0, 0), (.getfield 106, 3, 0, 12, 13, 0), (.iload_n 2, 1, 0, 0, 2, 0), (.isub, 1, 0, 0, 0, 0), (.putfield 106, 3, 0, 12, 13, 0), (.iload_n 3, 1, 0, 0, 3, 0)]
theorem k_X12_finish_145 : ckI mX12_finish 12 145 b_X12_finish_145 156 = true := by decide +kernel
theorem s_X12_finish_51 : cV mX12_finish 51 mX12_newSegment 174 0 12 := ⟨by decide +kernel, ⟨ml_X12_newSegment, li_RX12_174, im_X12_newSegment, se_X12_newSegment⟩, ⟨by decide +kernel, by decide +kernel⟩, by decide +kernel⟩
theorem s_X12_finish_78 : cV mX12_finish 78 mX12_joins 177 2 12 := ⟨by decide +kernel, ⟨ml_X12_joins, li_RX12_177, im_X12_joins, se_X12_joins⟩, ⟨by decide +kernel, by decide +kernel⟩, by decide +kernel⟩
theorem t_X12_finish_0 {rc rs : Nat} {Q : Option AV → AH → Prop} {h : AH}  (hL : LayM h) (hv : (((iH h 89 24) ≠ 0 → wp mX12_finish 1 rc rs Q 17 [some (vr 89), some (vi 0), none, none, none, none] [] (sI h 89 24 0)) ∧ ((iH h 89 24) = 0 → Q (some (vi (-3))) h))) : wp mX12_finish 1 rc rs Q 0 [some (vr 89), none, none, none, none, none] [] h :=
  (show wp mX12_finish 1 rc rs Q 0 [some (vr 89), none, none, none, none, none] [] h from xIf k_X12_finish_0 (And.intro (lm_89 hL) (And.intro (fun c1 => have v3 := hv.1 c1; (show wp mX12_finish 1 rc rs Q 10 [some (vr 89), none, none, none, none, none] [] h from xB k_X12_finish_10 (And.intro (lm_89 hL) (And.intro (Or.inl rfl) (And.intro rfl v3))))) (fun c2 => have v4 := hv.2 (Decidable.not_not.mp c2); (show wp mX12_finish 1 rc rs Q 7 [some (vr 89), none, none, none, none, none] [] h from xI k_X12_finish_7 (And.intro rfl v4))))))
theorem e_X12_finish {mc ms : Nat} {Q : Option AV → AH → Prop} {h : AH}  (hL : LayM h) (hv : (((iH h 89 24) ≠ 0 → wp mX12_finish 1 mc ms Q 17 [some (vr 89), some (vi 0), none, none, none, none] [] (sI h 89 24 0)) ∧ ((iH h 89 24) = 0 → Q (some (vi (-3))) h))) : Ct 1 mc ms mX12_finish [vr 89] h Q := Ct.of (by decide +kernel) (Nat.le_of_ble_eq_true rfl) (t_X12_finish_0 hL hv)
theorem t_X12_finish_17 {rc rs : Nat} {Q : Option AV → AH → Prop} {h : AH} {x1 : Int} (hL : LayM h) (hv : (0 ≤ x1 ∧ x1 < 8) ∧ (((iH h 1155 x1.toNat) = (iH h 89 25) → (((iH h 89 27) ≤ 0 → (-2147483648 ≤ (x1 + iH h 89 26) ∧ (x1 + iH h 89 26) < 2147483648) ∧ wp mX12_finish 1 rc rs Q 114 [some (vr 89), none, some (vi (iH h 89 26)), some (vi 0), some (vi (x1 + iH h 89 26)), none] [] h) ∧ (0 < (iH h 89 27) → (0 ≤ iH h 89 5 ∧ iH h 89 5 < 520) ∧ LayM (m_nseg h) ∧ wp mX12_finish 1 rc rs Q 59 [some (vr 89), some (vi x1), some (vi (iH h 89 26)), none, some (vi (iH h 89 5)), some (vi 0)] [] (m_nseg h)))) ∧ ((iH h 1155 x1.toNat) ≠ (iH h 89 25) → (-2147483648 ≤ (x1 + 1) ∧ (x1 + 1) < 2147483648) ∧ wp mX12_finish 1 rc rs Q 17 [some (vr 89), some (vi (x1 + 1)), none, none, none, none] [] h))) : wp mX12_finish 1 rc rs Q 17 [some (vr 89), some (vi x1), none, none, none, none] [] h :=
  (show wp mX12_finish 1 rc rs Q 17 [some (vr 89), some (vi x1), none, none, none, none] [] h from xIc k_X12_finish_17 (And.intro (lm_89 hL) (Exists.intro 1155 (And.intro (lf_89_14 hL) (have c1 := hv.1; have v20 := hv.2; (And.intro (sdI (lm_1155 hL) c1) (And.intro (lm_89 hL) (And.intro (fun c2 => have v4 := v20.1 c2; (show wp mX12_finish 1 rc rs Q 36 [some (vr 89), some (vi x1), none, none, none, none] [] h from xIf k_X12_finish_36 (And.intro (lm_89 hL) (And.intro rfl (And.intro rfl (And.intro (lm_89 hL) (And.intro (fun c6 => have v8 := v4.1 c6; (show wp mX12_finish 1 rc rs Q 109 [some (vr 89), some (vi x1), some (vi (iH h 89 26)), some (vi 0), none, none] [] h from xB k_X12_finish_109 (have c10 := v8.1; have v11 := v8.2; (And.intro c10 (And.intro rfl (w_fg [true, false, true, true, true, false] v11)))))) (fun c7 => have v9 := v4.2 (Int.not_le.mp c7); (show wp mX12_finish 1 rc rs Q 50 [some (vr 89), some (vi x1), some (vi (iH h 89 26)), some (vi 0), none, none] [] h from xcV k_X12_finish_50 s_X12_finish_51 (have c16 := v9.1; have v17 := v9.2; (Exists.intro [] (Exists.intro 89 (Exists.intro [] (And.intro (And.intro rfl (And.intro rfl (Nat.le_of_ble_eq_true rfl))) (And.intro (lm_89 hL) (Exists.intro 0 (Exists.intro 0 (Exists.intro 0 (Exists.intro _ (And.intro (c_newSegment (h := h) hL c16) (And.intro (And.intro (by decide) (And.intro (Nat.zero_le _) (Nat.zero_le _))) (eQP (have hL := v17.1; have v15 := v17.2; (show wp mX12_finish 1 rc rs Q 54 [some (vr 89), some (vi x1), some (vi (iH h 89 26)), some (vi 0), none, none] [vi (iH h 89 5)] (m_nseg h) from xB k_X12_finish_54 (And.intro rfl (And.intro rfl (w_fg [true, true, true, false, true, true] v15))))))))))))))))))))))))))) (fun c3 => have v5 := v20.2 c3; (show wp mX12_finish 1 rc rs Q 30 [some (vr 89), some (vi x1), none, none, none, none] [] h from xGo k_X12_finish_30 (have c18 := v5.1; have v19 := v5.2; (And.intro c18 (And.intro rfl v19)))))))))))))
theorem t_X12_finish_59 {rc rs : Nat} {Q : Option AV → AH → Prop} {h : AH} {x1 x2 x4 x5 : Int} (hL : LayM h) (hv : (((iH h 89 27) ≤ x5 → (0 ≤ x1 ∧ x1 < 8) ∧ (-2147483648 ≤ (x1 + 1) ∧ (x1 + 1) < 2147483648) ∧ (-2147483648 ≤ (x2 + (-1)) ∧ (x2 + (-1)) < 2147483648) ∧ (0 ≤ x4 ∧ x4 < 520) ∧ (-2147483648 ≤ ((x1 + 1) + (x2 + (-1))) ∧ ((x1 + 1) + (x2 + (-1))) < 2147483648) ∧ wp mX12_finish 1 rc rs Q 114 [some (vr 89), none, some (vi (x2 + (-1))), some (vi (iH h 614 x4.toNat)), some (vi ((x1 + 1) + (x2 + (-1)))), none] [] (sI h 1155 x1.toNat x4)) ∧ (x5 < (iH h 89 27) → (0 ≤ x5 ∧ x5 < 64) ∧ ((0 ≤ x4 ∧ x4 < 520) ∧ (0 ≤ iH h 615 (x4).toNat ∧ iH h 615 (x4).toNat < 64)) ∧ LayM (m_join h x4 (iH h 1159 x5.toNat)) ∧ (-2147483648 ≤ (x5 + 1) ∧ (x5 + 1) < 2147483648) ∧ wp mX12_finish 1 rc rs Q 59 [some (vr 89), some (vi x1), some (vi x2), none, some (vi x4), some (vi (x5 + 1))] [] (m_join h x4 (iH h 1159 x5.toNat))))) : wp mX12_finish 1 rc rs Q 59 [some (vr 89), some (vi x1), some (vi x2), none, some (vi x4), some (vi x5)] [] h :=
  (show wp mX12_finish 1 rc rs Q 59 [some (vr 89), some (vi x1), some (vi x2), none, some (vi x4), some (vi x5)] [] h from xIc k_X12_finish_59 (And.intro (lm_89 hL) (And.intro (fun c1 => have v3 := hv.1 c1; (show wp mX12_finish 1 rc rs Q 87 [some (vr 89), some (vi x1), some (vi x2), none, some (vi x4), some (vi x5)] [] h from xB k_X12_finish_87 (And.intro (lm_89 hL) (Exists.intro 1155 (And.intro (lf_89_14 hL) (have c5 := v3.1; have v14 := v3.2; (And.intro (sdI (lm_1155 hL) c5) (have c6 := v14.1; have v13 := v14.2; (And.intro c6 (And.intro rfl (have c7 := v13.1; have v12 := v13.2; (And.intro c7 (And.intro rfl (And.intro (lm_89 hL) (Exists.intro 614 (And.intro (lf_89_6 hL) (have c8 := v12.1; have v11 := v12.2; (And.intro (sdI (lm_614 hL) c8) (And.intro rfl (have c9 := v11.1; have v10 := v11.2; (And.intro c9 (And.intro rfl (w_fg [true, false, true, true, true, false] v10))))))))))))))))))))))) (fun c2 => have v4 := hv.2 (Int.not_le.mp c2); (show wp mX12_finish 1 rc rs Q 68 [some (vr 89), some (vi x1), some (vi x2), none, some (vi x4), some (vi x5)] [] h from xcV k_X12_finish_68 s_X12_finish_78 (And.intro (lm_89 hL) (Exists.intro 1159 (And.intro (lf_89_28 hL) (have c15 := v4.1; have v24 := v4.2; (And.intro (sdI (lm_1159 hL) c15) (have c22 := v24.1; have v23 := v24.2; (Exists.intro [vi x4, vi (iH h 1159 x5.toNat)] (Exists.intro 89 (Exists.intro [] (And.intro (And.intro rfl (And.intro rfl (Nat.le_of_ble_eq_true rfl))) (And.intro (lm_89 hL) (Exists.intro 0 (Exists.intro 0 (Exists.intro 0 (Exists.intro _ (And.intro (c_joins (h := h) hL c22) (And.intro (And.intro (by decide) (And.intro (Nat.zero_le _) (Nat.zero_le _))) (eQPV (have hL := v23.1; have v19 := v23.2; (show wp mX12_finish 1 rc rs Q 81 [some (vr 89), some (vi x1), some (vi x2), none, some (vi x4), some (vi x5)] [] (m_join h x4 (iH h 1159 x5.toNat)) from xGo k_X12_finish_81 (have c20 := v19.1; have v21 := v19.2; (And.intro c20 (And.intro rfl v21))))))))))))))))))))))))))))
theorem t_X12_finish_114 {rc rs : Nat} {Q : Option AV → AH → Prop} {h : AH} {x2 x3 x4 : Int} (hL : LayM h) (hv : (((iH h 89 13) ≤ x4 → (-2147483648 ≤ (iH h 89 13 - x2) ∧ (iH h 89 13 - x2) < 2147483648) ∧ Q (some (vi x3)) (sI h 89 13 (iH h 89 13 - x2))) ∧ (x4 < (iH h 89 13) → (-2147483648 ≤ (x4 - x2) ∧ (x4 - x2) < 2147483648) ∧ (0 ≤ x4 ∧ x4 < 8) ∧ (0 ≤ (x4 - x2) ∧ (x4 - x2) < 8) ∧ (-2147483648 ≤ (x4 + 1) ∧ (x4 + 1) < 2147483648) ∧ wp mX12_finish 1 rc rs Q 114 [some (vr 89), none, some (vi x2), some (vi x3), some (vi (x4 + 1)), none] [] (sI h 1155 ((x4 - x2).toNat) (iH h 1155 x4.toNat))))) : wp mX12_finish 1 rc rs Q 114 [some (vr 89), none, some (vi x2), some (vi x3), some (vi x4), none] [] h :=
  (show wp mX12_finish 1 rc rs Q 114 [some (vr 89), none, some (vi x2), some (vi x3), some (vi x4), none] [] h from xIc k_X12_finish_114 (And.intro (lm_89 hL) (And.intro (fun c1 => have v3 := hv.1 c1; (show wp mX12_finish 1 rc rs Q 145 [some (vr 89), none, some (vi x2), some (vi x3), some (vi x4), none] [] h from xI k_X12_finish_145 (And.intro rfl (And.intro (lm_89 hL) (have c5 := v3.1; have v6 := v3.2; (And.intro c5 (And.intro (lm_89 hL) (And.intro rfl v6)))))))) (fun c2 => have v4 := hv.2 (Int.not_le.mp c2); (show wp mX12_finish 1 rc rs Q 123 [some (vr 89), none, some (vi x2), some (vi x3), some (vi x4), none] [] h from xGo k_X12_finish_123 (And.intro (lm_89 hL) (Exists.intro 1155 (And.intro (lf_89_14 hL) (have c7 := v4.1; have v14 := v4.2; (And.intro c7 (And.intro (lm_89 hL) (Exists.intro 1155 (And.intro (lf_89_14 hL) (have c8 := v14.1; have v13 := v14.2; (And.intro (sdI (lm_1155 hL) c8) (have c9 := v13.1; have v12 := v13.2; (And.intro (sdI (lm_1155 hL) c9) (have c10 := v12.1; have v11 := v12.2; (And.intro c10 (And.intro rfl v11))))))))))))))))))))
def b_X12_crash_0 : List IE := [(.aload_n 0, 1, 0, 0, 0, 0), (.aload_n 0, 1, 0, 0, 0, 0), (.getfield 37, 3, 0, 12, 10, 1), (.iconst 5, 1, 5, 0, 0, 0), (.iaload, 1, 0, 0, 0, 0), (.putfield 106, 3, 0, 12, 13, 0), (.iconst 0, 1, 0, 0, 0, 0), (.istore_n 1, 1, 0, 0, 1, 0), (.iconst 0, 1, 0, 0, 0, 0), (.istore_n 2, 1, 0, 0, 2, 0)]
theorem k_X12_crash_0 : ckB mX12_crash 12 0 b_X12_crash_0 14 = true := by decide +kernel
def b_X12_crash_14 : List IE := [(.iload_n 2, 1, 0, 0, 2, 0), (.aload_n 0, 1, 0, 0, 0, 0), (.getfield 106, 3, 0, 12, 13, 0)]
theorem k_X12_crash_14 : ckIc mX12_crash 12 14 b_X12_crash_14 19 3 70 89 22 = true := by decide +kernel
def b_X12_crash_22 : List IE := [(.aload_n 0, 1, 0, 0, 0, 0), (.getfield 40, 3, 0, 12, 11, 1), (.iconst 5, 1, 5, 0, 0, 0), (.aaload, 1, 0, 0, 0, 0), (.iload_n 2, 1, 0, 0, 2, 0), (.iaload, 1, 0, 0, 0, 0), (.istore_n 3, 1, 0, 0, 3, 0), (.aload_n 0, 1, 0, 0, 0, 0), (.getfield 48, 3, 0, 12, 14, 1), (.iload_n 2, 1, 0, 0, 2, 0), (.iload_n 3, 1, 0, 0, 3, 0), (.iastore, 1, 0, 0, 0, 0), (.iconst 0, 1, 0, 0, 0, 0), (.istore 4, 2, 0, 0, 4, 0)]
theorem k_X12_crash_22 : ckB mX12_crash 12 22 b_X12_crash_22 41 = true := by decide +kernel
def b_X12_crash_41 : List IE := [(.iload 4, 2, 0, 0, 4, 0), (.aload_n 0, 1, 0, 0, 0, 0), (.getfield 28, 3, 0, 12, 7, 1), (.iload_n 3, 1, 0, 0, 3, 0), (.iaload, 1, 0, 0, 0, 0)]
theorem k_X12_crash_41 : ckIc mX12_crash 12 41 b_X12_crash_41 49 3 34 83 52 = true := by decide +kernel
def b_X12_crash_52 : List IE := [(.aload_n 0, 1, 0, 0, 0, 0), (.getfield 21, 3, 0, 12, 4, 1), (.aload_n 0, 1, 0, 0, 0, 0), (.getfield 31, 3, 0, 12, 8, 1), (.iload_n 3, 1, 0, 0, 3, 0), (.aaload, 1, 0, 0, 0, 0), (.iload 4, 2, 0, 0, 4, 0), (.iaload, 1, 0, 0, 0, 0), (.aload_n 0, 1, 0, 0, 0, 0), (.getfield 45, 3, 0, 12, 12, 1), (.iconst 5, 1, 5, 0, 0, 0), (.aaload, 1, 0, 0, 0, 0), (.iload_n 1, 1, 0, 0, 1, 0), (.baload, 1, 0, 0, 0, 0), (.bastore, 1, 0, 0, 0, 0), (.iinc 1 1, 3, 1, 0, 1, 0), (.iinc 4 1, 3, 1, 0, 4, 0)]
theorem k_X12_crash_52 : ckGo mX12_crash 12 52 b_X12_crash_52 80 (-39) 41 = true := by decide +kernel
def b_X12_crash_83 : List IE := [(.iinc 2 1, 3, 1, 0, 2, 0)]
theorem k_X12_crash_83 : ckGo mX12_crash 12 83 b_X12_crash_83 86 (-72) 14 = true := by decide +kernel
def b_X12_crash_89 : List IE := [(.aload_n 0, 1, 0, 0, 0, 0), (.iconst 0, 1, 0, 0, 0, 0), (.putfield 140, 3, 0, 12, 15, 0), (.aload_n 0, 1, 0, 0, 0, 0), (.iconst 0, 1, 0, 0, 0, 0), (.putfield 229, 3, 0, 12, 24, 2), (.iconst 0, 1, 0, 0, 0, 0), (.istore_n 2, 1, 0, 0, 2, 0)]
theorem k_X12_crash_89 : ckB mX12_crash 12 89 b_X12_crash_89 101 = true := by decide +kernel
def b_X12_crash_101 : List IE := [(.iload_n 2, 1, 0, 0, 2, 0), (.iconst 4, 1, 4, 0, 0, 0)]
theorem k_X12_crash_101 : ckIc mX12_crash 12 101 b_X12_crash_101 103 4 16 119 106 = true := by decide +kernel
def b_X12_crash_106 : List IE := [(.aload_n 0, 1, 0, 0, 0, 0), (.getfield 34, 3, 0, 12, 9, 1), (.iload_n 2, 1, 0, 0, 2, 0), (.iconst 0, 1, 0, 0, 0, 0), (.bastore, 1, 0, 0, 0, 0), (.iinc 2 1, 3, 1, 0, 2, 0)]
theorem k_X12_crash_106 : ckGo mX12_crash 12 106 b_X12_crash_106 116 (-15) 101 = true := by decide +kernel
def b_X12_crash_119 : List IE := [(.aload_n 0, 1, 0, 0, 0, 0), (.getfield 106, 3, 0, 12, 13, 0)]
theorem k_X12_crash_119 : ckI mX12_crash 12 119 b_X12_crash_119 123 = true := by decide +kernel
theorem t_X12_crash_0 {rc rs : Nat} {Q : Option AV → AH → Prop} {h : AH}  (hL : LayM h) (hv : wp mX12_crash 0 rc rs Q 14 [some (vr 89), some (vi 0), some (vi 0), none, none] [] (sI h 89 13 (iH h 1138 5))) : wp mX12_crash 0 rc rs Q 0 [some (vr 89), none, none, none, none] [] h :=
  (show wp mX12_crash 0 rc rs Q 0 [some (vr 89), none, none, none, none] [] h from xB k_X12_crash_0 (And.intro (lm_89 hL) (Exists.intro 1138 (And.intro (lf_89_10 hL) (And.intro (sdI (lm_1138 hL) (by decide)) (And.intro (lm_89 hL) (And.intro rfl (And.intro rfl hv))))))))
theorem e_X12_crash {mc ms : Nat} {Q : Option AV → AH → Prop} {h : AH}  (hL : LayM h) (hv : wp mX12_crash 0 mc ms Q 14 [some (vr 89), some (vi 0), some (vi 0), none, none] [] (sI h 89 13 (iH h 1138 5))) : Ct 0 mc ms mX12_crash [vr 89] h Q := Ct.of (by decide +kernel) (Nat.le_of_ble_eq_true rfl) (t_X12_crash_0 hL hv)
theorem t_X12_crash_14 {rc rs : Nat} {Q : Option AV → AH → Prop} {h : AH} {x1 x2 : Int} (hL : LayM h) (hv : (((iH h 89 13) ≤ x2 → wp mX12_crash 0 rc rs Q 101 [some (vr 89), none, some (vi 0), none, none] [] (sI (sI h 89 15 0) 89 24 0)) ∧ (x2 < (iH h 89 13) → (0 ≤ x2 ∧ x2 < 8) ∧ wp mX12_crash 0 rc rs Q 41 [some (vr 89), some (vi x1), some (vi x2), some (vi (iH h 1145 x2.toNat)), some (vi 0)] [] (sI h 1155 x2.toNat (iH h 1145 x2.toNat))))) : wp mX12_crash 0 rc rs Q 14 [some (vr 89), some (vi x1), some (vi x2), none, none] [] h :=
  (show wp mX12_crash 0 rc rs Q 14 [some (vr 89), some (vi x1), some (vi x2), none, none] [] h from xIc k_X12_crash_14 (And.intro (lm_89 hL) (And.intro (fun c1 => have v3 := hv.1 c1; (show wp mX12_crash 0 rc rs Q 89 [some (vr 89), some (vi x1), some (vi x2), none, none] [] h from xB k_X12_crash_89 (And.intro (lm_89 hL) (And.intro (lm_89 hL) (And.intro (Or.inl rfl) (And.intro rfl (w_fg [true, false, true, false, false] v3))))))) (fun c2 => have v4 := hv.2 (Int.not_le.mp c2); (show wp mX12_crash 0 rc rs Q 22 [some (vr 89), some (vi x1), some (vi x2), none, none] [] h from xB k_X12_crash_22 (And.intro (lm_89 hL) (Exists.intro 1139 (And.intro (lf_89_11 hL) (And.intro (sdQ (lm_1139 hL) (by decide)) (Exists.intro 1145 (And.intro (lr_rows hL (i := 5) (by decide)) (have c5 := v4.1; have v7 := v4.2; (And.intro (sdI (lk_rows hL (i := 5) (by decide)) c5) (And.intro rfl (And.intro (lm_89 hL) (Exists.intro 1155 (And.intro (lf_89_14 hL) (And.intro (sdI (lm_1155 hL) c5) (And.intro rfl v7)))))))))))))))))))
theorem t_X12_crash_41 {rc rs : Nat} {Q : Option AV → AH → Prop} {h : AH} {x1 x2 x3 x4 : Int} (hL : LayM h) (hv : (0 ≤ x3 ∧ x3 < 520) ∧ (((iH h 615 x3.toNat) ≤ x4 → (-2147483648 ≤ (x2 + 1) ∧ (x2 + 1) < 2147483648) ∧ wp mX12_crash 0 rc rs Q 14 [some (vr 89), some (vi x1), some (vi (x2 + 1)), none, none] [] h) ∧ (x4 < (iH h 615 x3.toNat) → (0 ≤ x4 ∧ x4 < 64) ∧ (0 ≤ x1 ∧ x1 < 64) ∧ ((0 ≤ iH h (617 + x3.toNat) x4.toNat ∧ iH h (617 + x3.toNat) x4.toNat < 520) ∧ (iH h 1153 x1.toNat = 0 ∨ iH h 1153 x1.toNat = 1)) ∧ (-2147483648 ≤ (x1 + 1) ∧ (x1 + 1) < 2147483648) ∧ (-2147483648 ≤ (x4 + 1) ∧ (x4 + 1) < 2147483648) ∧ wp mX12_crash 0 rc rs Q 41 [some (vr 89), some (vi (x1 + 1)), some (vi x2), some (vi x3), some (vi (x4 + 1))] [] (sI h 613 ((iH h (617 + x3.toNat) x4.toNat).toNat) (iH h 1153 x1.toNat))))) : wp mX12_crash 0 rc rs Q 41 [some (vr 89), some (vi x1), some (vi x2), some (vi x3), some (vi x4)] [] h :=
  (show wp mX12_crash 0 rc rs Q 41 [some (vr 89), some (vi x1), some (vi x2), some (vi x3), some (vi x4)] [] h from xIc k_X12_crash_41 (And.intro (lm_89 hL) (Exists.intro 615 (And.intro (lf_89_7 hL) (have c1 := hv.1; have v19 := hv.2; (And.intro (sdI (lm_615 hL) c1) (And.intro (fun c2 => have v4 := v19.1 c2; (show wp mX12_crash 0 rc rs Q 83 [some (vr 89), some (vi x1), some (vi x2), some (vi x3), some (vi x4)] [] h from xGo k_X12_crash_83 (have c6 := v4.1; have v7 := v4.2; (And.intro c6 (And.intro rfl (w_fg [true, true, true, false, false] v7)))))) (fun c3 => have v5 := v19.2 (Int.not_le.mp c3); (show wp mX12_crash 0 rc rs Q 52 [some (vr 89), some (vi x1), some (vi x2), some (vi x3), some (vi x4)] [] h from xGo k_X12_crash_52 (And.intro (lm_89 hL) (Exists.intro 613 (And.intro (lf_89_4 hL) (And.intro (lm_89 hL) (Exists.intro 616 (And.intro (lf_89_8 hL) (And.intro (sdQ (lm_616 hL) c1) (Exists.intro (617 + x3.toNat) (And.intro (lr_members hL (tnl c1)) (have c9 := v5.1; have v18 := v5.2; (And.intro (sdI (lk_members hL (tnl c1)) c9) (And.intro (lm_89 hL) (Exists.intro 1147 (And.intro (lf_89_12 hL) (And.intro (sdQ (lm_1147 hL) (by decide)) (Exists.intro 1153 (And.intro (lr_wasDropped hL (i := 5) (by decide)) (have c10 := v18.1; have v17 := v18.2; (And.intro (sdZ (lk_wasDropped hL (i := 5) (by decide)) c10) (have c11 := v17.1; have v16 := v17.2; (And.intro (sdZs (lm_613 hL) c11.1 c11.2) (have c12 := v16.1; have v15 := v16.2; (And.intro c12 (And.intro rfl (have c13 := v15.1; have v14 := v15.2; (And.intro c13 (And.intro rfl v14))))))))))))))))))))))))))))))))))))
theorem t_X12_crash_101 {rc rs : Nat} {Q : Option AV → AH → Prop} {h : AH} {x2 : Int} (hL : LayM h) (hv : ((4 < x2 → Q (some (vi (iH h 89 13))) h) ∧ (x2 ≤ 4 → (0 ≤ x2 ∧ x2 < 7) ∧ (-2147483648 ≤ (x2 + 1) ∧ (x2 + 1) < 2147483648) ∧ wp mX12_crash 0 rc rs Q 101 [some (vr 89), none, some (vi (x2 + 1)), none, none] [] (sI h 1137 x2.toNat 0)))) : wp mX12_crash 0 rc rs Q 101 [some (vr 89), none, some (vi x2), none, none] [] h :=
  (show wp mX12_crash 0 rc rs Q 101 [some (vr 89), none, some (vi x2), none, none] [] h from xIc k_X12_crash_101 (And.intro (fun c1 => have v3 := hv.1 c1; (show wp mX12_crash 0 rc rs Q 119 [some (vr 89), none, some (vi x2), none, none] [] h from xI k_X12_crash_119 (And.intro (lm_89 hL) (And.intro rfl v3)))) (fun c2 => have v4 := hv.2 (Int.not_lt.mp c2); (show wp mX12_crash 0 rc rs Q 106 [some (vr 89), none, some (vi x2), none, none] [] h from xGo k_X12_crash_106 (And.intro (lm_89 hL) (Exists.intro 1137 (And.intro (lf_89_9 hL) (have c5 := v4.1; have v8 := v4.2; (And.intro (sdZs (lm_1137 hL) c5 (Or.inl rfl)) (have c6 := v8.1; have v7 := v8.2; (And.intro c6 (And.intro rfl v7))))))))))))
noncomputable def m_bgI (h : AH) (g : Nat) (p : Nat × (Nat → Int)) : Nat → Nat × (Nat → Int)
  | 0 => p
  | k + 1 => if iH h 613 (iH h (617 + g) k).toNat = 0 then ((m_bgI h g p k).1 + 1, fun i => if i = (m_bgI h g p k).1 then iH h (617 + g) k else (m_bgI h g p k).2 i) else m_bgI h g p k
noncomputable def m_bg (h : AH) (c : Nat) : Nat → Nat × (Nat → Int)
  | 0 => (0, iH h 1159)
  | j + 1 => m_bgI h (iH h 1155 (c + j)).toNat (m_bg h c j) (iH h 615 (iH h 1155 (c + j)).toNat).toNat
noncomputable def m_bgB (h : AH) : AH := sI (sI (sI h 89 24 1) 89 25 (iH h 1155 (m_ch h).toNat)) 89 26 (m_width h)
noncomputable def m_bgS (h : AH) (p : Nat × (Nat → Int)) : AH := sI (sW (m_bgB h) 1159 p.2) 89 27 p.1
noncomputable def m_begin (h : AH) : AH := m_bgS h (m_bg h (m_ch h).toNat (m_width h).toNat)
theorem m_bgI_bd (h : AH) (g : Nat) (p : Nat × (Nat → Int)) : ∀ k, p.1 ≤ (m_bgI h g p k).1 ∧ (m_bgI h g p k).1 ≤ p.1 + k
  | 0 => ⟨Nat.le_refl _, Nat.le_refl _⟩
  | k + 1 => by
    have := m_bgI_bd h g p k
    unfold m_bgI
    split
    · dsimp only; omega
    · omega
theorem m_off2 {h : AH} (hn : m_now h) (hh : m_held h ≤ 64) (c : Nat) : ∀ j : Nat, ((c + j : Nat) : Int) ≤ iH h 89 13 → ((m_bg h c j).1 : Int) + m_off h c ≤ m_off h (c + j)
  | 0, _ => by show ((0 : Nat) : Int) + m_off h c ≤ m_off h c; omega
  | j + 1, hj => by
    have ih := m_off2 hn hh c j (by omega)
    have h1 := m_bgI_bd h (iH h 1155 (c + j)).toNat (m_bg h c j) (iH h 615 (iH h 1155 (c + j)).toNat).toNat
    have hl := (hn.2 (c + j) (by omega)).2.1
    have e : m_off h (c + (j + 1)) = m_off h (c + j) + iH h 615 (iH h 1155 (c + j)).toNat := rfl
    show (((m_bgI h (iH h 1155 (c + j)).toNat (m_bg h c j) (iH h 615 (iH h 1155 (c + j)).toNat).toNat).1 : Nat) : Int) + _ ≤ _
    omega
def p_begin (h : AH) (x : Int) (h' : AH) : Prop := (iH h 89 24 ≠ 0 ∧ x = -3 ∧ h' = h) ∨ (iH h 89 24 = 0 ∧ m_ch h = -1 ∧ x = -1 ∧ h' = h) ∨ (iH h 89 24 = 0 ∧ m_ch h ≠ -1 ∧ x = (m_bg h (m_ch h).toNat (m_width h).toNat).1 ∧ h' = m_begin h)
theorem c_begin {h : AH} (hL : LayM h) (hp : m_pol h) (hn : m_now h) (hh : m_held h ≤ 64) : Ct 5 0 0 mX12_begin [vr 89] h (QI (p_begin h)) := by
  refine e_X12_begin hL ⟨fun c => ⟨hp, fun c2 => ?_, fun c2 => ⟨_, rfl, Or.inr (Or.inl ⟨c, c2, rfl, rfl⟩)⟩⟩, fun c => ⟨_, rfl, Or.inl ⟨c, rfl, rfl⟩⟩⟩
  have hc := m_ch_bd (h := h)
  have hc2 := hc.2 c2
  have hw := m_width_bd h
  have h1 := hp.1
  refine ⟨by omega, ?_⟩
  have e0 : sI (sI (sI (sI h 89 24 1) 89 25 (iH h 1155 (m_ch h).toNat)) 89 26 (m_width (sI (sI h 89 24 1) 89 25 (iH h 1155 (m_ch h).toNat)))) 89 27 0 = m_bgS h (m_bg h (m_ch h).toNat 0) := by
    unfold m_bgS
    rw [sW_id (fun k => by
      unfold m_bgB
      rw [rI_ne (by decide), rI_ne (by decide), rI_ne (by decide)]; rfl)]
    rfl
  rw [e0]
  have rd : ∀ (p : Nat × (Nat → Int)) (a k : Nat), a ≠ 89 → a ≠ 1159 → iH (m_bgS h p) a k = iH h a k := fun p a k h1 h2 => by
    unfold m_bgS m_bgB
    rw [rI_ne h1, rW_ne h2, rI_ne h1, rI_ne h1, rI_ne h1]
  have rw1 : ∀ p : Nat × (Nat → Int), iH (m_bgS h p) 89 26 = m_width h := fun p => by
    unfold m_bgS m_bgB
    rw [rI_nk (by decide), rW_ne (by decide), rI_same]
  have rc : ∀ p : Nat × (Nat → Int), iH (m_bgS h p) 89 27 = p.1 := fun p => rI_same
  have e1 : m_ch h = ((m_ch h).toNat : Int) + ((0 : Nat) : Int) := by omega
  have main : wp mX12_begin 5 0 0 (QI (p_begin h)) 52 [some (vr 89), some (vi (m_ch h)), some (vi (((m_ch h).toNat : Int) + ((0 : Nat) : Int))), none, none] [] (m_bgS h (m_bg h (m_ch h).toNat 0)) := by
    refine up (P := fun j => wp mX12_begin 5 _ _ _ 52 [some (vr 89), some (vi (m_ch h)), some (vi (((m_ch h).toNat : Int) + (j : Int))), none, none] [] (m_bgS h (m_bg h (m_ch h).toNat j))) (m_width h).toNat ?_ ?_
    · refine t_X12_begin_52 (by exact hL) ?_
      rw [rw1, rc]
      exact ⟨by omega, fun _ => ⟨_, rfl, Or.inr (Or.inr ⟨c, c2, rfl, rfl⟩)⟩, fun q => absurd q (by omega)⟩
    · intro j hj ih
      refine t_X12_begin_52 (by exact hL) ?_
      rw [rw1]
      refine ⟨by omega, fun q => absurd q (by omega), fun _ => ?_⟩
      have e2 : (((m_ch h).toNat : Int) + (j : Int)).toNat = (m_ch h).toNat + j := by omega
      have hg := hn.2 ((m_ch h).toNat + j) (by omega)
      have hg1 := hg.1
      have hg2 := hg.2.1
      have ho := m_off2 hn hh (m_ch h).toNat j (by omega)
      have ho1 := m_off_le hn (iH h 89 13).toNat ((m_ch h).toNat + j + 1) (by omega) (by omega)
      have ho2 := m_off_le hn (iH h 89 13).toNat (m_ch h).toNat (by omega) (by omega)
      have ho3 : m_off h ((m_ch h).toNat + j + 1) = m_off h ((m_ch h).toNat + j) + iH h 615 (iH h 1155 ((m_ch h).toNat + j)).toNat := rfl
      have ho4 : m_off h (iH h 89 13).toNat = m_held h := rfl
      have main2 := up (P := fun k => wp mX12_begin 5 0 0 (QI (p_begin h)) 64 [some (vr 89), some (vi (m_ch h)), some (vi (((m_ch h).toNat : Int) + (j : Int))), some (vi k), none] [] (m_bgS h (m_bgI h (iH h 1155 ((m_ch h).toNat + j)).toNat (m_bg h (m_ch h).toNat j) k))) (iH h 615 (iH h 1155 ((m_ch h).toNat + j)).toNat).toNat ?_ ?_
      · exact main2
      · refine t_X12_begin_64 (by exact hL) ?_
        rw [e2]
        simp (disch := decide) only [rd]
        refine ⟨by omega, hg1, fun _ => ⟨by omega, ?_⟩, fun q => absurd q (by omega)⟩
        rw [show ((m_ch h).toNat : Int) + (j : Int) + 1 = ((m_ch h).toNat : Int) + ((j + 1 : Nat) : Int) by omega]
        exact ih
      · intro k hk ih2
        have hb := m_bgI_bd h (iH h 1155 ((m_ch h).toNat + j)).toNat (m_bg h (m_ch h).toNat j) k
        have hm := hg.2.2 k (by omega)
        have e3 : m_bgI h (iH h 1155 ((m_ch h).toNat + j)).toNat (m_bg h (m_ch h).toNat j) (k + 1) = (if iH h 613 (iH h (617 + (iH h 1155 ((m_ch h).toNat + j)).toNat) k).toNat = 0 then ((m_bgI h (iH h 1155 ((m_ch h).toNat + j)).toNat (m_bg h (m_ch h).toNat j) k).1 + 1, fun i => if i = (m_bgI h (iH h 1155 ((m_ch h).toNat + j)).toNat (m_bg h (m_ch h).toNat j) k).1 then iH h (617 + (iH h 1155 ((m_ch h).toNat + j)).toNat) k else (m_bgI h (iH h 1155 ((m_ch h).toNat + j)).toNat (m_bg h (m_ch h).toNat j) k).2 i) else m_bgI h (iH h 1155 ((m_ch h).toNat + j)).toNat (m_bg h (m_ch h).toNat j) k) := rfl
        generalize hP : m_bgI h (iH h 1155 ((m_ch h).toNat + j)).toNat (m_bg h (m_ch h).toNat j) k = P at *
        refine t_X12_begin_64 (by exact hL) ?_
        rw [e2]
        simp (disch := omega) only [rd, rc, Int.toNat_natCast]
        refine ⟨by omega, hg1, fun q => absurd q (by omega), fun _ => ⟨by omega, hm, fun q => ⟨by omega, by omega, by omega, ?_⟩, fun q => ⟨by omega, ?_⟩⟩⟩
        · rw [if_pos q] at e3
          rw [e3] at ih2
          unfold m_bgS at ih2 ⊢
          rw [sI_sI_ne (b := 1159) (by decide), sI_sI, sI_sW (g' := fun i => if i = P.1 then iH h (617 + (iH h 1155 ((m_ch h).toNat + j)).toNat) k else P.2 i) (fun _ => rfl)]
          exact ih2
        · rw [if_neg q] at e3
          rw [e3] at ih2
          exact ih2
  rw [← e1] at main
  exact main
