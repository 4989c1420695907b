/-! THE REFERENCE: FIND -/
def b_X12_find_0 : List IE := [(.aload_n 0, 1, 0, 0, 0, 0), (.iconst 0, 1, 0, 0, 0, 0), (.putfield 367, 3, 0, 12, 42, 0), (.aload_n 0, 1, 0, 0, 0, 0), (.iconst 0, 1, 0, 0, 0, 0), (.putfield 370, 3, 0, 12, 43, 0), (.iconst 0, 1, 0, 0, 0, 0), (.istore_n 3, 1, 0, 0, 3, 0), (.iconst 0, 1, 0, 0, 0, 0), (.istore 4, 2, 0, 0, 4, 0)]
theorem k_X12_find_0 : ckB mX12_find 12 0 b_X12_find_0 15 = true := by decide +kernel
def b_X12_find_15 : List IE := [(.iload 4, 2, 0, 0, 4, 0), (.aload_n 0, 1, 0, 0, 0, 0), (.getfield 37, 3, 0, 12, 10, 1), (.iload_n 1, 1, 0, 0, 1, 0), (.iaload, 1, 0, 0, 0, 0)]
theorem k_X12_find_15 : ckIc mX12_find 12 15 b_X12_find_15 23 3 97 120 26 = true := by decide +kernel
def b_X12_find_26 : List IE := [(.aload_n 0, 1, 0, 0, 0, 0), (.getfield 40, 3, 0, 12, 11, 1), (.iload_n 1, 1, 0, 0, 1, 0), (.aaload, 1, 0, 0, 0, 0), (.iload 4, 2, 0, 0, 4, 0), (.iaload, 1, 0, 0, 0, 0), (.istore 5, 2, 0, 0, 5, 0), (.iconst 0, 1, 0, 0, 0, 0), (.istore 6, 2, 0, 0, 6, 0)]
theorem k_X12_find_26 : ckB mX12_find 12 26 b_X12_find_26 40 = true := by decide +kernel
def b_X12_find_40 : List IE := [(.iload 6, 2, 0, 0, 6, 0), (.aload_n 0, 1, 0, 0, 0, 0), (.getfield 28, 3, 0, 12, 7, 1), (.iload 5, 2, 0, 0, 5, 0), (.iaload, 1, 0, 0, 0, 0)]
theorem k_X12_find_40 : ckIc mX12_find 12 40 b_X12_find_40 49 3 65 114 52 = true := by decide +kernel
def b_X12_find_52 : List IE := [(.aload_n 0, 1, 0, 0, 0, 0), (.getfield 45, 3, 0, 12, 12, 1), (.iload_n 1, 1, 0, 0, 1, 0), (.aaload, 1, 0, 0, 0, 0), (.iload_n 3, 1, 0, 0, 3, 0), (.baload, 1, 0, 0, 0, 0)]
theorem k_X12_find_52 : ckIf mX12_find 12 52 b_X12_find_52 60 0 7 67 63 = true := by decide +kernel
def b_X12_find_63 : List IE := [(.iconst 0, 1, 0, 0, 0, 0)]
theorem k_X12_find_63 : ckGo mX12_find 12 63 b_X12_find_63 64 18 82 = true := by decide +kernel
def b_X12_find_67 : List IE := [(.aload_n 0, 1, 0, 0, 0, 0), (.iload_n 2, 1, 0, 0, 2, 0), (.aload_n 0, 1, 0, 0, 0, 0), (.getfield 31, 3, 0, 12, 8, 1), (.iload 5, 2, 0, 0, 5, 0), (.aaload, 1, 0, 0, 0, 0), (.iload 6, 2, 0, 0, 6, 0), (.iaload, 1, 0, 0, 0, 0)]
theorem k_X12_find_67 : ckB mX12_find 12 67 b_X12_find_67 79 = true := by decide +kernel
def b_X12_find_82 : List IE := [(.istore 7, 2, 0, 0, 7, 0), (.iinc 3 1, 3, 1, 0, 3, 0), (.iload 7, 2, 0, 0, 7, 0)]
theorem k_X12_find_82 : ckIf mX12_find 12 82 b_X12_find_82 89 5 19 108 92 = true := by decide +kernel
def b_X12_find_92 : List IE := [(.aload_n 0, 1, 0, 0, 0, 0), (.aload_n 0, 1, 0, 0, 0, 0), (.getfield 31, 3, 0, 12, 8, 1), (.iload 5, 2, 0, 0, 5, 0), (.aaload, 1, 0, 0, 0, 0), (.iload 6, 2, 0, 0, 6, 0), (.iaload, 1, 0, 0, 0, 0), (.iload 7, 2, 0, 0, 7, 0)]
theorem k_X12_find_92 : ckB mX12_find 12 92 b_X12_find_92 105 = true := by decide +kernel
def b_X12_find_108 : List IE := [(.iinc 6 1, 3, 1, 0, 6, 0)]
theorem k_X12_find_108 : ckGo mX12_find 12 108 b_X12_find_108 111 (-71) 40 = true := by decide +kernel
def b_X12_find_114 : List IE := [(.iinc 4 1, 3, 1, 0, 4, 0)]
theorem k_X12_find_114 : ckGo mX12_find 12 114 b_X12_find_114 117 (-102) 15 = true := by decide +kernel
def b_X12_find_120 : List IE := []
theorem k_X12_find_120 : ckV mX12_find 12 120 b_X12_find_120 120 = true := by decide +kernel
theorem s_X12_find_79 : cV mX12_find 79 mX12_worth 373 2 12 := ⟨by decide +kernel, ⟨ml_X12_worth, li_RX12_373, im_X12_worth, se_X12_worth⟩, ⟨by decide +kernel, by decide +kernel⟩, by decide +kernel⟩
theorem s_X12_find_105 : cV mX12_find 105 mX12_comes 376 2 12 := ⟨by decide +kernel, ⟨ml_X12_comes, li_RX12_376, im_X12_comes, se_X12_comes⟩, ⟨by decide +kernel, by decide +kernel⟩, by decide +kernel⟩
theorem t_X12_find_0 {rc rs : Nat} {Q : Option AV → AH → Prop} {h : AH} {x1 x2 : Int} (hL : LayM h) (hv : wp mX12_find 4 rc rs Q 15 [some (vr 89), some (vi x1), some (vi x2), some (vi 0), some (vi 0), none, none, none] [] (sI (sI h 89 42 0) 89 43 0)) : wp mX12_find 4 rc rs Q 0 [some (vr 89), some (vi x1), some (vi x2), none, none, none, none, none] [] h :=
  (show wp mX12_find 4 rc rs Q 0 [some (vr 89), some (vi x1), some (vi x2), none, none, none, none, none] [] h from xB k_X12_find_0 (And.intro (lm_89 hL) (And.intro (lm_89 hL) (And.intro rfl (And.intro rfl hv)))))
theorem e_X12_find {mc ms : Nat} {Q : Option AV → AH → Prop} {h : AH} {x1 x2 : Int} (hL : LayM h) (hv : wp mX12_find 4 mc ms Q 15 [some (vr 89), some (vi x1), some (vi x2), some (vi 0), some (vi 0), none, none, none] [] (sI (sI h 89 42 0) 89 43 0)) : Ct 4 mc ms mX12_find [vr 89, vi x1, vi x2] h Q := Ct.of (by decide +kernel) (Nat.le_of_ble_eq_true rfl) (t_X12_find_0 hL hv)
theorem t_X12_find_15 {rc rs : Nat} {Q : Option AV → AH → Prop} {h : AH} {x1 x2 x3 x4 : Int} (hL : LayM h) (hv : (0 ≤ x1 ∧ x1 < 7) ∧ (((iH h 1138 x1.toNat) ≤ x4 → Q none h) ∧ (x4 < (iH h 1138 x1.toNat) → (0 ≤ x4 ∧ x4 < 8) ∧ wp mX12_find 4 rc rs Q 40 [some (vr 89), some (vi x1), some (vi x2), some (vi x3), some (vi x4), some (vi (iH h (1140 + x1.toNat) x4.toNat)), some (vi 0), none] [] h))) : wp mX12_find 4 rc rs Q 15 [some (vr 89), some (vi x1), some (vi x2), some (vi x3), some (vi x4), none, none, none] [] h :=
  (show wp mX12_find 4 rc rs Q 15 [some (vr 89), some (vi x1), some (vi x2), some (vi x3), some (vi x4), none, none, none] [] h from xIc k_X12_find_15 (And.intro (lm_89 hL) (Exists.intro 1138 (And.intro (lf_89_10 hL) (have c1 := hv.1; have v9 := hv.2; (And.intro (sdI (lm_1138 hL) c1) (And.intro (fun c2 => have v4 := v9.1 c2; (show wp mX12_find 4 rc rs Q 120 [some (vr 89), some (vi x1), some (vi x2), some (vi x3), some (vi x4), none, none, none] [] h from xV k_X12_find_120 (And.intro rfl v4))) (fun c3 => have v5 := v9.2 (Int.not_le.mp c3); (show wp mX12_find 4 rc rs Q 26 [some (vr 89), some (vi x1), some (vi x2), some (vi x3), some (vi x4), none, none, none] [] h from xB k_X12_find_26 (And.intro (lm_89 hL) (Exists.intro 1139 (And.intro (lf_89_11 hL) (And.intro (sdQ (lm_1139 hL) c1) (Exists.intro (1140 + x1.toNat) (And.intro (lr_rows hL (tnl c1)) (have c7 := v5.1; have v8 := v5.2; (And.intro (sdI (lk_rows hL (tnl c1)) c7) (And.intro rfl (And.intro rfl v8)))))))))))))))))))
theorem t_X12_find_40 {rc rs : Nat} {Q : Option AV → AH → Prop} {h : AH} {x1 x2 x3 x4 x5 x6 : Int} (hL : LayM h) (hv : (0 ≤ x5 ∧ x5 < 520) ∧ (((iH h 615 x5.toNat) ≤ x6 → (-2147483648 ≤ (x4 + 1) ∧ (x4 + 1) < 2147483648) ∧ wp mX12_find 4 rc rs Q 15 [some (vr 89), some (vi x1), some (vi x2), some (vi x3), some (vi (x4 + 1)), none, none, none] [] h) ∧ (x6 < (iH h 615 x5.toNat) → (0 ≤ x1 ∧ x1 < 7) ∧ (0 ≤ x3 ∧ x3 < 64) ∧ (((iH h (1148 + x1.toNat) x3.toNat) = 0 → (0 ≤ x6 ∧ x6 < 64) ∧ (∃ P18 : Int → AH → Prop, Ct 3 0 0 mX12_worth [vr 89, vi x2, vi (iH h (617 + x5.toNat) x6.toNat)] h (QI P18) ∧ ∀ (r17 : Int) (h16 : AH), (-2147483648 ≤ r17 ∧ r17 < 2147483648) → P18 r17 h16 → LayM h16 ∧ (-2147483648 ≤ (x3 + 1) ∧ (x3 + 1) < 2147483648) ∧ ((r17 ≤ 0 → (-2147483648 ≤ (x6 + 1) ∧ (x6 + 1) < 2147483648) ∧ wp mX12_find 4 rc rs Q 40 [some (vr 89), some (vi x1), some (vi x2), some (vi (x3 + 1)), some (vi x4), some (vi x5), some (vi (x6 + 1)), none] [] h16) ∧ (0 < r17 → ((0 ≤ iH h16 89 42 ∧ iH h16 89 42 < 64) ∧ (0 ≤ iH h16 89 43 ∧ iH h16 89 43 ≤ 1000000) ∧ (0 ≤ r17 ∧ r17 ≤ 1000)) ∧ LayM (m_comes h16 (iH h16 (617 + x5.toNat) x6.toNat) r17) ∧ (-2147483648 ≤ (x6 + 1) ∧ (x6 + 1) < 2147483648) ∧ wp mX12_find 4 rc rs Q 40 [some (vr 89), some (vi x1), some (vi x2), some (vi (x3 + 1)), some (vi x4), some (vi x5), some (vi (x6 + 1)), none] [] (m_comes h16 (iH h16 (617 + x5.toNat) x6.toNat) r17))))) ∧ ((iH h (1148 + x1.toNat) x3.toNat) ≠ 0 → (-2147483648 ≤ (x3 + 1) ∧ (x3 + 1) < 2147483648) ∧ (-2147483648 ≤ (x6 + 1) ∧ (x6 + 1) < 2147483648) ∧ wp mX12_find 4 rc rs Q 40 [some (vr 89), some (vi x1), some (vi x2), some (vi (x3 + 1)), some (vi x4), some (vi x5), some (vi (x6 + 1)), none] [] h))))) : wp mX12_find 4 rc rs Q 40 [some (vr 89), some (vi x1), some (vi x2), some (vi x3), some (vi x4), some (vi x5), some (vi x6), none] [] h :=
  (show wp mX12_find 4 rc rs Q 40 [some (vr 89), some (vi x1), some (vi x2), some (vi x3), some (vi x4), some (vi x5), some (vi x6), none] [] h from xIc k_X12_find_40 (And.intro (lm_89 hL) (Exists.intro 615 (And.intro (lf_89_7 hL) (have c1 := hv.1; have v48 := hv.2; (And.intro (sdI (lm_615 hL) c1) (And.intro (fun c2 => have v4 := v48.1 c2; (show wp mX12_find 4 rc rs Q 114 [some (vr 89), some (vi x1), some (vi x2), some (vi x3), some (vi x4), some (vi x5), some (vi x6), none] [] h from xGo k_X12_find_114 (have c6 := v4.1; have v7 := v4.2; (And.intro c6 (And.intro rfl (w_fg [true, true, true, true, true, false, false, false] v7)))))) (fun c3 => have v5 := v48.2 (Int.not_le.mp c3); (show wp mX12_find 4 rc rs Q 52 [some (vr 89), some (vi x1), some (vi x2), some (vi x3), some (vi x4), some (vi x5), some (vi x6), none] [] h from xIf k_X12_find_52 (And.intro (lm_89 hL) (Exists.intro 1147 (And.intro (lf_89_12 hL) (have c8 := v5.1; have v47 := v5.2; (And.intro (sdQ (lm_1147 hL) c8) (Exists.intro (1148 + x1.toNat) (And.intro (lr_wasDropped hL (tnl c8)) (have c9 := v47.1; have v46 := v47.2; (And.intro (sdZ (lk_wasDropped hL (tnl c8)) c9) (And.intro (fun c10 => have v12 := v46.1 c10; (show wp mX12_find 4 rc rs Q 67 [some (vr 89), some (vi x1), some (vi x2), some (vi x3), some (vi x4), some (vi x5), some (vi x6), none] [] h from xcV k_X12_find_67 s_X12_find_79 (And.intro (lm_89 hL) (Exists.intro 616 (And.intro (lf_89_8 hL) (And.intro (sdQ (lm_616 hL) c1) (Exists.intro (617 + x5.toNat) (And.intro (lr_members hL (tnl c1)) (have c15 := v12.1; have v41 := v12.2; (And.intro (sdI (lk_members hL (tnl c1)) c15) (Exists.elim v41 (fun P18 v37 => (Exists.intro [vi x2, vi (iH h (617 + x5.toNat) x6.toNat)] (Exists.intro 89 (Exists.intro [] (And.intro (And.intro rfl (And.intro rfl (Nat.le_of_ble_eq_true rfl))) (And.intro (lm_89 hL) (Exists.intro 3 (Exists.intro 0 (Exists.intro 0 (Exists.intro (QI P18) (And.intro v37.1 (And.intro (And.intro (by decide) (And.intro (Nat.zero_le _) (Nat.zero_le _))) (eQI (fun r17 h16 q40 e39 => have v38 := v37.2 r17 h16 q40 e39; have hL := v38.1; have v38 := v38.2; (show wp mX12_find 4 rc rs Q 82 [some (vr 89), some (vi x1), some (vi x2), some (vi x3), some (vi x4), some (vi x5), some (vi x6), none] [vi r17] h16 from xIf k_X12_find_82 (And.intro rfl (have c19 := v38.1; have v36 := v38.2; (And.intro c19 (And.intro rfl (And.intro (fun c20 => have v22 := v36.1 c20; (show wp mX12_find 4 rc rs Q 108 [some (vr 89), some (vi x1), some (vi x2), some (vi (x3 + 1)), some (vi x4), some (vi x5), some (vi x6), some (vi r17)] [] h16 from xGo k_X12_find_108 (have c24 := v22.1; have v25 := v22.2; (And.intro c24 (And.intro rfl (w_fg [true, true, true, true, true, true, true, false] v25)))))) (fun c21 => have v23 := v36.2 (Int.not_le.mp c21); (show wp mX12_find 4 rc rs Q 92 [some (vr 89), some (vi x1), some (vi x2), some (vi (x3 + 1)), some (vi x4), some (vi x5), some (vi x6), some (vi r17)] [] h16 from xcV k_X12_find_92 s_X12_find_105 (And.intro (lm_89 hL) (Exists.intro 616 (And.intro (lf_89_8 hL) (And.intro (sdQ (lm_616 hL) c1) (Exists.intro (617 + x5.toNat) (And.intro (lr_members hL (tnl c1)) (And.intro (sdI (lk_members hL (tnl c1)) c15) (have c34 := v23.1; have v35 := v23.2; (Exists.intro [vi (iH h16 (617 + x5.toNat) x6.toNat), vi r17] (Exists.intro 89 (Exists.intro [] (And.intro (And.intro rfl (And.intro rfl (Nat.le_of_ble_eq_true rfl))) (And.intro (lm_89 hL) (Exists.intro 0 (Exists.intro 0 (Exists.intro 0 (Exists.intro _ (And.intro (c_comes (h := h16) hL c34) (And.intro (And.intro (by decide) (And.intro (Nat.zero_le _) (Nat.zero_le _))) (eQPV (have hL := v35.1; have v31 := v35.2; (show wp mX12_find 4 rc rs Q 108 [some (vr 89), some (vi x1), some (vi x2), some (vi (x3 + 1)), some (vi x4), some (vi x5), some (vi x6), some (vi r17)] [] (m_comes h16 (iH h16 (617 + x5.toNat) x6.toNat) r17) from xGo k_X12_find_108 (have c32 := v31.1; have v33 := v31.2; (And.intro c32 (And.intro rfl (w_fg [true, true, true, true, true, true, true, false] v33))))))))))))))))))))))))))))))))))))))))))))))))))))))))))) (fun c11 => have v13 := v46.2 c11; (show wp mX12_find 4 rc rs Q 63 [some (vr 89), some (vi x1), some (vi x2), some (vi x3), some (vi x4), some (vi x5), some (vi x6), none] [] h from xGo k_X12_find_63 (show wp mX12_find 4 rc rs Q 82 [some (vr 89), some (vi x1), some (vi x2), some (vi x3), some (vi x4), some (vi x5), some (vi x6), none] [vi 0] h from xIf k_X12_find_82 (And.intro rfl (have c42 := v13.1; have v45 := v13.2; (And.intro c42 (And.intro rfl (And.intro (fun _ => (show wp mX12_find 4 rc rs Q 108 [some (vr 89), some (vi x1), some (vi x2), some (vi (x3 + 1)), some (vi x4), some (vi x5), some (vi x6), some (vi 0)] [] h from xGo k_X12_find_108 (have c43 := v45.1; have v44 := v45.2; (And.intro c43 (And.intro rfl (w_fg [true, true, true, true, true, true, true, false] v44)))))) (fun c => absurd (show (0 : Int) ≤ (0 : Int) by decide) c))))))))))))))))))))))))))))
/-- what is found: how many, their worth together, which documents, their worths -/
abbrev FS : Type := Nat × Int × (Nat → Int) × (Nat → Int)
def f_add (S : FS) (d v : Int) : FS := (S.1 + 1, S.2.1 + v, f_in S.2.2.1 (f_ip S.2.2.2 v S.1) S.1 d, f_in S.2.2.2 (f_ip S.2.2.2 v S.1) S.1 v)
def m_offT (h : AH) (t : Int) (s : Nat) : Int := sumN (fun s => iH h 615 (iH h (1140 + t.toNat) s).toNat) s
noncomputable def m_fv (h : AH) (t q : Int) (s k : Nat) : Int := if iH h (1148 + t.toNat) ((m_offT h t s).toNat + k) = 0 then m_worth h q (iH h (617 + (iH h (1140 + t.toNat) s).toNat) k) else 0
noncomputable def m_fI (h : AH) (t q : Int) (s : Nat) (S : FS) : Nat → FS
  | 0 => S
  | k + 1 => if 0 < m_fv h t q s k then f_add (m_fI h t q s S k) (iH h (617 + (iH h (1140 + t.toNat) s).toNat) k) (m_fv h t q s k) else m_fI h t q s S k
noncomputable def m_fd (h : AH) (t q : Int) : Nat → FS
  | 0 => (0, 0, fun _ => 0, fun _ => 0)
  | s + 1 => m_fI h t q s (m_fd h t q s) (iH h 615 (iH h (1140 + t.toNat) s).toNat).toNat
/-- all that are found -/
noncomputable def m_F (h : AH) (t q : Int) : FS := m_fd h t q (iH h 1138 t.toNat).toNat
def m_stT (h : AH) (t : Int) : Prop := m_std h t ∧ (∀ s : Nat, (s : Int) < iH h 1138 t.toNat → m_segd h (iH h (1140 + t.toNat) s)) ∧ m_offT h t (iH h 1138 t.toNat).toNat ≤ 64
theorem m_offT_le {h : AH} {t : Int} (hn : m_stT h t) : ∀ (n s : Nat), (n : Int) ≤ iH h 1138 t.toNat → s ≤ n → 0 ≤ m_offT h t s ∧ m_offT h t s ≤ m_offT h t n
  | 0, s, _, hs => by
    have : s = 0 := by omega
    subst this
    exact ⟨Int.le_refl 0, Int.le_refl _⟩
  | n + 1, s, hn', hs => by
    have hl := (hn.2.1 n (by omega)).1.2.1
    have e : m_offT h t (n + 1) = m_offT h t n + iH h 615 (iH h (1140 + t.toNat) n).toNat := rfl
    by_cases q : s = n + 1
    · subst q
      have := m_offT_le hn n n (by omega) (Nat.le_refl n)
      omega
    · have := m_offT_le hn n s (by omega) (by omega)
      omega
theorem m_fv_bd {h : AH} {t q : Int} (hn : m_stT h t) (hq : m_qok h q) {s k : Nat} (hs : (s : Int) < iH h 1138 t.toNat) (hk : (k : Int) < iH h 615 (iH h (1140 + t.toNat) s).toNat) : 0 ≤ m_fv h t q s k ∧ m_fv h t q s k ≤ 999 := by
  have hd := (hn.2.1 s hs).2 k hk
  unfold m_fv
  split
  · exact m_worth_bd hq hd
  · omega
theorem m_fI_bd {h : AH} {t q : Int} (hn : m_stT h t) (hq : m_qok h q) {s : Nat} (hs : (s : Int) < iH h 1138 t.toNat) {S : FS} (h1 : 0 ≤ S.2.1 ∧ S.2.1 ≤ 999 * (S.1 : Int)) : ∀ k : Nat, (k : Int) ≤ iH h 615 (iH h (1140 + t.toNat) s).toNat → (m_fI h t q s S k).1 ≤ S.1 + k ∧ 0 ≤ (m_fI h t q s S k).2.1 ∧ (m_fI h t q s S k).2.1 ≤ 999 * ((m_fI h t q s S k).1 : Int)
  | 0, _ => ⟨Nat.le_refl _, h1⟩
  | k + 1, hk => by
    have ih := m_fI_bd hn hq hs h1 k (by omega)
    have hv := m_fv_bd hn hq hs (k := k) (by omega)
    unfold m_fI
    split
    · unfold f_add; dsimp only; omega
    · omega
theorem m_fd_bd {h : AH} {t q : Int} (hn : m_stT h t) (hq : m_qok h q) : ∀ s : Nat, (s : Int) ≤ iH h 1138 t.toNat → ((m_fd h t q s).1 : Int) ≤ m_offT h t s ∧ 0 ≤ (m_fd h t q s).2.1 ∧ (m_fd h t q s).2.1 ≤ 999 * ((m_fd h t q s).1 : Int)
  | 0, _ => ⟨by show ((0 : Nat) : Int) ≤ (0 : Int); omega, Int.le_refl 0, by show (0 : Int) ≤ 999 * ((0 : Nat) : Int); omega⟩
  | s + 1, hs => by
    have ih := m_fd_bd hn hq s (by omega)
    have hl := (hn.2.1 s (by omega)).1.2.1
    have e : m_offT h t (s + 1) = m_offT h t s + iH h 615 (iH h (1140 + t.toNat) s).toNat := rfl
    have := m_fI_bd hn hq (s := s) (by omega) ih.2 (iH h 615 (iH h (1140 + t.toNat) s).toNat).toNat (by omega)
    refine ⟨?_, this.2⟩
    show (((m_fI h t q s (m_fd h t q s) (iH h 615 (iH h (1140 + t.toNat) s).toNat).toNat).1 : Nat) : Int) ≤ _
    omega
/-- the heap with what is found in it, and what is left over of reckoning -/
def m_fH (h : AH) (n : Nat) (sm : Int) (f w hp : Nat → Int) : AH := sI (sI (sW (sW (sW h 1178 hp) 1179 f) 1180 w) 89 42 n) 89 43 sm
def f_ag (S : FS) (f w : Nat → Int) : Prop := ∀ i, i < S.1 → f i = S.2.2.1 i ∧ w i = S.2.2.2 i
theorem r_fH {h : AH} {n : Nat} {sm : Int} {f w hp : Nat → Int} {a k : Nat} (h1 : a ≠ 89) (h2 : a ≠ 1178) (h3 : a ≠ 1179) (h4 : a ≠ 1180) : iH (m_fH h n sm f w hp) a k = iH h a k := by
  unfold m_fH; rw [rI_ne h1, rI_ne h1, rW_ne h4, rW_ne h3, rW_ne h2]
theorem r_fH71 {h : AH} {n : Nat} {sm : Int} {f w hp : Nat → Int} {k : Nat} (h1 : k ≠ 42) (h2 : k ≠ 43) : iH (m_fH h n sm f w hp) 89 k = iH h 89 k := by
  unfold m_fH; rw [rI_nk h2, rI_nk h1, rW_ne (by decide), rW_ne (by decide), rW_ne (by decide)]
theorem r_fHn {h : AH} {n : Nat} {sm : Int} {f w hp : Nat → Int} : iH (m_fH h n sm f w hp) 89 42 = n := by unfold m_fH; rw [rI_nk (by decide), rI_same]
theorem r_fHs {h : AH} {n : Nat} {sm : Int} {f w hp : Nat → Int} : iH (m_fH h n sm f w hp) 89 43 = sm := rI_same
theorem r_fHf {h : AH} {n : Nat} {sm : Int} {f w hp : Nat → Int} : iH (m_fH h n sm f w hp) 1179 = f := by funext k; unfold m_fH; rw [rI_ne (by decide), rI_ne (by decide), rW_ne (by decide), rW_same]
theorem r_fHw {h : AH} {n : Nat} {sm : Int} {f w hp : Nat → Int} : iH (m_fH h n sm f w hp) 1180 = w := by funext k; unfold m_fH; rw [rI_ne (by decide), rI_ne (by decide), rW_same]
theorem m_comes_fH {h : AH} {n : Nat} {sm d v : Int} {f w hp : Nat → Int} : m_comes (m_fH h n sm f w hp) d v = m_fH h (n + 1) (sm + v) (f_in f (f_ip w v n) n d) (f_in w (f_ip w v n) n v) hp := by
  unfold m_comes
  rw [r_fHn, r_fHs, r_fHf, r_fHw, show ((n : Int)).toNat = n from rfl]
  unfold m_fH
  rw [← sI_sW_ne (b := 89) (a := 1179) (by decide), ← sI_sW_ne (b := 89) (a := 1179) (by decide), sW_sW_ne (b := 1179) (a := 1180) (by decide), sW_sW,
    ← sI_sW_ne (b := 89) (a := 1180) (by decide), ← sI_sW_ne (b := 89) (a := 1180) (by decide), sW_sW]
  have sw : ∀ (A : AH) (x y z u : Int), sI (sI (sI (sI A 89 42 x) 89 43 y) 89 42 z) 89 43 u = sI (sI A 89 42 z) 89 43 u := fun A x y z u => by
    have : sI (sI (sI A 89 42 x) 89 43 y) 89 42 z = sI (sI A 89 42 z) 89 43 y := by
      unfold sI
      congr 3
      funext a b
      unfold u2
      by_cases q : a = 89
      · subst q
        by_cases q2 : b = 42
        · subst q2; simp
        · simp [q2]
      · simp [q]
    rw [this, sI_sI]
  rw [sw]
  rfl
theorem f_ag_add {S : FS} {f w : Nat → Int} {d v : Int} (ha : f_ag S f w) : f_ag (f_add S d v) (f_in f (f_ip w v S.1) S.1 d) (f_in w (f_ip w v S.1) S.1 v) := by
  have e : f_ip w v S.1 = f_ip S.2.2.2 v S.1 := f_ip_cg fun i hi => (ha i hi).2
  have hp := f_ip_le S.2.2.2 v S.1
  intro i hi
  replace hi : i < S.1 + 1 := hi
  rw [e]
  unfold f_add f_in f_sh
  dsimp only
  by_cases q : i = f_ip S.2.2.2 v S.1
  · rw [if_pos q, if_pos q, if_pos q, if_pos q]; exact ⟨rfl, rfl⟩
  · rw [if_neg q, if_neg q, if_neg q, if_neg q]
    by_cases q2 : f_ip S.2.2.2 v S.1 < i ∧ i ≤ S.1
    · rw [if_pos q2, if_pos q2, if_pos q2, if_pos q2]; exact ha (i - 1) (by omega)
    · rw [if_neg q2, if_neg q2, if_neg q2, if_neg q2]; exact ha i (by omega)
def p_find (h : AH) (t q : Int) (h' : AH) : Prop := ∃ f w hp, h' = m_fH h (m_F h t q).1 (m_F h t q).2.1 f w hp ∧ f_ag (m_F h t q) f w
theorem c_find {h : AH} (hL : LayM h) {t q : Int} (hn : m_stT h t) (hq : m_qok h q) : Ct 4 0 0 mX12_find [vr 89, vi t, vi q] h (QV (p_find h t q)) := by
  have ht := hn.1.1
  have hc := hn.1.2
  have hb := hq.1
  have e0 : sI (sI h 89 42 0) 89 43 0 = m_fH h (m_fd h t q 0).1 (m_fd h t q 0).2.1 (iH h 1179) (iH h 1180) (iH h 1178) := by
    unfold m_fH
    rw [sW_id (h := h) (a := 1178) (fun k => rfl), sW_id (h := h) (a := 1179) (fun k => rfl), sW_id (h := h) (a := 1180) (fun k => rfl)]
    rfl
  refine e_X12_find hL ?_
  have main := up (P := fun s => ∀ f w hp, f_ag (m_fd h t q s) f w → wp mX12_find 4 0 0 (QV (p_find h t q)) 15 [some (vr 89), some (vi t), some (vi q), some (vi (m_offT h t s)), some (vi s), none, none, none] [] (m_fH h (m_fd h t q s).1 (m_fd h t q s).2.1 f w hp)) (iH h 1138 t.toNat).toNat ?_ ?_
  · rw [e0]
    exact main _ _ _ (fun i hi => absurd hi (Nat.not_lt_zero i))
  · intro f w hp ha
    refine t_X12_find_15 (by exact hL) ?_
    rw [r_fH (by decide) (by decide) (by decide) (by decide)]
    exact ⟨by omega, fun _ => ⟨rfl, f, w, hp, rfl, ha⟩, fun c => absurd c (by omega)⟩
  · intro s hs ih f w hp ha
    have hg := hn.2.1 s (by omega)
    have hg1 := hg.1.1
    have hg2 := hg.1.2.1
    have ho := m_offT_le hn (iH h 1138 t.toNat).toNat s (by omega) (by omega)
    have ho2 := m_offT_le hn (iH h 1138 t.toNat).toNat (s + 1) (by omega) (by omega)
    have ho3 : m_offT h t (s + 1) = m_offT h t s + iH h 615 (iH h (1140 + t.toNat) s).toNat := rfl
    have hfb := m_fd_bd hn hq s (by omega)
    have h64 := hn.2.2
    refine t_X12_find_15 (by exact hL) ?_
    rw [r_fH (by decide) (by decide) (by decide) (by decide), r_fH (by omega) (by omega) (by omega) (by omega)]
    refine ⟨by omega, fun c => absurd c (by omega), fun _ => ⟨by omega, ?_⟩⟩
    have main2 := up (P := fun k => ∀ f w hp, f_ag (m_fI h t q s (m_fd h t q s) k) f w → wp mX12_find 4 0 0 (QV (p_find h t q)) 40 [some (vr 89), some (vi t), some (vi q), some (vi (m_offT h t s + (k : Int))), some (vi s), some (vi (iH h (1140 + t.toNat) s)), some (vi k), none] [] (m_fH h (m_fI h t q s (m_fd h t q s) k).1 (m_fI h t q s (m_fd h t q s) k).2.1 f w hp)) (iH h 615 (iH h (1140 + t.toNat) s).toNat).toNat ?_ ?_
    · have := main2 f w hp ha
      rw [show m_offT h t s + ((0 : Nat) : Int) = m_offT h t s by omega] at this
      exact this
    · intro f w hp ha
      refine t_X12_find_40 (by exact hL) ?_
      rw [r_fH (by decide) (by decide) (by decide) (by decide)]
      refine ⟨hg1, fun _ => ⟨by omega, ?_⟩, fun c => absurd c (by omega)⟩
      rw [show m_offT h t s + (((iH h 615 (iH h (1140 + t.toNat) s).toNat).toNat : Nat) : Int) = m_offT h t (s + 1) by omega]
      exact ih f w hp ha
    · intro k hk ih2 f w hp ha
      have hm := hg.1.2.2 k (by omega)
      have hd := hg.2 k (by omega)
      have hv := m_fv_bd hn hq (s := s) (k := k) (by omega) (by omega)
      have hib := m_fI_bd hn hq (s := s) (by omega) hfb.2 k (by omega)
      have ek : (m_offT h t s + (k : Int)).toNat = (m_offT h t s).toNat + k := by omega
      have eS : m_fI h t q s (m_fd h t q s) (k + 1) = if 0 < m_fv h t q s k then f_add (m_fI h t q s (m_fd h t q s) k) (iH h (617 + (iH h (1140 + t.toNat) s).toNat) k) (m_fv h t q s k) else m_fI h t q s (m_fd h t q s) k := rfl
      have evd : m_fv h t q s k = if iH h (1148 + t.toNat) ((m_offT h t s).toNat + k) = 0 then m_worth h q (iH h (617 + (iH h (1140 + t.toNat) s).toNat) k) else 0 := rfl
      generalize hS : m_fI h t q s (m_fd h t q s) k = S at *
      have skip : ∀ hp', ¬ 0 < m_fv h t q s k → wp mX12_find 4 0 0 (QV (p_find h t q)) 40 [some (vr 89), some (vi t), some (vi q), some (vi (m_offT h t s + (k : Int) + 1)), some (vi s), some (vi (iH h (1140 + t.toNat) s)), some (vi ((k : Int) + 1)), none] [] (m_fH h S.1 S.2.1 f w hp') := by
        intro hp' hz
        rw [if_neg hz] at eS
        have := ih2 f w hp' (by rw [eS]; exact ha)
        rw [eS, show m_offT h t s + ((k + 1 : Nat) : Int) = m_offT h t s + (k : Int) + 1 by omega] at this
        exact this
      refine t_X12_find_40 (by exact hL) ?_
      rw [ek]
      simp (disch := omega) only [r_fH, Int.toNat_natCast]
      refine ⟨hg1, fun c => absurd c (by omega), fun _ => ⟨by omega, by omega, fun c => ⟨by omega, ?_⟩, fun c => ⟨by omega, by omega, skip hp ?_⟩⟩⟩
      · rw [if_pos c] at evd
        have hd1 := hd.1
        generalize hD : iH h (617 + (iH h (1140 + t.toNat) s).toNat) k = dd at *
        have f1 : ∀ k, iH (m_fH h S.1 S.2.1 f w hp) (93 + dd.toNat) k = iH h (93 + dd.toNat) k := fun k => r_fH (by omega) (by omega) (by omega) (by omega)
        have f2 : iH (m_fH h S.1 S.2.1 f w hp) 91 dd.toNat = iH h 91 dd.toNat := r_fH (by decide) (by decide) (by decide) (by decide)
        have f3 : ∀ k, iH (m_fH h S.1 S.2.1 f w hp) (1170 + q.toNat) k = iH h (1170 + q.toNat) k := fun k => r_fH (by omega) (by omega) (by omega) (by omega)
        have f4 : iH (m_fH h S.1 S.2.1 f w hp) 1176 q.toNat = iH h 1176 q.toNat := r_fH (by decide) (by decide) (by decide) (by decide)
        refine ⟨_, c_worth (h := m_fH h S.1 S.2.1 f w hp) (by exact hL) (m_qok_cg hq f3 f4) (m_doc_cg hd f1 f2), fun x h2 _ hx => ?_⟩
        obtain ⟨rfl, w2, rfl⟩ := hx
        rw [m_worth_cg f1 f2 f3 f4, ← evd]
        have e5 : sW (m_fH h S.1 S.2.1 f w hp) 1178 w2 = m_fH h S.1 S.2.1 f w w2 := by
          unfold m_fH
          rw [← sI_sW_ne (b := 89) (a := 1178) (by decide), ← sI_sW_ne (b := 89) (a := 1178) (by decide), sW_sW_ne (b := 1178) (a := 1180) (by decide), sW_sW_ne (b := 1178) (a := 1179) (by decide), sW_sW]
        rw [e5]
        refine ⟨by exact hL, by omega, fun c2 => ⟨by omega, skip w2 (by omega)⟩, fun c2 => ?_⟩
        rw [r_fHn, r_fHs, r_fH (a := 617 + (iH h (1140 + t.toNat) s).toNat) (by omega) (by omega) (by omega) (by omega), hD, m_comes_fH]
        refine ⟨⟨by omega, by omega, by omega⟩, by exact hL, by omega, ?_⟩
        rw [if_pos c2] at eS
        have := ih2 _ _ w2 (by rw [eS]; exact f_ag_add ha)
        rw [eS, show m_offT h t s + ((k + 1 : Nat) : Int) = m_offT h t s + (k : Int) + 1 by omega] at this
        exact this
      · rw [if_neg c] at evd; omega
