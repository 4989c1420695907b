/-! THE CLASS: SEARCH -/
section
/-- documents and segments stay as they are -/
def agD (h h' : AH) : Prop := nH h ≤ nH h' ∧ ∀ x, x < nH h → 1191 ≤ x → kH h' x = kH h x ∧ (∀ k, iH h' x k = iH h x k) ∧ ∀ k, rH h' x k = rH h x k
theorem iD_ag {h h' : AH} {a n : Nat} (e : agD h h') (hd : iD h a n) : iD h' a n := by
  obtain ⟨⟨h1, h2⟩, h3, ⟨h4, h5⟩, h6, h7⟩ := hd
  obtain ⟨e1, e2, e3⟩ := e.2 a h1 h6
  obtain ⟨f1, f2, f3⟩ := e.2 (a + 1) h4 (by omega)
  have := e.1
  exact ⟨⟨by omega, by rw [e1]; exact h2⟩, by rw [e3]; exact h3, ⟨by omega, by rw [f1]; exact h5⟩, h6, h7⟩
theorem iSg_ag {h h' : AH} {a n r : Nat} (e : agD h h') (hs : iSg h a n r) : iSg h' a n r := by
  obtain ⟨⟨⟨h1, h2⟩, ⟨h3, h4⟩⟩, ⟨r1, r2, r3, r4⟩, ⟨⟨a1, b1⟩, ⟨a2, b2⟩, ⟨a3, b3⟩⟩, h6, h7⟩ := hs
  obtain ⟨e1, e2, e3⟩ := e.2 a h1 (by omega)
  have f0 := (e.2 (a - 1) h3 (by omega)).1
  have f1 := (e.2 (a + 1) a1 (by omega)).1
  have f2 := (e.2 (a + 2) a2 (by omega)).1
  have f3 := (e.2 (a + 3) a3 (by omega)).1
  have := e.1
  refine ⟨⟨⟨by omega, by rw [e1]; exact h2⟩, ⟨by omega, by rw [f0]; exact h4⟩⟩, ⟨by rw [e3]; exact r1, by rw [e3]; exact r2, by rw [e3]; exact r3, by rw [e3]; exact r4⟩, ⟨⟨by omega, by rw [f1]; exact b1⟩, ⟨by omega, by rw [f2]; exact b2⟩, ⟨by omega, by rw [f3]; exact b3⟩⟩, h6, h7⟩
theorem cDocs_ag {h h' g : AH} {da : Nat → Nat} (e : agD h h') (hd : cDocs h g da) : cDocs h' g da := fun d hdn => by
  obtain ⟨d1, d2, d3, d4⟩ := hd d hdn
  have hb := d2.2.2.2.1
  obtain ⟨-, e2, -⟩ := e.2 (da d) d2.1.1 hb
  obtain ⟨-, f2, -⟩ := e.2 (da d + 1) d2.2.2.1.1 (by omega)
  exact ⟨d1, iD_ag e d2, by rw [e2]; exact d3, fun i hi => by rw [f2]; exact d4 i hi⟩
theorem cSeg1_ag {h h' g : AH} {da sa : Nat → Nat} {x : Nat} (e : agD h h') (hs : cSeg1 h g da sa x) : cSeg1 h' g da sa x := by
  obtain ⟨h1, h2, h3, ⟨r, h4, h5, h6, h7, h8⟩, h9⟩ := hs
  have hb := h4.2.2.2.1
  obtain ⟨-, e2, -⟩ := e.2 (sa x) h4.1.1.1 (by omega)
  obtain ⟨-, -, f0⟩ := e.2 (sa x - 1) h4.1.2.1 (by omega)
  obtain ⟨-, f1, -⟩ := e.2 (sa x + 1) h4.2.2.1.1.1 (by omega)
  obtain ⟨-, f2, -⟩ := e.2 (sa x + 2) h4.2.2.1.2.1.1 (by omega)
  obtain ⟨-, f3, -⟩ := e.2 (sa x + 3) h4.2.2.1.2.2.1 (by omega)
  exact ⟨h1, h2, by rw [e2]; exact h3, ⟨r, iSg_ag e h4, by rw [e2]; exact h5, h6, by rw [e2]; exact h7, fun j hj => by rw [f1, f2, f3]; exact h8 j hj⟩, fun k hk => by rw [f0]; exact h9 k hk⟩
theorem cSegs_ag {h h' g : AH} {da sa : Nat → Nat} (e : agD h h') (hs : cSegs h g da sa) : cSegs h' g da sa := fun x hx => cSeg1_ag e (hs x hx)
theorem agD_hH {h : AH} {a b : Nat} {n sm : Int} {K W P : Nat → Int} {M : Nat → Int64} (ha : a + 3 < 1191) (hb : b < 1191) : agD h (hH h a b n sm K W P M) :=
  ⟨Nat.le_refl _, fun x _ h2 => ⟨rfl, fun k => hh_o (by omega) (by omega) (by omega) (by omega), fun _ => rfl⟩⟩
theorem v_fI_bd {g : AH} {q : Int} {row : Nat → Int} {dr : Nat → Nat → Prop} (hq : m_qok g q) {s : Nat} {S : FS} {m : Nat} (hm : ∀ k, k < m → m_doc g (iH g (617 + (row s).toNat) k)) (h1 : 0 ≤ S.2.1 ∧ S.2.1 ≤ 999 * (S.1 : Int)) : ∀ k : Nat, k ≤ m → (v_fI g q row dr s S k).1 ≤ S.1 + k ∧ 0 ≤ (v_fI g q row dr s S k).2.1 ∧ (v_fI g q row dr s S k).2.1 ≤ 999 * ((v_fI g q row dr s S k).1 : Int)
  | 0, _ => ⟨Nat.le_refl _, h1⟩
  | k + 1, hk => by
    have ih := v_fI_bd (dr := dr) hq hm h1 k (by omega)
    have e : v_fI g q row dr s S (k + 1) = if 0 < v_fv g q row dr s k then f_add (v_fI g q row dr s S k) (iH g (617 + (row s).toNat) k) (v_fv g q row dr s k) else v_fI g q row dr s S k := rfl
    rw [e]
    split
    · have hv : v_fv g q row dr s k ≤ 999 := by
        unfold v_fv
        split
        · omega
        · exact (m_worth_bd hq (hm k (by omega))).2
      show (v_fI g q row dr s S k).1 + 1 ≤ _ ∧ 0 ≤ (v_fI g q row dr s S k).2.1 + v_fv g q row dr s k ∧ (v_fI g q row dr s S k).2.1 + v_fv g q row dr s k ≤ 999 * (((v_fI g q row dr s S k).1 + 1 : Nat) : Int)
      omega
    · omega
def p_search (h g : AH) (a aq : Nat) (q n : Int) (row : Nat → Int) (dr : Nat → Nat → Prop) (h' : AH) : Prop := ∃ K W P M, h' = hH h a (aq + 5) ((v_fd g q row dr n.toNat).1 : Nat) (v_fd g q row dr n.toNat).2.1 K W P M ∧ f_agk (fun d => iH g 90 d.toNat) (v_fd g q row dr n.toNat) K W ∧ ∀ s : Nat, s < 8 → ∀ k : Nat, bt (M s) k ↔ (s : Int) < n ∧ v_mk g q row dr s k
end
def b_X1_search_0 : List IE := [(.aload_n 0, 1, 0, 0, 0, 0), (.iconst 0, 1, 0, 0, 0, 0), (.putfield 22, 3, 0, 1, 3, 0), (.aload_n 0, 1, 0, 0, 0, 0), (.iconst 0, 1, 0, 0, 0, 0), (.putfield 26, 3, 0, 1, 4, 0), (.iconst 0, 1, 0, 0, 0, 0), (.istore_n 3, 1, 0, 0, 3, 0)]
theorem k_X1_search_0 : ckB mX1_search 1 0 b_X1_search_0 12 = true := by decide +kernel
def b_X1_search_12 : List IE := [(.iload_n 3, 1, 0, 0, 3, 0), (.aload_n 2, 1, 0, 0, 2, 0), (.getfield 29, 3, 0, 9, 2, 0)]
theorem k_X1_search_12 : ckIc mX1_search 1 12 b_X1_search_12 17 3 104 121 20 = true := by decide +kernel
def b_X1_search_20 : List IE := [(.aload_n 0, 1, 0, 0, 0, 0), (.getfield 18, 3, 0, 1, 2, 1), (.iload_n 3, 1, 0, 0, 3, 0), (.lconst 0, 1, 0, 0, 0, 0), (.lastore, 1, 0, 0, 0, 0), (.aload_n 2, 1, 0, 0, 2, 0), (.getfield 32, 3, 0, 9, 0, 1), (.iload_n 3, 1, 0, 0, 3, 0), (.aaload, 1, 0, 0, 0, 0), (.getfield 36, 3, 0, 7, 1, 1), (.astore 4, 2, 0, 0, 4, 0), (.iconst 0, 1, 0, 0, 0, 0), (.istore 5, 2, 0, 0, 5, 0)]
theorem k_X1_search_20 : ckB mX1_search 1 20 b_X1_search_20 41 = true := by decide +kernel
def b_X1_search_41 : List IE := [(.iload 5, 2, 0, 0, 5, 0), (.aload 4, 2, 0, 0, 4, 0), (.arraylength, 1, 0, 0, 0, 0)]
theorem k_X1_search_41 : ckIc mX1_search 1 41 b_X1_search_41 46 3 69 115 49 = true := by decide +kernel
def b_X1_search_49 : List IE := [(.aload_n 2, 1, 0, 0, 2, 0), (.iload_n 3, 1, 0, 0, 3, 0), (.iload 5, 2, 0, 0, 5, 0)]
theorem k_X1_search_49 : ckB mX1_search 1 49 b_X1_search_49 53 = true := by decide +kernel
def b_X1_search_56 : List IE := []
theorem k_X1_search_56 : ckIf mX1_search 1 56 b_X1_search_56 56 0 7 63 59 = true := by decide +kernel
def b_X1_search_59 : List IE := [(.iconst 0, 1, 0, 0, 0, 0)]
theorem k_X1_search_59 : ckGo mX1_search 1 59 b_X1_search_59 60 15 75 = true := by decide +kernel
def b_X1_search_63 : List IE := [(.aload_n 1, 1, 0, 0, 1, 0), (.aload 4, 2, 0, 0, 4, 0), (.iload 5, 2, 0, 0, 5, 0), (.aaload, 1, 0, 0, 0, 0), (.getfield 46, 3, 0, 0, 1, 1)]
theorem k_X1_search_63 : ckB mX1_search 1 63 b_X1_search_63 72 = true := by decide +kernel
def b_X1_search_75 : List IE := [(.istore 6, 2, 0, 0, 6, 0)]
theorem k_X1_search_75 : ckB mX1_search 1 75 b_X1_search_75 77 = true := by decide +kernel
def b_X1_search_77 : List IE := [(.iload 6, 2, 0, 0, 6, 0)]
theorem k_X1_search_77 : ckIf mX1_search 1 77 b_X1_search_77 79 5 30 109 82 = true := by decide +kernel
def b_X1_search_82 : List IE := [(.aload_n 0, 1, 0, 0, 0, 0), (.getfield 18, 3, 0, 1, 2, 1), (.iload_n 3, 1, 0, 0, 3, 0), (.dup2, 1, 0, 0, 0, 0), (.laload, 1, 0, 0, 0, 0), (.lconst 1, 1, 0, 0, 1, 0), (.iload 5, 2, 0, 0, 5, 0), (.lshl, 1, 0, 0, 0, 0), (.lor, 1, 0, 0, 0, 0), (.lastore, 1, 0, 0, 0, 0), (.aload_n 0, 1, 0, 0, 0, 0), (.aload 4, 2, 0, 0, 4, 0), (.iload 5, 2, 0, 0, 5, 0), (.aaload, 1, 0, 0, 0, 0), (.getfield 57, 3, 0, 0, 0, 0), (.iload 6, 2, 0, 0, 6, 0)]
theorem k_X1_search_82 : ckB mX1_search 1 82 b_X1_search_82 106 = true := by decide +kernel
def b_X1_search_109 : List IE := [(.iinc 5 1, 3, 1, 0, 5, 0)]
theorem k_X1_search_109 : ckGo mX1_search 1 109 b_X1_search_109 112 (-71) 41 = true := by decide +kernel
def b_X1_search_115 : List IE := [(.iinc 3 1, 3, 1, 0, 3, 0)]
theorem k_X1_search_115 : ckGo mX1_search 1 115 b_X1_search_115 118 (-106) 12 = true := by decide +kernel
def b_X1_search_121 : List IE := [(.aload_n 2, 1, 0, 0, 2, 0), (.getfield 29, 3, 0, 9, 2, 0), (.istore_n 3, 1, 0, 0, 3, 0)]
theorem k_X1_search_121 : ckB mX1_search 1 121 b_X1_search_121 126 = true := by decide +kernel
def b_X1_search_126 : List IE := [(.iload_n 3, 1, 0, 0, 3, 0), (.bipush 8, 2, 8, 0, 0, 0)]
theorem k_X1_search_126 : ckIc mX1_search 1 126 b_X1_search_126 129 3 16 145 132 = true := by decide +kernel
def b_X1_search_132 : List IE := [(.aload_n 0, 1, 0, 0, 0, 0), (.getfield 18, 3, 0, 1, 2, 1), (.iload_n 3, 1, 0, 0, 3, 0), (.lconst 0, 1, 0, 0, 0, 0), (.lastore, 1, 0, 0, 0, 0), (.iinc 3 1, 3, 1, 0, 3, 0)]
theorem k_X1_search_132 : ckGo mX1_search 1 132 b_X1_search_132 142 (-16) 126 = true := by decide +kernel
def b_X1_search_145 : List IE := []
theorem k_X1_search_145 : ckV mX1_search 1 145 b_X1_search_145 145 = true := by decide +kernel
theorem s_X1_search_53 : cV mX1_search 53 mX9_isDropped 42 2 9 := ⟨by decide +kernel, ⟨ml_X9_isDropped, li_RX1_42, im_X9_isDropped, se_X9_isDropped⟩, ⟨by decide +kernel, by decide +kernel⟩, by decide +kernel⟩
theorem s_X1_search_72 : cV mX1_search 72 mX5_worthIn 51 1 5 := ⟨by decide +kernel, ⟨ml_X5_worthIn, li_RX1_51, im_X5_worthIn, se_X5_worthIn⟩, ⟨by decide +kernel, by decide +kernel⟩, by decide +kernel⟩
theorem s_X1_search_106 : cV mX1_search 106 mX1_insert 60 2 1 := ⟨by decide +kernel, ⟨ml_X1_insert, li_RX1_60, im_X1_insert, se_X1_insert⟩, ⟨by decide +kernel, by decide +kernel⟩, by decide +kernel⟩
theorem t_X1_search_0 {rc rs : Nat} {Q : Option AV → AH → Prop} {h : AH} {a0 a1 a2 : Nat} (hL : LayL h) (hA0 : iHi a0) (hA1 : iQu a1) (hA2 : iSt a2) (hv : wp mX1_search 4 rc rs Q 12 [some (vr a0), some (vr a1), some (vr a2), some (vi 0), none, none, none] [] (sI (sI h a0 3 0) a0 4 0)) : wp mX1_search 4 rc rs Q 0 [some (vr a0), some (vr a1), some (vr a2), none, none, none, none] [] h :=
  (show wp mX1_search 4 rc rs Q 0 [some (vr a0), some (vr a1), some (vr a2), none, none, none, none] [] h from xB k_X1_search_0 (And.intro (hi_o hL hA0) (And.intro (hi_o hL hA0) (And.intro rfl hv))))
theorem e_X1_search {mc ms : Nat} {Q : Option AV → AH → Prop} {h : AH} {a0 a1 a2 : Nat} (hL : LayL h) (hA0 : iHi a0) (hA1 : iQu a1) (hA2 : iSt a2) (hv : wp mX1_search 4 mc ms Q 12 [some (vr a0), some (vr a1), some (vr a2), some (vi 0), none, none, none] [] (sI (sI h a0 3 0) a0 4 0)) : Ct 4 mc ms mX1_search [vr a0, vr a1, vr a2] h Q := Ct.of (by decide +kernel) (Nat.le_of_ble_eq_true rfl) (t_X1_search_0 hL hA0 hA1 hA2 hv)
theorem t_X1_search_12 {rc rs : Nat} {Q : Option AV → AH → Prop} {h : AH} {a0 a1 a2 : Nat} {x3 : Int} (hL : LayL h) (hA0 : iHi a0) (hA1 : iQu a1) (hA2 : iSt a2) (hv : (((iH h a2 2) ≤ x3 → wp mX1_search 4 rc rs Q 126 [some (vr a0), none, none, some (vi (iH h a2 2)), none, none, none] [] h) ∧ (x3 < (iH h a2 2) → (0 ≤ x3 ∧ x3 < 8) ∧ (∃ q7 n8 r9 : Nat, (rH (sJ h (a0 + 3) x3.toNat 0) (a2 + 1) x3.toNat = some q7 ∧ iSg (sJ h (a0 + 3) x3.toNat 0) q7 n8 r9) ∧ wp mX1_search 4 rc rs Q 41 [some (vr a0), some (vr a1), some (vr a2), some (vi x3), some (vr (q7 - 1)), some (vi 0), none] [] (sJ h (a0 + 3) x3.toNat 0))))) : wp mX1_search 4 rc rs Q 12 [some (vr a0), some (vr a1), some (vr a2), some (vi x3), none, none, none] [] h :=
  (show wp mX1_search 4 rc rs Q 12 [some (vr a0), some (vr a1), some (vr a2), some (vi x3), none, none, none] [] h from xIc k_X1_search_12 (And.intro (st_o hL hA2) (And.intro (fun c1 => have v3 := hv.1 c1; (show wp mX1_search 4 rc rs Q 121 [some (vr a0), some (vr a1), some (vr a2), some (vi x3), none, none, none] [] h from xB k_X1_search_121 (And.intro (st_o hL hA2) (And.intro rfl (w_fg [true, false, false, true, false, false, false] v3))))) (fun c2 => have v4 := hv.2 (Int.not_le.mp c2); (show wp mX1_search 4 rc rs Q 20 [some (vr a0), some (vr a1), some (vr a2), some (vi x3), none, none, none] [] h from xB k_X1_search_20 (And.intro (hi_o hL hA0) (Exists.intro (a0 + 3) (And.intro (hi_r2 hL hA0) (have c5 := v4.1; have v13 := v4.2; (And.intro (sdJ (hi_a2 hL hA0) c5) (And.intro (st_o hL hA2) (Exists.intro (a2 + 1) (And.intro (st_r0 hL hA2) (And.intro (sdQ (st_a0 hL hA2) c5) (Exists.elim v13 (fun q7 v11_0 => (Exists.elim v11_0 (fun n8 v11_1 => (Exists.elim v11_1 (fun r9 v11 => have c10 := v11.1; have v12 := v11.2; (Exists.intro _ (And.intro c10.1 (And.intro (sg_o c10.2) (Exists.intro (q7 - 1) (And.intro (sg_r1 c10.2) (And.intro rfl (And.intro rfl v12)))))))))))))))))))))))))))
theorem t_X1_search_41 {rc rs : Nat} {Q : Option AV → AH → Prop} {h : AH} {a0 a1 a2 a4 n4 : Nat} {x3 x5 : Int} (hL : LayL h) (hA0 : iHi a0) (hA1 : iQu a1) (hA2 : iSt a2) (hA4 : a4 < nH h ∧ kH h a4 = (16, n4)) (hv : (n4 < 2147483648) ∧ (((n4 : Int) ≤ x5 → (-2147483648 ≤ (x3 + 1) ∧ (x3 + 1) < 2147483648) ∧ wp mX1_search 4 rc rs Q 12 [some (vr a0), some (vr a1), some (vr a2), some (vi (x3 + 1)), none, none, none] [] h) ∧ (x5 < (n4 : Int) → (iSt a2 ∧ (0 ≤ x3 ∧ x3 < 8) ∧ (0 ≤ x5 ∧ x5 < 64)) ∧ ((¬ (bt (jH h (a2 + 2) (x3).toNat) (x5).toNat) → (0 ≤ x5 ∧ x5 < n4) ∧ (∃ q13 n14 : Nat, (rH h a4 x5.toNat = some q13 ∧ iD h q13 n14) ∧ (∃ P19 : Int → AH → Prop, Ct 3 0 0 mX5_worthIn [vr a1, vr (q13 + 1)] h (QI P19) ∧ ∀ (r18 : Int) (h17 : AH), (-2147483648 ≤ r18 ∧ r18 < 2147483648) → P19 r18 h17 → LayL h17 ∧ (a4 < nH h17 ∧ kH h17 a4 = (16, n4)) ∧ wp mX1_search 4 rc rs Q 77 [some (vr a0), some (vr a1), some (vr a2), some (vi x3), some (vr a4), some (vi x5), some (vi r18)] [] h17))) ∧ ((bt (jH h (a2 + 2) (x3).toNat) (x5).toNat) → wp mX1_search 4 rc rs Q 77 [some (vr a0), some (vr a1), some (vr a2), some (vi x3), some (vr a4), some (vi x5), some (vi 0)] [] h))))) : wp mX1_search 4 rc rs Q 41 [some (vr a0), some (vr a1), some (vr a2), some (vi x3), some (vr a4), some (vi x5), none] [] h :=
  (show wp mX1_search 4 rc rs Q 41 [some (vr a0), some (vr a1), some (vr a2), some (vi x3), some (vr a4), some (vi x5), none] [] h from xIc k_X1_search_41 (have c1 := hv.1; have v30 := hv.2; (And.intro (sdL hA4 (And.intro (by decide) (And.intro (by decide) c1))) (len_r hA4 (And.intro (fun c2 => have v4 := v30.1 c2; (show wp mX1_search 4 rc rs Q 115 [some (vr a0), some (vr a1), some (vr a2), some (vi x3), some (vr a4), some (vi x5), none] [] h from xGo k_X1_search_115 (have c6 := v4.1; have v7 := v4.2; (And.intro c6 (And.intro rfl (w_fg [true, true, true, true, false, false, false] v7)))))) (fun c3 => have v5 := v30.2 (Int.not_le.mp c3); (show wp mX1_search 4 rc rs Q 49 [some (vr a0), some (vr a1), some (vr a2), some (vi x3), some (vr a4), some (vi x5), none] [] h from xcV k_X1_search_49 s_X1_search_53 (have c27 := v5.1; have v28 := v5.2; (Exists.intro [vi x3, vi x5] (Exists.intro a2 (Exists.intro [] (And.intro (And.intro rfl (And.intro rfl (Nat.le_of_ble_eq_true rfl))) (And.intro (st_o hL hA2) (Exists.intro 0 (Exists.intro 0 (Exists.intro 0 (Exists.intro _ (And.intro (l_isDropped (h := h) hL c27) (And.intro (And.intro (by decide) (And.intro (Nat.zero_le _) (Nat.zero_le _))) (eQP (show wp mX1_search 4 rc rs Q 56 [some (vr a0), some (vr a1), some (vr a2), some (vi x3), some (vr a4), some (vi x5), none] [vi (b01 (bt (jH h (a2 + 2) (x3).toNat) (x5).toNat))] h from xIf k_X1_search_56 (And.intro (fun c8 => have v10 := v28.1 (b01_n.mp c8); (show wp mX1_search 4 rc rs Q 63 [some (vr a0), some (vr a1), some (vr a2), some (vi x3), some (vr a4), some (vi x5), none] [] h from xcV k_X1_search_63 s_X1_search_72 (have c12 := v10.1; have v26 := v10.2; (And.intro (sdQ hA4 c12) (Exists.elim v26 (fun q13 v24_0 => (Exists.elim v24_0 (fun n14 v24 => have c16 := v24.1; have v25 := v24.2; (Exists.intro _ (And.intro c16.1 (And.intro (dc_o c16.2) (Exists.intro (q13 + 1) (And.intro (dc_r1 c16.2) (Exists.elim v25 (fun P19 v20 => (Exists.intro [vr (q13 + 1)] (Exists.intro a1 (Exists.intro [] (And.intro (And.intro rfl (And.intro rfl (Nat.le_of_ble_eq_true rfl))) (And.intro (qu_o hL hA1) (Exists.intro 3 (Exists.intro 0 (Exists.intro 0 (Exists.intro (QI P19) (And.intro v20.1 (And.intro (And.intro (by decide) (And.intro (Nat.zero_le _) (Nat.zero_le _))) (eQI (fun r18 h17 q23 e22 => have v21 := v20.2 r18 h17 q23 e22; have hL := v21.1; have v21 := v21.2; have hA4 := v21.1; have v21 := v21.2; (show wp mX1_search 4 rc rs Q 75 [some (vr a0), some (vr a1), some (vr a2), some (vi x3), some (vr a4), some (vi x5), none] [vi r18] h17 from xB k_X1_search_75 (And.intro rfl v21)))))))))))))))))))))))))))))) (fun c9 => have v11 := v28.2 (b01_p.mp c9); (show wp mX1_search 4 rc rs Q 59 [some (vr a0), some (vr a1), some (vr a2), some (vi x3), some (vr a4), some (vi x5), none] [] h from xGo k_X1_search_59 (show wp mX1_search 4 rc rs Q 75 [some (vr a0), some (vr a1), some (vr a2), some (vi x3), some (vr a4), some (vi x5), none] [vi 0] h from xB k_X1_search_75 (And.intro rfl v11))))))))))))))))))))))))))
theorem t_X1_search_77 {rc rs : Nat} {Q : Option AV → AH → Prop} {h : AH} {a0 a1 a2 a4 n4 : Nat} {x3 x5 x6 : Int} (hL : LayL h) (hA0 : iHi a0) (hA1 : iQu a1) (hA2 : iSt a2) (hA4 : a4 < nH h ∧ kH h a4 = (16, n4)) (hv : ((x6 ≤ 0 → wp mX1_search 4 rc rs Q 109 [some (vr a0), some (vr a1), some (vr a2), some (vi x3), some (vr a4), some (vi x5), none] [] h) ∧ (0 < x6 → (0 ≤ x3 ∧ x3 < 8) ∧ (0 ≤ x5 ∧ x5 < n4) ∧ (∃ q8 n9 : Nat, (rH (sJ h (a0 + 3) x3.toNat ((jH h (a0 + 3) x3.toNat) ||| (shl6 1 x5))) a4 x5.toNat = some q8 ∧ iD (sJ h (a0 + 3) x3.toNat ((jH h (a0 + 3) x3.toNat) ||| (shl6 1 x5))) q8 n9) ∧ (∃ P14 : AH → Prop, Ct 0 0 0 mX1_insert [vr a0, vi (iH h q8 0), vi x6] (sJ h (a0 + 3) x3.toNat ((jH h (a0 + 3) x3.toNat) ||| (shl6 1 x5))) (QV P14) ∧ ∀ h12 : AH, P14 h12 → LayL h12 ∧ (a4 < nH h12 ∧ kH h12 a4 = (16, n4)) ∧ wp mX1_search 4 rc rs Q 109 [some (vr a0), some (vr a1), some (vr a2), some (vi x3), some (vr a4), some (vi x5), none] [] h12))))) : wp mX1_search 4 rc rs Q 77 [some (vr a0), some (vr a1), some (vr a2), some (vi x3), some (vr a4), some (vi x5), some (vi x6)] [] h :=
  (show wp mX1_search 4 rc rs Q 77 [some (vr a0), some (vr a1), some (vr a2), some (vi x3), some (vr a4), some (vi x5), some (vi x6)] [] h from xIf k_X1_search_77 (And.intro (fun c1 => have v3 := hv.1 c1; (w_fg [true, true, true, true, true, true, false] v3)) (fun c2 => have v4 := hv.2 (Int.not_le.mp c2); (show wp mX1_search 4 rc rs Q 82 [some (vr a0), some (vr a1), some (vr a2), some (vi x3), some (vr a4), some (vi x5), some (vi x6)] [] h from xcV k_X1_search_82 s_X1_search_106 (And.intro (hi_o hL hA0) (Exists.intro (a0 + 3) (And.intro (hi_r2 hL hA0) (And.intro rfl (And.intro rfl (have c5 := v4.1; have v22 := v4.2; (And.intro (sdJ (hi_a2 hL hA0) c5) (And.intro (sdJ (hi_a2 hL hA0) c5) (have c7 := v22.1; have v21 := v22.2; (And.intro (sdQ hA4 c7) (Exists.elim v21 (fun q8 v19_0 => (Exists.elim v19_0 (fun n9 v19 => have c11 := v19.1; have v20 := v19.2; (Exists.intro _ (And.intro c11.1 (And.intro (dc_o c11.2) (Exists.elim v20 (fun P14 v15 => (Exists.intro [vi (iH h q8 0), vi x6] (Exists.intro a0 (Exists.intro [] (And.intro (And.intro rfl (And.intro rfl (Nat.le_of_ble_eq_true rfl))) (And.intro (hi_o hL hA0) (Exists.intro 0 (Exists.intro 0 (Exists.intro 0 (Exists.intro (QV P14) (And.intro v15.1 (And.intro (And.intro (by decide) (And.intro (Nat.zero_le _) (Nat.zero_le _))) (eQV (fun h12 e17 => have v16 := v15.2 h12 e17; have hL := v16.1; have v16 := v16.2; have hA4 := v16.1; have v16 := v16.2; (w_fg [true, true, true, true, true, true, false] v16)))))))))))))))))))))))))))))))))))))
theorem t_X1_search_109 {rc rs : Nat} {Q : Option AV → AH → Prop} {h : AH} {a0 a1 a2 a4 n4 : Nat} {x3 x5 : Int} (hL : LayL h) (hA0 : iHi a0) (hA1 : iQu a1) (hA2 : iSt a2) (hA4 : a4 < nH h ∧ kH h a4 = (16, n4)) (hv : (-2147483648 ≤ (x5 + 1) ∧ (x5 + 1) < 2147483648) ∧ wp mX1_search 4 rc rs Q 41 [some (vr a0), some (vr a1), some (vr a2), some (vi x3), some (vr a4), some (vi (x5 + 1)), none] [] h) : wp mX1_search 4 rc rs Q 109 [some (vr a0), some (vr a1), some (vr a2), some (vi x3), some (vr a4), some (vi x5), none] [] h :=
  (show wp mX1_search 4 rc rs Q 109 [some (vr a0), some (vr a1), some (vr a2), some (vi x3), some (vr a4), some (vi x5), none] [] h from xGo k_X1_search_109 (have c1 := hv.1; have v2 := hv.2; (And.intro c1 (And.intro rfl v2))))
theorem t_X1_search_126 {rc rs : Nat} {Q : Option AV → AH → Prop} {h : AH} {a0 : Nat} {x3 : Int} (hL : LayL h) (hA0 : iHi a0) (hv : ((8 ≤ x3 → Q none h) ∧ (x3 < 8 → (0 ≤ x3 ∧ x3 < 8) ∧ (-2147483648 ≤ (x3 + 1) ∧ (x3 + 1) < 2147483648) ∧ wp mX1_search 4 rc rs Q 126 [some (vr a0), none, none, some (vi (x3 + 1)), none, none, none] [] (sJ h (a0 + 3) x3.toNat 0)))) : wp mX1_search 4 rc rs Q 126 [some (vr a0), none, none, some (vi x3), none, none, none] [] h :=
  (show wp mX1_search 4 rc rs Q 126 [some (vr a0), none, none, some (vi x3), none, none, none] [] h from xIc k_X1_search_126 (And.intro (fun c1 => have v3 := hv.1 c1; (show wp mX1_search 4 rc rs Q 145 [some (vr a0), none, none, some (vi x3), none, none, none] [] h from xV k_X1_search_145 (And.intro rfl v3))) (fun c2 => have v4 := hv.2 (Int.not_le.mp c2); (show wp mX1_search 4 rc rs Q 132 [some (vr a0), none, none, some (vi x3), none, none, none] [] h from xGo k_X1_search_132 (And.intro (hi_o hL hA0) (Exists.intro (a0 + 3) (And.intro (hi_r2 hL hA0) (have c5 := v4.1; have v8 := v4.2; (And.intro (sdJ (hi_a2 hL hA0) c5) (have c6 := v8.1; have v7 := v8.2; (And.intro c6 (And.intro rfl v7))))))))))))
theorem l_search {h g : AH} {da sa : Nat → Nat} (hL : LayL h) {a aq b : Nat} {q n : Int} {row : Nat → Int} {dr : Nat → Nat → Prop} (ha : iHi a) (hqa : iQu aq) (hb : iSt b) (hq : cQry h g aq q) (hd : cDocs h g da) (hs : cSegs h g da sa) (hc : cStd h g sa b n row dr) (ho : v_off g row n.toNat ≤ 64) : Ct 4 0 0 mX1_search [vr a, vr aq, vr b] h (QV (p_search h g a aq q n row dr)) := by
  have hLH : ∀ {n sm : Int} {K W P : Nat → Int} {M : Nat → Int64}, LayL (hH h a (aq + 5) n sm K W P M) := hL
  have dis : a + 3 < aq ∧ a + 3 < 1191 ∧ aq + 5 < 1191 ∧ b ≠ a ∧ b ≠ a + 1 ∧ b ≠ a + 2 ∧ b ≠ aq + 5 ∧ b + 2 ≠ a + 3 := by
    unfold iHi iQu iSt at *; omega
  obtain ⟨q1, q2, q3, q4, q5, q6, q7, q8⟩ := dis
  have rb : ∀ {n sm : Int} {K W P : Nat → Int} {M : Nat → Int64} {k : Nat}, iH (hH h a (aq + 5) n sm K W P M) b k = iH h b k := hh_o q4 q5 q6 q7
  have hdH : ∀ {n sm : Int} {K W P : Nat → Int} {M : Nat → Int64}, cDocs (hH h a (aq + 5) n sm K W P M) g da := cDocs_ag (agD_hH q2 q3) hd
  have hqH : ∀ {n sm : Int} {K W P : Nat → Int} {M : Nat → Int64}, cQry (hH h a (aq + 5) n sm K W P M) g aq q := fun {n sm K W P M} => by
    exact cQry_cg (fun k => hh_o (by omega) (by omega) (by omega) (by omega)) (fun i _ _ k => hh_o (by omega) (by omega) (by omega) (by omega)) hq
  obtain ⟨c1, c2, c3⟩ := hc
  -- what stands at s
  have hst : ∀ s : Nat, (s : Int) < n → ∃ x r : Nat, row s = (x : Int) ∧ rH h (b + 1) s = some (sa x) ∧ m_segd g (x : Int) ∧ iSg h (sa x) (iH g 615 x).toNat r ∧ (∀ k : Nat, bt (jH h (b + 2) s) k ↔ (k : Int) < iH g 615 x ∧ dr s k) ∧ (0 ≤ iH g 615 x ∧ iH g 615 x ≤ 64) ∧ ∀ k : Nat, (k : Int) < iH g 615 x → ∃ d : Nat, iH g (617 + x) k = (d : Int) ∧ rH h (sa x - 1) k = some (da d) ∧ (d : Int) < iH g 89 0 := fun s hsn => by
    obtain ⟨⟨p1, p2⟩, p3, p4⟩ := c3 s hsn
    obtain ⟨x, e⟩ := Int.eq_ofNat_of_zero_le p1
    rw [e] at p2 p3 p4
    rw [Int.toNat_natCast] at p3 p4
    obtain ⟨d1, -, -, ⟨r, d2, -⟩, d3⟩ := hs x p2
    have hg := d1.1.1
    have hl := hg.2.1
    rw [Int.toNat_natCast] at hl
    refine ⟨x, r, e, p3, d1.1, d2, p4, hl, fun k hk => ?_⟩
    have hm := hg.2.2 k (by rw [Int.toNat_natCast]; exact hk)
    rw [Int.toNat_natCast] at hm
    obtain ⟨d, ed⟩ := Int.eq_ofNat_of_zero_le hm.1
    obtain ⟨f1, f2⟩ := d3 k hk
    rw [ed] at f1 f2
    rw [Int.toNat_natCast] at f1
    exact ⟨d, ed, f1, f2⟩
  have hmd : ∀ s : Nat, (s : Int) < n → ∀ k : Nat, k < (iH g 615 (row s).toNat).toNat → m_doc g (iH g (617 + (row s).toNat) k) := fun s hsn k hk => by
    obtain ⟨x, r, e, -, hg, -, -, -, -⟩ := hst s hsn
    rw [e] at hk ⊢
    rw [Int.toNat_natCast] at hk ⊢
    have := hg.2 k (by rw [Int.toNat_natCast]; omega)
    rw [Int.toNat_natCast] at this
    exact this
  have hlen : ∀ s : Nat, (s : Int) < n → 0 ≤ iH g 615 (row s).toNat := fun s hsn => by
    obtain ⟨x, r, e, -, -, -, -, hl, -⟩ := hst s hsn
    rw [e, Int.toNat_natCast]; exact hl.1
  have hfd : ∀ s : Nat, (s : Int) ≤ n → ((v_fd g q row dr s).1 : Int) ≤ v_off g row s ∧ 0 ≤ (v_fd g q row dr s).2.1 ∧ (v_fd g q row dr s).2.1 ≤ 999 * ((v_fd g q row dr s).1 : Int) := by
    intro s
    induction s with
    | zero => intro _; exact ⟨Int.le_refl 0, Int.le_refl 0, Int.le_refl 0⟩
    | succ s ih =>
      intro h1
      have i1 := ih (by omega)
      have i2 := v_fI_bd (dr := dr) hq.1 (hmd s (by omega)) i1.2 (iH g 615 (row s).toNat).toNat (Nat.le_refl _)
      have i3 := hlen s (by omega)
      show ((v_fI g q row dr s (v_fd g q row dr s) (iH g 615 (row s).toNat).toNat).1 : Int) ≤ v_off g row s + iH g 615 (row s).toNat ∧ 0 ≤ (v_fI g q row dr s (v_fd g q row dr s) (iH g 615 (row s).toNat).toNat).2.1 ∧ (v_fI g q row dr s (v_fd g q row dr s) (iH g 615 (row s).toNat).toNat).2.1 ≤ 999 * ((v_fI g q row dr s (v_fd g q row dr s) (iH g 615 (row s).toNat).toNat).1 : Int)
      omega
  have hoff : ∀ s m : Nat, (m : Int) ≤ n → s ≤ m → v_off g row s ≤ v_off g row m := by
    intro s m
    induction m with
    | zero => intro _ h2; rw [show s = 0 by omega]; exact Int.le_refl _
    | succ m ih =>
      intro h1 h2
      by_cases e : s = m + 1
      · rw [e]; exact Int.le_refl _
      · have := ih (by omega) (by omega)
        have := hlen m (by omega)
        show _ ≤ v_off g row m + iH g 615 (row m).toNat
        omega
  -- the end
  have tail : ∀ j : Nat, n ≤ (j : Int) → j ≤ 8 → ∀ K W P M, f_agk (fun d => iH g 90 d.toNat) (v_fd g q row dr n.toNat) K W → (∀ s : Nat, s < j → ∀ k : Nat, bt (M s) k ↔ (s : Int) < n ∧ v_mk g q row dr s k) → wp mX1_search 4 0 0 (QV (p_search h g a aq q n row dr)) 126 [some (vr a), none, none, some (vi j), none, none, none] [] (hH h a (aq + 5) ((v_fd g q row dr n.toNat).1 : Nat) (v_fd g q row dr n.toNat).2.1 K W P M) := by
    refine dn 8 (fun j hj h1 h2 K W P M h3 h4 => ?_) (fun j hj ih h1 h2 K W P M h3 h4 => ?_)
    · exact t_X1_search_126 hLH ha ⟨fun _ => ⟨rfl, K, W, P, M, rfl, h3, fun s hs k => h4 s (by omega) k⟩, fun c => absurd c (by omega)⟩
    · refine t_X1_search_126 hLH ha ⟨fun c => absurd c (by omega), fun _ => ⟨by omega, by omega, ?_⟩⟩
      rw [Int.toNat_natCast, hs_M]
      refine ih (by omega) (by omega) K W P _ h3 (fun s hs k => ?_)
      unfold updJ
      by_cases e : s = j
      · rw [if_pos e]; exact ⟨fun w => absurd w bt_0, fun w => by have := w.1; omega⟩
      · rw [if_neg e]; exact h4 s (by omega) k
  have main := up (P := fun s => ∀ K W P M, f_agk (fun d => iH g 90 d.toNat) (v_fd g q row dr s) K W → (∀ i : Nat, i < s → ∀ k : Nat, bt (M i) k ↔ (i : Int) < n ∧ v_mk g q row dr i k) → wp mX1_search 4 0 0 (QV (p_search h g a aq q n row dr)) 12 [some (vr a), some (vr aq), some (vr b), some (vi s), none, none, none] [] (hH h a (aq + 5) ((v_fd g q row dr s).1 : Nat) (v_fd g q row dr s).2.1 K W P M)) n.toNat ?_ ?_
  · refine e_X1_search hL ha hqa hb ?_
    have := main (iH h (a + 1)) (iH h (a + 2)) (iH h (aq + 5)) (jH h (a + 3)) (fun i hi => absurd hi (Nat.not_lt_zero _)) (fun i hi => absurd hi (Nat.not_lt_zero _))
    have e0 : sI (sI h a 3 0) a 4 0 = hH h a (aq + 5) ((v_fd g q row dr 0).1 : Nat) (v_fd g q row dr 0).2.1 (iH h (a + 1)) (iH h (a + 2)) (iH h (aq + 5)) (jH h (a + 3)) := by
      have := hh_id (h := h) (a := a) (b := aq + 5)
      conv => lhs; rw [this]
      rw [hs_3, hs_4]
      rfl
    rw [e0]
    exact this
  · intro K W P M h1 h2
    refine t_X1_search_12 hLH ha hqa hb ?_
    rw [rb, c1]
    refine ⟨fun _ => ?_, fun c => absurd c (by omega)⟩
    have := tail n.toNat (by omega) (by omega) K W P M h1 h2
    rw [show ((n.toNat : Nat) : Int) = n by omega] at this
    exact this
  · intro s hs2 ih K W P M h1 h2
    obtain ⟨x, r, ex, x1, hg, hS, hbits, hl, hmem⟩ := hst s (by omega)
    have hbd := hfd s (by omega)
    have ho1 := hoff (s + 1) n.toNat (by omega) (by omega)
    have ho2 : v_off g row (s + 1) = v_off g row s + iH g 615 x := by
      show v_off g row s + iH g 615 (row s).toNat = _
      rw [ex, Int.toNat_natCast]
    have eS0 : v_fd g q row dr (s + 1) = v_fI g q row dr s (v_fd g q row dr s) (iH g 615 x).toNat := by
      show v_fI g q row dr s (v_fd g q row dr s) (iH g 615 (row s).toNat).toNat = _
      rw [ex, Int.toNat_natCast]
    refine t_X1_search_12 hLH ha hqa hb ?_
    rw [rb, c1, Int.toNat_natCast, hs_M]
    refine ⟨fun c => absurd c (by omega), fun _ => ⟨by omega, _, _, r, ⟨x1, hS⟩, ?_⟩⟩
    have inner := up (P := fun k => ∀ K W P M, f_agk (fun d => iH g 90 d.toNat) (v_fI g q row dr s (v_fd g q row dr s) k) K W → (∀ i : Nat, i < s → ∀ k : Nat, bt (M i) k ↔ (i : Int) < n ∧ v_mk g q row dr i k) → (∀ j : Nat, bt (M s) j ↔ j < k ∧ 0 < v_fv g q row dr s j) → wp mX1_search 4 0 0 (QV (p_search h g a aq q n row dr)) 41 [some (vr a), some (vr aq), some (vr b), some (vi s), some (vr (sa x - 1)), some (vi k), none] [] (hH h a (aq + 5) ((v_fI g q row dr s (v_fd g q row dr s) k).1 : Nat) (v_fI g q row dr s (v_fd g q row dr s) k).2.1 K W P M)) (iH g 615 x).toNat ?_ ?_
    · refine inner K W P _ h1 (fun i hi k => ?_) (fun j => ?_)
      · unfold updJ; rw [if_neg (by omega)]; exact h2 i hi k
      · unfold updJ; rw [if_pos rfl]; exact ⟨fun w => absurd w bt_0, fun w => absurd w.1 (Nat.not_lt_zero _)⟩
    · intro K W P M h1 h2 h3
      refine t_X1_search_41 hLH ha hqa hb (sg_a1 hS) ⟨by omega, fun _ => ⟨by omega, ?_⟩, fun c => absurd c (by omega)⟩
      rw [← eS0] at h1 ⊢
      refine ih K W P M h1 (fun i hi k => ?_)
      by_cases e : i = s
      · subst e
        rw [h3 k]
        unfold v_mk
        rw [ex, Int.toNat_natCast]
        constructor
        · intro w; exact ⟨by omega, by omega, w.2⟩
        · intro w; exact ⟨by omega, w.2.2⟩
      · exact h2 i (by omega) k
    · intro k hk jh K W P M h1 h2 h3
      obtain ⟨d, ed, d1, d2⟩ := hmem k (by omega)
      obtain ⟨dd1, dd2, dd3, dd4⟩ := hd d d2
      have hib := v_fI_bd (dr := dr) hq.1 (hmd s (by omega)) hbd.2 k (by rw [ex, Int.toNat_natCast]; omega)
      have eS : v_fI g q row dr s (v_fd g q row dr s) (k + 1) = if 0 < v_fv g q row dr s k then f_add (v_fI g q row dr s (v_fd g q row dr s) k) (iH g (617 + (row s).toNat) k) (v_fv g q row dr s k) else v_fI g q row dr s (v_fd g q row dr s) k := rfl
      rw [ex, Int.toNat_natCast, ed] at eS
      have hwb := m_worth_bd hq.1 dd1
      have evd : v_fv g q row dr s k = @ite _ (dr s k) (Classical.propDecidable _) 0 (m_worth g q d) := by
        show @ite _ (dr s k) (Classical.propDecidable _) 0 (m_worth g q (iH g (617 + (row s).toNat) k)) = _
        rw [ex, Int.toNat_natCast, ed]
      generalize hSS : v_fI g q row dr s (v_fd g q row dr s) k = S at *
      have hkey : ∀ P', iH (hH h a (aq + 5) S.1 S.2.1 K W P' M) (da d) 0 = iH g 90 d := fun P' => by rw [hh_o (by have := dd2.2.2.2.1; omega) (by have := dd2.2.2.2.1; omega) (by have := dd2.2.2.2.1; omega) (by have := dd2.2.2.2.1; omega)]; exact dd3
      -- from 77 on
      have at77 : ∀ (v : Int) (P' : Nat → Int), v = v_fv g q row dr s k → wp mX1_search 4 0 0 (QV (p_search h g a aq q n row dr)) 77 [some (vr a), some (vr aq), some (vr b), some (vi s), some (vr (sa x - 1)), some (vi k), some (vi v)] [] (hH h a (aq + 5) S.1 S.2.1 K W P' M) := by
        intro v P' hv
        have at109 : ∀ K W M, f_agk (fun d => iH g 90 d.toNat) (v_fI g q row dr s (v_fd g q row dr s) (k + 1)) K W → (∀ i : Nat, i < s → ∀ k : Nat, bt (M i) k ↔ (i : Int) < n ∧ v_mk g q row dr i k) → (∀ j : Nat, bt (M s) j ↔ j < k + 1 ∧ 0 < v_fv g q row dr s j) → wp mX1_search 4 0 0 (QV (p_search h g a aq q n row dr)) 109 [some (vr a), some (vr aq), some (vr b), some (vi s), some (vr (sa x - 1)), some (vi k), none] [] (hH h a (aq + 5) ((v_fI g q row dr s (v_fd g q row dr s) (k + 1)).1 : Nat) (v_fI g q row dr s (v_fd g q row dr s) (k + 1)).2.1 K W P' M) := fun K W M w1 w2 w3 =>
          t_X1_search_109 hLH ha hqa hb (sg_a1 hS) ⟨by omega, jh K W P' M w1 w2 w3⟩
        refine t_X1_search_77 hLH ha hqa hb (sg_a1 hS) ⟨fun c => ?_, fun c => ?_⟩
        · have e0 : ¬ 0 < v_fv g q row dr s k := by omega
          rw [if_neg e0] at eS
          have := at109 K W M (by rw [eS]; exact h1) h2 (fun j => by
            rw [h3 j]
            constructor
            · intro w; exact ⟨by omega, w.2⟩
            · intro w
              by_cases e : j = k
              · subst e; exact absurd w.2 e0
              · exact ⟨by omega, w.2⟩)
          rw [eS] at this
          exact this
        · have e0 : 0 < v_fv g q row dr s k := by omega
          rw [if_pos e0] at eS
          rw [Int.toNat_natCast, Int.toNat_natCast, hh_M, hs_M]
          have hv999 : v ≤ 999 := by
            rw [hv, evd]
            split
            · omega
            · exact hwb.2
          refine ⟨by omega, by omega, da d, _, ⟨d1, iD_ag (agD_hH q2 q3) dd2⟩, _, l_insert (b := aq + 5) hL ha (n := S.1) (by omega) (by omega) (by omega), fun h12 hq12 => ?_⟩
          subst hq12
          refine ⟨hLH, sg_a1 hS, ?_⟩
          have := at109 _ _ (updJ M s (M s ||| shl6 1 (k : Int))) (by rw [eS]; exact f_agk_add h1) (fun i hi j => by unfold updJ; rw [if_neg (by omega)]; exact h2 i hi j) (fun j => by
            unfold updJ
            rw [if_pos rfl, bt_set (by omega), h3 j]
            constructor
            · rintro (w | w)
              · exact ⟨by omega, w.2⟩
              · have : j = k := by omega
                subst this; exact ⟨by omega, e0⟩
            · intro w
              by_cases e : j = k
              · exact Or.inr (by omega)
              · exact Or.inl ⟨by omega, w.2⟩)
          rw [eS, ← hv] at this
          rw [hkey]
          exact this
      refine t_X1_search_41 hLH ha hqa hb (sg_a1 hS) ⟨by omega, fun c => absurd c (by omega), fun _ => ⟨⟨hb, by omega, by omega⟩, ?_⟩⟩
      rw [Int.toNat_natCast, Int.toNat_natCast, hh_jo q8, hbits k]
      refine ⟨fun c => ⟨by omega, da d, _, ⟨d1, iD_ag (agD_hH q2 q3) dd2⟩, _, l_worthIn (g := g) (q := q) (d := d) hLH hqa hqH (n := (iH g 91 d).toNat) ⟨?_, ?_, ?_, ?_⟩ dd1 (by have := dd2.2.2.2.1; omega), fun v h17 _ hv => ?_⟩, fun c => ?_⟩
      · exact dc_a1 (iD_ag (agD_hH q2 q3) dd2)
      · have := dd1.2.1; rw [Int.toNat_natCast] at this; rw [Int.toNat_natCast]; omega
      · exact dd2.2.2.2.2
      · intro i hi
        rw [hh_o (by have := dd2.2.2.2.1; omega) (by have := dd2.2.2.2.1; omega) (by have := dd2.2.2.2.1; omega) (by have := dd2.2.2.2.1; omega), Int.toNat_natCast]
        exact dd4 i hi
      · obtain ⟨rfl, w, rfl⟩ := hv
        rw [hs_P (by omega)]
        refine ⟨hLH, sg_a1 hS, at77 _ w ?_⟩
        rw [evd, if_neg (fun q => c ⟨by omega, q⟩)]
      · exact at77 0 P (by rw [evd, if_pos c.2])
