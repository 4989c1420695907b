/-! WHAT IS FOUND IN A STAND, AGAINST THE REFERENCE'S -/
section
variable {g : AH} {q : Int} {t : Nat}
theorem v_fv_t (s k : Nat) : v_fv g q (tRow g t) (tDr g t) s k = m_fv g t q s k := by
  unfold v_fv m_fv
  rw [Int.toNat_natCast]
  by_cases c : iH g (1148 + t) ((m_offT g t s).toNat + k) = 0
  · rw [if_pos c, if_neg (fun u : tDr g t s k => u c)]; rfl
  · rw [if_neg c, if_pos (show tDr g t s k from c)]
theorem v_fI_t (s : Nat) (S : FS) : ∀ k : Nat, v_fI g q (tRow g t) (tDr g t) s S k = m_fI g t q s S k
  | 0 => rfl
  | k + 1 => by
    unfold v_fI m_fI
    rw [v_fv_t, v_fI_t s S k]
    rfl
theorem v_fd_t : ∀ s : Nat, v_fd g q (tRow g t) (tDr g t) s = m_fd g t q s
  | 0 => rfl
  | s + 1 => by
    unfold v_fd m_fd
    rw [v_fI_t, v_fd_t s]
    rfl
theorem v_off_t (s : Nat) : v_off g (tRow g t) s = m_offT g t s := rfl
end
theorem hit_v {h g h1 : AH} {a aq : Nat} {q n w : Int} {row : Nat → Int} {dr : Nat → Nat → Prop} (hs : p_search h g a aq q n row dr h1) (hw : m_asked w) (hw1 : w ≠ 1) : l_hit h1 a w = if w = 0 then ((v_fd g q row dr n.toNat).1 : Int) else if w = 2 then (v_fd g q row dr n.toNat).2.1 else if w < 100 then (if w - 10 < ((v_fd g q row dr n.toNat).1 : Int) then iH g 90 ((v_fd g q row dr n.toNat).2.2.1 (w - 10).toNat).toNat else -1) else (if w - 100 < ((v_fd g q row dr n.toNat).1 : Int) then (v_fd g q row dr n.toNat).2.2.2 (w - 100).toNat else -1) := by
  obtain ⟨K, W, P, M, rfl, hk, -⟩ := hs
  unfold m_asked at hw
  unfold l_hit
  rw [hh_3, hh_4]
  by_cases c0 : w = 0
  · rw [if_pos c0, if_pos c0]
  · rw [if_neg c0, if_neg c0]
    by_cases c2 : w = 2
    · rw [if_pos c2, if_pos c2]
    · rw [if_neg c2, if_neg c2]
      by_cases c3 : w < 100
      · rw [if_neg (by omega), if_pos c3, hh_K]
        by_cases c4 : w - 10 < ((v_fd g q row dr n.toNat).1 : Int)
        · rw [if_pos c4, if_pos c4]
          exact (hk _ (by omega)).1
        · rw [if_neg c4, if_neg c4]
      · rw [if_pos (by omega), if_neg c3, hh_W]
        by_cases c4 : w - 100 < ((v_fd g q row dr n.toNat).1 : Int)
        · rw [if_pos c4, if_pos c4]
          exact (hk _ (by omega)).2
        · rw [if_neg c4, if_neg c4]
/-- no more is found than stands there -/
theorem v_fd_bd {h g : AH} {sa : Nat → Nat} {da : Nat → Nat} {b : Nat} {q n : Int} {row : Nat → Int} {dr : Nat → Nat → Prop} (hq : m_qok g q) (hs : cSegs h g da sa) (hc : cStd h g sa b n row dr) : ∀ s : Nat, (s : Int) ≤ n → ((v_fd g q row dr s).1 : Int) ≤ v_off g row s ∧ 0 ≤ (v_fd g q row dr s).2.1 ∧ (v_fd g q row dr s).2.1 ≤ 999 * ((v_fd g q row dr s).1 : Int) := by
  intro s
  induction s with
  | zero => intro _; exact ⟨Int.le_refl 0, Int.le_refl 0, Int.le_refl 0⟩
  | succ s ih =>
    intro h1
    have i1 := ih (by omega)
    have r := (hc.2.2 s (by omega)).1
    have sg := (hs (row s).toNat (by omega)).1.1
    have i3 := sg.1.2.1.1
    rw [Int.toNat_natCast] at i3
    have i2 := v_fI_bd (row := row) (dr := dr) hq (s := s) (m := (iH g 615 (row s).toNat).toNat) (fun k hk => by
      have := sg.2 k (by rw [Int.toNat_natCast]; omega)
      rw [Int.toNat_natCast] at this
      exact this) i1.2 (iH g 615 (row s).toNat).toNat (Nat.le_refl _)
    show ((v_fI g q row dr s (v_fd g q row dr s) (iH g 615 (row s).toNat).toNat).1 : Int) ≤ v_off g row s + iH g 615 (row s).toNat ∧ 0 ≤ (v_fI g q row dr s (v_fd g q row dr s) (iH g 615 (row s).toNat).toNat).2.1 ∧ (v_fI g q row dr s (v_fd g q row dr s) (iH g 615 (row s).toNat).toNat).2.1 ≤ 999 * ((v_fI g q row dr s (v_fd g q row dr s) (iH g 615 (row s).toNat).toNat).1 : Int)
    omega
noncomputable def v_ans (g : AH) (q n : Int) (row : Nat → Int) (dr : Nat → Nat → Prop) (w : Int) : Int := if w = 1 then v_cost g q n.toNat row else if w = 0 then ((v_fd g q row dr n.toNat).1 : Int) else if w = 2 then (v_fd g q row dr n.toNat).2.1 else if w < 100 then (if w - 10 < ((v_fd g q row dr n.toNat).1 : Int) then iH g 90 ((v_fd g q row dr n.toNat).2.2.1 (w - 10).toNat).toNat else -1) else (if w - 100 < ((v_fd g q row dr n.toNat).1 : Int) then (v_fd g q row dr n.toNat).2.2.2 (w - 100).toNat else -1)
def b_X11_answer_0 : List IE := [(.iload_n 3, 1, 0, 0, 3, 0), (.iconst 1, 1, 1, 0, 0, 0)]
theorem k_X11_answer_0 : ckIc mX11_answer 11 0 b_X11_answer_0 2 1 9 11 5 = true := by decide +kernel
def b_X11_answer_5 : List IE := [(.aload_n 1, 1, 0, 0, 1, 0), (.aload_n 2, 1, 0, 0, 2, 0)]
theorem k_X11_answer_5 : ckB mX11_answer 11 5 b_X11_answer_5 7 = true := by decide +kernel
def b_X11_answer_10 : List IE := []
theorem k_X11_answer_10 : ckI mX11_answer 11 10 b_X11_answer_10 10 = true := by decide +kernel
def b_X11_answer_11 : List IE := [(.aload_n 0, 1, 0, 0, 0, 0), (.getfield 91, 3, 0, 11, 17, 1), (.aload_n 1, 1, 0, 0, 1, 0), (.aload_n 2, 1, 0, 0, 2, 0)]
theorem k_X11_answer_11 : ckB mX11_answer 11 11 b_X11_answer_11 17 = true := by decide +kernel
def b_X11_answer_20 : List IE := [(.aload_n 0, 1, 0, 0, 0, 0), (.getfield 91, 3, 0, 11, 17, 1), (.iload_n 3, 1, 0, 0, 3, 0)]
theorem k_X11_answer_20 : ckB mX11_answer 11 20 b_X11_answer_20 25 = true := by decide +kernel
def b_X11_answer_28 : List IE := []
theorem k_X11_answer_28 : ckI mX11_answer 11 28 b_X11_answer_28 28 = true := by decide +kernel
theorem s_X11_answer_7 : cV mX11_answer 7 mX5_costIn 360 1 5 := ⟨by decide +kernel, ⟨ml_X5_costIn, li_RX11_360, im_X5_costIn, se_X5_costIn⟩, ⟨by decide +kernel, by decide +kernel⟩, by decide +kernel⟩
theorem s_X11_answer_17 : cV mX11_answer 17 mX1_search 149 2 1 := ⟨by decide +kernel, ⟨ml_X1_search, li_RX11_149, im_X1_search, se_X1_search⟩, ⟨by decide +kernel, by decide +kernel⟩, by decide +kernel⟩
theorem s_X11_answer_25 : cV mX11_answer 25 mX1_answer 363 1 1 := ⟨by decide +kernel, ⟨ml_X1_answer, li_RX11_363, im_X1_answer, se_X1_answer⟩, ⟨by decide +kernel, by decide +kernel⟩, by decide +kernel⟩
theorem t_X11_answer_0 {rc rs : Nat} {Q : Option AV → AH → Prop} {h : AH} {a1 a2 : Nat} {x3 : Int} (hL : LayL h) (hA1 : iQu a1) (hA2 : iSt a2) (hv : ((x3 ≠ 1 → (∃ P7 : AH → Prop, Ct 4 0 0 mX1_search [vr 24, vr a1, vr a2] h (QV P7) ∧ ∀ h5 : AH, P7 h5 → LayL h5 ∧ (∃ P10 : Int → AH → Prop, Ct 0 0 0 mX1_answer [vr 24, vi x3] h5 (QI P10) ∧ ∀ (r9 : Int) (h8 : AH), (-2147483648 ≤ r9 ∧ r9 < 2147483648) → P10 r9 h8 → LayL h8 ∧ Q (some (vi r9)) h8))) ∧ (x3 = 1 → (∃ P21 : Int → AH → Prop, Ct 5 0 0 mX5_costIn [vr a1, vr a2] h (QI P21) ∧ ∀ (r20 : Int) (h19 : AH), (-2147483648 ≤ r20 ∧ r20 < 2147483648) → P21 r20 h19 → LayL h19 ∧ Q (some (vi r20)) h19)))) : wp mX11_answer 6 rc rs Q 0 [some (vr 0), some (vr a1), some (vr a2), some (vi x3)] [] h :=
  (show wp mX11_answer 6 rc rs Q 0 [some (vr 0), some (vr a1), some (vr a2), some (vi x3)] [] h from xIc k_X11_answer_0 (And.intro (fun c1 => have v3 := hv.1 c1; (show wp mX11_answer 6 rc rs Q 11 [some (vr 0), some (vr a1), some (vr a2), some (vi x3)] [] h from xcV k_X11_answer_11 s_X11_answer_17 (And.intro (ll_0 hL) (Exists.intro 24 (And.intro (lg_0_17 hL) (Exists.elim v3 (fun P7 v15 => (Exists.intro [vr a1, vr a2] (Exists.intro 24 (Exists.intro [] (And.intro (And.intro rfl (And.intro rfl (Nat.le_of_ble_eq_true rfl))) (And.intro (ll_24 hL) (Exists.intro 4 (Exists.intro 0 (Exists.intro 0 (Exists.intro (QV P7) (And.intro v15.1 (And.intro (And.intro (by decide) (And.intro (Nat.zero_le _) (Nat.zero_le _))) (eQV (fun h5 e17 => have v16 := v15.2 h5 e17; have hL := v16.1; have v16 := v16.2; (show wp mX11_answer 6 rc rs Q 20 [some (vr 0), some (vr a1), some (vr a2), some (vi x3)] [] h5 from xcV k_X11_answer_20 s_X11_answer_25 (And.intro (ll_0 hL) (Exists.intro 24 (And.intro (lg_0_17 hL) (Exists.elim v16 (fun P10 v11 => (Exists.intro [vi x3] (Exists.intro 24 (Exists.intro [] (And.intro (And.intro rfl (And.intro rfl (Nat.le_of_ble_eq_true rfl))) (And.intro (ll_24 hL) (Exists.intro 0 (Exists.intro 0 (Exists.intro 0 (Exists.intro (QI P10) (And.intro v11.1 (And.intro (And.intro (by decide) (And.intro (Nat.zero_le _) (Nat.zero_le _))) (eQI (fun r9 h8 q14 e13 => have v12 := v11.2 r9 h8 q14 e13; have hL := v12.1; have v12 := v12.2; (show wp mX11_answer 6 rc rs Q 28 [some (vr 0), some (vr a1), some (vr a2), some (vi x3)] [vi r9] h8 from xI k_X11_answer_28 (And.intro rfl v12))))))))))))))))))))))))))))))))))))))))) (fun c2 => have v4 := hv.2 (Decidable.not_not.mp c2); (show wp mX11_answer 6 rc rs Q 5 [some (vr 0), some (vr a1), some (vr a2), some (vi x3)] [] h from xcV k_X11_answer_5 s_X11_answer_7 (Exists.elim v4 (fun P21 v22 => (Exists.intro [vr a2] (Exists.intro a1 (Exists.intro [] (And.intro (And.intro rfl (And.intro rfl (Nat.le_of_ble_eq_true rfl))) (And.intro (qu_o hL hA1) (Exists.intro 5 (Exists.intro 0 (Exists.intro 0 (Exists.intro (QI P21) (And.intro v22.1 (And.intro (And.intro (by decide) (And.intro (Nat.zero_le _) (Nat.zero_le _))) (eQI (fun r20 h19 q25 e24 => have v23 := v22.2 r20 h19 q25 e24; have hL := v23.1; have v23 := v23.2; (show wp mX11_answer 6 rc rs Q 10 [some (vr 0), some (vr a1), some (vr a2), some (vi x3)] [vi r20] h19 from xI k_X11_answer_10 (And.intro rfl v23)))))))))))))))))))))
theorem e_X11_answer {mc ms : Nat} {Q : Option AV → AH → Prop} {h : AH} {a1 a2 : Nat} {x3 : Int} (hL : LayL h) (hA1 : iQu a1) (hA2 : iSt a2) (hv : ((x3 ≠ 1 → (∃ P7 : AH → Prop, Ct 4 0 0 mX1_search [vr 24, vr a1, vr a2] h (QV P7) ∧ ∀ h5 : AH, P7 h5 → LayL h5 ∧ (∃ P10 : Int → AH → Prop, Ct 0 0 0 mX1_answer [vr 24, vi x3] h5 (QI P10) ∧ ∀ (r9 : Int) (h8 : AH), (-2147483648 ≤ r9 ∧ r9 < 2147483648) → P10 r9 h8 → LayL h8 ∧ Q (some (vi r9)) h8))) ∧ (x3 = 1 → (∃ P21 : Int → AH → Prop, Ct 5 0 0 mX5_costIn [vr a1, vr a2] h (QI P21) ∧ ∀ (r20 : Int) (h19 : AH), (-2147483648 ≤ r20 ∧ r20 < 2147483648) → P21 r20 h19 → LayL h19 ∧ Q (some (vi r20)) h19)))) : Ct 6 mc ms mX11_answer [vr 0, vr a1, vr a2, vi x3] h Q := Ct.of (by decide +kernel) (Nat.le_of_ble_eq_true rfl) (t_X11_answer_0 hL hA1 hA2 hv)
def b_X11_isDear_0 : List IE := [(.aload_n 0, 1, 0, 0, 0, 0), (.getfield 62, 3, 0, 11, 12, 1), (.iload_n 1, 1, 0, 0, 1, 0), (.aaload, 1, 0, 0, 0, 0), (.aload_n 0, 1, 0, 0, 0, 0), (.getfield 25, 3, 0, 11, 3, 1)]
theorem k_X11_isDear_0 : ckB mX11_isDear 11 0 b_X11_isDear_0 10 = true := by decide +kernel
def b_X11_isDear_13 : List IE := [(.aload_n 0, 1, 0, 0, 0, 0), (.getfield 56, 3, 0, 11, 11, 0)]
theorem k_X11_isDear_13 : ckIc mX11_isDear 11 13 b_X11_isDear_13 17 5 7 24 20 = true := by decide +kernel
def b_X11_isDear_20 : List IE := [(.iconst 1, 1, 1, 0, 0, 0)]
theorem k_X11_isDear_20 : ckGo mX11_isDear 11 20 b_X11_isDear_20 21 4 25 = true := by decide +kernel
def b_X11_isDear_24 : List IE := [(.iconst 0, 1, 0, 0, 0, 0)]
theorem k_X11_isDear_24 : ckZ mX11_isDear 11 24 b_X11_isDear_24 25 = true := by decide +kernel
def b_X11_isDear_25 : List IE := []
theorem k_X11_isDear_25 : ckZ mX11_isDear 11 25 b_X11_isDear_25 25 = true := by decide +kernel
theorem s_X11_isDear_10 : cV mX11_isDear 10 mX5_costIn 360 1 5 := ⟨by decide +kernel, ⟨ml_X5_costIn, li_RX11_360, im_X5_costIn, se_X5_costIn⟩, ⟨by decide +kernel, by decide +kernel⟩, by decide +kernel⟩
theorem t_X11_isDear_0 {rc rs : Nat} {Q : Option AV → AH → Prop} {h : AH} {x1 : Int} (hL : LayL h) (hv : (0 ≤ x1 ∧ x1 < 6) ∧ (∃ P4 : Int → AH → Prop, Ct 5 0 0 mX5_costIn [vr (45 + 6 * x1.toNat), vr 5] h (QI P4) ∧ ∀ (r3 : Int) (h2 : AH), (-2147483648 ≤ r3 ∧ r3 < 2147483648) → P4 r3 h2 → LayL h2 ∧ ((r3 ≤ (iH h2 0 11) → Q (some (vi 0)) h2) ∧ ((iH h2 0 11) < r3 → Q (some (vi 1)) h2)))) : wp mX11_isDear 6 rc rs Q 0 [some (vr 0), some (vi x1)] [] h :=
  (show wp mX11_isDear 6 rc rs Q 0 [some (vr 0), some (vi x1)] [] h from xcV k_X11_isDear_0 s_X11_isDear_10 (And.intro (ll_0 hL) (Exists.intro 19 (And.intro (lg_0_12 hL) (have c1 := hv.1; have v13 := hv.2; (And.intro (sdQ (ll_19 hL) c1) (Exists.intro (45 + 6 * x1.toNat) (And.intro (tb_qy hL (tnl c1)) (And.intro (ll_0 hL) (Exists.intro 5 (And.intro (lg_0_3 hL) (Exists.elim v13 (fun P4 v9 => (Exists.intro [vr 5] (Exists.intro (45 + 6 * x1.toNat) (Exists.intro [] (And.intro (And.intro rfl (And.intro rfl (Nat.le_of_ble_eq_true rfl))) (And.intro (qu_o hL (ti_qy (tnl c1))) (Exists.intro 5 (Exists.intro 0 (Exists.intro 0 (Exists.intro (QI P4) (And.intro v9.1 (And.intro (And.intro (by decide) (And.intro (Nat.zero_le _) (Nat.zero_le _))) (eQI (fun r3 h2 q12 e11 => have v10 := v9.2 r3 h2 q12 e11; have hL := v10.1; have v10 := v10.2; (show wp mX11_isDear 6 rc rs Q 13 [some (vr 0), some (vi x1)] [vi r3] h2 from xIc k_X11_isDear_13 (And.intro (ll_0 hL) (And.intro (fun c5 => have v7 := v10.1 c5; (show wp mX11_isDear 6 rc rs Q 24 [some (vr 0), some (vi x1)] [] h2 from xZ k_X11_isDear_24 (And.intro rfl (And.intro (Or.inl rfl) v7)))) (fun c6 => have v8 := v10.2 (Int.not_le.mp c6); (show wp mX11_isDear 6 rc rs Q 20 [some (vr 0), some (vi x1)] [] h2 from xGo k_X11_isDear_20 (show wp mX11_isDear 6 rc rs Q 25 [some (vr 0), some (vi x1)] [vi 1] h2 from xZ k_X11_isDear_25 (And.intro rfl (And.intro (Or.inr rfl) v8))))))))))))))))))))))))))))))))))
theorem e_X11_isDear {mc ms : Nat} {Q : Option AV → AH → Prop} {h : AH} {x1 : Int} (hL : LayL h) (hv : (0 ≤ x1 ∧ x1 < 6) ∧ (∃ P4 : Int → AH → Prop, Ct 5 0 0 mX5_costIn [vr (45 + 6 * x1.toNat), vr 5] h (QI P4) ∧ ∀ (r3 : Int) (h2 : AH), (-2147483648 ≤ r3 ∧ r3 < 2147483648) → P4 r3 h2 → LayL h2 ∧ ((r3 ≤ (iH h2 0 11) → Q (some (vi 0)) h2) ∧ ((iH h2 0 11) < r3 → Q (some (vi 1)) h2)))) : Ct 6 mc ms mX11_isDear [vr 0, vi x1] h Q := Ct.of (by decide +kernel) (Nat.le_of_ble_eq_true rfl) (t_X11_isDear_0 hL hv)
theorem l_answer {h g : AH} {da sa : Nat → Nat} (hL : LayL h) {aq b : Nat} {q n w : Int} {row : Nat → Int} {dr : Nat → Nat → Prop} (hqa : iQu aq) (hb : iSt b) (hq : cQry h g aq q) (hd : cDocs h g da) (hs : cSegs h g da sa) (hc : cStd h g sa b n row dr) (ho : v_off g row n.toNat ≤ 64) (hw : m_asked w) : Ct 6 0 0 mX11_answer [vr 0, vr aq, vr b, vi w] h (QI fun x h' => x = v_ans g q n row dr w ∧ LayL h' ∧ (h' = h ∨ p_search h g 24 aq q n row dr h')) := by
  have hn := hc.2.1
  refine e_X11_answer hL hqa hb ⟨fun c => ⟨_, l_search hL (Or.inl rfl) hqa hb hq hd hs hc ho, fun h1 hh => ?_⟩, fun c => ⟨_, l_costIn hL hqa hb hq hs hc, fun v h1 _ hx => ?_⟩⟩
  · have hit := hit_v hh hw c
    have bd := (v_fd_bd (dr := dr) hq.1 hs hc n.toNat (by omega)).1
    have h3 : iH h1 24 3 = ((v_fd g q row dr n.toNat).1 : Int) := by
      obtain ⟨K, W, P, M, e, -⟩ := hh
      rw [e]; exact hh_3
    have L1 : LayL h1 := by
      obtain ⟨K, W, P, M, e, -⟩ := hh
      rw [e]; exact hL
    refine ⟨L1, _, l_answerH L1 (Or.inl rfl) (by rw [h3]; omega) hw c, fun v h2 _ hx => ?_⟩
    obtain ⟨rfl, rfl⟩ := hx
    refine ⟨L1, _, rfl, ?_, L1, Or.inr hh⟩
    rw [hit]
    unfold v_ans
    rw [if_neg c]
  · obtain ⟨rfl, rfl⟩ := hx
    refine ⟨hL, _, rfl, ?_, hL, Or.inl rfl⟩
    unfold v_ans
    rw [if_pos c]
theorem l_isDear {h g : AH} {da sa : Nat → Nat} (hL : LayL h) {q : Int} (hp : cRd h g da sa ∧ kPo h g ∧ (0 ≤ q ∧ q < 6) ∧ cQry h g (45 + 6 * q.toNat) q) : Ct 6 0 0 mX11_isDear [vr 0, vi q] h (QI fun x h' => x = b01 (iH g 89 23 < v_cost g q (iH g 89 13).toNat (nRow g)) ∧ h' = h) := by
  obtain ⟨hc, hpo, h6, hq⟩ := hp
  refine e_X11_isDear hL ⟨h6, _, l_costIn hL (ti_qy (by omega)) (Or.inl rfl) hq hc.2.1 hc.2.2, fun v h1 _ hx => ?_⟩
  obtain ⟨rfl, rfl⟩ := hx
  refine ⟨hL, ?_⟩
  rw [hpo.2.1]
  exact ⟨fun c => ⟨_, rfl, (b01_f (by omega)).symm, rfl⟩, fun c => ⟨_, rfl, (b01_t c).symm, rfl⟩⟩
def kQ (h g : AH) : Prop := iH h 0 13 = iH g 89 30 ∧ (0 ≤ iH g 89 30 ∧ iH g 89 30 ≤ 6) ∧ ∀ q : Nat, (q : Int) < iH g 89 30 → cQry h g (45 + 6 * q) q
def b_X11_found_0 : List IE := [(.iload_n 1, 1, 0, 0, 1, 0)]
theorem k_X11_found_0 : ckB mX11_found 11 0 b_X11_found_0 1 = true := by decide +kernel
def b_X11_found_4 : List IE := []
theorem k_X11_found_4 : ckIf mX11_found 11 4 b_X11_found_4 4 0 18 22 7 = true := by decide +kernel
def b_X11_found_7 : List IE := [(.aload_n 0, 1, 0, 0, 0, 0), (.iload_n 2, 1, 0, 0, 2, 0)]
theorem k_X11_found_7 : ckB mX11_found 11 7 b_X11_found_7 9 = true := by decide +kernel
def b_X11_found_12 : List IE := []
theorem k_X11_found_12 : ckIf mX11_found 11 12 b_X11_found_12 12 0 10 22 15 = true := by decide +kernel
def b_X11_found_15 : List IE := [(.iload_n 3, 1, 0, 0, 3, 0)]
theorem k_X11_found_15 : ckB mX11_found 11 15 b_X11_found_15 16 = true := by decide +kernel
def b_X11_found_19 : List IE := []
theorem k_X11_found_19 : ckIf mX11_found 11 19 b_X11_found_19 19 1 6 25 22 = true := by decide +kernel
def b_X11_found_22 : List IE := [(.bipush (-2), 2, (-2), 0, 0, 0)]
theorem k_X11_found_22 : ckI mX11_found 11 22 b_X11_found_22 24 = true := by decide +kernel
def b_X11_found_25 : List IE := [(.aload_n 0, 1, 0, 0, 0, 0), (.getfield 35, 3, 0, 11, 6, 1), (.iload_n 1, 1, 0, 0, 1, 0), (.aaload, 1, 0, 0, 0, 0), (.getfield 102, 3, 0, 9, 3, 0)]
theorem k_X11_found_25 : ckIf mX11_found 11 25 b_X11_found_25 34 1 6 40 37 = true := by decide +kernel
def b_X11_found_37 : List IE := [(.bipush (-3), 2, (-3), 0, 0, 0)]
theorem k_X11_found_37 : ckI mX11_found 11 37 b_X11_found_37 39 = true := by decide +kernel
def b_X11_found_40 : List IE := [(.aload_n 0, 1, 0, 0, 0, 0), (.aload_n 0, 1, 0, 0, 0, 0), (.getfield 62, 3, 0, 11, 12, 1), (.iload_n 2, 1, 0, 0, 2, 0), (.aaload, 1, 0, 0, 0, 0), (.aload_n 0, 1, 0, 0, 0, 0), (.getfield 35, 3, 0, 11, 6, 1), (.iload_n 1, 1, 0, 0, 1, 0), (.aaload, 1, 0, 0, 0, 0), (.iload_n 3, 1, 0, 0, 3, 0)]
theorem k_X11_found_40 : ckB mX11_found 11 40 b_X11_found_40 54 = true := by decide +kernel
def b_X11_found_57 : List IE := []
theorem k_X11_found_57 : ckI mX11_found 11 57 b_X11_found_57 57 = true := by decide +kernel
theorem s_X11_found_1 : cS mX11_found 1 mX11_isView 292 1 := ⟨by decide +kernel, ⟨ml_X11_isView, li_RX11_292, st_X11_isView⟩, by decide +kernel⟩
theorem s_X11_found_9 : cV mX11_found 9 mX11_isQuery 146 1 11 := ⟨by decide +kernel, ⟨ml_X11_isQuery, li_RX11_146, im_X11_isQuery, se_X11_isQuery⟩, ⟨by decide +kernel, by decide +kernel⟩, by decide +kernel⟩
theorem s_X11_found_16 : cS mX11_found 16 mX1_isAnswer 298 1 := ⟨by decide +kernel, ⟨ml_X1_isAnswer, li_RX11_298, st_X1_isAnswer⟩, by decide +kernel⟩
theorem s_X11_found_54 : cV mX11_found 54 mX11_answer 301 3 11 := ⟨by decide +kernel, ⟨ml_X11_answer, li_RX11_301, im_X11_answer, se_X11_answer⟩, ⟨by decide +kernel, by decide +kernel⟩, by decide +kernel⟩
theorem t_X11_found_0 {rc rs : Nat} {Q : Option AV → AH → Prop} {h : AH} {x1 x2 x3 : Int} (hL : LayL h) (hv : ((¬ (0 ≤ x1 ∧ x1 ≤ 3) → Q (some (vi (-2))) h) ∧ ((0 ≤ x1 ∧ x1 ≤ 3) → ((¬ (0 ≤ x2 ∧ x2 < iH h 0 13) → Q (some (vi (-2))) h) ∧ ((0 ≤ x2 ∧ x2 < iH h 0 13) → ((((0 ≤ x3 ∧ x3 ≤ 2) ∨ (10 ≤ x3 ∧ x3 ≤ 73) ∨ (100 ≤ x3 ∧ x3 ≤ 163)) → (0 ≤ x1 ∧ x1 < 4) ∧ (((iH h (33 + 3 * x1.toNat) 3) ≠ 0 → (0 ≤ x2 ∧ x2 < 6) ∧ (∃ P22 : Int → AH → Prop, Ct 6 0 0 mX11_answer [vr 0, vr (45 + 6 * x2.toNat), vr (33 + 3 * x1.toNat), vi x3] h (QI P22) ∧ ∀ (r21 : Int) (h20 : AH), (-2147483648 ≤ r21 ∧ r21 < 2147483648) → P22 r21 h20 → LayL h20 ∧ Q (some (vi r21)) h20)) ∧ ((iH h (33 + 3 * x1.toNat) 3) = 0 → Q (some (vi (-3))) h))) ∧ (¬ ((0 ≤ x3 ∧ x3 ≤ 2) ∨ (10 ≤ x3 ∧ x3 ≤ 73) ∨ (100 ≤ x3 ∧ x3 ≤ 163)) → Q (some (vi (-2))) h))))))) : wp mX11_found 7 rc rs Q 0 [some (vr 0), some (vi x1), some (vi x2), some (vi x3)] [] h :=
  (show wp mX11_found 7 rc rs Q 0 [some (vr 0), some (vi x1), some (vi x2), some (vi x3)] [] h from xcS k_X11_found_0 s_X11_found_1 ((Exists.intro [vi x1] (Exists.intro [] (And.intro (And.intro rfl (And.intro rfl (Nat.le_of_ble_eq_true rfl))) (Exists.intro 0 (Exists.intro 0 (Exists.intro 0 (Exists.intro _ (And.intro l_isView (And.intro (And.intro (by decide) (And.intro (Nat.zero_le _) (Nat.zero_le _))) (eQP (show wp mX11_found 7 rc rs Q 4 [some (vr 0), some (vi x1), some (vi x2), some (vi x3)] [vi (b01 (0 ≤ x1 ∧ x1 ≤ 3))] h from xIf k_X11_found_4 (And.intro (fun c1 => have v3 := hv.1 (b01_n.mp c1); (show wp mX11_found 7 rc rs Q 22 [some (vr 0), some (vi x1), some (vi x2), some (vi x3)] [] h from xI k_X11_found_22 (And.intro rfl v3))) (fun c2 => have v4 := hv.2 (b01_p.mp c2); (show wp mX11_found 7 rc rs Q 7 [some (vr 0), some (vi x1), some (vi x2), some (vi x3)] [] h from xcV k_X11_found_7 s_X11_found_9 ((Exists.intro [vi x2] (Exists.intro 0 (Exists.intro [] (And.intro (And.intro rfl (And.intro rfl (Nat.le_of_ble_eq_true rfl))) (And.intro (ll_0 hL) (Exists.intro 0 (Exists.intro 0 (Exists.intro 0 (Exists.intro _ (And.intro (l_isQuery (h := h) hL) (And.intro (And.intro (by decide) (And.intro (Nat.zero_le _) (Nat.zero_le _))) (eQP (show wp mX11_found 7 rc rs Q 12 [some (vr 0), some (vi x1), some (vi x2), some (vi x3)] [vi (b01 (0 ≤ x2 ∧ x2 < iH h 0 13))] h from xIf k_X11_found_12 (And.intro (fun c5 => have v7 := v4.1 (b01_n.mp c5); (show wp mX11_found 7 rc rs Q 22 [some (vr 0), some (vi x1), some (vi x2), some (vi x3)] [] h from xI k_X11_found_22 (And.intro rfl v7))) (fun c6 => have v8 := v4.2 (b01_p.mp c6); (show wp mX11_found 7 rc rs Q 15 [some (vr 0), some (vi x1), some (vi x2), some (vi x3)] [] h from xcS k_X11_found_15 s_X11_found_16 ((Exists.intro [vi x3] (Exists.intro [] (And.intro (And.intro rfl (And.intro rfl (Nat.le_of_ble_eq_true rfl))) (Exists.intro 0 (Exists.intro 0 (Exists.intro 0 (Exists.intro _ (And.intro l_isAnswer (And.intro (And.intro (by decide) (And.intro (Nat.zero_le _) (Nat.zero_le _))) (eQP (show wp mX11_found 7 rc rs Q 19 [some (vr 0), some (vi x1), some (vi x2), some (vi x3)] [vi (b01 ((0 ≤ x3 ∧ x3 ≤ 2) ∨ (10 ≤ x3 ∧ x3 ≤ 73) ∨ (100 ≤ x3 ∧ x3 ≤ 163)))] h from xIf k_X11_found_19 (And.intro (fun c9 => have v11 := v8.1 (b01_p.mp c9); (show wp mX11_found 7 rc rs Q 25 [some (vr 0), some (vi x1), some (vi x2), some (vi x3)] [] h from xIf k_X11_found_25 (And.intro (ll_0 hL) (Exists.intro 14 (And.intro (lg_0_6 hL) (have c13 := v11.1; have v28 := v11.2; (And.intro (sdQ (ll_14 hL) c13) (Exists.intro (33 + 3 * x1.toNat) (And.intro (tb_vw hL (tnl c13)) (And.intro (st_o hL (ti_vw (tnl c13))) (And.intro (fun c14 => have v16 := v28.1 c14; (show wp mX11_found 7 rc rs Q 40 [some (vr 0), some (vi x1), some (vi x2), some (vi x3)] [] h from xcV k_X11_found_40 s_X11_found_54 (And.intro (ll_0 hL) (Exists.intro 19 (And.intro (lg_0_12 hL) (have c18 := v16.1; have v27 := v16.2; (And.intro (sdQ (ll_19 hL) c18) (Exists.intro (45 + 6 * x2.toNat) (And.intro (tb_qy hL (tnl c18)) (And.intro (ll_0 hL) (Exists.intro 14 (And.intro (lg_0_6 hL) (And.intro (sdQ (ll_14 hL) c13) (Exists.intro (33 + 3 * x1.toNat) (And.intro (tb_vw hL (tnl c13)) (Exists.elim v27 (fun P22 v23 => (Exists.intro [vr (45 + 6 * x2.toNat), vr (33 + 3 * x1.toNat), vi x3] (Exists.intro 0 (Exists.intro [] (And.intro (And.intro rfl (And.intro rfl (Nat.le_of_ble_eq_true rfl))) (And.intro (ll_0 hL) (Exists.intro 6 (Exists.intro 0 (Exists.intro 0 (Exists.intro (QI P22) (And.intro v23.1 (And.intro (And.intro (by decide) (And.intro (Nat.zero_le _) (Nat.zero_le _))) (eQI (fun r21 h20 q26 e25 => have v24 := v23.2 r21 h20 q26 e25; have hL := v24.1; have v24 := v24.2; (show wp mX11_found 7 rc rs Q 57 [some (vr 0), some (vi x1), some (vi x2), some (vi x3)] [vi r21] h20 from xI k_X11_found_57 (And.intro rfl v24)))))))))))))))))))))))))))))))) (fun c15 => have v17 := v28.2 (Decidable.not_not.mp c15); (show wp mX11_found 7 rc rs Q 37 [some (vr 0), some (vi x1), some (vi x2), some (vi x3)] [] h from xI k_X11_found_37 (And.intro rfl v17)))))))))))))) (fun c10 => have v12 := v8.2 (b01_nn.mp c10); (show wp mX11_found 7 rc rs Q 22 [some (vr 0), some (vi x1), some (vi x2), some (vi x3)] [] h from xI k_X11_found_22 (And.intro rfl v12)))))))))))))))))))))))))))))))))))))))))))))))))
theorem e_X11_found {mc ms : Nat} {Q : Option AV → AH → Prop} {h : AH} {x1 x2 x3 : Int} (hL : LayL h) (hv : ((¬ (0 ≤ x1 ∧ x1 ≤ 3) → Q (some (vi (-2))) h) ∧ ((0 ≤ x1 ∧ x1 ≤ 3) → ((¬ (0 ≤ x2 ∧ x2 < iH h 0 13) → Q (some (vi (-2))) h) ∧ ((0 ≤ x2 ∧ x2 < iH h 0 13) → ((((0 ≤ x3 ∧ x3 ≤ 2) ∨ (10 ≤ x3 ∧ x3 ≤ 73) ∨ (100 ≤ x3 ∧ x3 ≤ 163)) → (0 ≤ x1 ∧ x1 < 4) ∧ (((iH h (33 + 3 * x1.toNat) 3) ≠ 0 → (0 ≤ x2 ∧ x2 < 6) ∧ (∃ P22 : Int → AH → Prop, Ct 6 0 0 mX11_answer [vr 0, vr (45 + 6 * x2.toNat), vr (33 + 3 * x1.toNat), vi x3] h (QI P22) ∧ ∀ (r21 : Int) (h20 : AH), (-2147483648 ≤ r21 ∧ r21 < 2147483648) → P22 r21 h20 → LayL h20 ∧ Q (some (vi r21)) h20)) ∧ ((iH h (33 + 3 * x1.toNat) 3) = 0 → Q (some (vi (-3))) h))) ∧ (¬ ((0 ≤ x3 ∧ x3 ≤ 2) ∨ (10 ≤ x3 ∧ x3 ≤ 73) ∨ (100 ≤ x3 ∧ x3 ≤ 163)) → Q (some (vi (-2))) h))))))) : Ct 7 mc ms mX11_found [vr 0, vi x1, vi x2, vi x3] h Q := Ct.of (by decide +kernel) (Nat.le_of_ble_eq_true rfl) (t_X11_found_0 hL hv)
theorem l_found {h g : AH} {da sa : Nat → Nat} (hL : LayL h) {v q w : Int} (hp : kSta h g da sa) (hq : kQ h g) : Ct 7 0 0 mX11_found [vr 0, vi v, vi q, vi w] h (QI fun x h' => LayL h' ∧ (((¬ (0 ≤ v ∧ v ≤ 3) ∨ ¬ (0 ≤ q ∧ q ≤ iH g 89 30 - 1) ∨ ¬ m_asked w) ∧ x = -2 ∧ h' = h) ∨ (((0 ≤ v ∧ v ≤ 3) ∧ (0 ≤ q ∧ q ≤ iH g 89 30 - 1) ∧ m_asked w) ∧ iH g 1137 v.toNat = 0 ∧ x = -3 ∧ h' = h) ∨ (((0 ≤ v ∧ v ≤ 3) ∧ (0 ≤ q ∧ q ≤ iH g 89 30 - 1) ∧ m_asked w) ∧ iH g 1137 v.toNat ≠ 0 ∧ x = v_ans g q (iH g 1138 v.toNat) (tRow g v.toNat) (tDr g v.toNat) w ∧ (h' = h ∨ p_search h g 24 (45 + 6 * q.toNat) q (iH g 1138 v.toNat) (tRow g v.toNat) (tDr g v.toNat) h')))) := by
  obtain ⟨⟨hc, hv, hf⟩, hr, hU⟩ := hp
  obtain ⟨q1, q2, q3⟩ := hq
  refine e_X11_found hL ?_
  rw [q1]
  refine ⟨fun c => ⟨_, rfl, hL, Or.inl ⟨Or.inl c, rfl, rfl⟩⟩, fun c => ⟨fun c2 => ⟨_, rfl, hL, Or.inl ⟨Or.inr (Or.inl (by omega)), rfl, rfl⟩⟩, fun c2 => ⟨fun c3 => ⟨by omega, ?_⟩, fun c3 => ⟨_, rfl, hL, Or.inl ⟨Or.inr (Or.inr c3), rfl, rfl⟩⟩⟩⟩⟩
  have ef := (hf.1 v.toNat (by omega)).1
  rw [avT_v (by omega)] at ef
  rw [ef]
  have ok : (0 ≤ v ∧ v ≤ 3) ∧ (0 ≤ q ∧ q ≤ iH g 89 30 - 1) ∧ m_asked w := ⟨c, by omega, c3⟩
  have hqq := q3 q.toNat (by omega)
  rw [Int.toNat_of_nonneg c2.1] at hqq
  have hvv := hv v.toNat (by omega)
  unfold kV at hvv
  rw [avT_v (by omega)] at hvv
  refine ⟨fun c4 => ⟨by omega, _, l_answer hL (ti_qy (by omega)) (ti_vw (by omega)) hqq hc.1 hc.2.1 hvv (hr.2.2.1 v.toNat (by omega)).1 c3, fun x h1 _ hx => ?_⟩, fun c4 => ⟨_, rfl, hL, Or.inr (Or.inl ⟨ok, c4, rfl, rfl⟩)⟩⟩
  obtain ⟨rfl, x2, x3⟩ := hx
  exact ⟨x2, _, rfl, x2, Or.inr (Or.inr ⟨ok, c4, rfl, x3⟩)⟩
