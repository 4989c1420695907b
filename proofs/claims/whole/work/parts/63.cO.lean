/-! THE CLASS: A QUERY IS READ; ITS ROW AGAINST THE REFERENCE'S -/
section
/-- a beginning's number ends with no letters -/
def dv (x : List Int) : Prop := ∀ w n, x = [1, w, n] → w % 27 ^ (6 - n).toNat = 0
def qD (s : qS) : Prop := match s with
  | .inl _ => True
  | .inr x => ∀ y ∈ x.2, dv y
def fD (f : Nat → qL → qS) : Prop := ∀ p o, (∀ y ∈ o, dv y) → qD (f p o)
theorem qD_go {g : AH} {p : Nat} {o : qL} (h : ∀ y ∈ o, dv y) : qD (q_go g p o) := by
  unfold q_go; split
  · trivial
  · exact h
theorem qD_bd {s : qS} {f : Nat → qL → qS} (hs : qD s) (hf : fD f) : qD (q_bd s f) := by
  cases s with
  | inl e => trivial
  | inr x => exact hf x.1 x.2 hs
theorem dv_snoc {o : qL} {x : List Int} (h : ∀ y ∈ o, dv y) (hx : dv x) : ∀ y ∈ o ++ [x], dv y := fun y hy => by
  rcases List.mem_append.mp hy with q | q
  · exact h y q
  · rw [List.mem_singleton] at q; rw [q]; exact hx
theorem dv_ne {a : Int} {r : List Int} (h : a ≠ 1) : dv (a :: r) := fun w n e => by
  have := List.cons.inj e
  exact absurd this.1 h
theorem m_wf_tail {g : AH} {a b : Int} {n : Nat} (hn : b = a + n) : ∀ j, m_wf g a b (n + j) = m_wf g a b n * 27 ^ j
  | 0 => by rw [Int.pow_zero, Int.mul_one]; rfl
  | j + 1 => by
    have ih := m_wf_tail (g := g) hn j
    show 27 * m_wf g a b (n + j) + (if a + ((n + j : Nat) : Int) < b then _ else 0) = _
    rw [if_neg (by omega), ih, Int.pow_succ, Int.add_zero, Int.mul_comm 27, Int.mul_assoc]
theorem q_v_dv {g : AH} {p : Nat} (hk : q_k g p = 1) : dv [1, q_v g p, (q_e g p : Int) - q_b g p] := by
  intro w n e
  obtain ⟨h1, h2, h3, -⟩ := q_k_w (h := g) (p := p) (by omega)
  have ew : q_v g p = w := by simpa using (List.cons.inj (List.cons.inj e).2).1
  have en : (q_e g p : Int) - q_b g p = n := by simpa using (List.cons.inj (List.cons.inj (List.cons.inj e).2).2).1
  obtain ⟨m, hm⟩ : ∃ m : Nat, q_we g p = q_b g p + m := ⟨q_we g p - q_b g p, by omega⟩
  have := m_wf_tail (g := g) (a := (q_b g p : Int)) (b := (q_we g p : Int)) (n := m) (by omega) (6 - m)
  rw [show m + (6 - m) = 6 by omega] at this
  have hv : q_v g p = m_wf g (q_b g p) (q_we g p) m * 27 ^ (6 - m) := this
  rw [← ew, hv, show (6 - n).toNat = 6 - m by omega]
  exact Int.mul_emod_left _ _
theorem qD_pl {g : AH} {p : Nat} {o : qL} (hk : q_k g p = 1) (h : ∀ y ∈ o, dv y) : qD (q_pl g p o) := by
  refine qD_bd (qD_go h) fun p1 o1 h1 => ?_
  split
  · exact qD_go (dv_snoc h1 (q_v_dv hk))
  · split
    · refine qD_bd (qD_go h1) fun p2 o2 h2 => ?_
      split
      · exact qD_go (dv_snoc h2 (dv_ne (by decide)))
      · trivial
    · exact dv_snoc h1 (dv_ne (by decide))
theorem qD_ph {g : AH} {p : Nat} {o : qL} (h : ∀ y ∈ o, dv y) : qD (q_ph g p o) := by
  refine qD_bd (qD_go h) fun p1 o1 h1 => ?_
  split
  · unfold q_pf
    split
    · trivial
    · split
      · exact qD_go (dv_snoc h1 (dv_ne (by decide)))
      · trivial
  · trivial
theorem qD_lp {g : AH} {k m : Int} {f : Nat → qL → qS} (hm : m ≠ 1) (hf : fD f) : ∀ n, fD (q_lp g k m f n)
  | 0 => fun p o h => h
  | n + 1 => fun p o h => by
    unfold q_lp
    split
    · exact qD_bd (qD_bd (qD_go h) hf) fun p1 o1 h1 => qD_lp hm hf n p1 _ (dv_snoc h1 (dv_ne hm))
    · exact h
theorem qD_bo {g : AH} {f : Nat → qL → qS} (hf : fD f) : fD (q_bo g f) := fun p o h => qD_bd (hf p o h) (qD_lp (by decide) hf 64)
theorem qD_ei {g : AH} {f : Nat → qL → qS} (hf : fD f) : fD (q_ei g f) := fun p o h => qD_bd (qD_bo hf p o h) (qD_lp (by decide) (qD_bo hf) 64)
theorem qD_o1 {g : AH} {ng br : Nat → qL → qS} (h1 : fD ng) (h2 : fD br) : fD (q_o1 g ng br) := fun p o h => by
  unfold q_o1
  split
  · exact h1 p o h
  · split
    · exact h2 p o h
    · split
      · exact qD_ph h
      · split
        · rename_i c; exact qD_pl c h
        · trivial
theorem qD_one (g : AH) : ∀ d, fD (q_one g d)
  | 0 => qD_o1 (fun _ _ _ => trivial) (fun _ _ _ => trivial)
  | d + 1 => qD_o1 (fun p o h => qD_bd (qD_bd (qD_go h) (qD_one g d)) fun p1 o1 h1 => dv_snoc h1 (dv_ne (by decide))) (fun p o h => qD_bd (qD_bd (qD_go h) (qD_ei (qD_one g d))) fun p1 o1 h1 => by
      split
      · exact qD_go h1
      · trivial)
theorem q_all_D (g : AH) : qD (q_all g) := qD_bd (qD_bd (qD_go (fun y hy => by cases hy)) (qD_ei (qD_one g 4))) fun p o h => by
  split
  · exact h
  · trivial
/-- an operation in both rows -/
theorem op_at {r : Nat → Int} {T : Nat → Nat → Int} {x : List Int} {k p f : Nat} (h : q_fm x) (hd : dv x) (hr : ∀ i, i < x.length → r (k + i) = x.getD i 0) (hT : oT T p f x) (hf : f + qw1 x ≤ 64) : l_op T p r k := by
  have r0 : r k = x.getD 0 0 := hr 0 (fm_len h)
  obtain ⟨s0, s1, s2, s3⟩ := hT
  rcases h with ⟨w, rfl, hw⟩ | ⟨w, n, rfl, hw, hn⟩ | ⟨w, v, rfl, hw, hv⟩ | ⟨ws, rfl, h1, h2, h3⟩ | rfl | rfl | rfl
  · have e0 : r k = 0 := r0
    have e1 : r (k + 1) = w := hr 1 (by simp)
    rw [← (op_0 (f := 0)).1] at s0
    rw [← op_0.2.1] at s1
    rw [← (op_0 (f := 0)).2.2] at s2
    exact ⟨fun _ => ⟨s0, by omega, by omega⟩, fun q => by omega, fun q => by omega, fun q => by omega, fun q => by omega⟩
  · have e0 : r k = 1 := r0
    have e1 : r (k + 1) = w := hr 1 (by simp)
    have e2 : r (k + 2) = n := hr 2 (by simp)
    rw [← (op_1 (f := 0)).1] at s0
    rw [← op_1.2.1] at s1
    rw [← (op_1 (f := 0)).2.2] at s2
    exact ⟨fun q => by omega, fun _ => ⟨s0, by omega, by rw [e1, e2]; exact s2, by rw [e1, e2]; exact hd w n rfl⟩, fun q => by omega, fun q => by omega, fun q => by omega⟩
  · have e0 : r k = 2 := r0
    have e1 : r (k + 1) = w := hr 1 (by simp)
    have e2 : r (k + 2) = v := hr 2 (by simp)
    rw [← (op_2 (f := 0)).1] at s0
    rw [← op_2.2.1] at s1
    rw [← (op_2 (f := 0)).2.2] at s2
    exact ⟨fun q => by omega, fun q => by omega, fun _ => ⟨s0, by omega, by omega⟩, fun q => by omega, fun q => by omega⟩
  · have e0 : r k = 3 := r0
    have e1 : r (k + 1) = (ws.length : Int) := hr 1 (by simp)
    rw [← (op_3 (f := 0)).1] at s0
    rw [← op_3.2.1] at s1
    rw [← (op_3 (f := 0)).2.2] at s2
    rw [qw1_ph] at hf
    refine ⟨fun q => by omega, fun q => by omega, fun q => by omega, fun _ => ⟨s0, by omega, f, s1, by omega, fun i hi => ?_⟩, fun q => by omega⟩
    rw [e1] at hi
    have a1 := hr (i + 2) (by simp; omega)
    rw [s3 rfl i (by simp; omega), show k + 2 + i = k + (i + 2) by omega, a1]
  · have e0 : r k = 4 := r0
    rw [← (op_4 (f := 0)).1] at s0
    exact ⟨fun q => by omega, fun q => by omega, fun q => by omega, fun q => by omega, fun _ => by omega⟩
  · have e0 : r k = 5 := r0
    rw [← (op_5 (f := 0)).1] at s0
    exact ⟨fun q => by omega, fun q => by omega, fun q => by omega, fun q => by omega, fun _ => by omega⟩
  · have e0 : r k = 6 := r0
    rw [← (op_6 (f := 0)).1] at s0
    exact ⟨fun q => by omega, fun q => by omega, fun q => by omega, fun q => by omega, fun _ => by omega⟩
theorem getD_mid2 {A x B : List Int} {i : Nat} (hi : i < x.length) : (A ++ (x ++ B)).getD (A.length + i) 0 = x.getD i 0 := by
  rw [List.getD_eq_getElem?_getD, List.getElem?_append_right (by omega), List.getElem?_append_left (by omega), List.getD_eq_getElem?_getD, show A.length + i - A.length = i by omega]
theorem l_rows {r : Nat → Int} {T : Nat → Nat → Int} : ∀ (b a : qL), (∀ i, i < (a ++ b).flatten.length → r i = (a ++ b).flatten.getD i 0) → pT (a ++ b) [] T → qw (a ++ b) ≤ 64 → q_pos r a.length = a.flatten.length → (∀ x ∈ b, q_fm x ∧ dv x) →
    ∀ j, a.length ≤ j → j < (a ++ b).length → l_op T j r (q_pos r j)
  | [], a, hr, hT, h64, hp, hb => by rw [List.append_nil]; exact fun j h1 h2 => by omega
  | x :: b, a, hr, hT, h64, hp, hb => by
    have ex : a ++ x :: b = (a ++ [x]) ++ b := by simp
    have el : (a ++ x :: b).flatten = a.flatten ++ (x ++ b.flatten) := by simp
    have hx : ∀ i, i < x.length → r (a.flatten.length + i) = x.getD i 0 := fun i hi => by
      rw [hr _ (by rw [el, List.length_append, List.length_append]; omega), el, getD_mid2 hi]
    obtain ⟨f1, f2⟩ := hb x List.mem_cons_self
    have hq : qw a + qw1 x ≤ 64 := by
      rw [qw_app] at h64
      have h64 : qw a + (qw1 x + qw b) ≤ 64 := h64
      omega
    have o1 := op_at f1 f2 hx (hT.2.2.2 a x b rfl) hq
    have g1 := (fm_at f1 hx).1
    have p1 : q_pos r (a ++ [x]).length = (a ++ [x]).flatten.length := by
      rw [show (a ++ [x]).length = a.length + 1 from by simp]
      show q_pos r a.length + q_ol r (q_pos r a.length) = _
      rw [hp, g1, fl_snoc, List.length_append]
    have ih := l_rows b (a ++ [x]) (by rw [← ex]; exact hr) (by rw [← ex]; exact hT) (by rw [← ex]; exact h64) p1 (fun y hy => hb y (List.mem_cons_of_mem _ hy))
    rw [← ex] at ih
    intro j h1 h2
    by_cases c : j = a.length
    · subst c; rw [hp]; exact o1
    · exact ih j (by rw [List.length_append]; show a.length + 1 ≤ j; omega) h2
theorem wf_fm : ∀ (b : qL) (t : Int), q_wf t b 1 → ∀ x ∈ b, q_fm x
  | [], _, _, x, hx => by cases hx
  | y :: b, t, hw, x, hx => by
    obtain ⟨⟨f1, -⟩, hw⟩ := hw
    rcases List.mem_cons.mp hx with q | q
    · rw [q]; exact f1
    · exact wf_fm b _ hw x q
theorem refL_q {h : AH} {a : Nat} (hL : LayL h) : LayL (sR h 20 1 (some a)) := ⟨hL.1, fun q hq => by
  have e : q.1 = 20 → q.2.1 ≠ 1 := by
    have : ∀ q ∈ refL, q.1 = 20 → q.2.1 ≠ 1 := by decide
    exact this q hq
  have : rH (sR h 20 1 (some a)) q.1 q.2.1 = rH h q.1 q.2.1 := by
    show u2 h.2.2.2.2 20 1 (some a) q.1 q.2.1 = _
    unfold u2
    by_cases c : q.1 = 20
    · rw [if_pos c, if_neg (e c)]; rfl
    · rw [if_neg c]; rfl
  rw [this]; exact hL.2 q hq⟩
end
def b_X6_read_0 : List IE := [(.aload_n 0, 1, 0, 0, 0, 0), (.aload_n 1, 1, 0, 0, 1, 0), (.putfield 15, 3, 0, 6, 1, 1), (.aload_n 0, 1, 0, 0, 0, 0), (.getfield 15, 3, 0, 6, 1, 1)]
theorem k_X6_read_0 : ckB mX6_read 6 0 b_X6_read_0 9 = true := by decide +kernel
def b_X6_read_12 : List IE := [(.aload_n 0, 1, 0, 0, 0, 0), (.iconst 0, 1, 0, 0, 0, 0), (.putfield 24, 3, 0, 6, 6, 0), (.aload_n 0, 1, 0, 0, 0, 0), (.iconst (-1), 1, (-1), 0, 0, 0), (.putfield 28, 3, 0, 6, 7, 0), (.aload_n 0, 1, 0, 0, 0, 0), (.iconst 0, 1, 0, 0, 0, 0), (.putfield 31, 3, 0, 6, 4, 0), (.aload_n 0, 1, 0, 0, 0, 0)]
theorem k_X6_read_12 : ckB mX6_read 6 12 b_X6_read_12 28 = true := by decide +kernel
def b_X6_read_31 : List IE := [(.aload_n 0, 1, 0, 0, 0, 0)]
theorem k_X6_read_31 : ckB mX6_read 6 31 b_X6_read_31 32 = true := by decide +kernel
def b_X6_read_35 : List IE := [(.aload_n 0, 1, 0, 0, 0, 0), (.getfield 40, 3, 0, 6, 2, 0)]
theorem k_X6_read_35 : ckIf mX6_read 6 35 b_X6_read_35 39 0 7 46 42 = true := by decide +kernel
def b_X6_read_42 : List IE := [(.aload_n 0, 1, 0, 0, 0, 0)]
theorem k_X6_read_42 : ckB mX6_read 6 42 b_X6_read_42 43 = true := by decide +kernel
def b_X6_read_46 : List IE := [(.aload_n 0, 1, 0, 0, 0, 0), (.getfield 28, 3, 0, 6, 7, 0)]
theorem k_X6_read_46 : ckI mX6_read 6 46 b_X6_read_46 50 = true := by decide +kernel
theorem s_X6_read_9 : cV mX6_read 9 mX5_clear 19 0 5 := ⟨by decide +kernel, ⟨ml_X5_clear, li_RX6_19, im_X5_clear, se_X5_clear⟩, ⟨by decide +kernel, by decide +kernel⟩, by decide +kernel⟩
theorem s_X6_read_28 : cV mX6_read 28 mX6_next 34 0 6 := ⟨by decide +kernel, ⟨ml_X6_next, li_RX6_34, im_X6_next, se_X6_next⟩, ⟨by decide +kernel, by decide +kernel⟩, by decide +kernel⟩
theorem s_X6_read_32 : cV mX6_read 32 mX6_readEither 37 0 6 := ⟨by decide +kernel, ⟨ml_X6_readEither, li_RX6_37, im_X6_readEither, se_X6_readEither⟩, ⟨by decide +kernel, by decide +kernel⟩, by decide +kernel⟩
theorem s_X6_read_43 : cV mX6_read 43 mX6_refuse 43 0 6 := ⟨by decide +kernel, ⟨ml_X6_refuse, li_RX6_43, im_X6_refuse, se_X6_refuse⟩, ⟨by decide +kernel, by decide +kernel⟩, by decide +kernel⟩
theorem t_X6_read_0 {rc rs : Nat} {Q : Option AV → AH → Prop} {h : AH} {a1 : Nat} (hL : LayL h) (hA1 : iQu a1) (hv : LayL (sR h 20 1 (some a1)) ∧ (∃ q2, (rH (sR h 20 1 (some a1)) 20 1 = some q2 ∧ iQu q2) ∧ (∃ P6 : AH → Prop, Ct 0 0 0 mX5_clear [vr q2] (sR h 20 1 (some a1)) (QV P6) ∧ ∀ h4 : AH, P6 h4 → LayL h4 ∧ (∃ P9 : AH → Prop, Ct 1 0 0 mX6_next [vr 20] (sI (sI (sI h4 20 6 0) 20 7 (-1)) 20 4 0) (QV P9) ∧ ∀ h7 : AH, P9 h7 → LayL h7 ∧ (∃ d10 : Nat, (∃ P13 : AH → Prop, d10 + 1 ≤ 41 ∧ Ct d10 0 0 mX6_readEither [vr 20] h7 (QV P13) ∧ ∀ h11 : AH, P13 h11 → LayL h11 ∧ (((iH h11 20 2) = 0 → Q (some (vi (iH h11 20 7))) h11) ∧ ((iH h11 20 2) ≠ 0 → (∃ P20 : AH → Prop, Ct 0 0 0 mX6_refuse [vr 20] h11 (QV P20) ∧ ∀ h18 : AH, P20 h18 → LayL h18 ∧ Q (some (vi (iH h18 20 7))) h18))))))))) : wp mX6_read 41 rc rs Q 0 [some (vr 20), some (vr a1)] [] h :=
  (show wp mX6_read 41 rc rs Q 0 [some (vr 20), some (vr a1)] [] h from xcV k_X6_read_0 s_X6_read_9 (And.intro (ll_20 hL) (have c1 := hv.1; have v39 := hv.2; (have hL := c1; (And.intro (ll_20 hL) (Exists.elim v39 (fun q2 v37 => have c3 := v37.1; have v38 := v37.2; (Exists.intro _ (And.intro c3.1 (Exists.elim v38 (fun P6 v33 => (Exists.intro [] (Exists.intro q2 (Exists.intro [] (And.intro (And.intro rfl (And.intro rfl (Nat.le_of_ble_eq_true rfl))) (And.intro (qu_o hL c3.2) (Exists.intro 0 (Exists.intro 0 (Exists.intro 0 (Exists.intro (QV P6) (And.intro v33.1 (And.intro (And.intro (by decide) (And.intro (Nat.zero_le _) (Nat.zero_le _))) (eQV (fun h4 e35 => have v34 := v33.2 h4 e35; have hL := v34.1; have v34 := v34.2; (show wp mX6_read 41 rc rs Q 12 [some (vr 20), some (vr a1)] [] h4 from xcV k_X6_read_12 s_X6_read_28 (And.intro (ll_20 hL) (And.intro (ll_20 hL) (And.intro (ll_20 hL) (Exists.elim v34 (fun P9 v29 => (Exists.intro [] (Exists.intro 20 (Exists.intro [] (And.intro (And.intro rfl (And.intro rfl (Nat.le_of_ble_eq_true rfl))) (And.intro (ll_20 hL) (Exists.intro 1 (Exists.intro 0 (Exists.intro 0 (Exists.intro (QV P9) (And.intro v29.1 (And.intro (And.intro (by decide) (And.intro (Nat.zero_le _) (Nat.zero_le _))) (eQV (fun h7 e31 => have v30 := v29.2 h7 e31; have hL := v30.1; have v30 := v30.2; (show wp mX6_read 41 rc rs Q 31 [some (vr 20), some (vr a1)] [] h7 from xcV k_X6_read_31 s_X6_read_32 (Exists.elim v30 (fun d10 v25 => Exists.elim v25 (fun P13 v25 => (Exists.intro [] (Exists.intro 20 (Exists.intro [] (And.intro (And.intro rfl (And.intro rfl (Nat.le_of_ble_eq_true rfl))) (And.intro (ll_20 hL) (Exists.intro d10 (Exists.intro 0 (Exists.intro 0 (Exists.intro (QV P13) (And.intro v25.2.1 (And.intro (And.intro v25.1 (And.intro (Nat.zero_le _) (Nat.zero_le _))) (eQV (fun h11 e27 => have v26 := v25.2.2 h11 e27; have hL := v26.1; have v26 := v26.2; (show wp mX6_read 41 rc rs Q 35 [some (vr 20), some (vr a1)] [] h11 from xIf k_X6_read_35 (And.intro (ll_20 hL) (And.intro (fun c14 => have v16 := v26.1 c14; (show wp mX6_read 41 rc rs Q 46 [some (vr 20), some (vr a1)] [] h11 from xI k_X6_read_46 (And.intro (ll_20 hL) (And.intro rfl v16)))) (fun c15 => have v17 := v26.2 c15; (show wp mX6_read 41 rc rs Q 42 [some (vr 20), some (vr a1)] [] h11 from xcV k_X6_read_42 s_X6_read_43 (Exists.elim v17 (fun P20 v21 => (Exists.intro [] (Exists.intro 20 (Exists.intro [] (And.intro (And.intro rfl (And.intro rfl (Nat.le_of_ble_eq_true rfl))) (And.intro (ll_20 hL) (Exists.intro 0 (Exists.intro 0 (Exists.intro 0 (Exists.intro (QV P20) (And.intro v21.1 (And.intro (And.intro (by decide) (And.intro (Nat.zero_le _) (Nat.zero_le _))) (eQV (fun h18 e23 => have v22 := v21.2 h18 e23; have hL := v22.1; have v22 := v22.2; (show wp mX6_read 41 rc rs Q 46 [some (vr 20), some (vr a1)] [] h18 from xI k_X6_read_46 (And.intro (ll_20 hL) (And.intro rfl v22)))))))))))))))))))))))))))))))))))))))))))))))))))))))))))))))))))))))))))))))))))
theorem e_X6_read {mc ms : Nat} {Q : Option AV → AH → Prop} {h : AH} {a1 : Nat} (hL : LayL h) (hA1 : iQu a1) (hv : LayL (sR h 20 1 (some a1)) ∧ (∃ q2, (rH (sR h 20 1 (some a1)) 20 1 = some q2 ∧ iQu q2) ∧ (∃ P6 : AH → Prop, Ct 0 0 0 mX5_clear [vr q2] (sR h 20 1 (some a1)) (QV P6) ∧ ∀ h4 : AH, P6 h4 → LayL h4 ∧ (∃ P9 : AH → Prop, Ct 1 0 0 mX6_next [vr 20] (sI (sI (sI h4 20 6 0) 20 7 (-1)) 20 4 0) (QV P9) ∧ ∀ h7 : AH, P9 h7 → LayL h7 ∧ (∃ d10 : Nat, (∃ P13 : AH → Prop, d10 + 1 ≤ 41 ∧ Ct d10 0 0 mX6_readEither [vr 20] h7 (QV P13) ∧ ∀ h11 : AH, P13 h11 → LayL h11 ∧ (((iH h11 20 2) = 0 → Q (some (vi (iH h11 20 7))) h11) ∧ ((iH h11 20 2) ≠ 0 → (∃ P20 : AH → Prop, Ct 0 0 0 mX6_refuse [vr 20] h11 (QV P20) ∧ ∀ h18 : AH, P20 h18 → LayL h18 ∧ Q (some (vi (iH h18 20 7))) h18))))))))) : Ct 41 mc ms mX6_read [vr 20, vr a1] h Q := Ct.of (by decide +kernel) (Nat.le_of_ble_eq_true rfl) (t_X6_read_0 hL hA1 hv)
theorem l_read {h g : AH} (hL : LayL h) {a : Nat} (ha : iQu a) (hT : cTape h g) (ht : q_tp g) : Ct 41 0 0 mX6_read [vr 20, vr a] h (QI fun x h' => ∃ F T, h' = hR (sR h 20 1 (some a)) a F T ∧ ((∃ e : Nat, q_all g = .inl e ∧ x = (e : Int)) ∨ (∃ (p : Nat) (o : qL), q_all g = .inr (p, o) ∧ x = -1 ∧ pT o [] T ∧ o.length ≤ 64 ∧ qw o ≤ 64))) := by
  have hb : bR (sR h 20 1 (some a)) g a := ⟨refL_q hL, ha, by show u2 h.2.2.2.2 20 1 (some a) 20 1 = _; simp [u2], hT, ht⟩
  generalize hh : sR h 20 1 (some a) = hq at *
  refine e_X6_read hL ha ?_
  rw [hh]
  have cl : Ct 0 0 0 mX5_clear [vr a] hq (QV fun h' => h' = hR hq a (iH hq 20) (u2 (u2 (cT hq a) 0 3 0) 0 5 0)) := by
    have := l_clear (F := iH hq 20) (T := cT hq a) hb
    rw [← hr_id] at this
    exact this
  refine ⟨hb.1, a, ⟨hb.2.2.1, ha⟩, _, cl, fun h4 s4 => ?_⟩
  subst s4
  refine ⟨bR_L hb, ?_⟩
  rw [hr_sF (by omega), hr_sF (by omega), hr_sF (by omega)]
  generalize hT0 : u2 (u2 (cT hq a) 0 3 0) 0 5 0 = T0
  refine ⟨_, l_next hb (p := 0) ⟨by simp [updF], Nat.zero_le _⟩, fun h4 s4 => ?_⟩
  obtain ⟨F', rfl, t, f6, f7⟩ := s4
  have s4 : gS hq g a 0 0 [] [] (hR hq a F' T0) := ⟨F', T0, rfl, t, by rw [f6]; simp [updF], by rw [f7]; simp [updF], Nat.zero_le _, by rw [← hT0, u2_nk (by decide), u2_eq]; rfl, by rw [← hT0, u2_eq]; rfl, fun i hi => absurd hi (Nat.not_lt_zero _), fun pre x post e => by cases pre <;> cases e⟩
  refine ⟨bR_L hb, 21, ?_⟩
  have fin : ∀ (s : qS) (h8 : AH), rS hq g a 0 s h8 → q_all g = q_bd s (fun p o => if q_k g p = 0 then .inr (p, o) else .inl (q_b g p)) → (∀ x : Nat × qL, s = .inr x → nM 0 x.1 x.2) → (((iH h8 20 2) = 0 → (QI fun x h' => ∃ F T, h' = hR hq a F T ∧ ((∃ e : Nat, q_all g = .inl e ∧ x = (e : Int)) ∨ (∃ (p : Nat) (o : qL), q_all g = .inr (p, o) ∧ x = -1 ∧ pT o [] T ∧ o.length ≤ 64 ∧ qw o ≤ 64))) (some (vi (iH h8 20 7))) h8) ∧ ((iH h8 20 2) ≠ 0 → (∃ P17 : AH → Prop, Ct 0 0 0 mX6_refuse [vr 20] h8 (QV P17) ∧ ∀ h15 : AH, P17 h15 → LayL h15 ∧ (QI fun x h' => ∃ F T, h' = hR hq a F T ∧ ((∃ e : Nat, q_all g = .inl e ∧ x = (e : Int)) ∨ (∃ (p : Nat) (o : qL), q_all g = .inr (p, o) ∧ x = -1 ∧ pT o [] T ∧ o.length ≤ 64 ∧ qw o ≤ 64))) (some (vi (iH h15 20 7))) h15))) := by
    intro s h8 r8 ea hsz
    cases s with
    | inl e =>
      have r8 : bS hq a 0 e h8 := r8
      have g8 := (bS_f r8).2
      have mk : ∀ h9, bS hq a 0 e h9 → iH h9 20 7 = (e : Int) → (QI fun x h' => ∃ F T, h' = hR hq a F T ∧ ((∃ e : Nat, q_all g = .inl e ∧ x = (e : Int)) ∨ (∃ (p : Nat) (o : qL), q_all g = .inr (p, o) ∧ x = -1 ∧ pT o [] T ∧ o.length ≤ 64 ∧ qw o ≤ 64))) (some (vi (iH h9 20 7))) h9 := fun h9 b9 e9 => by
        rw [e9]
        obtain ⟨F, T, rfl, -⟩ := b9
        exact ⟨_, rfl, F, T, rfl, Or.inl ⟨e, ea, rfl⟩⟩
      exact ⟨fun c => mk h8 r8 (by omega), fun c => ⟨_, cr_n hb r8, fun h9 s9 => ⟨(bS_L hb s9.1).1, mk h9 s9.1 s9.2⟩⟩⟩
    | inr x =>
      obtain ⟨s8, k8⟩ : gS hq g a 0 x.1 x.2 [] h8 ∧ q_k g x.1 ≠ 5 := r8
      have g8 := gS_f s8
      have ea : q_all g = if q_k g x.1 = 0 then .inr (x.1, x.2) else .inl (q_b g x.1) := ea
      rw [g8.1]
      refine ⟨fun c => ?_, fun c => ⟨_, cr_gn hb (by omega) s8, fun h9 s9 => ⟨(bS_L hb s9.1).1, ?_⟩⟩⟩
      · rw [g8.2.2.2.2.2.1]
        rw [if_pos c] at ea
        have hn := hsz x rfl
        have hp8 := g8.2.2.2.2.2.2
        have h64 : d_n g ≤ 64 := by have := ht.2; unfold d_n; omega
        obtain ⟨n1, n2⟩ := hn
        obtain ⟨F, T, rfl, -, -, -, -, hr⟩ := s8
        exact ⟨_, rfl, F, T, rfl, Or.inr ⟨x.1, x.2, ea, rfl, hr, by omega, by omega⟩⟩
      · rw [s9.2]
        rw [if_neg c] at ea
        obtain ⟨F, T, rfl, -⟩ := s9.1
        exact ⟨_, rfl, F, T, rfl, Or.inl ⟨_, ea, rfl⟩⟩
  by_cases c5 : q_k g 0 = 5
  · refine ⟨_, by omega, l_eitherE hb (by omega) (by omega) c5 s4, fun h8 s8 => ⟨(bS_L hb s8).1, fin (.inl (q_b g 0)) h8 s8 ?_ (fun x hx => by cases hx)⟩⟩
    unfold q_all; rw [go_E c5]; rfl
  · have hN := qN_ei (g := g) (qN_one g 4) 0 0 [] ⟨Nat.le_refl _, Nat.le_refl _⟩
    refine ⟨_, by omega, l_eitherA hb 0 [] _ s4 c5 ⟨Nat.le_refl _, Nat.le_refl _⟩, fun h8 s8 => ⟨(rS_L hb s8).1, fin (q_ei g (q_one g 4) 0 []) h8 s8 ?_ (fun x hx => ?_)⟩⟩
    · unfold q_all; rw [go_G c5]; rfl
    · rw [hx] at hN
      exact hN
/-- the new query's row is the class's -/
theorem cQry_new {h g g' : AH} {a q : Nat} {F F' mk : Nat → Int} {T : Nat → Nat → Int} (ha : iQu a) (hq : q < 6) (ht : q_tp g) {p : Nat} {o : qL} (ea : q_all g = .inr (p, o)) (hr : pT o [] T) (h64 : o.length ≤ 64) (hw : qw o ≤ 64) (hm : ∀ i, i < o.flatten.length → mk i = o.flatten.getD i 0) (hg : g' = m_qry g F' mk q o.flatten.length) : cQry (hR h a F T) g' a q := by
  subst hg
  have hA := q_all_P ht
  have hD := q_all_D g
  rw [ea] at hA hD
  have hA : q_szL o ≤ 97 ∧ q_wf 0 o 1 := hA
  have hD : ∀ y ∈ o, dv y := hD
  have h1 := m_qok_new ht ea (F := F') (mk := mk) hq hm
  have eN := m_nop_un (h := m_qry g F' mk q o.flatten.length) (q := (q : Int)) (by omega) (m := o.length) (by
    have e1 : iH (m_qry g F' mk q o.flatten.length) 1176 ((q : Int)).toNat = o.flatten.length := by
      unfold m_qry
      rw [rI_ne (by omega), Int.toNat_natCast, rI_same]
    rw [e1]; exact h1.2)
  have e2 : ∀ i, i < o.flatten.length → m_row (m_qry g F' mk q o.flatten.length) q i = o.flatten.getD i 0 := fun i hi => by
    unfold m_row m_qry cpI
    rw [rI_ne (by omega), rI_ne (by omega), Int.toNat_natCast, rW_same, if_pos (by omega), rI_ne (by omega), Nat.sub_zero, Nat.zero_add, hP_m]
    exact hm i hi
  have hl := l_rows (r := m_row (m_qry g F' mk q o.flatten.length) q) (T := T) o [] e2 hr hw rfl (fun x hx => ⟨wf_fm o 0 hA.2 x hx, hD x hx⟩)
  refine ⟨h1.1, ?_, ?_, fun j hj => ?_⟩
  · rw [eN, hr_0 ha]; exact hr.1
  · rw [eN]; exact h64
  · rw [eN] at hj
    exact l_op_cg (fun i _ h2 k => hr_T ha h2) (hl j (Nat.zero_le _) hj)
