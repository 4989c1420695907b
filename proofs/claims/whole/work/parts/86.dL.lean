/-! THE INDEX: QUERY -/
def b_X11_query_0 : List IE := [(.aload_n 0, 1, 0, 0, 0, 0), (.getfield 285, 3, 0, 11, 13, 0), (.bipush 6, 2, 6, 0, 0, 0)]
theorem k_X11_query_0 : ckIc mX11_query 11 0 b_X11_query_0 6 2 6 12 9 = true := by decide +kernel
def b_X11_query_9 : List IE := [(.bipush (-4), 2, (-4), 0, 0, 0)]
theorem k_X11_query_9 : ckI mX11_query 11 9 b_X11_query_9 11 = true := by decide +kernel
def b_X11_query_12 : List IE := [(.aload_n 0, 1, 0, 0, 0, 0), (.getfield 71, 3, 0, 11, 14, 1), (.aload_n 0, 1, 0, 0, 0, 0), (.getfield 62, 3, 0, 11, 12, 1), (.aload_n 0, 1, 0, 0, 0, 0), (.getfield 285, 3, 0, 11, 13, 0), (.aaload, 1, 0, 0, 0, 0)]
theorem k_X11_query_12 : ckB mX11_query 11 12 b_X11_query_12 25 = true := by decide +kernel
def b_X11_query_28 : List IE := [(.istore_n 1, 1, 0, 0, 1, 0), (.aload_n 0, 1, 0, 0, 0, 0), (.getfield 10, 3, 0, 11, 0, 1), (.iconst 0, 1, 0, 0, 0, 0), (.putfield 112, 3, 0, 10, 1, 0), (.iload_n 1, 1, 0, 0, 1, 0), (.iconst (-1), 1, (-1), 0, 0, 0)]
theorem k_X11_query_28 : ckIc mX11_query 11 28 b_X11_query_28 39 0 8 47 42 = true := by decide +kernel
def b_X11_query_42 : List IE := [(.bipush (-100), 2, (-100), 0, 0, 0), (.iload_n 1, 1, 0, 0, 1, 0), (.isub, 1, 0, 0, 0, 0)]
theorem k_X11_query_42 : ckI mX11_query 11 42 b_X11_query_42 46 = true := by decide +kernel
def b_X11_query_47 : List IE := [(.aload_n 0, 1, 0, 0, 0, 0), (.dup, 1, 0, 0, 0, 0), (.getfield 285, 3, 0, 11, 13, 0), (.iconst 1, 1, 1, 0, 0, 0), (.iadd, 1, 0, 0, 0, 0), (.putfield 285, 3, 0, 11, 13, 0), (.aload_n 0, 1, 0, 0, 0, 0), (.getfield 285, 3, 0, 11, 13, 0), (.iconst 1, 1, 1, 0, 0, 0), (.isub, 1, 0, 0, 0, 0)]
theorem k_X11_query_47 : ckI mX11_query 11 47 b_X11_query_47 63 = true := by decide +kernel
theorem s_X11_query_25 : cV mX11_query 25 mX6_read 288 1 6 := ⟨by decide +kernel, ⟨ml_X6_read, li_RX11_288, im_X6_read, se_X6_read⟩, ⟨by decide +kernel, by decide +kernel⟩, by decide +kernel⟩
theorem t_X11_query_0 {rc rs : Nat} {Q : Option AV → AH → Prop} {h : AH}  (hL : LayL h) (hv : (((iH h 0 13) < 6 → (0 ≤ iH h 0 13 ∧ iH h 0 13 < 6) ∧ (∃ P8 : Int → AH → Prop, Ct 41 0 0 mX6_read [vr 20, vr (45 + 6 * (iH h 0 13).toNat)] h (QI P8) ∧ ∀ (r7 : Int) (h6 : AH), (-2147483648 ≤ r7 ∧ r7 < 2147483648) → P8 r7 h6 → LayL h6 ∧ ((r7 = (-1) → (-2147483648 ≤ (iH h6 0 13 + 1) ∧ (iH h6 0 13 + 1) < 2147483648) ∧ (-2147483648 ≤ ((iH h6 0 13 + 1) - 1) ∧ ((iH h6 0 13 + 1) - 1) < 2147483648) ∧ Q (some (vi ((iH h6 0 13 + 1) - 1))) (sI (sI h6 1 1 0) 0 13 (iH h6 0 13 + 1))) ∧ (r7 ≠ (-1) → (-2147483648 ≤ ((-100) - r7) ∧ ((-100) - r7) < 2147483648) ∧ Q (some (vi ((-100) - r7))) (sI h6 1 1 0))))) ∧ (6 ≤ (iH h 0 13) → Q (some (vi (-4))) h))) : wp mX11_query 42 rc rs Q 0 [some (vr 0), none] [] h :=
  (show wp mX11_query 42 rc rs Q 0 [some (vr 0), none] [] h from xIc k_X11_query_0 (And.intro (ll_0 hL) (And.intro (fun c1 => have v3 := hv.1 c1; (show wp mX11_query 42 rc rs Q 12 [some (vr 0), none] [] h from xcV k_X11_query_12 s_X11_query_25 (And.intro (ll_0 hL) (Exists.intro 20 (And.intro (lg_0_14 hL) (And.intro (ll_0 hL) (Exists.intro 19 (And.intro (lg_0_12 hL) (And.intro (ll_0 hL) (have c5 := v3.1; have v23 := v3.2; (And.intro (sdQ (ll_19 hL) c5) (Exists.intro (45 + 6 * (iH h 0 13).toNat) (And.intro (tb_qy hL (tnl c5)) (Exists.elim v23 (fun P8 v19 => (Exists.intro [vr (45 + 6 * (iH h 0 13).toNat)] (Exists.intro 20 (Exists.intro [] (And.intro (And.intro rfl (And.intro rfl (Nat.le_of_ble_eq_true rfl))) (And.intro (ll_20 hL) (Exists.intro 41 (Exists.intro 0 (Exists.intro 0 (Exists.intro (QI P8) (And.intro v19.1 (And.intro (And.intro (by decide) (And.intro (Nat.zero_le _) (Nat.zero_le _))) (eQI (fun r7 h6 q22 e21 => have v20 := v19.2 r7 h6 q22 e21; have hL := v20.1; have v20 := v20.2; (show wp mX11_query 42 rc rs Q 28 [some (vr 0), none] [vi r7] h6 from xIc k_X11_query_28 (And.intro rfl (And.intro (ll_0 hL) (Exists.intro 1 (And.intro (lg_0_0 hL) (And.intro (ll_1 hL) (And.intro (fun c9 => have v11 := v20.1 c9; (show wp mX11_query 42 rc rs Q 47 [some (vr 0), some (vi r7)] [] (sI h6 1 1 0) from xI k_X11_query_47 (And.intro rfl (And.intro (ll_0 hL) (have c13 := v11.1; have v16 := v11.2; (And.intro c13 (And.intro (ll_0 hL) (And.intro (ll_0 hL) (have c14 := v16.1; have v15 := v16.2; (And.intro c14 (And.intro rfl v15))))))))))) (fun c10 => have v12 := v20.2 c10; (show wp mX11_query 42 rc rs Q 42 [some (vr 0), some (vi r7)] [] (sI h6 1 1 0) from xI k_X11_query_42 (have c17 := v12.1; have v18 := v12.2; (And.intro c17 (And.intro rfl v18)))))))))))))))))))))))))))))))))))))))) (fun c2 => have v4 := hv.2 (Int.not_lt.mp c2); (show wp mX11_query 42 rc rs Q 9 [some (vr 0), none] [] h from xI k_X11_query_9 (And.intro rfl v4))))))
theorem e_X11_query {mc ms : Nat} {Q : Option AV → AH → Prop} {h : AH}  (hL : LayL h) (hv : (((iH h 0 13) < 6 → (0 ≤ iH h 0 13 ∧ iH h 0 13 < 6) ∧ (∃ P8 : Int → AH → Prop, Ct 41 0 0 mX6_read [vr 20, vr (45 + 6 * (iH h 0 13).toNat)] h (QI P8) ∧ ∀ (r7 : Int) (h6 : AH), (-2147483648 ≤ r7 ∧ r7 < 2147483648) → P8 r7 h6 → LayL h6 ∧ ((r7 = (-1) → (-2147483648 ≤ (iH h6 0 13 + 1) ∧ (iH h6 0 13 + 1) < 2147483648) ∧ (-2147483648 ≤ ((iH h6 0 13 + 1) - 1) ∧ ((iH h6 0 13 + 1) - 1) < 2147483648) ∧ Q (some (vi ((iH h6 0 13 + 1) - 1))) (sI (sI h6 1 1 0) 0 13 (iH h6 0 13 + 1))) ∧ (r7 ≠ (-1) → (-2147483648 ≤ ((-100) - r7) ∧ ((-100) - r7) < 2147483648) ∧ Q (some (vi ((-100) - r7))) (sI h6 1 1 0))))) ∧ (6 ≤ (iH h 0 13) → Q (some (vi (-4))) h))) : Ct 42 mc ms mX11_query [vr 0] h Q := Ct.of (by decide +kernel) (Nat.le_of_ble_eq_true rfl) (t_X11_query_0 hL hv)
def agY (S : Nat → Prop) (h h' : AH) : Prop := nH h' = nH h ∧ (∀ x, kH h' x = kH h x) ∧ ∀ x, ¬ S x → (∀ k, iH h' x k = iH h x k) ∧ (∀ k, rH h' x k = rH h x k) ∧ ∀ k, jH h' x k = jH h x k
def scQ (x : Nat) : Prop := x = 20 ∨ (45 ≤ x ∧ x ≤ 80)
def m_qrG (g : AH) (o : qL) : AH := m_qry g (iH g 89) (fun i => o.flatten.getD i 0) (iH g 89 30).toNat o.flatten.length
theorem qrG_x {g : AH} {o : qL} {x k : Nat} (h1 : x ≠ 89) (h2 : x ≠ 1177) (h3 : x ≠ 1170 + (iH g 89 30).toNat) (h4 : x ≠ 1176 ∨ k ≠ (iH g 89 30).toNat) : iH (m_qrG g o) x k = iH g x k := by
  unfold m_qrG m_qry
  rw [rI_ne h1]
  have a1 : ∀ (A : AH) (u : Int), iH (sI A 1176 (iH g 89 30).toNat u) x k = iH A x k := fun A u => by
    by_cases e : x = 1176
    · subst e; exact rI_nk (by omega)
    · exact rI_ne e
  rw [a1, cp_ne h3, rI_ne h1, hP_o ⟨h1, h2⟩]
theorem qrG_71 {g : AH} {o : qL} {k : Nat} (hq : iH g 89 30 < 6) (h1 : k ≠ 18) (h2 : k ≠ 30) : iH (m_qrG g o) 89 k = iH g 89 k := by
  unfold m_qrG m_qry
  rw [rI_nk h2, rI_ne (by decide), cp_ne (by omega), rI_nk h1]
  by_cases c : 34 ≤ k ∧ k ≤ 40
  · rw [hP_F c]
  · rw [hP_n (by omega)]
theorem l_query {h g : AH} (hL : LayL h) (hq : kQ h g) (ht : cTape h g) : Ct 42 0 0 mX11_query [vr 0] h (QI fun x h' => LayL h' ∧ ∃ g', p_query g x g' ∧ kQ h' g' ∧ cTape h' g' ∧ ((h' = h ∧ g' = g) ∨ ∃ h1, agY scQ h h1 ∧ ((h' = sI h1 1 1 0 ∧ g' = sI g 89 18 0) ∨ (∃ v, h' = sI (sI h1 1 1 0) 0 13 v ∧ ∃ o, g' = m_qrG g o ∧ iH g 89 30 < 6)))) := by
  have c6 := hq.2.1
  refine e_X11_query hL ?_
  rw [hq.1]
  refine ⟨fun c => ?_, fun c => ⟨_, rfl, hL, g, Or.inl ⟨by omega, rfl, rfl⟩, hq, ht, Or.inl ⟨rfl, rfl⟩⟩⟩
  obtain ⟨q, hqn⟩ := Int.eq_ofNat_of_zero_le c6.1
  rw [hqn, Int.toNat_natCast]
  have ha : iQu (45 + 6 * q) := ti_qy (by omega)
  have tp : q_tp g := ht.2.1
  refine ⟨by omega, _, l_read hL ha ht tp, fun x h1 _ hx => ?_⟩
  obtain ⟨F, T, rfl, hx⟩ := hx
  have ag : agY scQ h (hR (sR h 20 1 (some (45 + 6 * q))) (45 + 6 * q) F T) := ⟨rfl, fun _ => rfl, fun x hx => ⟨fun k => by
    rw [hr_o (by unfold scQ at hx; omega) (by unfold scQ at hx; omega)]; rfl, fun k => by
    have : x ≠ 20 := by unfold scQ at hx; omega
    show u2 h.2.2.2.2 20 1 (some (45 + 6 * q)) x k = rH h x k
    simp [u2, rH, this], fun k => rfl⟩⟩
  have L1 : LayL (hR (sR h 20 1 (some (45 + 6 * q))) (45 + 6 * q) F T) := (refL_q (a := 45 + 6 * q) hL : LayL (sR h 20 1 (some (45 + 6 * q))))
  generalize hA : hR (sR h 20 1 (some (45 + 6 * q))) (45 + 6 * q) F T = A at *
  have a0 : ∀ k, iH A 0 k = iH h 0 k := (ag.2.2 0 (by unfold scQ; omega)).1
  have a1 : ∀ k, iH A 1 k = iH h 1 k := (ag.2.2 1 (by unfold scQ; omega)).1
  have a2 : ∀ k, iH A 2 k = iH h 2 k := (ag.2.2 2 (by unfold scQ; omega)).1
  have ao : ∀ q' : Nat, q' < q → ∀ i, i ≤ 4 → ∀ k, iH A (45 + 6 * q' + i) k = iH h (45 + 6 * q' + i) k := fun q' hq' i hi k => by
    rw [← hA, hr_o (by omega) (by omega)]; rfl
  have cq : ∀ {h2 : AH} {q' : Nat}, q' < q → (∀ i, i ≤ 4 → ∀ k, iH h2 (45 + 6 * q' + i) k = iH A (45 + 6 * q' + i) k) → cQry h2 g (45 + 6 * q') q' := fun {h2 q'} hq' e1 =>
    cQry_cg (fun k => (e1 0 (by omega) k).trans (ao q' hq' 0 (by omega) k)) (fun i _ h2 k => (e1 i h2 k).trans (ao q' hq' i h2 k)) (hq.2.2 q' (by omega))
  have d0 : ∀ g', iH g' 89 18 = 0 → d_n g' = 0 := fun g' e => by unfold d_n; rw [e]; rfl
  refine ⟨L1, ?_⟩
  rw [a0, hq.1, hqn]
  refine ⟨fun c2 => ⟨by omega, by omega, ?_⟩, fun c2 => ?_⟩
  · rcases hx with ⟨e, e1, e2⟩ | ⟨p, o, e1, e2, e3, e4, e5⟩
    · omega
    · refine ⟨_, rfl, by exact L1, m_qrG g o, Or.inr ⟨by omega, Or.inr ⟨p, o, e1, by omega, iH g 89, fun i => o.flatten.getD i 0, fun i _ => rfl, rfl⟩⟩, ⟨?_, ?_, fun q' h1 => ?_⟩, ⟨?_, ?_, fun k hk => ?_⟩, Or.inr ⟨A, ag, Or.inr ⟨_, rfl, o, rfl, by omega⟩⟩⟩
      · unfold m_qrG m_qry
        rw [rI_same, rI_same, hqn]; rfl
      · unfold m_qrG m_qry
        rw [rI_same]; omega
      · have e6 : iH (m_qrG g o) 89 30 = (q : Int) + 1 := by unfold m_qrG m_qry; rw [rI_same, hqn]; rfl
        rw [e6] at h1
        by_cases e : q' = q
        · subst e
          have nw := cQry_new (q := q') (h := sR h 20 1 (some (45 + 6 * q'))) (F := F) (g' := m_qrG g o) (F' := iH g 89) (mk := fun i => o.flatten.getD i 0) ha (by omega) tp e1 e3 e4 e5 (fun i _ => rfl) (by unfold m_qrG; rw [hqn]; rfl)
          rw [hA] at nw
          exact cQry_cg (fun k => by rw [rI_ne (by omega), rI_ne (by omega)]) (fun i _ h2 k => by rw [rI_ne (by omega), rI_ne (by omega)]) nw
        · refine cQry_g (fun k => ?_) ?_ (cq (q' := q') (by omega) fun i hi k => ?_)
          · exact qrG_x (by omega) (by omega) (by omega) (by omega)
          · exact qrG_x (by omega) (by omega) (by omega) (by omega)
          · rw [rI_ne (by omega), rI_ne (by omega)]
      · unfold m_qrG m_qry
        rw [rI_ne (by decide), rI_same, rI_nk (by decide), rI_ne (by decide), cp_ne (by omega), rI_same]
      · unfold m_qrG m_qry
        rw [rI_nk (by decide), rI_ne (by decide), cp_ne (by omega), rI_same]; decide
      · rw [d0 _ (by unfold m_qrG m_qry; rw [rI_nk (by decide), rI_ne (by decide), cp_ne (by omega), rI_same])] at hk
        omega
  · rcases hx with ⟨e, e1, e2⟩ | ⟨p, o, e1, e2, e3, e4, e5⟩
    · have eb : e ≤ 64 := by
        have := q_all_P tp
        rw [e1] at this
        have : e ≤ d_n g := this
        have := ht.2.1
        unfold d_n at *
        omega
      refine ⟨by omega, _, rfl, by exact L1, sI g 89 18 0, Or.inr ⟨by omega, Or.inl ⟨e, e1, by omega, iH g 89, iH g 1177, by rw [← hP_id]⟩⟩, ⟨?_, ?_, fun q' h1 => ?_⟩, ⟨?_, ?_, fun k hk => ?_⟩, Or.inr ⟨A, ag, Or.inl ⟨rfl, rfl⟩⟩⟩
      · rw [rI_ne (by decide), rI_nk (by decide), a0]; exact hq.1
      · rw [rI_nk (by decide)]; exact c6
      · rw [rI_nk (by decide)] at h1
        exact cQry_g (fun k => rI_ne (by omega)) (rI_ne (by decide)) (cq (q' := q') (by omega) fun i hi k => rI_ne (by omega))
      · rw [rI_same, rI_same]
      · rw [rI_same]; decide
      · rw [d0 _ rI_same] at hk
        omega
    · omega
