/-! ONE CALL OF THE LAW: STANDS -/
section
variable {h h1 g g1 : AH} {da sa : Nat → Nat} {T T' : Nat}
theorem alike_71 (e : ag71 h h1) : m_alike h1 = m_alike h := by funext a j; unfold m_alike; rw [tier_71 e]
theorem drp_71 (e : ag71 h h1) : m_drp h1 = m_drp h := by funext a j; unfold m_drp; rw [live_71 e, e 1155 (by omega), e 615 (by omega)]
theorem szs_71 (e : ag71 h h1) : m_szs h1 = m_szs h := by funext a j; unfold m_szs; rw [size_71 e]
theorem fits_71 (e : ag71 h h1) : m_fits h1 = m_fits h := by funext a n; unfold m_fits; rw [alike_71 e, drp_71 e, szs_71 e, e 89 (by omega)]
theorem chs_71 (e : ag71 h h1) : m_chs h1 = m_chs h := by
  funext s
  induction s with
  | zero => rfl
  | succ s ih => unfold m_chs; rw [ih, fits_71 e, width_71 e, tier_71 e]
theorem ch_71 (e : ag71 h h1) : m_ch h1 = m_ch h := by unfold m_ch; rw [chs_71 e, width_71 e, e 89 (by omega)]
theorem a_hand (e : ag71 h h1) {a b : Nat} : ag71 (m_hand h a b) (m_hand h1 a b) := by
  unfold m_hand
  exact a_cp (a_cp (a_sI (a_sI e rfl) (by rw [e 1138 (by omega)])) (by omega) (by omega)) (by omega) (by omega)
theorem r_handR (r : agR h1 g) {a b : Nat} (hb : b < 7) : agR h1 (m_hand g a b) := r_cp (r_cp (r_sI (r_sI r (by decide)) (by decide)) (by omega)) (by omega)
theorem a_begin (e : ag71 h h1) : ag71 (m_begin h) (m_begin h1) := by
  unfold m_begin m_bgS m_bgB
  rw [ch_71 e, width_71 e, bg_71 e]
  refine a_sI (a_sW (a_sI (a_sI (a_sI e rfl) (by rw [e 1155 (by omega)])) rfl) rfl) rfl
theorem a_crash (e : ag71 h h1) : ag71 (m_crash h) (m_crash h1) := by
  unfold m_crash m_crS
  rw [crD_71 e, e 1138 (by omega)]
  refine a_sW (a_sI (a_sI (a_sW (a_sW (a_sI e rfl) (funext fun k => ?_)) rfl) rfl) rfl) (funext fun k => ?_)
  · unfold m_crR
    rw [e (1140 + 5) (by omega), e 1155 (by omega)]
  · unfold m_crT
    rw [e 1137 (by omega)]
theorem r_crashR : agR h (m_crash h) := r_sW (r_sI (r_sI (r_sW (r_sW (r_sI agR_rf (by decide)) (by decide)) (by decide)) (by decide)) (by decide)) (by decide)
theorem kB_v (hb : kB h g da) (e1 : iH h1 0 2 = iH h 0 2) (e2 : ∀ k, rH h1 4 k = rH h 4 k) (e : agDS g g1) (eI : ∀ k, iH g1 613 k = iH g 613 k) (e15 : iH g1 89 15 = iH g 89 15) (eb : ∀ k, iH g1 1156 k = iH g 1156 k) : kB h1 g1 da := by
  obtain ⟨⟨b1, b2, b3⟩, hB⟩ := hb
  refine ⟨⟨by rw [e1, e15]; exact b1, by rw [e15]; exact b2, fun i hi => ?_⟩, fun i hi => ?_⟩
  · rw [e15] at hi
    rw [eb, e2, e.1.1]
    exact b3 i hi
  · rw [e15] at hi
    obtain ⟨q1, q2, q3⟩ := hB i hi
    rw [eb, eI]
    refine ⟨q1, fun i' hi' => by rw [eb]; exact q2 i' hi', fun x hx hx2 k hk => ?_⟩
    rw [e.1.2] at hx2
    rw [e.2 615 _ (by decide) (by decide) (by decide)] at hk
    rw [e.2 (617 + x) _ (by omega) (by omega) (by omega)]
    exact q3 x hx hx2 k hk
theorem rZ_v (hz : rZ g) (e : agDS g g1) (eI : ∀ k, iH g1 613 k = iH g 613 k) : rZ g1 := fun d hd h1 => by
  rw [e.1.1] at h1
  rw [eI]
  exact hz d hd h1
/-- stands, buffer as said; the merge and the rest stay -/
theorem K_w {da' sa' : Nat → Nat} (hK : K h g da sa T) (C G : Nat → Nat → Prop) (en : nH h ≤ nH h1) (io : ∀ x k, x ≤ 88 → ¬ C x k → iH h1 x k = iH h x k) (ej : ∀ k, jH h1 18 k = jH h 18 k) (go : ∀ x k, 89 ≤ x → x < 1191 → ¬ G x k → iH g1 x k = iH g x k) (k1 : kSta h1 g1 da' sa') (k2 : kB h1 g1 da') (k3 : rZ g1) (hS : kSm h1 g1 T')
    (hC : ∀ x k, C x k → x ≠ 17 := by intro x k c; (try dsimp only at c) <;> omega)
    (hG : ∀ x k, G x k → (x ≠ 89 ∨ (k ≠ 13 ∧ (k < 24 ∨ 27 < k))) ∧ (x < 614 ∨ 1136 < x) ∧ x ≠ 1155 ∧ x ≠ 1159 := by intro x k c; (try dsimp only at c) <;> omega) : K h1 g1 da' sa' T' := by
  have gx : ∀ x k, 89 ≤ x → x < 1191 → ((x = 89 ∧ (k = 13 ∨ (24 ≤ k ∧ k ≤ 27))) ∨ (614 ≤ x ∧ x ≤ 1136) ∨ x = 1155 ∨ x = 1159) → iH g1 x k = iH g x k := fun x k a b c => go x k a b fun u => by
    have := hG x k u
    omega
  refine ⟨k1, k2, k3, ?_, hS, by have := hK.2.2.2.2.2; omega⟩
  exact kMg_u hK.2.2.2.1 (fun k _ => io 17 k (by decide) (fun u => hC 17 k u rfl)) ej (fun k a b => gx _ _ (by decide) (by decide) (by omega)) (fun k => gx _ _ (by decide) (by decide) (by omega)) (Int.le_of_eq (gx 89 13 (by decide) (by decide) (by omega)).symm) (fun s' _ => gx _ _ (by decide) (by decide) (by omega)) (fun x hx => by
      have := segs_520 hK.1.1.1.2.1
      exact ⟨gx _ _ (by decide) (by decide) (by omega), fun k => gx _ _ (by omega) (by omega) (by omega)⟩) (row_b hK.1)
end
section
variable {h : AH} {n : Int} {R : Nat → Option Nat} {J : Nat → Int64}
theorem hLay_i {t x k : Nat} (ht : t < 5) (hx : x ≠ 8 ∧ x ≠ 11 ∧ x ≠ 33 ∧ x ≠ 36 ∧ x ≠ 39 ∧ x ≠ 42) : iH (hLay h t n R J) x k = iH h x k := by
  have : x ≠ avT t := by unfold avT; (repeat' split) <;> omega
  unfold hLay
  rw [rI_ne this, st_io this]
theorem hLay_LM {t : Nat} (ht : t < 5) (M : LayM h) : LayM (hLay h t n R J) := by
  have a := iSt_lt (iSt_av (t := t) (by omega))
  have rr : ∀ x k, 89 ≤ x → rH (hLay h t n R J) x k = rH h x k := fun x k hx => by
    show rH (hSt h (avT t) n R J) x k = _
    exact st_Ro (by omega)
  have t71 : ∀ q ∈ rowM, 89 ≤ q.1 := by decide
  exact ⟨fun q hq => M.1 q hq, fun q hq => by rw [rr _ _ (by omega)]; exact M.2.1 q hq, fun q hq i hi => by rw [rr _ _ (t71 q hq)]; exact M.2.2 q hq i hi⟩
theorem hLay_r {t : Nat} (ht : t < 5) : rH (hLay h t n R J) 4 = rH h 4 ∧ ∀ k, jH (hLay h t n R J) 18 k = jH h 18 k := by
  have a := iSt_av (t := t) (by omega)
  refine ⟨funext fun k => ?_, fun k => ?_⟩
  · show rH (hSt h (avT t) n R J) 4 k = _
    exact st_Ro (by unfold iSt at a; omega)
  · show jH (hSt h (avT t) n R J) 18 k = _
    exact st_Jo (by unfold iSt at a; omega)
end
/-- a stand is laid -/
theorem K_lay {h : AH} {da sa : Nat → Nat} {T t : Nat} {n : Int} {R : Nat → Option Nat} {J : Nat → Int64} (hK : K h h da sa T) (ht : t < 5) (k1 : kSta (hLay h t n R J) (m_lay h t) da sa) : K (hLay h t n R J) (m_lay h t) da sa (T + 1) := by
  obtain ⟨-, k2, k3, k4, k5, k6⟩ := id hK
  have gl : ∀ x k, 89 ≤ x → x < 1191 → ¬ ((x = 1137 ∧ k < 6) ∨ (x = 1138 ∧ k < 6) ∨ (1140 ≤ x ∧ x ≤ 1144) ∨ (1148 ≤ x ∧ x ≤ 1152)) → iH (m_lay h t) x k = iH h x k := fun x k a b c => lay_x (by omega) (by omega) (by omega) (by omega)
  have io : ∀ x k, x ≤ 88 → ¬ (x = 8 ∨ x = 11 ∨ x = 33 ∨ x = 36 ∨ x = 39 ∨ x = 42) → iH (hLay h t n R J) x k = iH h x k := fun x k _ c => hLay_i ht (by omega)
  obtain ⟨r4, j18⟩ := hLay_r (h := h) (n := n) (R := R) (J := J) ht
  have DS := lay_DS (g := h) (t := t) (by omega)
  have eI : ∀ k, iH (m_lay h t) 613 k = iH h 613 k := fun k => lay_x (by omega) (by omega) (by omega) (by omega)
  refine K_w hK (fun x k => x = 8 ∨ x = 11 ∨ x = 33 ∨ x = 36 ∨ x = 39 ∨ x = 42) (fun x k => (x = 1137 ∧ k < 6) ∨ (x = 1138 ∧ k < 6) ∨ (1140 ≤ x ∧ x ≤ 1144) ∨ (1148 ≤ x ∧ x ≤ 1152)) (Nat.le_refl _) io j18 gl k1 (kB_v k2 (hLay_i ht (by decide)) (fun k => congrFun r4 k) DS eI lay_71 (fun k => lay_x (by omega) (by omega) (by omega) (by omega))) (rZ_v k3 DS eI) ?_
  exact kSm_u k5 (fun x k => x = 8 ∨ x = 11 ∨ x = 33 ∨ x = 36 ∨ x = 39 ∨ x = 42) (fun x k => (x = 1137 ∧ k < 6) ∨ (x = 1138 ∧ k < 6) ∨ (1140 ≤ x ∧ x ≤ 1144) ∨ (1148 ≤ x ∧ x ≤ 1152)) io gl (kT_u (fun k hk => lay_71) (lay_x (by omega) (by omega) (by omega) (by omega)) (Nat.le_succ T) k5.2.2.2.2.2.2.2.2)
theorem S_write {h : AH} {T : Nat} (hI : Inv h T) : St mX11_write mX12_write [] h T := by
  obtain ⟨L, M, da, sa, hK⟩ := id hI
  refine ⟨1, 0, 0, by decide, (l_write L hK.1).qI fun x h1 hx => ?_⟩
  obtain ⟨rfl, ⟨R, J, rfl⟩, L1, k1⟩ := hx
  have e : ag71 h (hLay h 4 (iH h 5 2) R J) := fun x hx => funext fun k => hLay_i (by decide) (by omega)
  have M1 : LayM (hLay h 4 (iH h 5 2) R J) := hLay_LM (by decide) M
  have Kr := K_sim hK agR_rf (sim_71 e)
  refine ⟨1, by decide, lm_89 M1, (c_write M1 (pK_nowL Kr)).qI fun y h2 hy => ?_⟩
  obtain ⟨rfl, rfl⟩ := hy
  exact ⟨by rw [e 89 (by omega)], inv_of L1 M1 (K_lay (t := 4) hK (by decide) k1) (agR_lay (by omega)) (sim_71 (a_lay e 4))⟩
theorem S_open {h : AH} {T : Nat} (hI : Inv h T) {v : Int} : St mX11_open mX12_open [vi v] h T := by
  obtain ⟨L, M, da, sa, hK⟩ := id hI
  refine ⟨3, 0, 0, by decide, (l_open L hK.1).qI fun x h1 hx => ?_⟩
  obtain ⟨g1, hp, L1, k1, hf⟩ := hx
  have e : ag71 h h1 := by
    rcases hf with ⟨rfl, -⟩ | ⟨t, ht, ⟨R, J, rfl⟩, -⟩
    · exact a_rf
    · exact fun x hx => funext fun k => hLay_i (by omega) (by omega)
  have M1 : LayM h1 := by
    rcases hf with ⟨rfl, -⟩ | ⟨t, ht, ⟨R, J, rfl⟩, -⟩
    · exact M
    · exact hLay_LM (by omega) M
  have hK1 : K h1 g1 da sa (T + 1) := by
    rcases hf with ⟨rfl, rfl⟩ | ⟨t, ht, ⟨R, J, rfl⟩, rfl⟩
    · exact K_s hK
    · exact K_lay hK (by omega) k1
  have e71 := e 89 (by omega)
  have eT : iH h1 1137 = iH h 1137 := e _ (by omega)
  refine ⟨2, by decide, lm_89 M1, (c_open M1 (pK_nowL (K_sim hK agR_rf (sim_71 e)))).qI fun y h2 hy => fin_go (P := fun h => p_open h v) (fun hy => ?_) (fun g2 hx hy => ?_) L1 M1 hK1 hp hy⟩
  · unfold p_open at hy
    rw [e71, eT, liveIn_71 e] at hy
    rcases hy with ⟨c, rfl, rfl⟩ | ⟨c, c2, rfl, rfl⟩ | ⟨c, c2, rfl, rfl⟩
    · exact ⟨h, Or.inl ⟨c, rfl, rfl⟩, sim_71 e, agR_rf⟩
    · exact ⟨h, Or.inr (Or.inl ⟨c, c2, rfl, rfl⟩), sim_71 e, agR_rf⟩
    · exact ⟨_, Or.inr (Or.inr ⟨c, c2, rfl, rfl⟩), sim_71 (a_lay e v), agR_lay (by omega)⟩
  · rcases hx with ⟨c, rfl, rfl⟩ | ⟨c, c2, rfl, rfl⟩ | ⟨c, c2, rfl, rfl⟩ <;> rcases hy with ⟨d, rfl, rfl⟩ | ⟨d, d2, rfl, rfl⟩ | ⟨d, d2, rfl, rfl⟩ <;> first | exact ⟨rfl, sim_rf⟩ | exact absurd c d | exact absurd d c | exact absurd c2 d2 | exact absurd d2 c2
theorem S_shut {h : AH} {T : Nat} (hI : Inv h T) {v : Int} : St mX11_shut mX12_shut [vi v] h T := by
  obtain ⟨L, M, da, sa, hK⟩ := id hI
  obtain ⟨k1, k2, k3, k4, k5, k6⟩ := id hK
  refine ⟨3, 0, 0, by decide, (l_shut L k1 k5.1.2.1).qI fun x h1 hx => ?_⟩
  obtain ⟨g1, hp, L1, k1', hf⟩ := hx
  have io : ∀ x k, ¬ (x = 8 ∨ x = 11 ∨ x = 33 ∨ x = 36 ∨ x = 39 ∨ x = 42) → iH h1 x k = iH h x k := by
    rcases hf with ⟨rfl, -⟩ | ⟨t, ht, rfl, -⟩
    · exact fun _ _ _ => rfl
    · intro x k c
      exact rI_ne (by unfold avT; (repeat' split) <;> omega)
  have e : ag71 h h1 := fun x hx => funext fun k => io x k (by omega)
  have sh : nH h1 = nH h ∧ (∀ k, jH h1 18 k = jH h 18 k) ∧ (∀ k, rH h1 4 k = rH h 4 k) ∧ LayM h1 := by
    rcases hf with ⟨rfl, -⟩ | ⟨t, ht, rfl, -⟩
    · exact ⟨rfl, fun _ => rfl, fun _ => rfl, M⟩
    · exact ⟨rfl, fun _ => rfl, fun _ => rfl, M⟩
  have gl : ∀ x k, 89 ≤ x → x < 1191 → ¬ (x = 1137 ∨ (x = 1138 ∧ k = 6) ∨ x = 1146 ∨ x = 1154) → iH g1 x k = iH h x k := by
    rcases hf with ⟨-, rfl⟩ | ⟨t, ht, -, rfl⟩
    · exact fun _ _ _ _ _ => rfl
    · intro x k a b c
      refine (show iH (m_lay (sI h 1137 t 0) 6) x k = iH (sI h 1137 t 0) x k from lay_x (t := 6) (by omega) (by omega) (by omega) (by omega)).trans (rI_ne (by omega))
  have DS : agDS h g1 := ⟨⟨gl _ _ (by decide) (by decide) (by omega), gl _ _ (by decide) (by decide) (by omega)⟩, fun x k a b _ => gl x k (by omega) (by omega) (by omega)⟩
  have eI : ∀ k, iH g1 613 k = iH h 613 k := fun k => gl _ _ (by decide) (by decide) (by omega)
  have c6 : 0 ≤ iH g1 1138 6 ∧ iH g1 1138 6 ≤ 8 := by
    rcases hf with ⟨-, rfl⟩ | ⟨t, ht, -, rfl⟩
    · exact k5.2.2.2.2.2.2.2.2.2.2.2.2
    · rw [show iH (m_lay (sI h 1137 t 0) 6) 1138 6 = iH (sI h 1137 t 0) 89 13 from lay_C (t := 6), rI_ne (by decide)]
      exact k1.1.1.2.2.2.1
  have hK1 : K h1 g1 da sa (T + 1) := by
    refine K_w hK (fun x k => x = 8 ∨ x = 11 ∨ x = 33 ∨ x = 36 ∨ x = 39 ∨ x = 42) (fun x k => x = 1137 ∨ (x = 1138 ∧ k = 6) ∨ x = 1146 ∨ x = 1154) (Nat.le_of_eq sh.1.symm) (fun x k _ c => io x k c) sh.2.1 gl k1' (kB_v k2 (io 0 2 (by decide)) sh.2.2.1 DS eI (gl _ _ (by decide) (by decide) (by omega)) (fun k => gl _ _ (by decide) (by decide) (by omega))) (rZ_v k3 DS eI) ?_
    refine kSm_u k5 (fun x k => x = 8 ∨ x = 11 ∨ x = 33 ∨ x = 36 ∨ x = 39 ∨ x = 42) (fun x k => x = 1137 ∨ (x = 1138 ∧ k = 6) ∨ x = 1146 ∨ x = 1154) (fun x k _ c => io x k c) gl ?_
    obtain ⟨t1, t2, t3, t4, t5⟩ := k5.2.2.2.2.2.2.2.2
    unfold kT
    rw [gl 89 0 (by decide) (by decide) (by omega), gl 89 5 (by decide) (by decide) (by omega), gl 89 46 (by decide) (by decide) (by omega), gl 89 47 (by decide) (by decide) (by omega)]
    omega
  have e71 := e 89 (by omega)
  have eT : iH h1 1137 = iH h 1137 := e _ (by omega)
  have Kr := K_sim hK agR_rf (sim_71 e)
  have nl : ∀ v : Nat, m_nowL (sI h1 1137 v 0) := fun v => by
    have q := pK_nowL Kr
    refine ⟨m_now_cg q.1 (rI_ne (by decide)) (fun k => rI_ne (by decide)) (fun g k hg => rI_ne (by omega)) (fun k => rI_ne (by decide)), ?_, fun d hd => by rw [rI_ne (by decide)]; exact q.2.2 d hd⟩
    have : m_held (sI h1 1137 v 0) = m_held h1 := by
      unfold m_held
      rw [rI_ne (by decide)]
      exact sumN_cg fun i _ => by rw [rI_ne (b := 615) (by decide), rI_ne (by decide)]
    rw [this]; exact q.2.1
  refine ⟨2, by decide, lm_89 sh.2.2.2, (c_shut sh.2.2.2 nl ⟨by rw [e71]; exact k5.1.2.1, by rw [e71]; exact k5.1.2.2⟩ (pK_std Kr)).qI fun y h2 hy => fin_go (P := fun h => p_shut h v) (fun hy => ?_) (fun g2 hx hy => ?_) L1 sh.2.2.2 hK1 hp hy⟩
  · unfold p_shut at hy
    rw [eT] at hy
    rcases hy with ⟨c, rfl, rfl⟩ | ⟨c, c2, rfl, rfl⟩ | ⟨c, c2, rfl, rfl⟩
    · exact ⟨h, Or.inl ⟨c, rfl, rfl⟩, sim_71 e, agR_rf⟩
    · exact ⟨h, Or.inr (Or.inl ⟨c, c2, rfl, rfl⟩), sim_71 e, agR_rf⟩
    · have es : ag71 (sI h 1137 v.toNat 0) (sI h1 1137 v.toNat 0) := a_sI e rfl
      refine ⟨_, Or.inr (Or.inr ⟨c, c2, ?_, rfl⟩), sim_71 (a_lay es 6), r_layR (by omega) (r_sI agR_rf (by decide))⟩
      unfold m_hs
      rw [heldP_71 (a_lay es 6), es 89 (by omega)]
  · rcases hx with ⟨c, rfl, rfl⟩ | ⟨c, c2, rfl, rfl⟩ | ⟨c, c2, rfl, rfl⟩ <;> rcases hy with ⟨d, rfl, rfl⟩ | ⟨d, d2, rfl, rfl⟩ | ⟨d, d2, rfl, rfl⟩ <;> first | exact ⟨rfl, sim_rf⟩ | exact absurd c d | exact absurd d c | exact absurd c2 d2 | exact absurd d2 c2
