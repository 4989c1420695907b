/-! ONE CALL OF THE LAW: FLUSH, FINISH, ADD -/
section
variable {h h1 : AH}
theorem held_B (e : agB h h1) : m_held h1 = m_held h := by
  unfold m_held
  rw [e 89 (by decide) (by decide), e 615 (by decide) (by decide), e 1155 (by decide) (by decide)]
theorem flush_B (e : agB h h1) (hX : (iH h 89 5).toNat < 520) : agB (m_flush h) (m_flush h1) := by
  unfold m_flush m_fill m_ns0
  rw [e 89 (by decide) (by decide)]
  refine B_sI (B_sI (B_sI (B_sI (B_sW (B_sI (B_sI e)) (funext fun k => ?_)))))
  unfold m_flM
  rw [e 1156 (by decide) (by decide), e 89 (by decide) (by decide), e (617 + (iH h 89 5).toNat) (by omega) (by omega)]
theorem flush_R (hX : (iH h 89 5).toNat < 520) : agR h (m_flush h) := r_sI (r_sI (r_sI (r_sI (r_sW (r_sI (r_sI agR_rf (by decide)) (by decide)) (by omega)) (by decide)) (by decide)) (by decide)) (by decide)
theorem flush_x {x k : Nat} (h1 : x ≠ 89 ∨ (k ≠ 5 ∧ k ≠ 13 ∧ k ≠ 15)) (h2 : x ≠ 1155 ∨ k ≠ (iH h 89 13).toNat) (h3 : x ≠ 615 ∨ k ≠ (iH h 89 5).toNat) (h4 : x ≠ 617 + (iH h 89 5).toNat) (h5 : x ≠ 614 ∨ k ≠ (iH h 89 5).toNat) : iH (m_flush h) x k = iH h x k := by
  unfold m_flush m_fill m_ns0
  rw [i_sI, if_neg (by omega), i_sI, if_neg (by omega), i_sI, if_neg (by omega), i_sI, if_neg (by omega), rW_ne h4, i_sI, if_neg (by omega), i_sI, if_neg (by omega)]
theorem flush_5 : iH (m_flush h) 89 5 = iH h 89 5 + 1 := by
  unfold m_flush m_fill m_ns0
  rw [rI_nk (by decide), rI_ne (by decide), rI_nk (by decide), rI_ne (by decide), rW_ne (by omega), rI_same]
theorem flush_13 : iH (m_flush h) 89 13 = iH h 89 13 + 1 := rI_same
theorem mv_B {f f' : Nat → Int} (e : f' = f) {a n d : Nat} : m_mv f a n d = m_mv f' a n d := by rw [e]
theorem fin0_B (e : agB h h1) {p : Nat} : agB (m_fin0 h p) (m_fin0 h1 p) := by
  unfold m_fin0
  rw [e 89 (by decide) (by decide), e 1155 (by decide) (by decide)]
  exact B_sI (B_sW (B_sI e) rfl)
theorem fin1A_B (e : agB h h1) {p : Nat} (hX : (iH h 89 5).toNat < 520) : agB (m_fin1A h p) (m_fin1A h1 p) := by
  unfold m_fin1A m_fill m_ns0
  have e5 : ∀ A : AH, iH (sI A 89 24 0) 89 5 = iH A 89 5 := fun A => rI_nk (by decide)
  rw [e5, e5, e 89 (by decide) (by decide)]
  refine B_sI (B_sI (B_sW (B_sI (B_sI (B_sI e))) (funext fun k => ?_)))
  unfold m_ffM
  rw [e 1159 (by decide) (by decide), e 89 (by decide) (by decide), e (617 + (iH h 89 5).toNat) (by omega) (by omega)]
theorem fin1_B (e : agB h h1) {p : Nat} (hX : (iH h 89 5).toNat < 520) : agB (m_fin1 h p) (m_fin1 h1 p) := by
  have eA := fin1A_B (p := p) e hX
  unfold m_fin1
  rw [e 89 (by decide) (by decide), eA 1155 (by decide) (by decide)]
  exact B_sI (B_sW eA rfl)
theorem fin0_R {p : Nat} : agR h (m_fin0 h p) := r_sI (r_sW (r_sI agR_rf (by decide)) (by decide)) (by decide)
theorem fin1_R {p : Nat} (hX : (iH h 89 5).toNat < 520) : agR h (m_fin1 h p) := r_sI (r_sW (r_sI (r_sI (r_sW (r_sI (r_sI (r_sI agR_rf (by decide)) (by decide)) (by decide)) (by omega)) (by decide)) (by decide)) (by decide)) (by decide)
theorem fin1_5 {p : Nat} (hX : (iH h 89 5).toNat < 520) : iH (m_fin1 h p) 89 5 = iH h 89 5 + 1 := by
  unfold m_fin1 m_fin1A m_fill m_ns0
  have e5 : iH (sI h 89 24 0) 89 5 = iH h 89 5 := rI_nk (by decide)
  rw [rI_nk (by decide), rW_ne (by decide), rI_ne (by decide), rI_ne (by decide), rW_ne (by omega), rI_same, e5]
theorem fin0_5 {p : Nat} : iH (m_fin0 h p) 89 5 = iH h 89 5 := by
  unfold m_fin0
  rw [rI_nk (by decide), rW_ne (by decide), rI_nk (by decide)]
/-- cells below n stay: the reference's too -/
theorem M_of (M : LayM h) (hN : 1191 ≤ nH h) (hn : nH h ≤ nH h1) (k : ∀ x, x < nH h → kH h1 x = kH h x) (r : ∀ x k, 89 ≤ x → x < nH h → rH h1 x k = rH h x k) : LayM h1 := by
  have t71 : ∀ q ∈ rowM, 89 ≤ q.1 ∧ q.1 < 1191 := by decide
  exact ⟨fun q hq => by
    have := M.1 q hq
    exact ⟨by omega, by rw [k _ this.1]; exact this.2⟩, fun q hq => by rw [r _ _ (by decide) (by omega)]; exact M.2.1 q hq, fun q hq i hi => by
    have := M.2.2 q hq i hi
    have t := t71 q hq
    exact ⟨⟨by omega, by rw [k _ this.1.1]; exact this.1.2⟩, by rw [r _ _ t.1 (by omega)]; exact this.2⟩⟩
end
theorem S_flush {h : AH} {T : Nat} (hI : Inv h T) (hT : T < 512) : St mX11_flush mX12_flush [] h T := by
  obtain ⟨L, M, da, sa, hK⟩ := id hI
  obtain ⟨k1, k2, k3, k4, k5, k6⟩ := id hK
  obtain ⟨q1, q2, q3, q4, q5, q6, q7, q8, q9⟩ := id k5
  have b5 := q9.2.1
  have b0 := q1.2.1
  have hX : (iH h 89 5).toNat < 520 := by omega
  refine ⟨3, 5, 2315, by decide, (l_flush L k6 k1 k2 ⟨q1.1, q1.2.1, by omega⟩).qI fun x h1 hx => ?_⟩
  obtain ⟨g1, sa', hp, ey, L1, k1', k2', e08, hn, hf⟩ := hx
  have io : ∀ x k, x < 1191 → ¬ ((x = 0 ∧ (k = 2 ∨ k = 8)) ∨ (x = 5 ∧ k = 2)) → iH h1 x k = iH h x k := fun x k hx c => (hf x (by omega)).2.1 k (by omega) (by omega)
  have e : agB h h1 := fun x a b => funext fun k => io x k b (by omega)
  have M1 : LayM h1 := M_of M k6 hn (fun x hx => (hf x hx).1) (fun x k a b => (hf x b).2.2.2 k (by omega))
  have gl : ∀ x k, ¬ ((x = 89 ∧ (k = 5 ∨ k = 13 ∨ k = 15)) ∨ (x = 1155 ∧ k = (iH h 89 13).toNat) ∨ ((614 ≤ x ∧ x ≤ 615) ∧ k = (iH h 89 5).toNat) ∨ x = 617 + (iH h 89 5).toNat) → iH g1 x k = iH h x k := by
    rcases hp with ⟨-, -, rfl⟩ | ⟨-, -, -, rfl⟩ | ⟨-, -, -, -, rfl⟩
    · exact fun _ _ _ => rfl
    · exact fun _ _ _ => rfl
    · exact fun x k c => flush_x (by omega) (by omega) (by omega) (by omega) (by omega)
  have g5 : iH h 89 5 ≤ iH g1 89 5 ∧ iH g1 89 5 ≤ iH h 89 5 + 1 ∧ iH h 89 13 ≤ iH g1 89 13 := by
    rcases hp with ⟨-, -, rfl⟩ | ⟨-, -, -, rfl⟩ | ⟨-, -, -, -, rfl⟩
    · omega
    · omega
    · rw [flush_5, flush_13]; omega
  have s8 := k1.1.1.2.2.2.1
  have hK1 : K h1 g1 da sa' (T + 1) := by
    refine ⟨k1', k2', fun d hd h1 => ?_, ?_, ?_, by omega⟩
    · rw [gl _ _ (by omega)] at h1
      rw [gl _ _ (by omega)]
      exact k3 d hd h1
    · exact kMg_u k4 (fun k _ => io 17 k (by decide) (by omega)) (fun k => (hf 18 (by omega)).2.2.1 k (by decide)) (fun k a b => gl _ _ (by omega)) (fun k => gl _ _ (by omega)) g5.2.2 (fun s hs => gl _ _ (by omega)) (fun x hx => ⟨gl _ _ (by omega), fun k => gl _ _ (by omega)⟩) (row_b k1)
    · refine kSm_u k5 (fun x k => (x = 0 ∧ (k = 2 ∨ k = 8)) ∨ (x = 5 ∧ k = 2)) (fun x k => (x = 89 ∧ (k = 5 ∨ k = 13 ∨ k = 15)) ∨ x = 1155 ∨ (614 ≤ x ∧ x ≤ 1136)) (fun x k hx c => io x k (by omega) c) (fun x k _ _ c => gl x k (by omega)) ?_ (pSe := Or.inr ⟨e08, by omega, by omega⟩)
      obtain ⟨t1, t2, t3, t4, t5⟩ := q9
      unfold kT
      rw [gl 89 0 (by omega), gl 89 46 (by omega), gl 89 47 (by omega), gl 1138 6 (by omega)]
      omega
  have e71 := e 89 (by decide) (by decide)
  have hn0 := pK_now hK
  refine ⟨1, by decide, lm_89 M1, (c_flush M1 (m_now_cg hn0 (by rw [e71]) (fun k => congrFun (e _ (by decide) (by decide)) k) (fun g k hg => congrFun (e _ (by omega) (by omega)) k) (fun k => congrFun (e _ (by decide) (by decide)) k)) (by rw [e71]; exact k2.1.2.1) (by rw [e71]; omega)).qI fun y h2 hy => fin_go (P := p_flush) (fun hy => ?_) (fun g2 hx hy => ?_) L1 M1 hK1 hp hy⟩
  · unfold p_flush at hy
    rw [held_B e, e71] at hy
    rcases hy with ⟨c, rfl, rfl⟩ | ⟨c, c2, rfl, rfl⟩ | ⟨c, c2, c3, rfl, rfl⟩
    · exact ⟨h, Or.inl ⟨c, rfl, rfl⟩, B_sim e, agR_rf⟩
    · exact ⟨h, Or.inr (Or.inl ⟨c, c2, rfl, rfl⟩), B_sim e, agR_rf⟩
    · exact ⟨_, Or.inr (Or.inr ⟨c, c2, c3, rfl, rfl⟩), B_sim (flush_B e hX), flush_R (by rw [e71]; exact hX)⟩
  · rcases hx with ⟨c, rfl, rfl⟩ | ⟨c, c2, rfl, rfl⟩ | ⟨c, c2, c3, rfl, rfl⟩ <;> rcases hy with ⟨d, rfl, rfl⟩ | ⟨d, d2, rfl, rfl⟩ | ⟨d, d2, d3, rfl, rfl⟩ <;> first | exact ⟨rfl, sim_rf⟩ | (exfalso; omega)
theorem S_finish {h : AH} {T : Nat} (hI : Inv h T) (hT : T < 512) : St mX11_finish mX12_finish [] h T := by
  obtain ⟨L, M, da, sa, hK⟩ := id hI
  obtain ⟨k1, k2, k3, k4, k5, k6⟩ := id hK
  obtain ⟨q1, q2, q3, q4, q5, q6, q7, q8, q9⟩ := id k5
  have b5 := q9.2.1
  have b0 := q1.2.1
  have hX : (iH h 89 5).toNat < 520 := by omega
  refine ⟨3, 5, 2375, by decide, (l_finish L k6 k1 k2 k4 ⟨q1.1, q1.2.1, by omega⟩).qI fun x h1 hx => ?_⟩
  obtain ⟨p, g1, sa', hmr, hp, ey, L1, k1', k2', e08, e17, e24, ⟨hn, hf⟩, hg⟩ := hx
  have io : ∀ x k, x < 1191 → ¬ ((x = 0 ∧ k = 8) ∨ (x = 5 ∧ k = 2) ∨ (x = 17 ∧ k = 0)) → iH h1 x k = iH h x k := fun x k hx c => (hf x (by omega)).2.1 k (by omega) (by omega) (by omega)
  have e : agB h h1 := fun x a b => funext fun k => io x k b (by omega)
  have M1 : LayM h1 := M_of M k6 hn (fun x hx => (hf x hx).1) (fun x k a b => (hf x b).2.2.2 k (by omega))
  have gl : ∀ x k, ¬ ((x = 89 ∧ (k = 5 ∨ k = 13 ∨ k = 24)) ∨ x = 1155 ∨ (614 ≤ x ∧ x ≤ 1136)) → iH g1 x k = iH h x k := by
    rcases hg with rfl | ⟨g2, g3⟩
    · exact fun _ _ _ => rfl
    · intro x k c
      by_cases c7 : x = 89
      · subst c7; exact g3 k (by omega) (by omega) (by omega)
      · exact g2 x k c7 (by omega) (by omega) (by omega) (by omega)
  have g5 : iH h 89 5 ≤ iH g1 89 5 ∧ iH g1 89 5 ≤ iH h 89 5 + 1 := by
    rcases hp with ⟨-, -, rfl⟩ | ⟨-, -, -, rfl⟩ | ⟨-, -, -, rfl⟩
    · omega
    · rw [fin0_5]; omega
    · rw [fin1_5 hX]; omega
  have hK1 : K h1 g1 da sa' (T + 1) := by
    refine ⟨k1', k2', fun d hd h1 => ?_, kMg_0 e17 e24, ?_, by omega⟩
    · rw [gl _ _ (by omega)] at h1
      rw [gl _ _ (by omega)]
      exact k3 d hd h1
    · refine kSm_u k5 (fun x k => (x = 0 ∧ k = 8) ∨ (x = 5 ∧ k = 2) ∨ (x = 17 ∧ k = 0)) (fun x k => (x = 89 ∧ (k = 5 ∨ k = 13 ∨ k = 24)) ∨ x = 1155 ∨ (614 ≤ x ∧ x ≤ 1136)) (fun x k hx c => io x k (by omega) c) (fun x k _ _ c => gl x k c) ?_ (pSe := Or.inr ⟨e08, by omega, by omega⟩)
      obtain ⟨t1, t2, t3, t4, t5⟩ := q9
      unfold kT
      rw [gl 89 0 (by omega), gl 89 46 (by omega), gl 89 47 (by omega), gl 1138 6 (by omega)]
      omega
  have e71 := e 89 (by decide) (by decide)
  have eS := e 1155 (by decide) (by decide)
  refine ⟨1, by decide, lm_89 M1, (c_finish (p := p) M1 (fun c => ?_) (by rw [e71]; omega)).qI fun y h2 hy => fin_go (P := fun h => p_finish h p) (fun hy => ?_) (fun g2 hx hy => ?_) L1 M1 hK1 hp hy⟩
  · rw [e71] at c
    have m := hmr c
    unfold m_mrg at m ⊢
    rw [e71, eS]
    exact m
  · unfold p_finish at hy
    rw [e71] at hy
    rcases hy with ⟨c, rfl, rfl⟩ | ⟨c, c2, rfl, rfl⟩ | ⟨c, c2, rfl, rfl⟩
    · exact ⟨h, Or.inl ⟨c, rfl, rfl⟩, B_sim e, agR_rf⟩
    · exact ⟨_, Or.inr (Or.inl ⟨c, c2, rfl, rfl⟩), B_sim (fin0_B e), fin0_R⟩
    · exact ⟨_, Or.inr (Or.inr ⟨c, c2, rfl, rfl⟩), B_sim (fin1_B e hX), fin1_R (by rw [e71]; exact hX)⟩
  · rcases hx with ⟨c, rfl, rfl⟩ | ⟨c, c2, rfl, rfl⟩ | ⟨c, c2, rfl, rfl⟩ <;> rcases hy with ⟨d, rfl, rfl⟩ | ⟨d, d2, rfl, rfl⟩ | ⟨d, d2, rfl, rfl⟩ <;> first | exact ⟨rfl, sim_rf⟩ | (exfalso; omega)
