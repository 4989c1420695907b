/-! ONE CALL OF THE LAW: BOTH, FILM -/
section
variable {A B h h1 : AH} {k : Int}
theorem a_shut (e : ag71 A B) : ag71 (m_shutL A k) (m_shutL B k) := by
  unfold m_shutL
  rw [e 89 (by omega)]
  exact a_sI (a_sI e rfl) rfl
theorem a_bt1 (e : ag71 h h1) : ag71 (m_bt1 h) (m_bt1 h1) := a_sI (a_lay e 6) (by rw [a_lay e 6 89 (by omega)])
theorem a_bt2 (e : ag71 A B) : ag71 (m_bt2 A) (m_bt2 B) := by
  unfold m_bt2
  have e0 : ag71 (sI A 89 46 (iH A 89 46 + 1)) (sI B 89 46 (iH B 89 46 + 1)) := a_sI e (by rw [e 89 (by omega)])
  have e1 : ag71 (m_shutL (sI A 89 46 (iH A 89 46 + 1)) (iH A 89 46 + 1)) (m_shutL (sI B 89 46 (iH B 89 46 + 1)) (iH B 89 46 + 1)) := by
    have := a_shut (k := iH A 89 46 + 1) e0
    rw [← congrFun (e 89 (by omega)) 46] at this ⊢
    exact this
  rw [e1 89 (by omega)]
  exact a_shut e1
theorem a_fH (e : ag71 A B) {n : Nat} {sm : Int} {f w hp : Nat → Int} : ag71 (m_fH A n sm f w hp) (m_fH B n sm f w hp) := a_sI (a_sI (a_sW (a_sW (a_sW e rfl) rfl) rfl) rfl) rfl
theorem r_fHR (r : agR h1 A) {n : Nat} {sm : Int} {f w hp : Nat → Int} : agR h1 (m_fH A n sm f w hp) := r_sI (r_sI (r_sW (r_sW (r_sW r (by decide)) (by decide)) (by decide)) (by decide)) (by decide)
theorem r_shutR (r : agR h1 A) : agR h1 (m_shutL A k) := r_sI (r_sI r (by decide)) (by decide)
theorem r_bt1R (r : agR h1 A) : agR h1 (m_bt1 A) := r_sI (r_layR (by omega) r) (by decide)
theorem r_bt2R (r : agR h1 A) : agR h1 (m_bt2 A) := r_shutR (r_shutR (r_sI r (by decide)))
theorem sim_fH {n : Nat} {sm : Int} {f w hp : Nat → Int} : simS A (m_fH A n sm f w hp) := sim_scr a_rf (Or.inr ⟨n, sm, f, w, hp, rfl⟩)
theorem sim_ah {a i j m : Nat} : simS A (cpI A a i 1182 j m) := fun x k _ _ c => cp_ne (by unfold SR at c; omega)
theorem sim_sym {g g' : AH} (s : simS g g') : simS g' g := fun x k a b c => (s x k a b c).symm
end
theorem S_both {h : AH} {T : Nat} (hI : Inv h T) (hT : T < 512) {q q' w : Int} : St mX11_both mX12_both_ [vi q, vi q', vi w] h T := by
  obtain ⟨L, M, da, sa, hK⟩ := id hI
  obtain ⟨k1, k2, k3, k4, k5, k6⟩ := id hK
  obtain ⟨q1, q2, q3, q4, q5, q6, q7, q8, q9⟩ := id k5
  refine ⟨8, 0, 0, by decide, (l_both L k1 q6 q2 q5 (by have := q9.2.2.1; omega)).qI fun x h1 hx => ?_⟩
  obtain ⟨L1, ag, g1, hp, kl, hf⟩ := hx
  have e := agX_71 ag
  have e71 := e 89 (by omega)
  have M1 := agX_M ag M
  have s8 := k1.1.1.2.2.2.1
  have bt1 : ∀ x k, (x ≠ 89 ∨ k ≠ 46) → (x ≠ 1137 ∨ k ≠ 6) → (x ≠ 1138 ∨ k ≠ 6) → x ≠ 1146 → x ≠ 1154 → iH (m_bt1 h) x k = iH h x k := fun x k a b c d f => by
    unfold m_bt1
    rw [i_sI, if_neg (by omega)]
    exact lay_x (t := 6) (by omega) (by omega) (by omega) (by omega)
  have c6 : iH (m_bt1 h) 1138 6 = iH h 89 13 := by
    unfold m_bt1
    rw [rI_ne (by decide)]
    exact lay_C (t := 6)
  have l46 : iH (m_bt1 h) 89 46 = iH h 89 46 + 1 := by
    unfold m_bt1
    rw [rI_same, lay_71]
  have hK1 : K h1 g1 da sa (T + 1) := by
    rcases hf with rfl | rfl | rfl
    · exact K_log hK ag (fun _ _ _ _ _ => rfl) kl (by omega) (by omega) q9.2.2.2.2
    · refine K_log hK ag (fun x k a b c => ?_) kl ?_ ?_ ?_
      · unfold m_shutL
        rw [i_sI, if_neg (by omega), i_sI, if_neg (by omega)]
        exact bt1 x k (by omega) (by omega) (by omega) (by omega) (by omega)
      · unfold m_shutL
        rw [rI_nk (by decide), rI_ne (by decide), l46]; omega
      · unfold m_shutL
        rw [rI_same, bt1 _ _ (by omega) (by omega) (by omega) (by omega) (by omega)]; omega
      · unfold m_shutL
        rw [rI_ne (by decide), rI_ne (by decide), c6]; exact s8
    · refine K_log hK ag (fun x k a b c => ?_) kl ?_ ?_ ?_
      · by_cases c7 : x = 89
        · subst c7
          rw [r_bt2c (by omega) (by omega)]
          exact bt1 _ k (by omega) (by omega) (by omega) (by omega) (by omega)
        · rw [r_bt2 c7 (by omega)]
          exact bt1 x k (by omega) (by omega) (by omega) (by omega) (by omega)
      · unfold m_bt2 m_shutL
        rw [rI_nk (by decide), rI_ne (by decide), rI_nk (by decide), rI_ne (by decide), rI_same, l46]; omega
      · unfold m_bt2 m_shutL
        rw [rI_same, rI_same, rI_nk (by decide), bt1 _ _ (by omega) (by omega) (by omega) (by omega) (by omega)]; omega
      · rw [r_bt2 (by decide) (by decide), c6]; exact s8
  have eC : ∀ r : Int, 0 ≤ r → r ≤ iH h 89 30 - 1 → m_cost (m_lay h1 6) 6 r = m_cost (m_lay h 6) 6 r := fun r a b => m_cost_cg (AgQ_71 (a_lay e 6)) (gS_6 k1).2 (m_qs_lay ((pK_qs hK).2 r a b))
  refine ⟨5, by decide, lm_89 M1, (c_both_ M1 (m_qs_71 e (pK_qs hK)) (m_gN_cg (pK_gN hK) (by rw [e71]) (fun a k b _ => congrFun (e a (by omega)) k)) (by rw [e71]; have := q9.2.2.1; have := q5.1.2; omega) (by rw [e71]; have := q9.2.2.2.1; have := q5.2.1.2; omega)).qI fun y h2 hy => fin_go (P := fun h => p_both h q q' w) (fun hy => ?_) (fun g2 hx hy => ?_) L1 M1 hK1 hp hy⟩
  · unfold p_both at hy
    rw [e71] at hy
    rcases hy with ⟨c, rfl, rfl⟩ | ⟨c, rfl, hs⟩
    · exact ⟨h, Or.inl ⟨c, rfl, rfl⟩, sim_71 e, agR_rf⟩
    · have ea : a_both h1 q q' w = a_both h q q' w := by
        unfold a_both
        rw [e71, eC q c.1.1 c.1.2, eC q' c.2.1.1 c.2.1.2, F_6 e hK c.1, F_6 e hK c.2.1]
      rw [eC q c.1.1 c.1.2] at hs
      rw [ea]
      rcases hs with ⟨d, rfl⟩ | ⟨d, rfl | ⟨n, sm, f, w', hp', n', sm', f', w'', hp'', rfl⟩⟩
      · refine ⟨m_shutL (m_bt1 h) (iH (m_lay h 6) 89 46 + 1), Or.inr ⟨c, rfl, Or.inl ⟨d, rfl⟩⟩, ?_, r_shutR (r_bt1R agR_rf)⟩
        have e6 := congrFun (a_lay e 6 89 (by omega)) 46
        rw [e6]
        exact sim_71 (a_shut (a_bt1 e))
      · exact ⟨m_bt2 (m_bt1 h), Or.inr ⟨c, rfl, Or.inr ⟨d, Or.inl rfl⟩⟩, sim_71 (a_bt2 (a_bt1 e)), r_bt2R (r_bt1R agR_rf)⟩
      · exact ⟨m_bt2 (m_bt1 h), Or.inr ⟨c, rfl, Or.inr ⟨d, Or.inl rfl⟩⟩, sim_tr (sim_71 (a_bt2 (a_bt1 e))) (sim_tr sim_fH (sim_tr sim_ah sim_fH)), r_fHR (r_cp (r_fHR (r_bt2R (r_bt1R agR_rf))) (by decide))⟩
  · rcases hx with ⟨c, rfl, rfl⟩ | ⟨c, rfl, hs⟩ <;> rcases hy with ⟨d, rfl, rfl⟩ | ⟨d, rfl, hs'⟩
    · exact ⟨rfl, sim_rf⟩
    · omega
    · omega
    · refine ⟨rfl, ?_⟩
      have can : ∀ g, (g = m_bt2 (m_bt1 h) ∨ ∃ n sm f w hp n' sm' f' w' hp', g = m_fH (cpI (m_fH (m_bt2 (m_bt1 h)) n sm f w hp) 1179 0 1182 0 64) n' sm' f' w' hp') → simS (m_bt2 (m_bt1 h)) g := fun g u => by
        rcases u with rfl | ⟨n, sm, f, w', hp', n', sm', f', w'', hp'', rfl⟩
        · exact sim_rf
        · exact sim_tr sim_fH (sim_tr sim_ah sim_fH)
      rcases hs with ⟨c2, rfl⟩ | ⟨c2, u⟩ <;> rcases hs' with ⟨d2, rfl⟩ | ⟨d2, u'⟩
      · exact sim_rf
      · omega
      · omega
      · exact sim_tr (sim_sym (can _ u)) (can _ u')
theorem S_film {h : AH} {T : Nat} (hI : Inv h T) {s v q : Int} : St mX11_film mX12_film [vi s, vi v, vi q] h T := by
  obtain ⟨L, M, da, sa, hK⟩ := id hI
  obtain ⟨k1, k2, k3, k4, k5, k6⟩ := id hK
  obtain ⟨q1, q2, q3, q4, q5, q6, q7, q8, q9⟩ := id k5
  refine ⟨5, 0, 0, by decide, (l_film L k1 q6 q4 q7).qI fun x h1 hx => ?_⟩
  obtain ⟨L1, g1, hp, kp, hf⟩ := hx
  have io : ∀ x k, ¬ ((24 ≤ x ∧ x ≤ 32) ∨ (50 ≤ x ∧ x ≤ 80 ∧ x % 6 = 2) ∨ (81 ≤ x ∧ x ≤ 88)) → iH h1 x k = iH h x k := by
    rcases hf with ⟨rfl, -⟩ | ⟨z, hz, ⟨h0, m, f, ag, rfl⟩, -⟩
    · exact fun _ _ _ => rfl
    · intro x k c
      rw [rW_ne (by omega), rI_ne (by omega), rI_ne (by omega)]
      exact (ag.2.2.2 x (by unfold scL; omega)).1 k
  have sh : nH h1 = nH h ∧ (∀ x, kH h1 x = kH h x) ∧ (∀ x k, rH h1 x k = rH h x k) ∧ ∀ x k, (x ≤ 18 ∨ (33 ≤ x ∧ x ≤ 44)) → jH h1 x k = jH h x k := by
    rcases hf with ⟨rfl, -⟩ | ⟨z, hz, ⟨h0, m, f, ag, rfl⟩, -⟩
    · exact ⟨rfl, fun _ => rfl, fun _ _ => rfl, fun _ _ _ => rfl⟩
    · exact ⟨ag.1, ag.2.1, ag.2.2.1, fun x k c => (ag.2.2.2 x (by unfold scL; omega)).2 k⟩
  have go : ∀ x k, 89 ≤ x → x < 1191 → ¬ ((1178 ≤ x ∧ x ≤ 1189) ∧ x ≠ 1181 ∧ x ≠ 1182 ∨ (x = 89 ∧ 42 ≤ k ∧ k ≤ 43)) → iH g1 x k = iH h x k := by
    rcases hf with ⟨-, rfl⟩ | ⟨z, hz, -, rfl⟩
    · exact fun _ _ _ _ _ => rfl
    · intro x k _ _ c
      unfold m_flG m_film
      rw [rW_ne (by omega), rI_ne (by omega), rI_ne (by omega)]
      by_cases c7 : x = 89
      · subst c7; exact r_fH71 (by omega) (by omega)
      · exact r_fH c7 (by omega) (by omega) (by omega)
  have e : ag71 h h1 := fun x hx => funext fun k => io x k (by omega)
  have M1 : LayM h1 := ⟨fun q hq => by rw [sh.1, sh.2.1]; exact M.1 q hq, fun q hq => by rw [sh.2.2.1]; exact M.2.1 q hq, fun q hq i hi => by rw [sh.1, sh.2.1, sh.2.2.1]; exact M.2.2 q hq i hi⟩
  have hK1 : K h1 g1 da sa (T + 1) := by
    refine K_u hK (fun x k => (24 ≤ x ∧ x ≤ 32) ∨ (50 ≤ x ∧ x ≤ 80 ∧ x % 6 = 2) ∨ (81 ≤ x ∧ x ≤ 88)) (fun x k => (1178 ≤ x ∧ x ≤ 1189) ∧ x ≠ 1181 ∧ x ≠ 1182 ∨ (x = 89 ∧ 42 ≤ k ∧ k ≤ 43)) sh.1 sh.2.1 (fun x k _ => sh.2.2.1 x k) sh.2.2.2 io go ?_
    exact kSm_u k5 (fun x k => (24 ≤ x ∧ x ≤ 32) ∨ (50 ≤ x ∧ x ≤ 80 ∧ x % 6 = 2) ∨ (81 ≤ x ∧ x ≤ 88)) (fun x k => (1178 ≤ x ∧ x ≤ 1189) ∧ x ≠ 1181 ∧ x ≠ 1182 ∨ (x = 89 ∧ 42 ≤ k ∧ k ≤ 43)) (fun x k _ c => io x k c) go (kT_u (fun k hk => go _ _ (by omega) (by omega) (by omega)) (go _ _ (by omega) (by omega) (by omega)) (Nat.le_succ T) q9) (pSh := Or.inr kp)
  have e71 := e 89 (by omega)
  have eT : iH h1 1137 = iH h 1137 := e _ (by omega)
  refine ⟨5, by decide, lm_89 M1, (c_film M1 (m_qs_71 e (pK_qs hK)) (fun v a b c => m_gS_cg (AgQ_71 e) (pK_gSv hK v a b (by rw [eT] at c; exact c)))).qI fun y h2 hy => fin_go (P := fun h => p_film h s v q) (fun hy => ?_) (fun g2 hx hy => ?_) L1 M1 hK1 hp hy⟩
  · unfold p_film at hy
    rw [e71, eT] at hy
    rcases hy with ⟨c, rfl, rfl⟩ | ⟨c, c2, rfl, rfl⟩ | ⟨c, c2, rfl, n, sm, f, w, hp', rfl⟩
    · exact ⟨h, Or.inl ⟨c, rfl, rfl⟩, sim_71 e, agR_rf⟩
    · exact ⟨h, Or.inr (Or.inl ⟨c, c2, rfl, rfl⟩), sim_71 e, agR_rf⟩
    · have eF : m_F h1 v q = m_F h v q := m_F_cg (AgQ_71 e) (pK_gSv hK v c.2.1.1 c.2.1.2 c2).1 ((pK_qs hK).2 q c.2.2.1 c.2.2.2)
      rw [eF]
      refine ⟨_, Or.inr (Or.inr ⟨c, c2, rfl, n, sm, f, w, hp', rfl⟩), sim_71 ?_, r_sW (r_sI (r_sI (r_fHR agR_rf) (by decide)) (by decide)) (by omega)⟩
      unfold m_film
      refine a_sW (a_sI (a_sI (a_fH e) rfl) rfl) (funext fun k => ?_)
      unfold m_flmR
      rw [e 90 (by omega), e (1186 + s.toNat) (by omega)]
  · rcases hx with ⟨c, rfl, rfl⟩ | ⟨c, c2, rfl, rfl⟩ | ⟨c, c2, rfl, n, sm, f, w, hp', rfl⟩ <;> rcases hy with ⟨d, rfl, rfl⟩ | ⟨d, d2, rfl, rfl⟩ | ⟨d, d2, rfl, n', sm', f', w', hp'', rfl⟩
    · exact ⟨rfl, sim_rf⟩
    · omega
    · omega
    · omega
    · exact ⟨rfl, sim_rf⟩
    · exact absurd c2 d2
    · omega
    · exact absurd d2 c2
    · refine ⟨rfl, fun x k a b u => ?_⟩
      unfold m_film
      have s1 : ∀ n sm f w hp, iH (m_fH h n sm f w hp) x k = iH h x k := fun n sm f w hp => sim_fH x k a b u
      rw [i_sW, i_sI, i_sI, i_sW, i_sI, i_sI, s1, s1]
