/-! ONE CALL OF THE LAW: SILENCE, CHEAPEST, LOOK, BOTH, FILM -/
section
variable {h h1 h2 g g1 : AH} {da sa : Nat → Nat} {T : Nat}
theorem off_71 (e : ag71 h h1) : m_off h1 = m_off h := by
  funext s
  unfold m_off
  rw [e 615 (by omega), e 1155 (by omega)]
theorem layI_71 (e : ag71 h h1) {W : Nat → Int} {s k : Nat} : m_layI h1 W s k = m_layI h W s k := by
  funext n
  unfold m_layI m_drD
  rw [off_71 e, e 613 (by omega), e 1155 (by omega), e (617 + (iH h 1155 s).toNat) (by omega)]
theorem layW_71 (e : ag71 h h1) {W : Nat → Int} : ∀ s, m_layW h1 W s = m_layW h W s
  | 0 => rfl
  | s + 1 => by
    unfold m_layW
    rw [layW_71 e s, layI_71 e, e 615 (by omega), e 1155 (by omega)]
theorem a_lay (e : ag71 h h1) (t : Int) : ag71 (m_lay h t) (m_lay h1 t) := by
  unfold m_lay m_layB
  refine a_sW (a_sW (a_sI (a_sI e rfl) (by rw [e 89 (by omega)])) (funext fun k => ?_)) ?_
  · unfold m_layR
    rw [e 1155 (by omega), e (1140 + t.toNat) (by omega), e 89 (by omega)]
  · rw [layW_71 e, e (1148 + t.toNat) (by omega), e 89 (by omega)]
theorem F_6 (e : ag71 h h1) (hK : K h h da sa T) {q : Int} (hq : 0 ≤ q ∧ q ≤ iH h 89 30 - 1) : m_F (m_lay h1 6) 6 q = m_F (m_lay h 6) 6 q :=
  m_F_cg (AgQ_71 (a_lay e 6)) (gS_6 hK.1).1 (m_qs_lay ((pK_qs hK).2 q hq.1 hq.2))
theorem m_qs_71 (e : ag71 h h1) (hq : m_qs h) : m_qs h1 := by
  unfold m_qs
  rw [e 89 (by omega)]
  exact ⟨hq.1, fun q a b => m_qok_cg2 (AgQ_71 e) (hq.2 q a b)⟩
theorem r_layR {t : Int} (ht : 0 ≤ t ∧ t < 7) (r : agR h1 g) : agR h1 (m_lay g t) := agR_tr r (agR_lay ht)
end
theorem S_silence {h : AH} {T : Nat} (hI : Inv h T) {q n : Int} : St mX11_silence mX12_silence [vi q, vi n] h T := by
  obtain ⟨L, M, da, sa, hK⟩ := id hI
  obtain ⟨k1, k2, k3, k4, k5, k6⟩ := id hK
  obtain ⟨q1, q2, q3, q4, q5, q6, q7, q8, q9⟩ := id k5
  refine ⟨5, 0, 0, by decide, (l_silence L k1 q6).qI fun x h1 hx => ?_⟩
  obtain ⟨L1, ag, g1, hp, hf⟩ := hx
  have e := agX_71 (scL_K ag)
  have hK1 : K h1 g1 da sa (T + 1) := by
    rcases hf with rfl | rfl
    · exact K_s (K_X ag hK)
    · exact K_s (K_6 (K_X ag hK))
  have e71 := e 89 (by omega)
  have M1 := agX_M ag M
  have Ks := K_self e (K_X ag hK)
  refine ⟨5, by decide, lm_89 M1, (c_silence M1 (pK_qs Ks) (pK_gN Ks)).qI fun y h2 hy => fin_go (P := fun h => p_silence h q n) (fun hy => ?_) (fun g2 hx hy => ?_) L1 M1 hK1 hp hy⟩
  · unfold p_silence at hy
    rw [e71] at hy
    rcases hy with ⟨c, rfl, rfl⟩ | ⟨c, c2, hs⟩
    · exact ⟨h, Or.inl ⟨c, rfl, rfl⟩, sim_71 e, agR_rf⟩
    · rw [F_6 e hK c.1] at c2
      exact ⟨m_lay h 6, Or.inr ⟨c, c2, Or.inl rfl⟩, sim_scr (a_lay e 6) hs, agR_tr (agR_lay (by omega)) (agR_scr hs)⟩
  · rcases hx with ⟨c, rfl, rfl⟩ | ⟨c, ⟨k, rfl, c2, c3, c4⟩, hs⟩ <;> rcases hy with ⟨d, rfl, rfl⟩ | ⟨d, ⟨j, rfl, d2, d3, d4⟩, hs'⟩
    · exact ⟨rfl, sim_rf⟩
    · omega
    · omega
    · have : k = j := by
        rcases Nat.lt_trichotomy k j with u | u | u
        · have := d4 k u; omega
        · exact u
        · have := c4 j u; omega
      refine ⟨by omega, ?_⟩
      have s1 : simS (m_lay h 6) g1 := sim_scr a_rf hs
      have s2 : simS (m_lay h 6) g2 := sim_scr a_rf hs'
      exact fun x k a b c => (s2 x k a b c).trans (s1 x k a b c).symm
theorem S_cheapest {h : AH} {T : Nat} (hI : Inv h T) {w : Int} : St mX11_cheapest mX12_cheapest [vi w] h T := by
  obtain ⟨L, M, da, sa, hK⟩ := id hI
  obtain ⟨k1, k2, k3, k4, k5, k6⟩ := id hK
  obtain ⟨q1, q2, q3, q4, q5, q6, q7, q8, q9⟩ := id k5
  refine ⟨3, 0, 0, by decide, (l_cheapest L k1.1.1).qI fun x h1 hx => ?_⟩
  obtain ⟨rfl, L1, ag⟩ := hx
  have e := agX_71 (scL_K ag)
  have e71 := e 89 (by omega)
  have M1 := agX_M ag M
  have Ks := K_self e (K_X ag hK)
  refine ⟨3, by decide, lm_89 M1, (c_cheapest M1 (pK_now Ks) Ks.2.2.2.2.1.2.2.2.2.2.2.2.1).qI fun y h2 hy => ?_⟩
  obtain ⟨rfl, C, rfl, hC⟩ := hy
  have hn := pK_now hK
  have eLv : m_Lv h1 = m_Lv h := by
    funext a b
    unfold m_Lv
    rw [e71]
    by_cases c : b < (iH h 89 13).toNat ∧ a ≤ b
    · rw [if_pos c, if_pos c]
      exact m_liveIn_cg (m_rng_sub hn c.2 (by have := hn.1; omega)) (fun k => congrFun (e _ (by omega)) k) (fun k => congrFun (e _ (by omega)) k) (fun g k _ => congrFun (e _ (by omega)) k) (fun k => congrFun (e _ (by omega)) k)
    · rw [if_neg c, if_neg c]
  have eP : m_splP h1 = m_splP h := by
    funext j
    unfold m_splP m_least
    rw [eLv, e71]
  refine ⟨?_, ?_⟩
  · unfold a_cheapest m_least
    rw [eP, eLv, e71]
  · refine ⟨L1, M1, da, sa, ?_⟩
    have ro : ∀ x k, ¬ (1161 ≤ x ∧ x ≤ 1168) → iH (sM h1 1161 8 C) x k = iH h1 x k := fun x k c => rM_ne (by omega)
    have r : agR h1 (sM h1 1161 8 C) := ⟨rfl, fun _ => rfl, fun _ _ => rfl, fun _ _ => rfl, fun x k hx => ro x k (by omega)⟩
    have K1 := K_sim (K_s Ks) r sim_rf
    refine K_u K1 (fun x k => False) (fun x k => 1161 ≤ x ∧ x ≤ 1168) rfl (fun _ => rfl) (fun _ _ _ => rfl) (fun _ _ _ => rfl) (fun x k _ => rfl) (fun x k _ _ c => ro x k c) ?_
    exact kSm_u K1.2.2.2.2.1 (fun x k => False) (fun x k => 1161 ≤ x ∧ x ≤ 1168) (fun x k _ _ => rfl) (fun x k _ _ c => ro x k c) (kT_u (fun k hk => ro _ _ (by omega)) (ro _ _ (by omega)) (Nat.le_refl _) K1.2.2.2.2.1.2.2.2.2.2.2.2.2) (pC := Or.inr fun i j hi hj => by
      unfold m_cst
      rw [rM_in hi]
      exact hC i j hi hj)
/-- a look more: the log alone -/
theorem K_log {h h1 g1 : AH} {da sa : Nat → Nat} {T : Nat} (hK : K h h da sa T) (ag : agX scK h h1) (go : ∀ x k, 89 ≤ x → x < 1191 → ¬ ((x = 89 ∧ 46 ≤ k ∧ k ≤ 47) ∨ x = 1181 ∨ (x = 1137 ∧ k = 6) ∨ (x = 1138 ∧ k = 6) ∨ x = 1146 ∨ x = 1154) → iH g1 x k = iH h x k) (kl : kL h1 g1) (b1 : iH g1 89 46 ≤ iH h 89 46 + 2) (b2 : iH g1 89 47 ≤ iH h 89 47 + 2) (b3 : 0 ≤ iH g1 1138 6 ∧ iH g1 1138 6 ≤ 8) : K h1 g1 da sa (T + 1) := by
  have k5 := hK.2.2.2.2.1
  have q9 := k5.2.2.2.2.2.2.2.2
  have io : ∀ x k, ¬ ((24 ≤ x ∧ x ≤ 32) ∨ (50 ≤ x ∧ x ≤ 80 ∧ x % 6 = 2) ∨ x = 21 ∨ x = 22) → iH h1 x k = iH h x k := fun x k c => (ag.2.2.2 x (by unfold scK scL; omega)).1 k
  refine K_u hK (fun x k => (24 ≤ x ∧ x ≤ 32) ∨ (50 ≤ x ∧ x ≤ 80 ∧ x % 6 = 2) ∨ x = 21 ∨ x = 22) (fun x k => (x = 89 ∧ 46 ≤ k ∧ k ≤ 47) ∨ x = 1181 ∨ (x = 1137 ∧ k = 6) ∨ (x = 1138 ∧ k = 6) ∨ x = 1146 ∨ x = 1154) ag.1 ag.2.1 (fun x k _ => ag.2.2.1 x k) (fun x k c => (ag.2.2.2 x (by unfold scK scL; omega)).2 k) io go ?_
  · refine kSm_u k5 (fun x k => (24 ≤ x ∧ x ≤ 32) ∨ (50 ≤ x ∧ x ≤ 80 ∧ x % 6 = 2) ∨ x = 21 ∨ x = 22) (fun x k => (x = 89 ∧ 46 ≤ k ∧ k ≤ 47) ∨ x = 1181 ∨ (x = 1137 ∧ k = 6) ∨ (x = 1138 ∧ k = 6) ∨ x = 1146 ∨ x = 1154) (fun x k _ c => io x k c) go ?_ (pL := Or.inr kl)
    obtain ⟨t1, t2, t3, t4, t5⟩ := q9
    unfold kT
    rw [go 89 0 (by decide) (by decide) (by omega), go 89 5 (by decide) (by decide) (by omega)]
    omega
theorem S_look {h : AH} {T : Nat} (hI : Inv h T) (hT : T < 512) {q w : Int} : St mX11_look mX12_look [vi q, vi w] h T := by
  obtain ⟨L, M, da, sa, hK⟩ := id hI
  obtain ⟨k1, k2, k3, k4, k5, k6⟩ := id hK
  obtain ⟨q1, q2, q3, q4, q5, q6, q7, q8, q9⟩ := id k5
  refine ⟨7, 0, 0, by decide, (l_look L k1 q6 q2 q5 (by have := q9.2.2.1; omega)).qI fun x h1 hx => ?_⟩
  obtain ⟨L1, ag, g1, hp, kl, hf⟩ := hx
  have e := agX_71 ag
  have e71 := e 89 (by omega)
  have M1 := agX_M ag M
  have s8 := k1.1.1.2.2.2.1
  have hK1 : K h1 g1 da sa (T + 1) := by
    rcases hf with rfl | rfl
    · exact K_log hK ag (fun _ _ _ _ _ => rfl) kl (by omega) (by omega) q9.2.2.2.2
    · have r7 : ∀ k, iH (m_lay (m_lk1 h) 6) 89 k = iH (m_lk1 h) 89 k := fun k => lay_71
      refine K_log hK ag (fun x k a b c => ?_) kl ?_ ?_ ?_
      · by_cases c7 : x = 89
        · subst c7
          rw [r7, r_lk71 (by omega) (by omega)]
        · exact (show iH (m_lay (m_lk1 h) 6) x k = iH (m_lk1 h) x k from lay_x (t := 6) (by omega) (by omega) (by omega) (by omega)).trans (r_lk1 c7 (by omega))
      · rw [r7]
        unfold m_lk1 m_shutL
        rw [rI_nk (by decide), rI_ne (by decide), rI_same]; omega
      · rw [r7]
        unfold m_lk1 m_shutL
        rw [rI_same, rI_nk (by decide)]; omega
      · rw [show iH (m_lay (m_lk1 h) 6) 1138 6 = iH (m_lk1 h) 89 13 from lay_C (t := 6), r_lk71 (by decide) (by decide)]
        exact s8
  have hk : K h1 h da sa (T + 1) → K h1 h1 da sa (T + 1) := fun q => K_self e q
  refine ⟨6, by decide, lm_89 M1, (c_look M1 (m_qs_71 e (pK_qs hK)) (m_gN_cg (pK_gN hK) (by rw [e71]) (fun a k b _ => congrFun (e a (by omega)) k)) (by rw [e71]; have := q9.2.2.1; have := q5.1.2; omega) (by rw [e71]; have := q9.2.2.2.1; have := q5.2.1.2; omega)).qI fun y h2 hy => fin_go (P := fun h => p_look h q w) (fun hy => ?_) (fun g2 hx hy => ?_) L1 M1 hK1 hp hy⟩
  · unfold p_look at hy
    rw [e71] at hy
    have al : ag71 (m_lay (m_lk1 h) 6) (m_lay (m_lk1 h1) 6) := by
      refine a_lay ?_ 6
      unfold m_lk1 m_shutL
      have e1 : ag71 (sI h 89 46 (iH h 89 46 + 1)) (sI h1 89 46 (iH h1 89 46 + 1)) := a_sI e (by rw [e71])
      have e2 : ag71 (sI (sI h 89 46 (iH h 89 46 + 1)) 1181 (iH (sI h 89 46 (iH h 89 46 + 1)) 89 47).toNat (iH h 89 46 + 1)) (sI (sI h1 89 46 (iH h1 89 46 + 1)) 1181 (iH (sI h1 89 46 (iH h1 89 46 + 1)) 89 47).toNat (iH h1 89 46 + 1)) := by
        rw [e1 89 (by omega), e71]
        rw [e71] at e1
        exact a_sI e1 rfl
      refine a_sI e2 (by rw [e1 89 (by omega)])
    rcases hy with ⟨c, rfl, rfl⟩ | ⟨c, rfl, hs⟩
    · exact ⟨h, Or.inl ⟨c, rfl, rfl⟩, sim_71 e, agR_rf⟩
    · refine ⟨m_lay (m_lk1 h) 6, Or.inr ⟨c, ?_, Or.inl rfl⟩, sim_scr al hs, agR_tr (r_layR (by omega) (r_sI (r_sI (r_sI agR_rf (by decide)) (by decide)) (by decide))) (agR_scr hs)⟩
      have qk := m_qs_lay ((pK_qs hK).2 q c.1.1 c.1.2)
      have gs := gS_6 k1
      unfold a_look
      rw [e71, m_cost_cg (AgQ_71 (a_lay e 6)) gs.2 qk, a_ans_cg (AgQ_71 (a_lay e 6)) gs.1 gs.2 qk]
  · rcases hx with ⟨c, rfl, rfl⟩ | ⟨c, rfl, hs⟩ <;> rcases hy with ⟨d, rfl, rfl⟩ | ⟨d, rfl, hs'⟩
    · exact ⟨rfl, sim_rf⟩
    · exact absurd c (by rintro (u | u); exact u d.1; exact u d.2)
    · exact absurd d (by rintro (u | u); exact u c.1; exact u c.2)
    · refine ⟨rfl, ?_⟩
      have s1 : simS (m_lay (m_lk1 h) 6) g1 := sim_scr a_rf hs
      have s2 : simS (m_lay (m_lk1 h) 6) g2 := sim_scr a_rf hs'
      exact fun x k a b c => (s2 x k a b c).trans (s1 x k a b c).symm
