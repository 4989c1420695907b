/-! ONE CALL OF THE LAW: DROP, QUERY -/
theorem S_drop {h : AH} {T : Nat} (hI : Inv h T) {key : Int} : St mX11_drop mX12_drop [vi key] h T := by
  obtain ⟨L, M, da, sa, hK⟩ := id hI
  obtain ⟨k1, k2, k3, k4, k5, k6⟩ := id hK
  refine ⟨3, 0, 0, by decide, (l_drop L k1 k2).qI fun x h1 hx => ?_⟩
  obtain ⟨g1, hp, L1, k1', k2', d1, d2, d3, d4, d5⟩ := hx
  have e : ag71 h h1 := fun x hx => funext fun k => d3 x k (Or.inl (by omega))
  have t71 : ∀ q ∈ rowM, 89 ≤ q.1 := by decide
  have M1 : LayM h1 := ⟨fun q hq => by rw [d1, d2]; exact M.1 q hq, fun q hq => by rw [d5 _ _ (by decide)]; exact M.2.1 q hq, fun q hq i hi => by rw [d1, d2, d5 _ _ (by have := t71 q hq; omega)]; exact M.2.2 q hq i hi⟩
  have hn := pK_now hK
  have gl : ∀ x k, 89 ≤ x → x < 1191 → ¬ ((x = 89 ∧ k = 15) ∨ x = 613 ∨ x = 1156) → iH g1 x k = iH h x k := by
    rcases hp with ⟨-, -, rfl⟩ | ⟨-, -, rfl⟩
    · exact fun _ _ _ _ _ => rfl
    · intro x k a b c
      unfold m_drop
      split
      · rw [i_sI, if_neg (by omega), rW_ne (by omega)]
      · split
        · rw [rI_ne (by omega)]
        · rfl
  have z : rZ g1 := by
    rcases hp with ⟨-, -, rfl⟩ | ⟨-, -, rfl⟩
    · exact k3
    · exact (drop_Z k1 k3).1
  have hK1 : K h1 g1 da sa (T + 1) := by
    refine K_w hK (fun x k => x = 0 ∧ k = 2) (fun x k => (x = 89 ∧ k = 15) ∨ x = 613 ∨ x = 1156) (Nat.le_of_eq d1.symm) (fun x k _ c => d3 x k (by omega)) (fun k => d4 18 k (by decide)) gl k1' k2' z ?_
    exact kSm_u k5 (fun x k => x = 0 ∧ k = 2) (fun x k => (x = 89 ∧ k = 15) ∨ x = 613 ∨ x = 1156) (fun x k _ c => d3 x k (by omega)) gl (kT_u (fun k hk => gl _ _ (by decide) (by decide) (by omega)) (gl _ _ (by decide) (by decide) (by omega)) (Nat.le_succ T) k5.2.2.2.2.2.2.2.2)
  have Kr := K_sim hK agR_rf (sim_71 e)
  refine ⟨2, by decide, lm_89 M1, (c_drop M1 ⟨pK_buf Kr, pK_now Kr⟩).qI fun y h2 hy => ?_⟩
  rcases hp with ⟨c, rfl, rfl⟩ | ⟨c, rfl, rfl⟩ <;> rcases hy with ⟨d, rfl, rfl⟩ | ⟨d, rfl, rfl⟩
  · exact ⟨rfl, inv_of L1 M1 hK1 agR_rf (sim_71 e)⟩
  · exact absurd d c
  · exact absurd c d
  · refine ⟨(adrop_B (B_71 e) hn).symm, inv_of L1 M1 hK1 ?_ (B_sim (drop_B (B_71 e) hn))⟩
    unfold m_drop
    split
    · exact r_sI (r_sW agR_rf (by decide)) (by decide)
    · split
      · exact r_sI agR_rf (by decide)
      · exact agR_rf
section
variable {h h1 A : AH} {F mk : Nat → Int}
theorem i_hP {x k : Nat} : iH (hP h F mk) x k = if x = 89 ∧ 34 ≤ k ∧ k ≤ 40 then F k else if x = 1177 then mk k else iH h x k := rfl
theorem a_hP (e : ag71 h h1) : ag71 (hP h F mk) (hP h1 F mk) := fun x hx => funext fun k => by rw [i_hP, i_hP, e x hx]
theorem r_hPR : agR h (hP h F mk) := ⟨rfl, fun _ => rfl, fun _ _ => rfl, fun _ _ => rfl, fun x k hx => hP_o (by omega)⟩
theorem a_qry (e : ag71 h h1) {q len : Nat} : ag71 (m_qry h F mk q len) (m_qry h1 F mk q len) := a_sI (a_sI (a_cp (a_sI (a_hP e) rfl) (by omega) (by omega)) rfl) rfl
theorem r_qryR {q len : Nat} (hq : q < 6) : agR h (m_qry h F mk q len) := r_sI (r_sI (r_cp (r_sI r_hPR (by decide)) (by omega)) (by decide)) (by decide)
end
theorem S_query {h : AH} {T : Nat} (hI : Inv h T) : St mX11_query mX12_query [] h T := by
  obtain ⟨L, M, da, sa, hK⟩ := id hI
  obtain ⟨k1, k2, k3, k4, k5, k6⟩ := id hK
  obtain ⟨q1, q2, q3, q4, q5, q6, q7, q8, q9⟩ := id k5
  refine ⟨42, 0, 0, by decide, (l_query L q6 q3.1).qI fun x h1 hx => ?_⟩
  obtain ⟨L1, g1, hp, kq, kt, hf⟩ := hx
  have c6 := q6.2.1
  have io : ∀ x k, ¬ (x = 20 ∨ (45 ≤ x ∧ x ≤ 80) ∨ (x = 1 ∧ k = 1) ∨ (x = 0 ∧ k = 13)) → iH h1 x k = iH h x k := by
    rcases hf with ⟨rfl, -⟩ | ⟨h0, ag, ⟨rfl, -⟩ | ⟨v, rfl, -⟩⟩
    · exact fun _ _ _ => rfl
    · intro x k c
      rw [i_sI, if_neg (by omega)]
      exact (ag.2.2 x (by unfold scQ; omega)).1 k
    · intro x k c
      rw [i_sI, if_neg (by omega), i_sI, if_neg (by omega)]
      exact (ag.2.2 x (by unfold scQ; omega)).1 k
  have sh : nH h1 = nH h ∧ (∀ x, kH h1 x = kH h x) ∧ (∀ x k, ¬ scQ x → rH h1 x k = rH h x k) ∧ ∀ x k, ¬ scQ x → jH h1 x k = jH h x k := by
    rcases hf with ⟨rfl, -⟩ | ⟨h0, ag, ⟨rfl, -⟩ | ⟨v, rfl, -⟩⟩
    · exact ⟨rfl, fun _ => rfl, fun _ _ _ => rfl, fun _ _ _ => rfl⟩
    · exact ⟨ag.1, ag.2.1, fun x k c => (ag.2.2 x c).2.1 k, fun x k c => (ag.2.2 x c).2.2 k⟩
    · exact ⟨ag.1, ag.2.1, fun x k c => (ag.2.2 x c).2.1 k, fun x k c => (ag.2.2 x c).2.2 k⟩
  have e : ag71 h h1 := fun x hx => funext fun k => io x k (by omega)
  have t71 : ∀ q ∈ rowM, 89 ≤ q.1 := by decide
  have M1 : LayM h1 := ⟨fun q hq => by rw [sh.1, sh.2.1]; exact M.1 q hq, fun q hq => by rw [sh.2.2.1 _ _ (by unfold scQ; omega)]; exact M.2.1 q hq, fun q hq i hi => by rw [sh.1, sh.2.1, sh.2.2.1 _ _ (by have := t71 q hq; unfold scQ; omega)]; exact M.2.2 q hq i hi⟩
  have gl : ∀ x k, 89 ≤ x → x < 1191 → ¬ ((x = 89 ∧ (k = 18 ∨ k = 30)) ∨ (1170 ≤ x ∧ x ≤ 1177)) → iH g1 x k = iH h x k := by
    rcases hf with ⟨-, rfl⟩ | ⟨h0, ag, ⟨-, rfl⟩ | ⟨v, -, o, rfl, cc⟩⟩
    · exact fun _ _ _ _ _ => rfl
    · intro x k a b c
      rw [i_sI, if_neg (by omega)]
    · intro x k a b c
      by_cases c7 : x = 89
      · subst c7; exact qrG_71 cc (by omega) (by omega)
      · exact qrG_x c7 (by omega) (by omega) (by omega)
  have tp : kTp h1 g1 := by
    refine ⟨kt, ?_⟩
    rcases hf with ⟨-, rfl⟩ | ⟨h0, ag, ⟨-, rfl⟩ | ⟨v, -, o, rfl, cc⟩⟩
    · exact q3.2
    · intro k hk
      unfold d_n at hk
      rw [rI_same] at hk
      omega
    · intro k hk
      unfold d_n m_qrG m_qry at hk
      rw [rI_nk (by decide), rI_ne (by decide), cp_ne (by omega), rI_same] at hk
      omega
  have hK1 : K h1 g1 da sa (T + 1) := by
    refine K_u hK (fun x k => x = 20 ∨ (45 ≤ x ∧ x ≤ 80) ∨ (x = 1 ∧ k = 1) ∨ (x = 0 ∧ k = 13)) (fun x k => (x = 89 ∧ (k = 18 ∨ k = 30)) ∨ (1170 ≤ x ∧ x ≤ 1177)) sh.1 sh.2.1 (fun x k c => sh.2.2.1 x k (by unfold scQ; omega)) (fun x k c => sh.2.2.2 x k (by unfold scQ; omega)) io gl ?_
    exact kSm_u k5 (fun x k => x = 20 ∨ (45 ≤ x ∧ x ≤ 80) ∨ (x = 1 ∧ k = 1) ∨ (x = 0 ∧ k = 13)) (fun x k => (x = 89 ∧ (k = 18 ∨ k = 30)) ∨ (1170 ≤ x ∧ x ≤ 1177)) (fun x k _ c => io x k c) gl (kT_u (fun k hk => gl _ _ (by decide) (by decide) (by omega)) (gl _ _ (by decide) (by decide) (by omega)) (Nat.le_succ T) q9) (pTp := Or.inr tp) (pQ := Or.inr kq)
  have e71 := e 89 (by omega)
  have et := e 1157 (by omega)
  have dn : d_n h1 = d_n h := dn_e et e71
  refine ⟨41, by decide, lm_89 M1, (c_query M1 (by unfold q_tp; rw [e71]; exact q3.1.2.1) (fun k hk => by rw [et]; exact (q3.2 k (by omega)).1) (by rw [e71]; exact c6)).qI fun y h2 hy => fin_go (P := p_query) (fun hy => ?_) (fun g2 hx hy => ?_) L1 M1 hK1 hp hy⟩
  · unfold p_query at hy
    rw [e71, qall_e et e71] at hy
    rcases hy with ⟨c, rfl, rfl⟩ | ⟨c, ⟨e', c2, rfl, F, mk, rfl⟩ | ⟨p, o, c2, rfl, F, mk, c3, rfl⟩⟩
    · exact ⟨h, Or.inl ⟨c, rfl, rfl⟩, sim_71 e, agR_rf⟩
    · exact ⟨_, Or.inr ⟨c, Or.inl ⟨e', c2, rfl, F, mk, rfl⟩⟩, sim_71 (a_sI (a_hP e) rfl), r_sI r_hPR (by decide)⟩
    · exact ⟨_, Or.inr ⟨c, Or.inr ⟨p, o, c2, rfl, F, mk, c3, rfl⟩⟩, sim_71 (a_qry e), r_qryR (by omega)⟩
  · rcases hx with ⟨c, rfl, rfl⟩ | ⟨c, ⟨e1, c2, rfl, F, mk, rfl⟩ | ⟨p, o, c2, rfl, F, mk, c3, rfl⟩⟩ <;> rcases hy with ⟨d, rfl, rfl⟩ | ⟨d, ⟨e2, d2, rfl, F', mk', rfl⟩ | ⟨p', o', d2, rfl, F', mk', d3, rfl⟩⟩
    · exact ⟨rfl, sim_rf⟩
    · exact absurd c d
    · exact absurd c d
    · exact absurd d c
    · rw [c2] at d2
      cases d2
      refine ⟨rfl, fun x k a b u => ?_⟩
      unfold SR at u
      rw [i_sI, i_sI, i_hP, i_hP]
      by_cases c4 : x = 89 ∧ k = 18
      · rw [if_pos c4, if_pos c4]
      · rw [if_neg c4, if_neg c4, if_neg (by omega), if_neg (by omega), if_neg (by omega), if_neg (by omega)]
    · rw [c2] at d2; cases d2
    · exact absurd d c
    · rw [c2] at d2; cases d2
    · rw [c2] at d2
      cases d2
      refine ⟨rfl, fun x k a b u => ?_⟩
      unfold SR at u
      unfold m_qry cpI
      have cell : ∀ F mk, ¬ ((x = 89 ∧ 34 ≤ k ∧ k ≤ 40) ∨ x = 1177) → iH (sI (hP h F mk) 89 18 0) x k = if x = 89 ∧ k = 18 then 0 else iH h x k := fun F mk cc => by
        have : iH (hP h F mk) x k = iH h x k := by rw [i_hP, if_neg (by omega), if_neg (by omega)]
        rw [i_sI, this]
      have nm : ∀ F mk i, iH (sI (hP h F mk) 89 18 0) 1177 i = mk i := fun F mk i => by rw [rI_ne (by decide), hP_m]
      have mk2 : ∀ F mk, iH (sI (hP h F mk) 89 18 0) (1170 + (iH h 89 30).toNat) k = iH h (1170 + (iH h 89 30).toNat) k := fun F mk => by rw [rI_ne (by omega), hP_o (by omega)]
      rw [i_sI, i_sI, i_sI, i_sI, i_sW, i_sW, cell F mk (by omega), cell F' mk' (by omega)]
      by_cases c4 : x = 1170 + (iH h 89 30).toNat
      · rw [if_pos c4, if_pos c4, mk2, mk2, nm, nm]
        by_cases c5 : 0 ≤ k ∧ k < 0 + o.flatten.length
        · rw [if_pos c5, if_pos c5, c3 _ (by omega), d3 _ (by omega)]
        · rw [if_neg c5, if_neg c5]
      · rw [if_neg c4, if_neg c4]
