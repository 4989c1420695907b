/-! ONE CALL OF THE LAW: COMMIT, CRASH, DROP, DROPBY, BEGIN, QUERY -/
theorem S_commit {h : AH} {T : Nat} (hI : Inv h T) : St mX11_commit mX12_commit [] h T := by
  obtain ⟨L, M, da, sa, hK⟩ := id hI
  obtain ⟨k1, k2, k3, k4, k5, k6⟩ := id hK
  refine ⟨1, 0, 0, by decide, (l_commit L k1).qI fun x h1 hx => ?_⟩
  obtain ⟨L1, hx⟩ := hx
  rcases hx with ⟨c, rfl, rfl⟩ | ⟨c, rfl, ⟨n, R, J, rfl⟩, k1'⟩
  · refine ⟨2, by decide, lm_89 M, (c_commit M (k1.2.1.2.2.1 4 (by decide)).2).qI fun y h2 hy => ?_⟩
    rcases hy with ⟨d, rfl, rfl⟩ | ⟨d, -⟩
    · exact ⟨rfl, Inv_s hI⟩
    · exact absurd c d
  · have io : ∀ x k, ¬ (x = 8 ∨ x = 11) → iH (sI (hSt h 11 n R J) 8 3 0) x k = iH h x k := fun x k c => by rw [rI_ne (by omega), st_io (by omega)]
    have e : ag71 h (sI (hSt h 11 n R J) 8 3 0) := fun x hx => funext fun k => io x k (by omega)
    have rr : ∀ x k, x ≠ 12 → rH (sI (hSt h 11 n R J) 8 3 0) x k = rH h x k := fun x k hx => by
      show rH (hSt h 11 n R J) x k = _
      exact st_Ro hx
    have jj : ∀ x k, x ≠ 13 → jH (sI (hSt h 11 n R J) 8 3 0) x k = jH h x k := fun x k hx => by
      show jH (hSt h 11 n R J) x k = _
      exact st_Jo hx
    have t71 : ∀ q ∈ rowM, 89 ≤ q.1 := by decide
    have M1 : LayM (sI (hSt h 11 n R J) 8 3 0) := ⟨fun q hq => M.1 q hq, fun q hq => by rw [rr _ _ (by decide)]; exact M.2.1 q hq, fun q hq i hi => by rw [rr _ _ (by have := t71 q hq; omega)]; exact M.2.2 q hq i hi⟩
    have DS := cmt_DS (g := h)
    have gl : ∀ x k, 89 ≤ x → x < 1191 → ¬ ((x = 1137 ∧ k < 6) ∨ (x = 1138 ∧ k < 6) ∨ x = 1145 ∨ x = 1153) → iH (m_cmt h) x k = iH h x k := fun x k a b c => cmt_x (by omega) (by omega) (by omega) (by omega)
    have eI : ∀ k, iH (m_cmt h) 613 k = iH h 613 k := fun k => gl _ _ (by decide) (by decide) (by omega)
    have hK1 : K (sI (hSt h 11 n R J) 8 3 0) (m_cmt h) da sa (T + 1) := by
      refine K_w hK (fun x k => x = 8 ∨ x = 11) (fun x k => (x = 1137 ∧ k < 6) ∨ (x = 1138 ∧ k < 6) ∨ x = 1145 ∨ x = 1153) (Nat.le_refl _) (fun x k _ c => io x k c) (fun k => jj 18 k (by decide)) gl k1' (kB_v k2 (io 0 2 (by decide)) (fun k => rr 4 k (by decide)) DS eI (gl _ _ (by decide) (by decide) (by omega)) (fun k => gl _ _ (by decide) (by decide) (by omega))) (rZ_v k3 DS eI) ?_
      exact kSm_u k5 (fun x k => x = 8 ∨ x = 11) (fun x k => (x = 1137 ∧ k < 6) ∨ (x = 1138 ∧ k < 6) ∨ x = 1145 ∨ x = 1153) (fun x k _ c => io x k c) gl (kT_u (fun k hk => gl _ _ (by decide) (by decide) (by omega)) (gl _ _ (by decide) (by decide) (by omega)) (Nat.le_succ T) k5.2.2.2.2.2.2.2.2)
    refine ⟨2, by decide, lm_89 M1, (c_commit M1 (by rw [e (1148 + 4) (by omega)]; exact (k1.2.1.2.2.1 4 (by decide)).2)).qI fun y h2 hy => ?_⟩
    rw [e 1137 (by omega), e 1138 (by omega)] at hy
    rcases hy with ⟨d, -⟩ | ⟨d, rfl, rfl⟩
    · exact absurd d c
    · exact ⟨rfl, inv_of L1 M1 hK1 (r_sI (r_handR agR_rf (by decide)) (by decide)) (sim_71 (a_sI (a_hand e) rfl))⟩
theorem S_crash {h : AH} {T : Nat} (hI : Inv h T) : St mX11_crash mX12_crash [] h T := by
  obtain ⟨L, M, da, sa, hK⟩ := id hI
  obtain ⟨k1, k2, k3, k4, k5, k6⟩ := id hK
  refine ⟨1, 0, 0, by decide, (l_crash L k1.1).qI fun x h1 hx => ?_⟩
  obtain ⟨rfl, L1, R, J, rfl, hm⟩ := hx
  have io : ∀ x k, ¬ (x = 0 ∧ k = 2 ∨ x = 5 ∨ x = 8 ∨ x = 17 ∨ x = 33 ∨ x = 36 ∨ x = 39 ∨ x = 42) → iH (hCr h R J) x k = iH h x k := fun x k c => by
    rw [cr_i (by omega) (by omega) (by omega) (Or.inr fun t ht => by omega), st_io (by omega)]
  have e : ag71 h (hCr h R J) := fun x hx => funext fun k => io x k (by omega)
  have rr : ∀ x k, x ≠ 6 → rH (hCr h R J) x k = rH h x k := fun x k hx => by rw [cr_r]; exact st_Ro hx
  have t71 : ∀ q ∈ rowM, 89 ≤ q.1 := by decide
  have M1 : LayM (hCr h R J) := ⟨fun q hq => ⟨(M.1 q hq).1, by unfold hCr; rw [(crL_f 4).2.1]; exact (M.1 q hq).2⟩, fun q hq => by rw [rr _ _ (by decide)]; exact M.2.1 q hq, fun q hq i hi => by
    rw [rr _ _ (by have := t71 q hq; omega)]
    exact ⟨⟨(M.2.2 q hq i hi).1.1, by unfold hCr; rw [(crL_f 4).2.1]; exact (M.2.2 q hq i hi).1.2⟩, (M.2.2 q hq i hi).2⟩⟩
  have gl : ∀ x k, 89 ≤ x → x < 1191 → ¬ ((x = 89 ∧ (k = 13 ∨ k = 15 ∨ k = 24)) ∨ x = 613 ∨ x = 1155 ∨ x = 1137) → iH (m_crash h) x k = iH h x k := fun x k a b c => crG_x (by omega) (by omega) (by omega) (by omega)
  have hK1 : K (hCr h R J) (m_crash h) da sa (T + 1) := by
    refine ⟨crash_kSta k1 hm, crash_kB, crash_Z k1 k3, kMg_0 cr_170 crG_S.2.2, ?_, k6⟩
    exact kSm_u k5 (fun x k => x = 0 ∧ k = 2 ∨ x = 5 ∨ x = 8 ∨ x = 17 ∨ x = 33 ∨ x = 36 ∨ x = 39 ∨ x = 42) (fun x k => (x = 89 ∧ (k = 13 ∨ k = 15 ∨ k = 24)) ∨ x = 613 ∨ x = 1155 ∨ x = 1137) (fun x k _ c => io x k c) gl (kT_u (fun k hk => gl _ _ (by decide) (by decide) (by omega)) (gl _ _ (by decide) (by decide) (by omega)) (Nat.le_succ T) k5.2.2.2.2.2.2.2.2)
  refine ⟨0, by decide, lm_89 M1, (c_crash M1 (pK_com (K_sim hK agR_rf (sim_71 e)))).qI fun y h2 hy => ?_⟩
  obtain ⟨rfl, rfl⟩ := hy
  refine ⟨by rw [e 1138 (by omega)], inv_of L1 M1 hK1 ?_ (sim_71 (a_crash e))⟩
  exact r_crashR
theorem S_dropBy {h : AH} {T : Nat} (hI : Inv h T) {q : Int} : St mX11_dropBy mX12_dropBy [vi q] h T := by
  obtain ⟨L, M, da, sa, hK⟩ := id hI
  obtain ⟨k1, k2, k3, k4, k5, k6⟩ := id hK
  have kq : kQ h h := k5.2.2.2.2.2.1
  refine ⟨5, 0, 0, by decide, (l_dropBy L k1 kq k2 k3).qI fun x h1 hx => ?_⟩
  obtain ⟨L1, g1, hp, k1', k2', k3', hf⟩ := hx
  have io : ∀ x k, ¬ ((24 ≤ x ∧ x ≤ 32) ∨ (50 ≤ x ∧ x ≤ 80 ∧ x % 6 = 2)) → iH h1 x k = iH h x k := by
    rcases hf with ⟨rfl, -⟩ | ⟨⟨h0, J, ag, rfl⟩, -⟩
    · exact fun _ _ _ => rfl
    · exact fun x k c => (ag.2.2.2 x (by unfold scL; omega)).1 k
  have sh : nH h1 = nH h ∧ (∀ x, kH h1 x = kH h x) ∧ (∀ x k, rH h1 x k = rH h x k) ∧ ∀ k, jH h1 18 k = jH h 18 k := by
    rcases hf with ⟨rfl, -⟩ | ⟨⟨h0, J, ag, rfl⟩, -⟩
    · exact ⟨rfl, fun _ => rfl, fun _ _ => rfl, fun _ => rfl⟩
    · exact ⟨ag.1, ag.2.1, ag.2.2.1, fun k => (jw_o (by decide)).trans ((ag.2.2.2 18 (by unfold scL; omega)).2 k)⟩
  have e : ag71 h h1 := fun x hx => funext fun k => io x k (by omega)
  have M1 : LayM h1 := ⟨fun q hq => by rw [sh.1, sh.2.1]; exact M.1 q hq, fun q hq => by rw [sh.2.2.1]; exact M.2.1 q hq, fun q hq i hi => by rw [sh.1, sh.2.1, sh.2.2.1]; exact M.2.2 q hq i hi⟩
  have gl : ∀ x k, 89 ≤ x → x < 1191 → ¬ ((x = 89 ∧ 42 ≤ k ∧ k ≤ 43) ∨ x = 613 ∨ (x = 1137 ∧ k = 6) ∨ (x = 1138 ∧ k = 6) ∨ x = 1146 ∨ x = 1154 ∨ (1178 ≤ x ∧ x ≤ 1180)) → iH g1 x k = iH h x k := by
    rcases hf with ⟨-, rfl⟩ | ⟨-, rfl⟩
    · exact fun _ _ _ _ _ => rfl
    · intro x k a b c
      by_cases c7 : x = 89
      · subst c7; exact dbG_71 (by omega) (by omega)
      · exact dbG_x c7 (by omega) (by omega) (by omega) (by omega) (by omega) (by omega) (by omega) (by omega)
  have c6 : 0 ≤ iH g1 1138 6 ∧ iH g1 1138 6 ≤ 8 := by
    rcases hf with ⟨-, rfl⟩ | ⟨-, rfl⟩
    · exact k5.2.2.2.2.2.2.2.2.2.2.2.2
    · unfold m_dbG
      rw [rW_ne (by decide), r_fH (by decide) (by decide) (by decide) (by decide), show iH (m_lay h 6) 1138 6 = iH h 89 13 from lay_C (t := 6)]
      exact k1.1.1.2.2.2.1
  have hK1 : K h1 g1 da sa (T + 1) := by
    refine K_w hK (fun x k => (24 ≤ x ∧ x ≤ 32) ∨ (50 ≤ x ∧ x ≤ 80 ∧ x % 6 = 2)) (fun x k => (x = 89 ∧ 42 ≤ k ∧ k ≤ 43) ∨ x = 613 ∨ (x = 1137 ∧ k = 6) ∨ (x = 1138 ∧ k = 6) ∨ x = 1146 ∨ x = 1154 ∨ (1178 ≤ x ∧ x ≤ 1180)) (Nat.le_of_eq sh.1.symm) (fun x k _ c => io x k c) sh.2.2.2 gl k1' k2' k3' ?_
    refine kSm_u k5 (fun x k => (24 ≤ x ∧ x ≤ 32) ∨ (50 ≤ x ∧ x ≤ 80 ∧ x % 6 = 2)) (fun x k => (x = 89 ∧ 42 ≤ k ∧ k ≤ 43) ∨ x = 613 ∨ (x = 1137 ∧ k = 6) ∨ (x = 1138 ∧ k = 6) ∨ x = 1146 ∨ x = 1154 ∨ (1178 ≤ x ∧ x ≤ 1180)) (fun x k _ c => io x k c) gl ?_
    obtain ⟨t1, t2, t3, t4, t5⟩ := k5.2.2.2.2.2.2.2.2
    unfold kT
    rw [gl 89 0 (by decide) (by decide) (by omega), gl 89 5 (by decide) (by decide) (by omega), gl 89 46 (by decide) (by decide) (by omega), gl 89 47 (by decide) (by decide) (by omega)]
    omega
  have e71 := e 89 (by omega)
  refine ⟨5, by decide, lm_89 M1, (c_dropBy M1 (m_qs_71 e (pK_qs hK)) (m_gN_cg (pK_gN hK) (by rw [e71]) (fun a k b _ => congrFun (e a (by omega)) k))).qI fun y h2 hy => fin_go (P := fun h => p_dropBy h q) (fun hy => ?_) (fun g2 hx hy => ?_) L1 M1 hK1 hp hy⟩
  · unfold p_dropBy at hy
    rw [e71] at hy
    rcases hy with ⟨c, rfl, rfl⟩ | ⟨c, rfl, n, sm, f, w, hp', rfl⟩
    · exact ⟨h, Or.inl ⟨c, rfl, rfl⟩, sim_71 e, agR_rf⟩
    · rw [F_6 e hK c]
      exact ⟨_, Or.inr ⟨c, rfl, n, sm, f, w, hp', rfl⟩, sim_71 (a_sW (a_fH (a_lay e 6)) (by rw [e 613 (by omega)])), r_sW (r_fHR (agR_lay (by omega))) (by decide)⟩
  · rcases hx with ⟨c, rfl, rfl⟩ | ⟨c, rfl, n, sm, f, w, hp', rfl⟩ <;> rcases hy with ⟨d, rfl, rfl⟩ | ⟨d, rfl, n', sm', f', w', hp'', rfl⟩
    · exact ⟨rfl, sim_rf⟩
    · exact absurd d c
    · exact absurd c d
    · refine ⟨rfl, fun x k a b u => ?_⟩
      have s1 : ∀ n sm f w hp, iH (m_fH (m_lay h 6) n sm f w hp) x k = iH (m_lay h 6) x k := fun n sm f w hp => sim_fH x k a b u
      rw [i_sW, i_sW, s1, s1]
theorem S_begin {h : AH} {T : Nat} (hI : Inv h T) : St mX11_begin mX12_begin [] h T := by
  obtain ⟨L, M, da, sa, hK⟩ := id hI
  obtain ⟨k1, k2, k3, k4, k5, k6⟩ := id hK
  refine ⟨7, 0, 0, by decide, (l_begin L k1 k5.2.1.1 k4).qI fun x h1 hx => ?_⟩
  obtain ⟨L1, g1, hp, km, hf⟩ := hx
  have io : ∀ x k, ¬ (x = 17) → iH h1 x k = iH h x k := by
    rcases hf with ⟨rfl, -⟩ | ⟨⟨f, w, J, rfl⟩, -⟩
    · exact fun _ _ _ => rfl
    · intro x k c
      show iH (sI (sI (sI h 17 0 1) 17 1 f) 17 2 w) x k = _
      rw [rI_ne c, rI_ne c, rI_ne c]
  have sh : nH h1 = nH h ∧ (∀ x, kH h1 x = kH h x) ∧ (∀ x k, rH h1 x k = rH h x k) ∧ ∀ x k, x ≠ 18 → jH h1 x k = jH h x k := by
    rcases hf with ⟨rfl, -⟩ | ⟨⟨f, w, J, rfl⟩, -⟩
    · exact ⟨rfl, fun _ => rfl, fun _ _ => rfl, fun _ _ _ => rfl⟩
    · exact ⟨rfl, fun _ => rfl, fun _ _ => rfl, fun x k c => jw_o c⟩
  have e : ag71 h h1 := fun x hx => funext fun k => io x k (by omega)
  have M1 : LayM h1 := ⟨fun q hq => by rw [sh.1, sh.2.1]; exact M.1 q hq, fun q hq => by rw [sh.2.2.1]; exact M.2.1 q hq, fun q hq i hi => by rw [sh.1, sh.2.1, sh.2.2.1]; exact M.2.2 q hq i hi⟩
  have gl : ∀ x k, 89 ≤ x → x < 1191 → ¬ ((x = 89 ∧ 24 ≤ k ∧ k ≤ 27) ∨ x = 1159) → iH g1 x k = iH h x k := by
    rcases hf with ⟨-, rfl⟩ | ⟨-, rfl⟩
    · exact fun _ _ _ _ _ => rfl
    · intro x k a b c
      unfold m_begin m_bgS m_bgB
      rw [i_sI, if_neg (by omega), rW_ne (by omega), i_sI, if_neg (by omega), i_sI, if_neg (by omega), i_sI, if_neg (by omega)]
  have N : agN h g1 := ⟨⟨⟨gl _ _ (by decide) (by decide) (by omega), gl _ _ (by decide) (by decide) (by omega)⟩, fun x k a b _ => gl x k (by omega) (by omega) (by omega)⟩, fun k => gl _ _ (by decide) (by decide) (by omega), ⟨gl _ _ (by decide) (by decide) (by omega), fun k => gl _ _ (by decide) (by decide) (by omega)⟩, fun t ht => ⟨gl _ _ (by decide) (by decide) (by omega), fun k => gl _ _ (by omega) (by omega) (by omega), fun k => gl _ _ (by omega) (by omega) (by omega)⟩⟩
  have hK1 : K h1 g1 da sa (T + 1) := by
    refine ⟨kSta_u k1 (agD_rf sh.1 sh.2.1 fun x hx => ⟨fun k => io x k (by omega), fun k => sh.2.2.1 x k⟩) (fun c hc => ⟨fun k => io c k (by unfold iSt at hc; omega), fun k => sh.2.2.1 _ k, fun k => sh.2.2.2 _ k (by unfold iSt at hc; omega)⟩) N (fun t ht => gl _ _ (by decide) (by decide) (by omega)), kB_u k2 (io 0 2 (by decide)) (fun k => sh.2.2.1 4 k) N (gl _ _ (by decide) (by decide) (by omega)) (fun k => gl _ _ (by decide) (by decide) (by omega)), rZ_u k3 N, km, ?_, by omega⟩
    exact kSm_u k5 (fun x k => x = 17) (fun x k => (x = 89 ∧ 24 ≤ k ∧ k ≤ 27) ∨ x = 1159) (fun x k _ c => io x k c) gl (kT_u (fun k hk => gl _ _ (by decide) (by decide) (by omega)) (gl _ _ (by decide) (by decide) (by omega)) (Nat.le_succ T) k5.2.2.2.2.2.2.2.2)
  have Kr := K_sim hK agR_rf (sim_71 e)
  have e71 := e 89 (by omega)
  refine ⟨5, by decide, lm_89 M1, (c_begin M1 (pK_pol Kr) (pK_now Kr) (pK_nowL Kr).2.1).qI fun y h2 hy => fin_go (P := p_begin) (fun hy => ?_) (fun g2 hx hy => ?_) L1 M1 hK1 hp hy⟩
  · unfold p_begin at hy
    rw [e71, ch_71 e, width_71 e, bg_71 e] at hy
    rcases hy with ⟨c, rfl, rfl⟩ | ⟨c, c2, rfl, rfl⟩ | ⟨c, c2, rfl, rfl⟩
    · exact ⟨h, Or.inl ⟨c, rfl, rfl⟩, sim_71 e, agR_rf⟩
    · exact ⟨h, Or.inr (Or.inl ⟨c, c2, rfl, rfl⟩), sim_71 e, agR_rf⟩
    · exact ⟨_, Or.inr (Or.inr ⟨c, c2, rfl, rfl⟩), sim_71 (a_begin e), r_sI (r_sW (r_sI (r_sI (r_sI agR_rf (by decide)) (by decide)) (by decide)) (by decide)) (by decide)⟩
  · rcases hx with ⟨c, rfl, rfl⟩ | ⟨c, c2, rfl, rfl⟩ | ⟨c, c2, rfl, rfl⟩ <;> rcases hy with ⟨d, rfl, rfl⟩ | ⟨d, d2, rfl, rfl⟩ | ⟨d, d2, rfl, rfl⟩ <;> first | exact ⟨rfl, sim_rf⟩ | exact absurd c d | exact absurd d c | exact absurd c2 d2 | exact absurd d2 c2
