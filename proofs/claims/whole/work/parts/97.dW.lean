/-! ONE CALL OF THE LAW: SHEETS, FEED -/
theorem S_sheet {h : AH} {T : Nat} (hI : Inv h T) {s t n : Int} : St mX11_sheet mX12_sheet [vi s, vi t, vi n] h T := by
  obtain ⟨L, M, da, sa, hK⟩ := id hI
  obtain ⟨k1, k2, k3, k4, k5, k6⟩ := id hK
  obtain ⟨q1, q2, q3, q4, q5, q6, q7, q8, q9⟩ := id k5
  refine ⟨1, 0, 0, by decide, (l_sheet L q4).qI fun x h1 hx => ?_⟩
  obtain ⟨g1, hp, kp, hf⟩ := hx
  have io : ∀ x k, ¬ (81 ≤ x ∧ x ≤ 88) → iH h1 x k = iH h x k := by
    rcases hf with ⟨rfl, -⟩ | ⟨z, hz, m, f, rfl, -⟩ <;> (intro x k c; first | rfl | (rw [rW_ne (by omega), rI_ne (by omega), rI_ne (by omega)]))
  have go : ∀ x k, ¬ (1183 ≤ x ∧ x ≤ 1189) → iH g1 x k = iH h x k := by
    rcases hf with ⟨-, rfl⟩ | ⟨z, hz, m, f, -, rfl⟩
    · exact fun _ _ _ => rfl
    · intro x k c
      unfold m_sheet
      rw [rW_ne (by omega), rI_ne (by omega), rI_ne (by omega)]
  have e : ag71 h h1 := fun x hx => funext fun k => io x k (by omega)
  have LM : LayL h1 ∧ LayM h1 := by
    rcases hf with ⟨rfl, -⟩ | ⟨z, hz, m, f, rfl, -⟩ <;> exact ⟨L, M⟩
  have sh : nH h1 = nH h ∧ (∀ x, kH h1 x = kH h x) ∧ (∀ x k, rH h1 x k = rH h x k) ∧ ∀ x k, jH h1 x k = jH h x k := by
    rcases hf with ⟨rfl, -⟩ | ⟨z, hz, m, f, rfl, -⟩ <;> exact ⟨rfl, fun _ => rfl, fun _ _ => rfl, fun _ _ => rfl⟩
  have hK1 : K h1 g1 da sa (T + 1) := by
    refine K_u hK (fun x k => 81 ≤ x ∧ x ≤ 88) (fun x k => 1183 ≤ x ∧ x ≤ 1189) sh.1 sh.2.1 (fun x k _ => sh.2.2.1 x k) (fun x k _ => sh.2.2.2 x k) io (fun x k _ _ c => go x k c) ?_
    exact kSm_u k5 (fun x k => 81 ≤ x ∧ x ≤ 88) (fun x k => 1183 ≤ x ∧ x ≤ 1189) (fun x k _ c => io x k c) (fun x k _ _ c => go x k c) (kT_u (fun k hk => go _ _ (by omega)) (go _ _ (by omega)) (Nat.le_succ T) q9) (pSh := Or.inr kp)
  refine ⟨2, by decide, lm_89 LM.2, (c_sheet LM.2).qI fun y h2 hy => fin_go (P := fun h => p_sheet h s t n) (fun hy => ?_) (fun g2 hx hy => ?_) LM.1 LM.2 hK1 hp hy⟩
  · rcases hy with ⟨c, rfl, rfl⟩ | ⟨c, c2, c3, rfl, rfl⟩ | ⟨c, c2, rfl, rfl⟩
    · exact ⟨h, Or.inl ⟨c, rfl, rfl⟩, sim_71 e, agR_rf⟩
    · exact ⟨h, Or.inr (Or.inl ⟨c, c2, c3, rfl, rfl⟩), sim_71 e, agR_rf⟩
    · refine ⟨_, Or.inr (Or.inr ⟨c, c2, rfl, rfl⟩), sim_71 (a_sW (a_sI (a_sI e rfl) rfl) (funext fun k => ?_)), r_sW (r_sI (r_sI agR_rf (by decide)) (by decide)) (by omega)⟩
      unfold m_z40
      rw [e (1186 + s.toNat) (by omega)]
  · rcases hx with ⟨c1, rfl, rfl⟩ | ⟨c1, c2, c3, rfl, rfl⟩ | ⟨c1, c2, rfl, rfl⟩ <;> rcases hy with ⟨d1, rfl, rfl⟩ | ⟨d1, d2, d3, rfl, rfl⟩ | ⟨d1, d2, rfl, rfl⟩ <;> first | (exfalso; omega) | exact ⟨rfl, sim_rf⟩
theorem S_cell {h : AH} {T : Nat} (hI : Inv h T) {s i v : Int} : St mX11_cell mX12_cell [vi s, vi i, vi v] h T := by
  obtain ⟨L, M, da, sa, hK⟩ := id hI
  obtain ⟨k1, k2, k3, k4, k5, k6⟩ := id hK
  obtain ⟨q1, q2, q3, q4, q5, q6, q7, q8, q9⟩ := id k5
  refine ⟨2, 0, 0, by decide, (l_cell L q4).qI fun x h1 hx => ?_⟩
  obtain ⟨g1, hp, kp, hf⟩ := hx
  have io : ∀ x k, ¬ (81 ≤ x ∧ x ≤ 88) → iH h1 x k = iH h x k := by
    rcases hf with ⟨rfl, -⟩ | ⟨z, hz, m, u, w, rfl, -⟩ <;> (intro x k c; first | rfl | (rw [rI_ne (by omega)]))
  have go : ∀ x k, ¬ (1186 ≤ x ∧ x ≤ 1189) → iH g1 x k = iH h x k := by
    rcases hf with ⟨-, rfl⟩ | ⟨z, hz, m, u, w, -, rfl⟩ <;> (intro x k c; first | rfl | (rw [rI_ne (by omega)]))
  have e : ag71 h h1 := fun x hx => funext fun k => io x k (by omega)
  have LM : LayL h1 ∧ LayM h1 := by
    rcases hf with ⟨rfl, -⟩ | ⟨z, hz, m, u, w, rfl, -⟩ <;> exact ⟨L, M⟩
  have sh : nH h1 = nH h ∧ (∀ x, kH h1 x = kH h x) ∧ (∀ x k, rH h1 x k = rH h x k) ∧ ∀ x k, jH h1 x k = jH h x k := by
    rcases hf with ⟨rfl, -⟩ | ⟨z, hz, m, u, w, rfl, -⟩ <;> exact ⟨rfl, fun _ => rfl, fun _ _ => rfl, fun _ _ => rfl⟩
  have hK1 : K h1 g1 da sa (T + 1) := by
    refine K_u hK (fun x k => 81 ≤ x ∧ x ≤ 88) (fun x k => 1186 ≤ x ∧ x ≤ 1189) sh.1 sh.2.1 (fun x k _ => sh.2.2.1 x k) (fun x k _ => sh.2.2.2 x k) io (fun x k _ _ c => go x k c) ?_
    exact kSm_u k5 (fun x k => 81 ≤ x ∧ x ≤ 88) (fun x k => 1186 ≤ x ∧ x ≤ 1189) (fun x k _ c => io x k c) (fun x k _ _ c => go x k c) (kT_u (fun k hk => go _ _ (by omega)) (go _ _ (by omega)) (Nat.le_succ T) q9) (pSh := Or.inr kp)
  have eS : iH h1 1183 = iH h 1183 := e _ (by omega)
  have eZ : iH h1 1184 = iH h 1184 := e _ (by omega)
  refine ⟨2, by decide, lm_89 LM.2, (c_cell LM.2 (m_shOK_cg (pK_sh hK) (fun k => congrFun eS k) (fun k => congrFun eZ k))).qI fun y h2 hy => fin_go (P := fun h => p_cell h s i v) (fun hy => ?_) (fun g2 hx hy => ?_) LM.1 LM.2 hK1 hp hy⟩
  · unfold p_cell at hy
    rw [eS, eZ] at hy
    rcases hy with ⟨c, rfl, rfl⟩ | ⟨c, c2, rfl, rfl⟩ | ⟨c, c2, c3, rfl, rfl⟩ | ⟨c, c2, c3, rfl, rfl⟩
    · exact ⟨h, Or.inl ⟨c, rfl, rfl⟩, sim_71 e, agR_rf⟩
    · exact ⟨h, Or.inr (Or.inl ⟨c, c2, rfl, rfl⟩), sim_71 e, agR_rf⟩
    · exact ⟨h, Or.inr (Or.inr (Or.inl ⟨c, c2, c3, rfl, rfl⟩)), sim_71 e, agR_rf⟩
    · exact ⟨_, Or.inr (Or.inr (Or.inr ⟨c, c2, c3, rfl, rfl⟩)), sim_71 (a_sI e rfl), r_sI agR_rf (by omega)⟩
  · rcases hx with ⟨c1, rfl, rfl⟩ | ⟨c1, c2, rfl, rfl⟩ | ⟨c1, c2, c3, rfl, rfl⟩ | ⟨c1, c2, c3, rfl, rfl⟩ <;> rcases hy with ⟨d1, rfl, rfl⟩ | ⟨d1, d2, rfl, rfl⟩ | ⟨d1, d2, d3, rfl, rfl⟩ | ⟨d1, d2, d3, rfl, rfl⟩ <;> first | (exfalso; omega) | exact ⟨rfl, sim_rf⟩
theorem S_copy {h : AH} {T : Nat} (hI : Inv h T) {s i o j n : Int} (hn : n < 2147483648) : St mX11_copy mX12_copy [vi s, vi i, vi o, vi j, vi n] h T := by
  obtain ⟨L, M, da, sa, hK⟩ := id hI
  obtain ⟨k1, k2, k3, k4, k5, k6⟩ := id hK
  obtain ⟨q1, q2, q3, q4, q5, q6, q7, q8, q9⟩ := id k5
  refine ⟨1, 0, 0, by decide, (l_copy L q4).qI fun x h1 hx => ?_⟩
  obtain ⟨g1, hp, kp, hf⟩ := hx
  have io : ∀ x k, ¬ (81 ≤ x ∧ x ≤ 88) → iH h1 x k = iH h x k := by
    rcases hf with ⟨rfl, -⟩ | ⟨z, y, a, b, m, hz, rfl, -⟩ <;> (intro x k c; first | rfl | (rw [cp_ne (by omega)]))
  have go : ∀ x k, ¬ (1186 ≤ x ∧ x ≤ 1190) → iH g1 x k = iH h x k := by
    rcases hf with ⟨-, rfl⟩ | ⟨z, y, a, b, m, hz, -, rfl⟩ <;> (intro x k c; first | rfl | (rw [cp_ne (by omega), cp_ne (by omega)]))
  have e : ag71 h h1 := fun x hx => funext fun k => io x k (by omega)
  have LM : LayL h1 ∧ LayM h1 := by
    rcases hf with ⟨rfl, -⟩ | ⟨z, y, a, b, m, hz, rfl, -⟩ <;> exact ⟨L, M⟩
  have sh : nH h1 = nH h ∧ (∀ x, kH h1 x = kH h x) ∧ (∀ x k, rH h1 x k = rH h x k) ∧ ∀ x k, jH h1 x k = jH h x k := by
    rcases hf with ⟨rfl, -⟩ | ⟨z, y, a, b, m, hz, rfl, -⟩ <;> exact ⟨rfl, fun _ => rfl, fun _ _ => rfl, fun _ _ => rfl⟩
  have hK1 : K h1 g1 da sa (T + 1) := by
    refine K_u hK (fun x k => 81 ≤ x ∧ x ≤ 88) (fun x k => 1186 ≤ x ∧ x ≤ 1190) sh.1 sh.2.1 (fun x k _ => sh.2.2.1 x k) (fun x k _ => sh.2.2.2 x k) io (fun x k _ _ c => go x k c) ?_
    exact kSm_u k5 (fun x k => 81 ≤ x ∧ x ≤ 88) (fun x k => 1186 ≤ x ∧ x ≤ 1190) (fun x k _ c => io x k c) (fun x k _ _ c => go x k c) (kT_u (fun k hk => go _ _ (by omega)) (go _ _ (by omega)) (Nat.le_succ T) q9) (pSh := Or.inr kp)
  have eS : iH h1 1183 = iH h 1183 := e _ (by omega)
  have eZ : iH h1 1184 = iH h 1184 := e _ (by omega)
  refine ⟨2, by decide, lm_89 LM.2, (c_copy LM.2 (m_shOK_cg (pK_sh hK) (fun k => congrFun eS k) (fun k => congrFun eZ k)) hn).qI fun y h2 hy => fin_go (P := fun h => p_copy h s i o j n) (fun hy => ?_) (fun g2 hx hy => ?_) LM.1 LM.2 hK1 hp hy⟩
  · unfold p_copy at hy
    rw [eS, eZ] at hy
    rcases hy with ⟨c, rfl, rfl⟩ | ⟨c, ⟨c2, rfl, rfl⟩ | ⟨c2, ⟨c3, rfl, rfl⟩ | ⟨c3, ⟨c4, rfl, rfl⟩ | ⟨c4, rfl, rfl⟩⟩⟩⟩
    · exact ⟨h, Or.inl ⟨c, rfl, rfl⟩, sim_71 e, agR_rf⟩
    · exact ⟨h, Or.inr ⟨c, Or.inl ⟨c2, rfl, rfl⟩⟩, sim_71 e, agR_rf⟩
    · exact ⟨h, Or.inr ⟨c, Or.inr ⟨c2, Or.inl ⟨c3, rfl, rfl⟩⟩⟩, sim_71 e, agR_rf⟩
    · exact ⟨h, Or.inr ⟨c, Or.inr ⟨c2, Or.inr ⟨c3, Or.inl ⟨c4, rfl, rfl⟩⟩⟩⟩, sim_71 e, agR_rf⟩
    · exact ⟨_, Or.inr ⟨c, Or.inr ⟨c2, Or.inr ⟨c3, Or.inr ⟨c4, rfl, rfl⟩⟩⟩⟩, sim_71 (a_cp (a_cp e (by omega) (by omega)) (by omega) (by omega)), r_cp (r_cp agR_rf (by decide)) (by omega)⟩
  · rcases hx with ⟨c, rfl, rfl⟩ | ⟨c, ⟨c2, rfl, rfl⟩ | ⟨c2, ⟨c3, rfl, rfl⟩ | ⟨c3, ⟨c4, rfl, rfl⟩ | ⟨c4, rfl, rfl⟩⟩⟩⟩ <;> rcases hy with ⟨d, rfl, rfl⟩ | ⟨d, ⟨d2, rfl, rfl⟩ | ⟨d2, ⟨d3, rfl, rfl⟩ | ⟨d3, ⟨d4, rfl, rfl⟩ | ⟨d4, rfl, rfl⟩⟩⟩⟩ <;> first | (exfalso; omega) | exact ⟨rfl, sim_rf⟩
theorem S_feed {h : AH} {T : Nat} (hI : Inv h T) {n a b c d e' : Int} : St mX11_feed mX12_feed [vi n, vi a, vi b, vi c, vi d, vi e'] h T := by
  obtain ⟨L, M, da, sa, hK⟩ := id hI
  obtain ⟨k1, k2, k3, k4, k5, k6⟩ := id hK
  obtain ⟨q1, q2, q3, q4, q5, q6, q7, q8, q9⟩ := id k5
  refine ⟨1, 0, 0, by decide, (l_feed L q3.1).qI fun x h1 hx => ?_⟩
  obtain ⟨g1, hp, kp, hf⟩ := hx
  have io : ∀ x k, ¬ (x = 2 ∨ (x = 1 ∧ k = 1)) → iH h1 x k = iH h x k := by
    rcases hf with ⟨rfl, -⟩ | ⟨-, rfl, -⟩
    · exact fun _ _ _ => rfl
    · intro x k c
      unfold fedL
      rw [i_sI, if_neg (by omega), rW_ne (by omega)]
  have go : ∀ x k, ¬ (x = 1157 ∨ (x = 89 ∧ k = 18)) → iH g1 x k = iH h x k := by
    rcases hf with ⟨-, rfl⟩ | ⟨-, -, rfl⟩
    · exact fun _ _ _ => rfl
    · intro x k c
      unfold m_fed
      rw [i_sI, if_neg (by omega), rW_ne (by omega)]
  have e : ag71 h h1 := fun x hx => funext fun k => io x k (by omega)
  have LM : LayL h1 ∧ LayM h1 := by
    rcases hf with ⟨rfl, -⟩ | ⟨-, rfl, -⟩ <;> exact ⟨L, M⟩
  have sh : nH h1 = nH h ∧ (∀ x, kH h1 x = kH h x) ∧ (∀ x k, rH h1 x k = rH h x k) ∧ ∀ x k, jH h1 x k = jH h x k := by
    rcases hf with ⟨rfl, -⟩ | ⟨-, rfl, -⟩ <;> exact ⟨rfl, fun _ => rfl, fun _ _ => rfl, fun _ _ => rfl⟩
  have tp : kTp h1 g1 := by
    refine ⟨kp, ?_⟩
    rcases hf with ⟨-, rfl⟩ | ⟨ok, -, rfl⟩
    · exact q3.2
    · intro k hk
      have t0 := q3.1.2.1
      unfold m_fed at hk ⊢
      unfold d_n at hk
      rw [rI_same] at hk
      rw [rI_ne (by decide), rW_same]
      unfold m_fedT
      by_cases c2 : (iH h 89 18).toNat ≤ k ∧ k < (iH h 89 18).toNat + n.toNat
      · rw [if_pos c2]
        obtain ⟨o1, o2, o3, o4, o5, o6⟩ := ok
        have : k - (iH h 89 18).toNat = 0 ∨ k - (iH h 89 18).toNat = 1 ∨ k - (iH h 89 18).toNat = 2 ∨ k - (iH h 89 18).toNat = 3 ∨ k - (iH h 89 18).toNat = 4 := by omega
        unfold m_byt
        rcases this with u | u | u | u | u <;> rw [u] <;> simp <;> omega
      · rw [if_neg c2]
        refine q3.2 k ?_
        unfold d_n
        obtain ⟨o1, -⟩ := ok
        omega
  have hK1 : K h1 g1 da sa (T + 1) := by
    refine K_u hK (fun x k => x = 2 ∨ (x = 1 ∧ k = 1)) (fun x k => x = 1157 ∨ (x = 89 ∧ k = 18)) sh.1 sh.2.1 (fun x k _ => sh.2.2.1 x k) (fun x k _ => sh.2.2.2 x k) io (fun x k _ _ c => go x k c) ?_
    exact kSm_u k5 (fun x k => x = 2 ∨ (x = 1 ∧ k = 1)) (fun x k => x = 1157 ∨ (x = 89 ∧ k = 18)) (fun x k _ c => io x k c) (fun x k _ _ c => go x k c) (kT_u (fun k hk => go _ _ (by omega)) (go _ _ (by omega)) (Nat.le_succ T) q9) (pTp := Or.inr tp)
  have e71 := e 89 (by omega)
  refine ⟨2, by decide, lm_89 LM.2, (c_feed LM.2 (by rw [e71]; exact q3.1.2.1)).qI fun y h2 hy => fin_go (P := fun h => p_feed h n a b c d e') (fun hy => ?_) (fun g2 hx hy => ?_) LM.1 LM.2 hK1 hp hy⟩
  · unfold p_feed at hy
    rw [e71] at hy
    rcases hy with ⟨c, rfl, rfl⟩ | ⟨c, c2, rfl, rfl⟩ | ⟨c, c2, rfl, rfl⟩
    · exact ⟨h, Or.inl ⟨c, rfl, rfl⟩, sim_71 e, agR_rf⟩
    · exact ⟨h, Or.inr (Or.inl ⟨c, c2, rfl, rfl⟩), sim_71 e, agR_rf⟩
    · refine ⟨_, Or.inr (Or.inr ⟨c, c2, rfl, rfl⟩), sim_71 (a_sI (a_sW e (funext fun k => ?_)) (by rw [e71])), r_sI (r_sW agR_rf (by decide)) (by decide)⟩
      unfold m_fedT
      rw [e71, e 1157 (by omega)]
  · rcases hx with ⟨c1, rfl, rfl⟩ | ⟨c1, c2, rfl, rfl⟩ | ⟨c1, c2, rfl, rfl⟩ <;> rcases hy with ⟨d1, rfl, rfl⟩ | ⟨d1, d2, rfl, rfl⟩ | ⟨d1, d2, rfl, rfl⟩ <;> first | exact ⟨rfl, sim_rf⟩ | exact absurd c1 d1 | exact absurd d1 c1 | (exfalso; omega)
