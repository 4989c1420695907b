/-! ONE CALL OF THE LAW: ADD -/
section
variable {h h1 A B : AH} {key : Int}
theorem add1_i {x k : Nat} (h1 : x ≠ 1158) (h2 : x ≠ 89 ∨ (k ≠ 18 ∧ k ≠ 20)) : iH (m_add1 h) x k = iH h x k := by
  unfold m_add1 m_docH d_H
  rw [i_sI, if_neg (by omega), i_sI, if_neg (by omega), rW_ne (by omega)]
theorem dropI {x k : Nat} (c : ¬ ((x = 89 ∧ k = 15) ∨ x = 613 ∨ x = 1156)) : iH (m_drop h key) x k = iH h x k := by
  unfold m_drop
  split
  · rw [i_sI, if_neg (by omega), rW_ne (by omega)]
  · split
    · rw [rI_ne (by omega)]
    · rfl
theorem addH_i {x k : Nat} (h1 : x ≠ 90 ∨ k ≠ (iH A 89 0).toNat) (h2 : x ≠ 91 ∨ k ≠ (iH A 89 0).toNat) (h3 : x ≠ 93 + (iH A 89 0).toNat) (h4 : x ≠ 1156) (h5 : x ≠ 89 ∨ (k ≠ 0 ∧ k ≠ 15)) : iH (m_addH A key) x k = iH A x k := by
  unfold m_addH
  rw [i_sI, if_neg (by omega), i_sI, if_neg (by omega), i_sI, if_neg (by omega), cp_ne (by omega), i_sI, if_neg (by omega), i_sI, if_neg (by omega)]
theorem addH_0 : iH (m_addH A key) 89 0 = iH A 89 0 + 1 := rI_same
theorem addH_k {d : Nat} : iH (m_addH A key) 90 d = if d = (iH A 89 0).toNat then key else iH A 90 d := by
  unfold m_addH
  rw [rI_ne (by decide), rI_ne (by decide), rI_ne (by decide), cp_ne (by omega), rI_ne (by decide), rI_if]
theorem add1_B (e : agB h h1) : agB (m_add1 h) (m_add1 h1) := by
  have e71 := e 89 (by decide) (by decide)
  have et := e 1157 (by decide) (by decide)
  unfold m_add1 m_docH d_H
  rw [dm_e et e71]
  refine B_sI (B_sI (B_sW e (funext fun k => ?_)))
  unfold d_NW
  rw [word_e et e71, e 1158 (by decide) (by decide)]
theorem addH_B (e : agB A B) (hD : (iH A 89 0).toNat < 520) : agB (m_addH A key) (m_addH B key) := by
  unfold m_addH
  rw [e 89 (by decide) (by decide)]
  exact B_sI (B_sI (B_sI (B_cp (B_sI (B_sI e)) (by decide) (by omega))))
theorem add1_R : agR h (m_add1 h) := r_sI (r_sI (r_sW agR_rf (by decide)) (by decide)) (by decide)
theorem drop_R : agR h (m_drop h key) := by
  unfold m_drop
  split
  · exact r_sI (r_sW agR_rf (by decide)) (by decide)
  · split
    · exact r_sI agR_rf (by decide)
    · exact agR_rf
theorem addH_R (hD : (iH A 89 0).toNat < 520) : agR A (m_addH A key) := r_sI (r_sI (r_sI (r_cp (r_sI (r_sI agR_rf (by decide)) (by decide)) (by omega)) (by decide)) (by decide)) (by decide)
end
theorem S_add {h : AH} {T : Nat} (hI : Inv h T) (hT : T < 512) {key : Int} : St mX11_add mX12_add [vi key] h T := by
  obtain ⟨L, M, da, sa, hK⟩ := id hI
  obtain ⟨k1, k2, k3, k4, k5, k6⟩ := id hK
  obtain ⟨q1, q2, q3, q4, q5, q6, q7, q8, q9⟩ := id k5
  have bD := q9.1
  have hD : (iH h 89 0).toNat < 520 := by omega
  refine ⟨3, 2, 14, by decide, (l_add L k6 k1 k2 k3 q3.1 ⟨bD.1, by omega⟩).qI fun x h1 hx => ?_⟩
  obtain ⟨g1, da', hp, ey, L1, k1', k2', k3', kt, hn, hf⟩ := hx
  have io : ∀ x k, x < 1191 → ¬ (x = 1 ∨ x = 3 ∨ (x = 0 ∧ k = 2)) → iH h1 x k = iH h x k := fun x k hx c => (hf x (by omega)).2.1 k (by omega) (by omega) (by omega)
  have e : agB h h1 := fun x a b => funext fun k => io x k b (by omega)
  have M1 : LayM h1 := M_of M k6 hn (fun x hx => (hf x hx).1) (fun x k a b => (hf x b).2.2.2 k (by omega))
  have hnow := pK_now hK
  have now1 : m_now (m_add1 h) := m_now_cg hnow (add1_i (by omega) (by omega)) (fun k => add1_i (by omega) (by omega)) (fun g k hg => add1_i (by omega) (by omega)) (fun k => add1_i (by omega) (by omega))
  have d0 : iH (m_drop (m_add1 h) key) 89 0 = iH h 89 0 := by rw [dropI (by omega), add1_i (by omega) (by omega)]
  have gl : ∀ x k, ¬ ((x = 89 ∧ (k = 0 ∨ k = 15 ∨ k = 18 ∨ k = 20)) ∨ (90 ≤ x ∧ x ≤ 613) ∨ x = 1156 ∨ x = 1158) → iH g1 x k = iH h x k := by
    rcases hp with ⟨-, -, rfl⟩ | ⟨-, -, -, -, rfl⟩ | ⟨-, -, -, -, rfl⟩ | ⟨-, -, -, -, rfl⟩
    · exact fun _ _ _ => rfl
    · exact fun _ _ _ => rfl
    · exact fun x k c => add1_i (by omega) (by omega)
    · intro x k c
      rw [addH_i (by omega) (by omega) (by rw [d0]; omega) (by omega) (by omega), dropI (by omega), add1_i (by omega) (by omega)]
  have g0 : iH h 89 0 ≤ iH g1 89 0 ∧ iH g1 89 0 ≤ iH h 89 0 + 1 := by
    rcases hp with ⟨-, -, rfl⟩ | ⟨-, -, -, -, rfl⟩ | ⟨-, -, -, -, rfl⟩ | ⟨-, -, -, -, rfl⟩
    · omega
    · omega
    · rw [add1_i (by omega) (by omega)]; omega
    · rw [addH_0, d0]; omega
  have tp : kTp h1 g1 := by
    refine ⟨kt, ?_⟩
    have t0 : ∀ A : AH, iH A 89 18 = 0 → ∀ k : Nat, k < d_n A → 0 ≤ iH A 1157 k ∧ iH A 1157 k ≤ 255 := fun A hA k hk => by
      unfold d_n at hk
      rw [hA] at hk
      omega
    rcases hp with ⟨-, -, rfl⟩ | ⟨-, -, -, -, rfl⟩ | ⟨-, -, -, -, rfl⟩ | ⟨-, -, -, -, rfl⟩
    · exact q3.2
    · exact q3.2
    · exact t0 _ rI_same
    · refine t0 _ ?_
      rw [addH_i (by omega) (by omega) (by omega) (by omega) (by omega), dropI (by omega)]
      exact rI_same
  have kk : kK g1 := by
    rcases hp with ⟨-, -, rfl⟩ | ⟨-, -, -, -, rfl⟩ | ⟨-, -, -, -, rfl⟩ | ⟨c, -, -, -, rfl⟩
    · exact q7
    · exact q7
    · intro d hd
      rw [add1_i (by omega) (by omega)] at hd ⊢
      exact q7 d hd
    · intro d hd
      rw [addH_0, d0] at hd
      rw [addH_k, d0]
      by_cases cd : d = (iH h 89 0).toNat
      · rw [if_pos cd]; exact c
      · rw [if_neg cd, dropI (by omega), add1_i (by omega) (by omega)]
        exact q7 d (by omega)
  have hK1 : K h1 g1 da' sa (T + 1) := by
    refine K_w hK (fun x k => x = 1 ∨ x = 3 ∨ (x = 0 ∧ k = 2)) (fun x k => (x = 89 ∧ (k = 0 ∨ k = 15 ∨ k = 18 ∨ k = 20)) ∨ (90 ≤ x ∧ x ≤ 613) ∨ x = 1156 ∨ x = 1158) hn (fun x k hx c => io x k (by omega) c) (fun k => (hf 18 (by omega)).2.2.1 k (by decide)) (fun x k _ _ c => gl x k c) k1' k2' k3' ?_
    refine kSm_u k5 (fun x k => x = 1 ∨ x = 3 ∨ (x = 0 ∧ k = 2)) (fun x k => (x = 89 ∧ (k = 0 ∨ k = 15 ∨ k = 18 ∨ k = 20)) ∨ (90 ≤ x ∧ x ≤ 613) ∨ x = 1156 ∨ x = 1158) (fun x k hx c => io x k (by omega) c) (fun x k _ _ c => gl x k c) ?_ (pTp := Or.inr tp) (pK := Or.inr kk)
    obtain ⟨t1, t2, t3, t4, t5⟩ := q9
    unfold kT
    rw [gl 89 5 (by omega), gl 89 46 (by omega), gl 89 47 (by omega), gl 1138 6 (by omega)]
    omega
  have e71 := e 89 (by decide) (by decide)
  have et := e 1157 (by decide) (by decide)
  have nw1 : m_now h1 := m_now_cg hnow (by rw [e71]) (fun k => congrFun (e _ (by decide) (by decide)) k) (fun g k hg => congrFun (e _ (by omega) (by omega)) k) (fun k => congrFun (e _ (by decide) (by decide)) k)
  have bf1 : m_buf h1 := by
    have := pK_buf hK
    unfold m_buf at this ⊢
    rw [e71, e 1156 (by decide) (by decide)]
    exact this
  refine ⟨3, by decide, lm_89 M1, (c_add M1 (by rw [e71]; exact q3.1.2.1) bf1 nw1 (by rw [e71]; omega)).qI fun y h2 hy => fin_go (P := fun h => p_add h key) (fun hy => ?_) (fun g2 hx hy => ?_) L1 M1 hK1 hp hy⟩
  · unfold p_add at hy
    rw [bp_B e, fault_e et e71, dm_e et e71, e71] at hy
    have a1 := add1_B e
    have a2 := drop_B (key := key) a1 now1
    rcases hy with ⟨c, rfl, rfl⟩ | ⟨c, c2, c3, rfl, rfl⟩ | ⟨c, c2, c3, rfl, rfl⟩ | ⟨c, c2, c3, rfl, rfl⟩
    · exact ⟨h, Or.inl ⟨c, rfl, rfl⟩, B_sim e, agR_rf⟩
    · exact ⟨h, Or.inr (Or.inl ⟨c, c2, c3, rfl, rfl⟩), B_sim e, agR_rf⟩
    · exact ⟨_, Or.inr (Or.inr (Or.inl ⟨c, c2, c3, rfl, rfl⟩)), B_sim a1, add1_R⟩
    · refine ⟨_, Or.inr (Or.inr (Or.inr ⟨c, c2, c3, rfl, rfl⟩)), B_sim (addH_B a2 (by rw [d0]; exact hD)), agR_tr add1_R (agR_tr drop_R (addH_R ?_))⟩
      rw [a2 89 (by decide) (by decide), d0]
      exact hD
  · rcases hx with ⟨c, rfl, rfl⟩ | ⟨c, c2, c3, rfl, rfl⟩ | ⟨c, c2, c3, rfl, rfl⟩ | ⟨c, c2, c3, rfl, rfl⟩ <;> rcases hy with ⟨d, rfl, rfl⟩ | ⟨d, d2, d3, rfl, rfl⟩ | ⟨d, d2, d3, rfl, rfl⟩ | ⟨d, d2, d3, rfl, rfl⟩ <;> first | exact ⟨rfl, sim_rf⟩ | (exfalso; omega)
