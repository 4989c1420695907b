/-! ONE CALL OF THE LAW: TOOLS -/
section
variable {A B h h1 h2 g g1 g2 : AH} {a i b j n x k : Nat} {v v' : Int} {f f' : Nat → Int} {da sa : Nat → Nat} {T T' : Nat}
theorem i_sI : iH (sI A a i v) x k = if x = a ∧ k = i then v else iH A x k := by
  by_cases e : x = a
  · subst e
    rw [rI_if]
    by_cases e2 : k = i
    · rw [if_pos e2, if_pos ⟨rfl, e2⟩]
    · rw [if_neg e2, if_neg (fun u => e2 u.2)]
  · rw [rI_ne e, if_neg (fun u => e u.1)]
theorem i_sW : iH (sW A a f) x k = if x = a then f k else iH A x k := by
  by_cases e : x = a
  · subst e; rw [rW_same, if_pos rfl]
  · rw [rW_ne e, if_neg e]
theorem a_rf : ag71 h h := fun _ _ => rfl
theorem a_sI (e : ag71 A B) (hv : v = v') : ag71 (sI A a i v) (sI B a i v') := fun x hx => funext fun k => by rw [i_sI, i_sI, hv, e x hx]
theorem a_sW (e : ag71 A B) (hf : f = f') : ag71 (sW A a f) (sW B a f') := fun x hx => funext fun k => by rw [i_sW, i_sW, hf, e x hx]
theorem a_cp (e : ag71 A B) (ha : 89 ≤ a) (hb : 89 ≤ b) : ag71 (cpI A a i b j n) (cpI B a i b j n) := a_sW e (by rw [e a ha, e b hb])
theorem r_sI (r : agR h1 A) (ha : 89 ≤ a ∧ a < 1191) : agR h1 (sI A a i v) := ⟨r.1, r.2.1, r.2.2.1, r.2.2.2.1, fun x k hx => by rw [rI_ne (by omega)]; exact r.2.2.2.2 x k hx⟩
theorem r_sW (r : agR h1 A) (ha : 89 ≤ a ∧ a < 1191) : agR h1 (sW A a f) := ⟨r.1, r.2.1, r.2.2.1, r.2.2.2.1, fun x k hx => by rw [rW_ne (by omega)]; exact r.2.2.2.2 x k hx⟩
theorem r_cp (r : agR h1 A) (ha : 89 ≤ b ∧ b < 1191) : agR h1 (cpI A a i b j n) := r_sW r ha
theorem agR_tr (r : agR h h1) (r' : agR h1 h2) : agR h h2 := ⟨r'.1.trans r.1, fun x => (r'.2.1 x).trans (r.2.1 x), fun x k => (r'.2.2.1 x k).trans (r.2.2.1 x k), fun x k => (r'.2.2.2.1 x k).trans (r.2.2.2.1 x k), fun x k hx => (r'.2.2.2.2 x k hx).trans (r.2.2.2.2 x k hx)⟩
theorem sim_tr (s : simS g g1) (s' : simS g1 g2) : simS g g2 := fun x k a b c => (s' x k a b c).trans (s x k a b c)
theorem sim_rf : simS g g := fun _ _ _ _ _ => rfl
/-- the two answers are one: by the reference's answer, moved to the heap ahead of the class's call -/
theorem fin_go {P : AH → Int → AH → Prop} {x y : Int} (tr : P h1 y h2 → ∃ g2, P h y g2 ∧ simS g2 h2 ∧ agR h1 h2) (det : ∀ g2, P h x g1 → P h y g2 → x = y ∧ simS g1 g2) (L1 : LayL h1) (M1 : LayM h1) (hK : K h1 g1 da sa T') (hx : P h x g1) (hy : P h1 y h2) : x = y ∧ Inv h2 T' := by
  obtain ⟨g2, p, s, r⟩ := tr hy
  obtain ⟨e, s'⟩ := det g2 hx p
  exact ⟨e, inv_of L1 M1 hK r (sim_tr s' s)⟩
/-- stands, buffer and merge stay -/
theorem K_u (hK : K h g da sa T) (C G : Nat → Nat → Prop) (en : nH h1 = nH h) (ek : ∀ x, kH h1 x = kH h x) (er : ∀ x k, (x ≤ 19 ∨ (21 ≤ x ∧ x ≤ 44) ∨ 81 ≤ x) → rH h1 x k = rH h x k) (ej : ∀ x k, (x ≤ 18 ∨ (33 ≤ x ∧ x ≤ 44)) → jH h1 x k = jH h x k) (io : ∀ x k, ¬ C x k → iH h1 x k = iH h x k) (go : ∀ x k, 89 ≤ x → x < 1191 → ¬ G x k → iH g1 x k = iH g x k) (hS : kSm h1 g1 T')
    (hC : ∀ x k, C x k → x < 89 ∧ x ≠ 5 ∧ x ≠ 8 ∧ x ≠ 11 ∧ x ≠ 33 ∧ x ≠ 36 ∧ x ≠ 39 ∧ x ≠ 42 ∧ x ≠ 17 ∧ (x ≠ 0 ∨ k ≠ 2) := by intro x k c; (try dsimp only at c) <;> omega)
    (hG : ∀ x k, G x k → (x ≠ 89 ∨ (k ≠ 0 ∧ k ≠ 5 ∧ k ≠ 13 ∧ k ≠ 15 ∧ (k < 24 ∨ 27 < k))) ∧ (x < 90 ∨ 1136 < x) ∧ (x ≠ 1137 ∨ 6 ≤ k) ∧ (x ≠ 1138 ∨ 6 ≤ k) ∧ (x < 1140 ∨ 1145 < x) ∧ (x < 1148 ∨ 1153 < x) ∧ x ≠ 1155 ∧ x ≠ 1156 ∧ x ≠ 1159 := by intro x k c; (try dsimp only at c) <;> omega) : K h1 g1 da sa T' := by
  obtain ⟨k1, k2, k3, k4, k5, k6⟩ := hK
  have gx : ∀ x k, 89 ≤ x → x < 1191 → ((x = 89 ∧ (k = 0 ∨ k = 5 ∨ k = 13 ∨ k = 15 ∨ (24 ≤ k ∧ k ≤ 27))) ∨ (90 ≤ x ∧ x ≤ 1136) ∨ (x = 1137 ∧ k < 6) ∨ (x = 1138 ∧ k < 6) ∨ (1140 ≤ x ∧ x ≤ 1145) ∨ (1148 ≤ x ∧ x ≤ 1153) ∨ x = 1155 ∨ x = 1156 ∨ x = 1159) → iH g1 x k = iH g x k := fun x k a b c => go x k a b fun u => by
    have := hG x k u
    omega
  have cx : ∀ x k, (89 ≤ x ∨ x = 5 ∨ x = 8 ∨ x = 11 ∨ x = 33 ∨ x = 36 ∨ x = 39 ∨ x = 42 ∨ x = 17 ∨ (x = 0 ∧ k = 2)) → iH h1 x k = iH h x k := fun x k c => io x k fun u => by
    have := hC x k u
    omega
  have N : agN g g1 := ⟨⟨⟨gx _ _ (by decide) (by decide) (by omega), gx _ _ (by decide) (by decide) (by omega)⟩, fun x k a b _ => gx x k (by omega) (by omega) (by omega)⟩, fun k => gx _ _ (by decide) (by decide) (by omega), ⟨gx _ _ (by decide) (by decide) (by omega), fun k => gx _ _ (by decide) (by decide) (by omega)⟩, fun t ht => ⟨gx _ _ (by decide) (by decide) (by omega), fun k => gx _ _ (by omega) (by omega) (by omega), fun k => gx _ _ (by omega) (by omega) (by omega)⟩⟩
  refine ⟨kSta_u k1 (agD_rf en ek fun x hx => ⟨fun k => cx x k (Or.inl (by omega)), fun k => er x k (by omega)⟩) (fun c hc => ⟨fun k => cx c k (by unfold iSt at hc; omega), fun k => er _ k (by unfold iSt at hc; omega), fun k => ej _ k (by unfold iSt at hc; omega)⟩) N (fun t ht => gx _ _ (by decide) (by decide) (by omega)), kB_u k2 (cx 0 2 (by omega)) (fun k => er 4 k (by omega)) N (gx _ _ (by decide) (by decide) (by omega)) (fun k => gx _ _ (by decide) (by decide) (by omega)), rZ_u k3 N, ?_, hS, by omega⟩
  exact kMg_u k4 (fun k _ => cx 17 k (by omega)) (fun k => ej 18 k (by decide)) (fun k a b => gx _ _ (by decide) (by decide) (by omega)) (fun k => gx _ _ (by decide) (by decide) (by omega)) (Int.le_of_eq (gx 89 13 (by decide) (by decide) (by omega)).symm) (fun s' _ => gx _ _ (by decide) (by decide) (by omega)) (fun x hx => by
      have := segs_520 k1.1.1.2.1
      exact ⟨gx _ _ (by decide) (by decide) (by omega), fun k => gx _ _ (by omega) (by omega) (by omega)⟩) (row_b k1)
end
/-! setting, leaving, sheets, feeding -/
theorem S_set {h : AH} {T : Nat} (hI : Inv h T) {w v : Int} : St mX11_set mX12_set [vi w, vi v] h T := by
  obtain ⟨L, M, da, sa, hK⟩ := id hI
  obtain ⟨k1, k2, k3, k4, k5, k6⟩ := id hK
  obtain ⟨q1, q2, q3, q4, q5, q6, q7, q8, q9⟩ := id k5
  refine ⟨0, 0, 0, by decide, (l_set L q2).qI fun x h1 hx => ?_⟩
  obtain ⟨g1, hp, kp, hf⟩ := hx
  have e : ag71 h h1 := by
    rcases hf with ⟨rfl, -⟩ | ⟨rfl, -⟩ | ⟨rfl, -⟩ | ⟨rfl, -⟩
    all_goals first | exact a_rf | exact fun x hx => funext fun k => rI_ne (by omega)
  have LM : LayL h1 ∧ LayM h1 := by
    rcases hf with ⟨rfl, -⟩ | ⟨rfl, -⟩ | ⟨rfl, -⟩ | ⟨rfl, -⟩ <;> exact ⟨L, M⟩
  have hK1 : K h1 g1 da sa (T + 1) := by
    refine K_u hK (fun x k => (x = 16 ∧ k < 2) ∨ (x = 0 ∧ k = 11)) (fun x k => x = 89 ∧ 21 ≤ k ∧ k ≤ 23) ?_ ?_ ?_ ?_ ?_ ?_ ?_
    · rcases hf with ⟨rfl, -⟩ | ⟨rfl, -⟩ | ⟨rfl, -⟩ | ⟨rfl, -⟩ <;> rfl
    · rcases hf with ⟨rfl, -⟩ | ⟨rfl, -⟩ | ⟨rfl, -⟩ | ⟨rfl, -⟩ <;> exact fun _ => rfl
    · rcases hf with ⟨rfl, -⟩ | ⟨rfl, -⟩ | ⟨rfl, -⟩ | ⟨rfl, -⟩ <;> exact fun _ _ _ => rfl
    · rcases hf with ⟨rfl, -⟩ | ⟨rfl, -⟩ | ⟨rfl, -⟩ | ⟨rfl, -⟩ <;> exact fun _ _ _ => rfl
    · rcases hf with ⟨rfl, -⟩ | ⟨rfl, -⟩ | ⟨rfl, -⟩ | ⟨rfl, -⟩ <;> (intro x k c; first | rfl | (rw [i_sI, if_neg (by omega)]))
    · rcases hf with ⟨-, rfl⟩ | ⟨-, rfl⟩ | ⟨-, rfl⟩ | ⟨-, rfl⟩ <;> (intro x k _ _ c; first | rfl | (rw [i_sI, if_neg (by omega)]))
    · have io : ∀ x k, ¬ ((x = 16 ∧ k < 2) ∨ (x = 0 ∧ k = 11)) → iH h1 x k = iH h x k := by
        rcases hf with ⟨rfl, -⟩ | ⟨rfl, -⟩ | ⟨rfl, -⟩ | ⟨rfl, -⟩ <;> (intro x k c; first | rfl | (rw [i_sI, if_neg (by omega)]))
      have go : ∀ x k, ¬ (x = 89 ∧ 21 ≤ k ∧ k ≤ 23) → iH g1 x k = iH h x k := by
        rcases hf with ⟨-, rfl⟩ | ⟨-, rfl⟩ | ⟨-, rfl⟩ | ⟨-, rfl⟩ <;> (intro x k c; first | rfl | (rw [i_sI, if_neg (by omega)]))
      exact kSm_u k5 (fun x k => (x = 16 ∧ k < 2) ∨ (x = 0 ∧ k = 11)) (fun x k => x = 89 ∧ 21 ≤ k ∧ k ≤ 23) (fun x k _ c => io x k c) (fun x k _ _ c => go x k c) (kT_u (fun k hk => go _ _ (by omega)) (go _ _ (by omega)) (Nat.le_succ T) q9) (pPo := Or.inr kp)
  refine ⟨1, by decide, lm_89 LM.2, (c_set LM.2).qI fun y h2 hy => fin_go (P := fun h => p_set h w v) (fun hy => ?_) (fun g2 hx hy => ?_) LM.1 LM.2 hK1 hp hy⟩
  · have e71 := e 89 (by omega)
    rcases hy with ⟨c1, c2, c3, rfl, rfl⟩ | ⟨c1, c2, c3, rfl, rfl⟩ | ⟨c1, c2, c3, rfl, rfl⟩ | ⟨c1, rfl, rfl⟩
    · exact ⟨sI h 89 21 v, Or.inl ⟨c1, c2, c3, by rw [e71], rfl⟩, sim_71 (a_sI e rfl), r_sI agR_rf (by decide)⟩
    · exact ⟨sI h 89 22 v, Or.inr (Or.inl ⟨c1, c2, c3, by rw [e71], rfl⟩), sim_71 (a_sI e rfl), r_sI agR_rf (by decide)⟩
    · exact ⟨sI h 89 23 v, Or.inr (Or.inr (Or.inl ⟨c1, c2, c3, by rw [e71], rfl⟩)), sim_71 (a_sI e rfl), r_sI agR_rf (by decide)⟩
    · exact ⟨h, Or.inr (Or.inr (Or.inr ⟨c1, rfl, rfl⟩)), sim_71 e, agR_rf⟩
  · rcases hx with ⟨c1, c2, c3, rfl, rfl⟩ | ⟨c1, c2, c3, rfl, rfl⟩ | ⟨c1, c2, c3, rfl, rfl⟩ | ⟨c1, rfl, rfl⟩ <;> rcases hy with ⟨d1, d2, d3, rfl, rfl⟩ | ⟨d1, d2, d3, rfl, rfl⟩ | ⟨d1, d2, d3, rfl, rfl⟩ | ⟨d1, rfl, rfl⟩ <;> first | (exfalso; omega) | exact ⟨rfl, sim_rf⟩
theorem S_leave {h : AH} {T : Nat} (hI : Inv h T) : St mX11_leave mX12_leave [] h T := by
  obtain ⟨L, M, da, sa, hK⟩ := id hI
  obtain ⟨k1, k2, k3, k4, k5, k6⟩ := id hK
  refine ⟨0, 0, 0, by decide, (l_leave L k4.1).qI fun x h1 hx => ?_⟩
  rcases hx with ⟨c, rfl, rfl⟩ | ⟨c, rfl, rfl⟩
  · have e : ag71 h (sI h 17 0 0) := fun x hx => funext fun k => rI_ne (by omega)
    refine ⟨0, by decide, lm_89 (h := sI h 17 0 0) M, (c_leave (h := sI h 17 0 0) M).qI fun y h2 hy => ?_⟩
    rw [e 89 (by omega)] at hy
    rcases hy with ⟨d, rfl, rfl⟩ | ⟨d, -⟩
    · refine ⟨rfl, inv_of (h1 := sI h 17 0 0) (g := sI h 89 24 0) L M (da := da) (sa := sa) ?_ (r_sI agR_rf (by decide)) (sim_71 (a_sI e rfl))⟩
      have N : agN h (sI h 89 24 0) := ⟨⟨⟨rI_nk (by decide), rI_nk (by decide)⟩, fun x k a b _ => rI_ne (by omega)⟩, fun k => rI_ne (by decide), ⟨rI_nk (by decide), fun k => rI_ne (by decide)⟩, fun t ht => ⟨rI_ne (by decide), fun k => rI_ne (by omega), fun k => rI_ne (by omega)⟩⟩
      refine ⟨kSta_u k1 (agD_rf rfl (fun _ => rfl) fun x hx => ⟨fun k => rI_ne (by omega), fun _ => rfl⟩) (fun c hc => ⟨fun k => rI_ne (by unfold iSt at hc; omega), fun _ => rfl, fun _ => rfl⟩) N (fun t ht => rI_ne (by decide)), kB_u k2 (rI_ne (by decide)) (fun _ => rfl) N (rI_nk (by decide)) (fun k => rI_ne (by decide)), rZ_u k3 N, kMg_0 rI_same rI_same, ?_, k6⟩
      exact kSm_u k5 (fun x k => x = 17) (fun x k => x = 89 ∧ k = 24) (fun x k _ c => rI_ne c) (fun x k _ _ c => by rw [i_sI, if_neg c]) (kT_u (fun k hk => rI_nk (by omega)) (rI_ne (by decide)) (Nat.le_succ T) k5.2.2.2.2.2.2.2.2)
    · exact absurd d c
  · refine ⟨0, by decide, lm_89 M, (c_leave M).qI fun y h2 hy => ?_⟩
    rcases hy with ⟨d, -⟩ | ⟨d, rfl, rfl⟩
    · exact absurd c d
    · exact ⟨rfl, Inv_s hI⟩
