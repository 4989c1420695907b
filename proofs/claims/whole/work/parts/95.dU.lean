/-! ONE CALL OF THE LAW: THOSE THAT CHANGE NOTHING -/
/-- class y's method, then the reference's z: one answer, and what holds holds again -/
def St (y z : MI) (as : List AV) (h : AH) (T : Nat) : Prop := ∃ d mc ms : Nat, (d ≤ 60 ∧ mc ≤ 5 ∧ ms ≤ 2375) ∧ Ct d mc ms y (vr 0 :: as) h (QI fun x h1 => ∃ d' : Nat, d' ≤ 60 ∧ (89 < nH h1 ∧ kH h1 89 = (12, 0)) ∧ Ct d' 0 0 z (vr 89 :: as) h1 (QI fun y h2 => x = y ∧ Inv h2 (T + 1)))
def ag71 (h h1 : AH) : Prop := ∀ x, 89 ≤ x → iH h1 x = iH h x
section
variable {h h1 h2 g : AH} {da sa : Nat → Nat} {T : Nat}
theorem K_s (hK : K h g da sa T) : K h g da sa (T + 1) := by
  obtain ⟨k1, k2, k3, k4, ⟨q1, q2, q3, q4, q5, q6, q7, q8, q9⟩, k6⟩ := hK
  exact ⟨k1, k2, k3, k4, ⟨q1, q2, q3, q4, q5, q6, q7, q8, kT_u (fun _ _ => rfl) rfl (Nat.le_succ T) q9⟩, k6⟩
theorem Inv_s (hI : Inv h T) : Inv h (T + 1) := by
  obtain ⟨L, M, da, sa, hK⟩ := hI
  exact ⟨L, M, da, sa, K_s hK⟩
theorem agX_71 (e : agX scK h h1) : ag71 h h1 := fun x hx => funext fun k => (e.2.2.2 x (by unfold scK scL; omega)).1 k
theorem agX_M {S : Nat → Prop} (e : agX S h h1) (hL : LayM h) : LayM h1 := ⟨fun q hq => by rw [e.1, e.2.1]; exact hL.1 q hq, fun q hq => by rw [e.2.2.1]; exact hL.2.1 q hq, fun q hq i hi => by rw [e.1, e.2.1, e.2.2.1]; exact hL.2.2 q hq i hi⟩
theorem sim_71 (e : ag71 h h1) : simS h h1 := fun x k a _ _ => congrFun (e x a) k
theorem agR_rf : agR h h := ⟨rfl, fun _ => rfl, fun _ _ => rfl, fun _ _ => rfl, fun _ _ _ => rfl⟩
theorem AgQ_71 (e : ag71 h h1) : AgQ h h1 := fun a k h1 _ _ => congrFun (e a (by omega)) k
/-- rows that the class uses again -/
theorem K_X (e : agX scL h h1) (hK : K h g da sa T) : K h1 g da sa T := by
  obtain ⟨k1, k2, k3, k4, k5, k6⟩ := hK
  have eK := scL_K e
  refine ⟨kSta_X eK k1, ?_, k3, ?_, ?_, by rw [e.1]; exact k6⟩
  · obtain ⟨⟨b1, b2, b3⟩, hB⟩ := k2
    exact ⟨⟨by rw [(e.2.2.2 0 (by unfold scL; omega)).1]; exact b1, b2, fun i hi => by rw [e.2.2.1]; exact b3 i hi⟩, hB⟩
  · exact kMg_u k4 (fun k _ => (e.2.2.2 17 (by unfold scL; omega)).1 k) (fun k => (e.2.2.2 18 (by unfold scL; omega)).2 k) (fun _ _ _ => rfl) (fun _ => rfl) (Int.le_refl _) (fun _ _ => rfl) (fun _ _ => ⟨rfl, fun _ => rfl⟩) (row_b k1)
  · exact kSm_u k5 (fun x k => (24 ≤ x ∧ x ≤ 32) ∨ (50 ≤ x ∧ x ≤ 80 ∧ x % 6 = 2)) (fun _ _ => False) (fun x k _ hx => (e.2.2.2 x hx).1 k) (fun _ _ _ _ _ => rfl) k5.2.2.2.2.2.2.2.2
theorem K_self (e : ag71 h h1) (hK : K h1 h da sa T) : K h1 h1 da sa T := K_sim hK agR_rf (sim_71 e)
theorem agR_scr (hs : m_scr h1 h2) : agR h1 h2 := by
  rcases hs with rfl | ⟨n, sm, f, w, hp, rfl⟩
  · exact agR_rf
  · exact ⟨rfl, fun _ => rfl, fun _ _ => rfl, fun _ _ => rfl, fun x k hx => r_fH (by omega) (by omega) (by omega) (by omega)⟩
theorem sim_scr (e : ag71 h h1) (hs : m_scr h1 h2) : simS h h2 := fun x k a b c => by
  by_cases e71 : x = 89
  · subst e71
    rw [r_scr71 hs (by unfold SR at c; omega) (by unfold SR at c; omega), e 89 (by omega)]
  · rw [r_scr hs e71 (by unfold SR at c; omega) (by unfold SR at c; omega) (by unfold SR at c; omega), e x a]
theorem a_oth_71 {s t q : Int} (e : ag71 h h1) (hb : 0 ≤ s ∧ s ≤ 3) (hn : m_stT h t) (hq : m_qok h q) : a_oth h1 s t q = a_oth h s t q := by
  unfold a_oth
  have eF := m_F_cg (AgQ_71 e) hn hq
  have eP : m_othP h1 (m_F h1 t q) s.toNat = m_othP h (m_F h t q) s.toNat := by
    funext k
    unfold m_othP
    rw [eF, e 90 (by omega), e (1186 + s.toNat) (by omega)]
  rw [eP, e 1184 (by omega), eF]
end
theorem S_where {h : AH} {T : Nat} (hI : Inv h T) {a : Int} : St mX11_where mX12_where [vi a] h T := by
  obtain ⟨L, M, da, sa, hK⟩ := id hI
  refine ⟨2, 0, 0, by decide, (l_where L ⟨hK.1.1.1, hK.2.1.1⟩).qI fun x h1 hx => ?_⟩
  obtain ⟨rfl, rfl⟩ := hx
  exact ⟨2, by decide, lm_89 M, (c_where M (pK_buf hK) (pK_now hK)).qI fun y h2 hy => ⟨hy.1.symm, by rw [hy.2]; exact Inv_s hI⟩⟩
theorem S_told {h : AH} {T : Nat} (hI : Inv h T) {a b : Int} : St mX11_told mX12_told [vi a, vi b] h T := by
  obtain ⟨L, M, da, sa, hK⟩ := id hI
  have po : kPo h h := hK.2.2.2.2.1.2.1
  refine ⟨4, 0, 0, by decide, (l_told L ⟨hK.1.1.1, po.1, hK.1.1.2⟩).qI fun x h1 hx => ?_⟩
  obtain ⟨rfl, rfl⟩ := hx
  exact ⟨3, by decide, lm_89 M, (c_told M (pK_nowd hK) po.1.2.2.2 (pK_std hK)).qI fun y h2 hy => ⟨hy.1.symm, by rw [hy.2]; exact Inv_s hI⟩⟩
theorem S_doc {h : AH} {T : Nat} (hI : Inv h T) {a b c : Int} : St mX11_doc mX12_doc [vi a, vi b, vi c] h T := by
  obtain ⟨L, M, da, sa, hK⟩ := id hI
  refine ⟨1, 0, 0, by decide, (l_doc L hK.1.1.1).qI fun x h1 hx => ?_⟩
  obtain ⟨rfl, rfl⟩ := hx
  exact ⟨2, by decide, lm_89 M, (c_doc M (pK_now hK)).qI fun y h2 hy => ⟨hy.1.symm, by rw [hy.2]; exact Inv_s hI⟩⟩
theorem S_word {h : AH} {T : Nat} (hI : Inv h T) {a b c : Int} : St mX11_word mX12_word [vi a, vi b, vi c] h T := by
  obtain ⟨L, M, da, sa, hK⟩ := id hI
  refine ⟨1, 0, 0, by decide, (l_word L hK.1.1.1).qI fun x h1 hx => ?_⟩
  obtain ⟨rfl, rfl⟩ := hx
  exact ⟨2, by decide, lm_89 M, (c_word M (pK_nowd hK)).qI fun y h2 hy => ⟨hy.1.symm, by rw [hy.2]; exact Inv_s hI⟩⟩
theorem S_taken {h : AH} {T : Nat} (hI : Inv h T) {a : Int} : St mX11_taken mX12_taken [vi a] h T := by
  obtain ⟨L, M, da, sa, hK⟩ := id hI
  have po : kPo h h := hK.2.2.2.2.1.2.1
  refine ⟨1, 0, 0, by decide, (l_taken L po.1).qI fun x h1 hx => ?_⟩
  obtain ⟨rfl, rfl⟩ := hx
  exact ⟨1, by decide, lm_89 M, (c_taken M).qI fun y h2 hy => ⟨hy.1.symm, by rw [hy.2]; exact Inv_s hI⟩⟩
theorem S_choice {h : AH} {T : Nat} (hI : Inv h T) {a : Int} : St mX11_choice mX12_choice [vi a] h T := by
  obtain ⟨L, M, da, sa, hK⟩ := id hI
  have po : kPo h h := hK.2.2.2.2.1.2.1
  refine ⟨7, 0, 0, by decide, (l_choice L ⟨po.1, hK.1.1.1⟩).qI fun x h1 hx => ?_⟩
  obtain ⟨rfl, rfl⟩ := hx
  exact ⟨5, by decide, lm_89 M, (c_choice M (pK_pol hK)).qI fun y h2 hy => ⟨hy.1.symm, by rw [hy.2]; exact Inv_s hI⟩⟩
/-- stand 6 laid: nothing that is coupled hangs on it -/
theorem K_6 {h g : AH} {da sa : Nat → Nat} {T : Nat} (hK : K h g da sa T) : K h (m_lay g 6) da sa T := by
  obtain ⟨k1, k2, k3, k4, k5, k6⟩ := hK
  have N := lay6_N (g := g)
  have x0 : ∀ x k, x ≠ 1140 + 6 → x ≠ 1148 + 6 → (x ≠ 1137 ∨ k ≠ 6) → (x ≠ 1138 ∨ k ≠ 6) → iH (m_lay g 6) x k = iH g x k := fun x k a b c d => lay_x (t := 6) a b c d
  refine ⟨kSta_6 k1, kB_u k2 rfl (fun _ => rfl) N lay_71 (fun k => x0 _ _ (by decide) (by decide) (by omega) (by omega)), rZ_u k3 N, ?_, ?_, k6⟩
  · exact kMg_u k4 (fun _ _ => rfl) (fun _ => rfl) (fun k _ _ => lay_71) (fun k => x0 _ _ (by decide) (by decide) (by omega) (by omega)) (Int.le_of_eq lay_71.symm) (fun s _ => x0 _ _ (by decide) (by decide) (by omega) (by omega)) (fun x hx => by
      have := segs_520 k1.1.1.2.1
      exact ⟨x0 _ _ (by decide) (by decide) (by omega) (by omega), fun k => x0 _ _ (by omega) (by omega) (by omega) (by omega)⟩) (row_b k1)
  · have q := k5.2.2.2.2.2.2.2.2
    have s8 := k1.1.1.2.2.2.1
    have c6 : iH (m_lay g 6) 1138 6 = iH g 89 13 := lay_C (t := 6)
    refine kSm_u k5 (fun _ _ => False) (fun x k => x = 1137 ∨ x = 1138 ∨ x = 1146 ∨ x = 1154) (fun _ _ _ _ => rfl) (fun x k a b c => x0 x k (by omega) (by omega) (by omega) (by omega)) ?_
    unfold kT at *
    rw [lay_71, lay_71, lay_71, lay_71, c6]
    exact ⟨q.1, q.2.1, q.2.2.1, q.2.2.2.1, s8⟩
theorem agR_lay {h : AH} {t : Int} (ht : 0 ≤ t ∧ t < 7) : agR h (m_lay h t) := ⟨rfl, fun _ => rfl, fun _ _ => rfl, fun _ _ => rfl, fun x k hx => rL (by omega) (by omega) (by omega) (by omega)⟩
theorem S_count {h : AH} {T : Nat} (hI : Inv h T) (hT : T < 512) {a : Int} : St mX11_count mX12_count [vi a] h T := by
  obtain ⟨L, M, da, sa, hK⟩ := id hI
  obtain ⟨k1, k2, k3, k4, ⟨q1, q2, q3, q4, q5, q6, q7, q8, q9⟩, k6⟩ := id hK
  refine ⟨3, 0, 0, by decide, (l_count L k1.1 k1.2.1.1 q1 k2.1 q6.1 q3.1 k4.1 q5).qI fun x h1 hx => ?_⟩
  obtain ⟨rfl, rfl⟩ := hx
  refine ⟨3, by decide, lm_89 M, (c_count M (pK_nowL hK) k2.1.2.1 q1.2 (pK_std hK) ⟨q5.2.1.2, by have := q9.2.2.2.1; omega⟩).qI fun y h2 hy => ⟨hy.1.symm, ?_⟩⟩
  rcases hy.2 with rfl | rfl
  · exact Inv_s hI
  · exact inv_of L M (K_s (K_6 hK)) (agR_lay (by omega)) (fun _ _ _ _ _ => rfl)
theorem S_found {h : AH} {T : Nat} (hI : Inv h T) {v q w : Int} : St mX11_found mX12_found [vi v, vi q, vi w] h T := by
  obtain ⟨L, M, da, sa, hK⟩ := id hI
  have kq : kQ h h := hK.2.2.2.2.1.2.2.2.2.2.1
  refine ⟨7, 0, 0, by decide, (l_found L hK.1 kq).qI fun x h1 hx => ?_⟩
  obtain ⟨L1, hx⟩ := hx
  have c6 := kq.2.1
  have ag : agX scL h h1 := by
    rcases hx with ⟨-, -, rfl⟩ | ⟨-, -, -, rfl⟩ | ⟨c, -, -, rfl | hs⟩
    · exact agX_rf
    · exact agX_rf
    · exact agX_rf
    · exact sr_X (Or.inl rfl) (ti_qy (by omega)) hs
  have e := agX_71 (scL_K ag)
  have K1 := K_self e (K_X ag hK)
  refine ⟨6, by decide, lm_89 (agX_M ag M), (c_found (agX_M ag M) (pK_qs K1) (pK_gSv K1)).qI fun y h2 hy => ?_⟩
  have e30 : iH h1 89 30 = iH h 89 30 := by rw [e 89 (by omega)]
  have eT : iH h1 1137 v.toNat = iH h 1137 v.toNat := by rw [e 1137 (by omega)]
  have hs : m_scr h1 h2 := by
    rcases hy with ⟨-, -, rfl⟩ | ⟨-, -, -, rfl⟩ | ⟨-, -, -, hs⟩
    · exact Or.inl rfl
    · exact Or.inl rfl
    · exact hs
  refine ⟨?_, inv_of L1 (agX_M ag M) (K_s (K_X ag hK)) (agR_scr hs) (sim_scr e hs)⟩
  unfold p_found m_asked at hy
  rw [e30, eT] at hy
  unfold m_asked at hx
  rcases hx with ⟨c, rfl, -⟩ | ⟨c, c2, rfl, -⟩ | ⟨c, c2, rfl, -⟩
  · rcases hy with ⟨-, rfl, -⟩ | ⟨d, -⟩ | ⟨d, -⟩
    · rfl
    · omega
    · omega
  · rcases hy with ⟨d, -⟩ | ⟨d, d2, rfl, -⟩ | ⟨d, d2, -⟩
    · omega
    · rfl
    · exact absurd c2 d2
  · rcases hy with ⟨d, -⟩ | ⟨d, d2, -⟩ | ⟨d, d2, rfl, -⟩
    · omega
    · exact absurd d2 c2
    · have gs := pK_gSv hK v c.1.1 c.1.2 c2
      have qk := (pK_qs hK).2 q c.2.1.1 c.2.1.2
      rw [a_ans_cg (AgQ_71 e) gs.1 gs.2 qk]
      have := v_ans_t (g := h) (t := v.toNat) (q := q) (w := w)
      rw [Int.toNat_of_nonneg c.1.1] at this
      exact this
theorem S_tells {h : AH} {T : Nat} (hI : Inv h T) {s v q w : Int} : St mX11_tells mX12_tells [vi s, vi v, vi q, vi w] h T := by
  obtain ⟨L, M, da, sa, hK⟩ := id hI
  obtain ⟨k1, k2, k3, k4, ⟨q1, q2, q3, q4, q5, q6, q7, q8, q9⟩, k6⟩ := id hK
  refine ⟨7, 0, 0, by decide, (l_tells L k1 q6 q4 q7).qI fun x h1 hx => ?_⟩
  obtain ⟨L1, ag, hx⟩ := hx
  have e := agX_71 (scL_K ag)
  have K1 := K_self e (K_X ag hK)
  refine ⟨6, by decide, lm_89 (agX_M ag M), (c_tells (agX_M ag M) (pK_qs K1) (pK_sh K1) (pK_gSv K1)).qI fun y h2 hy => ?_⟩
  have hs : m_scr h1 h2 := by
    rcases hy with ⟨-, -, rfl⟩ | ⟨-, -, -, rfl⟩ | ⟨-, -, -, -, rfl⟩ | ⟨-, -, -, -, hs⟩
    · exact Or.inl rfl
    · exact Or.inl rfl
    · exact Or.inl rfl
    · exact hs
  refine ⟨?_, inv_of L1 (agX_M ag M) (K_s (K_X ag hK)) (agR_scr hs) (sim_scr e hs)⟩
  have e30 : iH h1 89 30 = iH h 89 30 := by rw [e 89 (by omega)]
  have eT : iH h1 1137 = iH h 1137 := e _ (by omega)
  have eS : iH h1 1183 = iH h 1183 := e _ (by omega)
  unfold p_tells m_telOK at hy
  rw [e30, eT, eS] at hy
  unfold p_tells m_telOK at hx
  have eA : ((0 ≤ s ∧ s ≤ 3) ∧ (0 ≤ v ∧ v ≤ 3) ∧ (0 ≤ q ∧ q ≤ iH h 89 30 - 1) ∧ (0 ≤ w ∧ w ≤ 2)) → iH h 1137 v.toNat ≠ 0 → a_tells h1 s v q w = a_tells h s v q w := fun c c2 => by
    have oth : ∀ v' q' : Int, 0 ≤ v' → v' ≤ 3 → 0 ≤ q' → q' ≤ iH h 89 30 - 1 → a_oth h1 s v' q' = a_oth h s v' q' := fun v' q' a1 a2 a3 a4 => by
      have gs := pK_gS hK (t := v'.toNat) (by omega)
      rw [Int.toNat_of_nonneg a1] at gs
      exact a_oth_71 e c.1 gs.1 ((pK_qs hK).2 q' a3 a4)
    have bc : ∀ (p p' : Nat → Prop) (n : Nat), (∀ i, i < n → (p i ↔ p' i)) → m_bits p n = m_bits p' n := by
      intro p p' n
      induction n with
      | zero => intro _; rfl
      | succ n ih =>
        intro hh
        by_cases d : p n
        · rw [m_bits_y d, m_bits_y ((hh n (by omega)).mp d), ih fun i hi => hh i (by omega)]
        · rw [m_bits_n d, m_bits_n (fun u => d ((hh n (by omega)).mpr u)), ih fun i hi => hh i (by omega)]
    unfold a_tells
    rw [oth v q c.2.1.1 c.2.1.2 c.2.2.1.1 c.2.2.1.2, e30]
    have b1 : m_bits (fun i => a_oth h1 s v i = -1) (iH h 89 30).toNat = m_bits (fun i => a_oth h s v i = -1) (iH h 89 30).toNat := bc _ _ _ fun i hi => by rw [oth v i c.2.1.1 c.2.1.2 (by omega) (by omega)]
    have b2 : m_bits (fun i => iH h1 1137 i ≠ 0 ∧ a_oth h1 s i q = -1) 4 = m_bits (fun i => iH h 1137 i ≠ 0 ∧ a_oth h s i q = -1) 4 := bc _ _ _ fun i hi => by rw [eT, oth i q (by omega) (by omega) c.2.2.1.1 c.2.2.1.2]
    rw [b1, b2]
  rcases hx with ⟨c, rfl, -⟩ | ⟨c, c2, rfl, -⟩ | ⟨c, c2, c3, rfl, -⟩ | ⟨c, c2, c3, rfl, -⟩
  · rcases hy with ⟨-, rfl, -⟩ | ⟨d, -⟩ | ⟨d, -⟩ | ⟨d, -⟩
    · rfl
    all_goals exact absurd d c
  · rcases hy with ⟨d, -⟩ | ⟨d, d2, rfl, -⟩ | ⟨d, d2, -⟩ | ⟨d, d2, -⟩
    · exact absurd c d
    · rfl
    all_goals exact absurd c2 d2
  · rcases hy with ⟨d, -⟩ | ⟨d, d2, -⟩ | ⟨d, d2, d3, rfl, -⟩ | ⟨d, d2, d3, -⟩
    · exact absurd c d
    · exact absurd d2 c2
    · rfl
    · omega
  · rcases hy with ⟨d, -⟩ | ⟨d, d2, -⟩ | ⟨d, d2, d3, -⟩ | ⟨d, d2, d3, rfl, -⟩
    · exact absurd c d
    · exact absurd d2 c2
    · omega
    · exact (eA c c2).symm
