/-! CELLS THAT CALLS USE AGAIN; WHAT IS FOUND IN THE STAND THAT IS NOW -/
/-- the class's cells but those in S stay -/
def agX (S : Nat → Prop) (h h' : AH) : Prop := nH h' = nH h ∧ (∀ x, kH h' x = kH h x) ∧ (∀ x k, rH h' x k = rH h x k) ∧ ∀ x, ¬ S x → (∀ k, iH h' x k = iH h x k) ∧ ∀ k, jH h' x k = jH h x k
def scL (x : Nat) : Prop := (24 ≤ x ∧ x ≤ 32) ∨ (50 ≤ x ∧ x ≤ 80 ∧ x % 6 = 2)
def scK (x : Nat) : Prop := scL x ∨ x = 21 ∨ x = 22
section
variable {S S' : Nat → Prop} {h h' h'' g : AH} {da sa : Nat → Nat}
theorem agX_rf : agX S h h := ⟨rfl, fun _ => rfl, fun _ _ => rfl, fun _ _ => ⟨fun _ => rfl, fun _ => rfl⟩⟩
theorem agX_tr (e : agX S h h') (e' : agX S h' h'') : agX S h h'' := ⟨e'.1.trans e.1, fun x => (e'.2.1 x).trans (e.2.1 x), fun x k => (e'.2.2.1 x k).trans (e.2.2.1 x k), fun x hx => ⟨fun k => ((e'.2.2.2 x hx).1 k).trans ((e.2.2.2 x hx).1 k), fun k => ((e'.2.2.2 x hx).2 k).trans ((e.2.2.2 x hx).2 k)⟩⟩
theorem agX_mono (m : ∀ x, S x → S' x) (e : agX S h h') : agX S' h h' := ⟨e.1, e.2.1, e.2.2.1, fun x hx => e.2.2.2 x fun q => hx (m x q)⟩
theorem agX_L (e : agX S h h') (hL : LayL h) : LayL h' := ⟨fun q hq => by rw [e.1, e.2.1]; exact hL.1 q hq, fun q hq => by rw [e.2.2.1]; exact hL.2 q hq⟩
theorem agX_D (hS : ∀ x, S x → x < 1191) (e : agX S h h') : agD h h' := agD_rf e.1 e.2.1 fun x hx => ⟨fun k => (e.2.2.2 x fun q => absurd (hS x q) (by omega)).1 k, fun k => e.2.2.1 x k⟩
theorem agX_St (hS : ∀ c, iSt c → ¬ S c ∧ ¬ S (c + 2)) (e : agX S h h') : agSt h h' := fun c hc => ⟨fun k => (e.2.2.2 c (hS c hc).1).1 k, fun k => e.2.2.1 _ k, fun k => (e.2.2.2 (c + 2) (hS c hc).2).2 k⟩
theorem scK_D : ∀ x, scK x → x < 1191 := fun x q => by unfold scK scL at q; omega
theorem scK_St : ∀ c, iSt c → ¬ scK c ∧ ¬ scK (c + 2) := fun c q => by unfold iSt at q; unfold scK scL; omega
theorem kSta_X (e : agX scK h h') (hp : kSta h g da sa) : kSta h' g da sa := ⟨kHd_fr (agX_D scK_D e) (agX_St scK_St e) hp.1, hp.2⟩
theorem cQry_X {a : Nat} {q : Int} (ha : iQu a) (e : agX scK h h') (hq : cQry h g a q) : cQry h' g a q := cQry_cg (e.2.2.2 a (by unfold iQu at ha; unfold scK scL; omega)).1 (fun i h1 h2 => (e.2.2.2 (a + i) (by unfold iQu at ha; unfold scK scL; omega)).1) hq
theorem kQ_X (e : agX scK h h') (hq : kQ h g) : kQ h' g := ⟨by rw [(e.2.2.2 0 (by unfold scK scL; omega)).1]; exact hq.1, hq.2.1, fun q hq1 => cQry_X (ti_qy (by have := hq.2.1; omega)) e (hq.2.2 q hq1)⟩
theorem kPo_X (e : agX scK h h') (hq : kPo h g) : kPo h' g := by
  have e1 := (e.2.2.2 16 (by unfold scK scL; omega)).1
  obtain ⟨⟨q1, q2, q3, q4⟩, q5, q6⟩ := hq
  exact ⟨⟨by rw [e1]; exact q1, q2, by rw [e1]; exact q3, q4⟩, by rw [(e.2.2.2 0 (by unfold scK scL; omega)).1]; exact q5, q6⟩
theorem sr_X {a aq : Nat} {q n : Int} {row : Nat → Int} {dr : Nat → Nat → Prop} (ha : iHi a) (hqa : iQu aq) (hs : p_search h g a aq q n row dr h') : agX scL h h' := by
  obtain ⟨K, W, P, M, rfl, -⟩ := hs
  refine ⟨rfl, fun _ => rfl, fun _ _ => rfl, fun x hx => ⟨fun k => hh_o ?_ ?_ ?_ ?_, fun k => hh_jo ?_⟩⟩ <;> (unfold iHi at ha; unfold iQu at hqa; unfold scL at hx; omega)
theorem scL_K (e : agX scL h h') : agX scK h h' := agX_mono (fun _ q => Or.inl q) e
end
section
variable {h g : AH} {da sa : Nat → Nat} {t : Nat} {q w : Int}
theorem v_cost_t : v_cost g q (iH g 1138 t).toNat (tRow g t) = m_cost g t q := by
  unfold v_cost m_cost
  rw [sumN_swap]
  refine sumN_cg fun j _ => ?_
  unfold u_oc m_oc
  rw [sumN_swap]
  exact sumN_cg fun i _ => rfl
theorem v_ans_t : v_ans g q (iH g 1138 t) (tRow g t) (tDr g t) w = a_ans g t q w := by
  unfold v_ans a_ans m_F
  rw [v_cost_t, v_fd_t]
  rfl
theorem cQry_g {g' : AH} {a : Nat} (e1 : ∀ k, iH g' (1170 + q.toNat) k = iH g (1170 + q.toNat) k) (e2 : iH g' 1176 q.toNat = iH g 1176 q.toNat) (hq : cQry h g a q) : cQry h g' a q := by
  obtain ⟨q1, q2, q3, q4⟩ := hq
  have r : m_row g' q = m_row g q := funext e1
  have n : m_nop g' q = m_nop g q := by unfold m_nop; rw [r, e2]
  refine ⟨⟨q1.1, by rw [r, e2]; exact q1.2⟩, ?_⟩
  rw [r, n]
  exact ⟨q2, q3, q4⟩
theorem kQ_g {g' : AH} (e0 : iH g' 89 30 = iH g 89 30) (e1 : ∀ q, q < 6 → ∀ k, iH g' (1170 + q) k = iH g (1170 + q) k) (e2 : ∀ k, iH g' 1176 k = iH g 1176 k) (hq : kQ h g) : kQ h g' := by
  refine ⟨by rw [e0]; exact hq.1, by rw [e0]; exact hq.2.1, fun q h1 => ?_⟩
  rw [e0] at h1
  exact cQry_g (e1 _ (by have := hq.2.1; omega)) (e2 _) (hq.2.2 q h1)
theorem kQ_6 (hq : kQ h g) : kQ h (m_lay g 6) := kQ_g (rL (by decide) (by decide) (by decide) (by decide)) (fun q hq k => rL (by omega) (by omega) (by omega) (by omega)) (fun k => rL (by decide) (by decide) (by decide) (by decide)) hq
theorem kPo_6 (hq : kPo h g) : kPo h (m_lay g 6) := by
  have e : ∀ k, iH (m_lay g 6) 89 k = iH g 89 k := fun k => rL (by decide) (by decide) (by decide) (by decide)
  obtain ⟨⟨q1, q2, q3, q4⟩, q5, q6⟩ := hq
  exact ⟨⟨by rw [e]; exact q1, by rw [e]; exact q2, by rw [e]; exact q3, by rw [e]; exact q4⟩, by rw [e]; exact q5, by rw [e]; exact q6⟩
/-- the stand that is now, as the reference's stand 6 -/
theorem now_6 (hp : kSta h g da sa) : cStd h (m_lay g 6) sa 5 (iH (m_lay g 6) 1138 6) (tRow (m_lay g 6) 6) (tDr (m_lay g 6) 6) ∧ v_off (m_lay g 6) (tRow (m_lay g 6) 6) (iH (m_lay g 6) 1138 6).toNat ≤ 64 ∧ iH (m_lay g 6) 1138 6 = iH g 89 13 := by
  obtain ⟨⟨⟨hd, hs, hn⟩, hv, hf⟩, hr, hU⟩ := hp
  have hna := nowOf ⟨hd, hs, hn⟩
  have e : m_lay g 6 = m_lay g ((6 : Nat) : Int) := rfl
  rw [e]
  refine ⟨?_, ?_, lay_C⟩
  · exact cStd_mv (agDS_S (lay_DS (by omega)) (segs_520 hs)) (fun _ _ => rfl) lay_C (fun s hs1 => lay_R (by omega) hs1) (fun s k hs1 hk1 => lay_dr (by omega) hna hs1 hk1) rfl (fun _ => rfl) (fun _ => rfl) hn
  · have := hna.1
    rw [v_off_t, lay_C, lay_off (by omega) (by omega)]
    exact hr.2.1
end
