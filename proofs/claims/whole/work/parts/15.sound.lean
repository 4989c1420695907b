section SOUND
variable {y : MI} {d rc rs : Nat} {Q : Option AV → AH → Prop} {pc q : Nat} {lo : List (Option AV)} {st st' : List AV} {h : AH}
theorem inb_ok {v : Int} (h : inb v = true) : inr v := by
  simp only [inb, Bool.and_eq_true, decide_eq_true_eq] at h
  exact h
theorem isI_e {t : FieldType} (h : isI t = true) : t = .int := by cases t <;> first | rfl | cases h
theorem isZ_e {t : FieldType} (h : isZ t = true) : t = .boolean := by cases t <;> first | rfl | cases h
theorem isQ_e {t : FieldType} (h : isQ t = true) : (∃ C, t = .object C) ∨ ∃ u, t = .array u := by
  cases t <;> first | exact Or.inl ⟨_, rfl⟩ | exact Or.inr ⟨_, rfl⟩ | cases h
theorem pair_e {h : AH} {a t : Nat} (e : (kH h a).1 = t) : kH h a = (t, (kH h a).2) := by rw [← e]
theorem fin_e {y : MI} {c k : Nat} (h : ((!(tf c k).2.2.2) || (decide ((tf c k).1 = y.1.cls) && decide ((tf c k).1 = rx c) && decide (y.1.name = "<init>"))) = true) : (tf c k).2.2.2 = false ∨ ((tf c k).1 = y.1.cls ∧ (tf c k).1 = rx c ∧ y.1.name = "<init>") := by
  simp only [Bool.or_eq_true, Bool.and_eq_true, decide_eq_true_eq, Bool.not_eq_true'] at h
  rcases h with h | h
  · exact Or.inl h
  · exact Or.inr ⟨h.1.1, h.1.2, h.2⟩
set_option maxHeartbeats 4000000 in
theorem st1_ok {o : Nat} {e : IE} (ho : y.1.cls = rx o) (hd : decode y.2.1 pc = .ok (e.1, e.2.1)) (hc : chkE y o e = true) (hk : st1 e lo st h (fun lo st h => wp y d rc rs Q (pc + e.2.1) lo st h)) : wp y d rc rs Q pc lo st h := by
  obtain ⟨i, n, v, c, k, f⟩ := e
  dsimp only at hd hk
  cases i
  case iconst u =>
    simp only [chkE, Bool.and_eq_true, decide_eq_true_eq] at hc
    obtain ⟨⟨rfl, rfl⟩, hv⟩ := hc
    exact w_push _ (inb_ok hv) hd (Or.inl ⟨rfl, rfl⟩) hk
  case bipush u =>
    simp only [chkE, Bool.and_eq_true, decide_eq_true_eq] at hc
    obtain ⟨⟨rfl, h2⟩, hv⟩ := hc
    exact w_push _ (inb_ok hv) hd (Or.inr (Or.inl ⟨_, rfl, rfl, h2⟩)) hk
  case sipush u =>
    simp only [chkE, Bool.and_eq_true, decide_eq_true_eq] at hc
    obtain ⟨⟨rfl, h2⟩, hv⟩ := hc
    exact w_push _ (inb_ok hv) hd (Or.inr (Or.inr ⟨_, rfl, rfl, h2⟩)) hk
  case lconst u =>
    simp only [chkE, Bool.and_eq_true, decide_eq_true_eq] at hc
    obtain ⟨rfl, h2⟩ := hc
    exact w_lconst hd h2 hk
  case iload_n u =>
    simp only [chkE, Bool.and_eq_true, decide_eq_true_eq] at hc
    obtain ⟨rfl, h2⟩ := hc
    obtain ⟨x, h3, h4⟩ := lI_e hk
    exact w_iload hd (Or.inl ⟨u, rfl, h2, rfl⟩) h3 h4
  case iload u =>
    simp only [chkE, Bool.and_eq_true, decide_eq_true_eq] at hc
    obtain ⟨rfl, rfl⟩ := hc
    obtain ⟨x, h3, h4⟩ := lI_e hk
    exact w_iload hd (Or.inr ⟨rfl, rfl⟩) h3 h4
  case aload_n u =>
    simp only [chkE, Bool.and_eq_true, decide_eq_true_eq] at hc
    obtain ⟨rfl, h2⟩ := hc
    obtain ⟨x, h3, h4⟩ := lR_e hk
    exact w_aload hd (Or.inl ⟨u, rfl, h2, rfl⟩) h3 h4
  case aload u =>
    simp only [chkE, Bool.and_eq_true, decide_eq_true_eq] at hc
    obtain ⟨rfl, rfl⟩ := hc
    obtain ⟨x, h3, h4⟩ := lR_e hk
    exact w_aload hd (Or.inr ⟨rfl, rfl⟩) h3 h4
  case lload_n u =>
    simp only [chkE, Bool.and_eq_true, decide_eq_true_eq] at hc
    obtain ⟨rfl, h2⟩ := hc
    obtain ⟨x, h3, h4⟩ := lL_e hk
    exact w_lload hd h2 h3 h4
  case istore_n u =>
    simp only [chkE, Bool.and_eq_true, decide_eq_true_eq] at hc
    obtain ⟨⟨rfl, h2⟩, h5⟩ := hc
    obtain ⟨x, r, rfl, h3, h4⟩ := pI_e hk
    exact w_istore hd (Or.inl ⟨u, rfl, h2, rfl⟩) h5 h3 h4
  case istore u =>
    simp only [chkE, Bool.and_eq_true, decide_eq_true_eq] at hc
    obtain ⟨⟨rfl, rfl⟩, h5⟩ := hc
    obtain ⟨x, r, rfl, h3, h4⟩ := pI_e hk
    exact w_istore hd (Or.inr ⟨rfl, rfl⟩) h5 h3 h4
  case astore_n u =>
    simp only [chkE, Bool.and_eq_true, decide_eq_true_eq] at hc
    obtain ⟨⟨rfl, h2⟩, h5⟩ := hc
    obtain ⟨x, r, rfl, h3, h4⟩ := pR_e hk
    exact w_astore hd (Or.inl ⟨u, rfl, h2, rfl⟩) h5 h3 h4
  case astore u =>
    simp only [chkE, Bool.and_eq_true, decide_eq_true_eq] at hc
    obtain ⟨⟨rfl, rfl⟩, h5⟩ := hc
    obtain ⟨x, r, rfl, h3, h4⟩ := pR_e hk
    exact w_astore hd (Or.inr ⟨rfl, rfl⟩) h5 h3 h4
  case lstore_n u =>
    simp only [chkE, Bool.and_eq_true, decide_eq_true_eq] at hc
    obtain ⟨⟨rfl, h2⟩, h5⟩ := hc
    obtain ⟨x, r, rfl, h3, h4⟩ := pL_e hk
    exact w_lstore hd h2 h5 h3 h4
  case iinc u w =>
    simp only [chkE, Bool.and_eq_true, decide_eq_true_eq] at hc
    obtain ⟨⟨⟨rfl, rfl⟩, rfl⟩, h5⟩ := hc
    obtain ⟨x, h3, h4, h6, h7⟩ := lI_e hk
    exact w_iinc hd h3 h4 h5 h6 h7
  case iadd =>
    simp only [chkE, decide_eq_true_eq] at hc
    subst hc
    obtain ⟨z, r, rfl, h1⟩ := pI_e hk
    obtain ⟨x, r, rfl, h2, h3⟩ := pI_e h1
    exact w_iadd hd h2 h3
  case isub =>
    simp only [chkE, decide_eq_true_eq] at hc
    subst hc
    obtain ⟨z, r, rfl, h1⟩ := pI_e hk
    obtain ⟨x, r, rfl, h2, h3⟩ := pI_e h1
    exact w_isub hd h2 h3
  case imul =>
    simp only [chkE, decide_eq_true_eq] at hc
    subst hc
    obtain ⟨z, r, rfl, h1⟩ := pI_e hk
    obtain ⟨x, r, rfl, h2, h3⟩ := pI_e h1
    exact w_imul hd h2 h3
  case idiv =>
    simp only [chkE, decide_eq_true_eq] at hc
    subst hc
    obtain ⟨z, r, rfl, h1⟩ := pI_e hk
    obtain ⟨x, r, rfl, ⟨h2, h3, h4⟩, h5⟩ := pI_e h1
    exact w_idiv hd h2 h3 h4 h5
  case irem =>
    simp only [chkE, decide_eq_true_eq] at hc
    subst hc
    obtain ⟨z, r, rfl, h1⟩ := pI_e hk
    obtain ⟨x, r, rfl, ⟨h2, h3, h4⟩, h5⟩ := pI_e h1
    exact w_irem hd h2 h3 h4 h5
  case iand =>
    simp only [chkE, decide_eq_true_eq] at hc
    subst hc
    obtain ⟨z, r, rfl, h1⟩ := pI_e hk
    obtain ⟨x, r, rfl, h2⟩ := pI_e h1
    exact w_iand hd h2
  case ior =>
    simp only [chkE, decide_eq_true_eq] at hc
    subst hc
    obtain ⟨z, r, rfl, h1⟩ := pI_e hk
    obtain ⟨x, r, rfl, h2⟩ := pI_e h1
    exact w_ior hd h2
  case ishl =>
    simp only [chkE, decide_eq_true_eq] at hc
    subst hc
    obtain ⟨z, r, rfl, h1⟩ := pI_e hk
    obtain ⟨x, r, rfl, h2⟩ := pI_e h1
    exact w_ishl hd h2
  case i2b =>
    simp only [chkE, decide_eq_true_eq] at hc
    subst hc
    obtain ⟨x, r, rfl, h2⟩ := pI_e hk
    exact w_i2b hd h2
  case ineg =>
    simp only [chkE, decide_eq_true_eq] at hc
    subst hc
    obtain ⟨x, r, rfl, h2, h3⟩ := pI_e hk
    exact w_ineg hd h2 h3
  case l2i =>
    simp only [chkE, decide_eq_true_eq] at hc
    subst hc
    obtain ⟨x, r, rfl, h2⟩ := pL_e hk
    exact w_l2i hd h2
  case ladd =>
    simp only [chkE, decide_eq_true_eq] at hc
    subst hc
    obtain ⟨z, r, rfl, h1⟩ := pL_e hk
    obtain ⟨x, r, rfl, h2⟩ := pL_e h1
    exact w_ladd hd h2
  case lsub =>
    simp only [chkE, decide_eq_true_eq] at hc
    subst hc
    obtain ⟨z, r, rfl, h1⟩ := pL_e hk
    obtain ⟨x, r, rfl, h2⟩ := pL_e h1
    exact w_lsub hd h2
  case land =>
    simp only [chkE, decide_eq_true_eq] at hc
    subst hc
    obtain ⟨z, r, rfl, h1⟩ := pL_e hk
    obtain ⟨x, r, rfl, h2⟩ := pL_e h1
    exact w_land hd h2
  case lor =>
    simp only [chkE, decide_eq_true_eq] at hc
    subst hc
    obtain ⟨z, r, rfl, h1⟩ := pL_e hk
    obtain ⟨x, r, rfl, h2⟩ := pL_e h1
    exact w_lor hd h2
  case lshl =>
    simp only [chkE, decide_eq_true_eq] at hc
    subst hc
    obtain ⟨z, r, rfl, h1⟩ := pI_e hk
    obtain ⟨x, r, rfl, h2⟩ := pL_e h1
    exact w_lshl hd h2
  case lushr =>
    simp only [chkE, decide_eq_true_eq] at hc
    subst hc
    obtain ⟨z, r, rfl, h1⟩ := pI_e hk
    obtain ⟨x, r, rfl, h2⟩ := pL_e h1
    exact w_lushr hd h2
  case lcmp =>
    simp only [chkE, decide_eq_true_eq] at hc
    subst hc
    obtain ⟨z, r, rfl, h1⟩ := pL_e hk
    obtain ⟨x, r, rfl, h2⟩ := pL_e h1
    exact w_lcmp hd h2
  case dup =>
    simp only [chkE, decide_eq_true_eq] at hc
    subst hc
    obtain ⟨x, r, rfl, h1, h2⟩ := pV_e hk
    exact w_dup hd h1 h2
  case dup2 =>
    simp only [chkE, decide_eq_true_eq] at hc
    subst hc
    obtain ⟨x, r, rfl, h1, h2⟩ := pV_e hk
    obtain ⟨w, r, rfl, h3, h4⟩ := pV_e h2
    exact w_dup2 hd h1 h3 h4
  case pop =>
    simp only [chkE, decide_eq_true_eq] at hc
    subst hc
    obtain ⟨x, r, rfl, h1, h2⟩ := pV_e hk
    exact w_pop hd h1 h2
  case getfield u =>
    simp only [chkE, Bool.and_eq_true, decide_eq_true_eq] at hc
    obtain ⟨⟨rfl, h2⟩, h3⟩ := hc
    obtain ⟨a, r, rfl, ⟨h4, h5⟩, h6⟩ := pR_e hk
    match f, h3, h6 with
    | 0, h3, h6 =>
      refine w_get ho hd h2 h4 h5 (v := vi (iH h a k)) (fun b => ?_) (fun hr => hr a k) h6
      have h3' : (fR c).getD k false = false := by simpa using h3
      unfold ov; rw [h3']; rfl
    | f + 1, h3, h6 =>
      obtain ⟨b0, hb0, h7⟩ := h6
      refine w_get ho hd h2 h4 h5 (v := vq (rH h a k)) (fun b => ?_) (fun hr => trivial) (by rw [hb0]; exact h7)
      have h3' : (fR c).getD k false = true := h3
      unfold ov; rw [h3']; rfl
  case putfield u =>
    simp only [chkE, chkP, Bool.and_eq_true, decide_eq_true_eq] at hc
    obtain ⟨⟨rfl, h2⟩, h3, h3'⟩ := hc
    have hfin := fin_e h3
    match f, h3', hk with
    | 0, h3', hk =>
      obtain ⟨x, r, rfl, h4⟩ := pI_e hk
      obtain ⟨a, r, rfl, ⟨h5, h6⟩, h7⟩ := pR_e h4
      simp only [Bool.and_eq_true, Bool.not_eq_true'] at h3'
      exact w_putI ho hd h2 hfin ⟨h3'.2, Or.inl (isI_e h3'.1)⟩ h5 h6 h7
    | 1, h3', hk =>
      obtain ⟨x, r, rfl, h4⟩ := pR_e hk
      obtain ⟨a, r, rfl, ⟨h5, h6⟩, h7⟩ := pR_e h4
      simp only [Bool.and_eq_true] at h3'
      exact w_putR ho hd h2 hfin ⟨h3'.2, isQ_e h3'.1⟩ h5 h6 h7
    | f + 2, h3', hk =>
      obtain ⟨x, r, rfl, h4⟩ := pI_e hk
      obtain ⟨a, r, rfl, ⟨h5, h6⟩, h8, h7⟩ := pR_e h4
      simp only [Bool.and_eq_true, Bool.not_eq_true'] at h3'
      exact w_putI ho hd h2 hfin ⟨h3'.2, Or.inr ⟨isZ_e h3'.1, h8⟩⟩ h5 h6 h7
  case iaload =>
    simp only [chkE, decide_eq_true_eq] at hc
    subst hc
    obtain ⟨x, r, rfl, h1⟩ := pI_e hk
    obtain ⟨a, r, rfl, ⟨h2, h3, h4, h5⟩, h6⟩ := pR_e h1
    exact w_iald hd h2 (pair_e h3) h4 h5 h6
  case baload =>
    simp only [chkE, decide_eq_true_eq] at hc
    subst hc
    obtain ⟨x, r, rfl, h1⟩ := pI_e hk
    obtain ⟨a, r, rfl, ⟨h2, h3, h4, h5⟩, h6⟩ := pR_e h1
    exact w_bald hd h2 (pair_e h3) h4 h5 h6
  case laload =>
    simp only [chkE, decide_eq_true_eq] at hc
    subst hc
    obtain ⟨x, r, rfl, h1⟩ := pI_e hk
    obtain ⟨a, r, rfl, ⟨h2, h3, h4, h5⟩, h6⟩ := pR_e h1
    exact w_lald hd h2 (pair_e h3) h4 h5 h6
  case aaload =>
    simp only [chkE, decide_eq_true_eq] at hc
    subst hc
    obtain ⟨x, r, rfl, h1⟩ := pI_e hk
    obtain ⟨a, r, rfl, ⟨h2, h3, h3', h4, h5⟩, b0, hb0, h6⟩ := pR_e h1
    exact w_aald hd h2 (pair_e rfl) ⟨h3, h3'⟩ h4 h5 (by rw [hb0]; exact h6)
  case arraylength =>
    simp only [chkE, decide_eq_true_eq] at hc
    subst hc
    obtain ⟨a, r, rfl, ⟨h2, h3, h4, h5⟩, h6⟩ := pR_e hk
    exact w_alen hd h2 (pair_e rfl) ⟨h3, h4⟩ h5 h6
  case iastore =>
    simp only [chkE, decide_eq_true_eq] at hc
    subst hc
    obtain ⟨z, r, rfl, h0⟩ := pI_e hk
    obtain ⟨x, r, rfl, h1⟩ := pI_e h0
    obtain ⟨a, r, rfl, ⟨h2, h3, h4, h5⟩, h6⟩ := pR_e h1
    exact w_iast hd h2 (pair_e h3) h4 h5 h6
  case bastore =>
    simp only [chkE, decide_eq_true_eq] at hc
    subst hc
    obtain ⟨z, r, rfl, h0⟩ := pI_e hk
    obtain ⟨x, r, rfl, h1⟩ := pI_e h0
    obtain ⟨a, r, rfl, ⟨h2, h3, h4, h5, h5'⟩, h6⟩ := pR_e h1
    exact w_bast hd h2 (pair_e h3) h4 h5 h5' h6
  case lastore =>
    simp only [chkE, decide_eq_true_eq] at hc
    subst hc
    obtain ⟨z, r, rfl, h0⟩ := pL_e hk
    obtain ⟨x, r, rfl, h1⟩ := pI_e h0
    obtain ⟨a, r, rfl, ⟨h2, h3, h4, h5⟩, h6⟩ := pR_e h1
    exact w_last hd h2 (pair_e h3) h4 h5 h6
  case aastore =>
    simp only [chkE, decide_eq_true_eq] at hc
    subst hc
    obtain ⟨b, r, rfl, h0⟩ := pR_e hk
    obtain ⟨x, r, rfl, h1⟩ := pI_e h0
    obtain ⟨a, r, rfl, ⟨h2, h3, h3', h4, h5, h7, h8⟩, h6⟩ := pR_e h1
    exact w_aast hd h2 (pair_e rfl) ⟨h3, h3'⟩ h4 h5 h7 (pair_e h8) h6
  all_goals exact False.elim hk
theorem pI_m {st : List AV} {k k' : Int → List AV → Prop} (m : ∀ x r, k x r → k' x r) (h : pI st k) : pI st k' := by
  obtain ⟨x, r, rfl, h⟩ := pI_e h; exact m x r h
theorem pL_m {st : List AV} {k k' : Int64 → List AV → Prop} (m : ∀ x r, k x r → k' x r) (h : pL st k) : pL st k' := by
  obtain ⟨x, r, rfl, h⟩ := pL_e h; exact m x r h
theorem pR_m {st : List AV} {k k' : Nat → List AV → Prop} (m : ∀ x r, k x r → k' x r) (h : pR st k) : pR st k' := by
  obtain ⟨x, r, rfl, h⟩ := pR_e h; exact m x r h
theorem pV_m {st : List AV} {k k' : AV → List AV → Prop} (m : ∀ x r, k x r → k' x r) (h : pV st k) : pV st k' := by
  obtain ⟨x, r, rfl, h1, h⟩ := pV_e h; exact ⟨h1, m x r h⟩
theorem lI_m {lo : List (Option AV)} {i : Nat} {k k' : Int → Prop} (m : ∀ x, k x → k' x) (h : lI lo i k) : lI lo i k' := by
  obtain ⟨x, h1, h2⟩ := lI_e h; unfold lI; rw [h1]; exact m x h2
theorem lL_m {lo : List (Option AV)} {i : Nat} {k k' : Int64 → Prop} (m : ∀ x, k x → k' x) (h : lL lo i k) : lL lo i k' := by
  obtain ⟨x, h1, h2⟩ := lL_e h; unfold lL; rw [h1]; exact m x h2
theorem lR_m {lo : List (Option AV)} {i : Nat} {k k' : Nat → Prop} (m : ∀ x, k x → k' x) (h : lR lo i k) : lR lo i k' := by
  obtain ⟨x, h1, h2⟩ := lR_e h; unfold lR; rw [h1]; exact m x h2
set_option maxHeartbeats 4000000 in
theorem st1_mono {e : IE} {K K' : KT} (m : ∀ lo st h, K lo st h → K' lo st h) (hk : st1 e lo st h K) : st1 e lo st h K' := by
  obtain ⟨i, n, v, c, k, f⟩ := e
  cases i
  case iconst => exact m _ _ _ hk
  case bipush => exact m _ _ _ hk
  case sipush => exact m _ _ _ hk
  case lconst => exact m _ _ _ hk
  case iload_n => exact lI_m (fun x => m _ _ _) hk
  case iload => exact lI_m (fun x => m _ _ _) hk
  case aload_n => exact lR_m (fun x => m _ _ _) hk
  case aload => exact lR_m (fun x => m _ _ _) hk
  case lload_n => exact lL_m (fun x => m _ _ _) hk
  case istore_n => exact pI_m (fun x r q => ⟨q.1, m _ _ _ q.2⟩) hk
  case istore => exact pI_m (fun x r q => ⟨q.1, m _ _ _ q.2⟩) hk
  case astore_n => exact pR_m (fun x r q => ⟨q.1, m _ _ _ q.2⟩) hk
  case astore => exact pR_m (fun x r q => ⟨q.1, m _ _ _ q.2⟩) hk
  case lstore_n => exact pL_m (fun x r q => ⟨q.1, m _ _ _ q.2⟩) hk
  case iinc => exact lI_m (fun x q => ⟨q.1, q.2.1, m _ _ _ q.2.2⟩) hk
  case iadd => exact pI_m (fun x r q => pI_m (fun x r q => ⟨q.1, m _ _ _ q.2⟩) q) hk
  case isub => exact pI_m (fun x r q => pI_m (fun x r q => ⟨q.1, m _ _ _ q.2⟩) q) hk
  case imul => exact pI_m (fun x r q => pI_m (fun x r q => ⟨q.1, m _ _ _ q.2⟩) q) hk
  case idiv => exact pI_m (fun x r q => pI_m (fun x r q => ⟨q.1, m _ _ _ q.2⟩) q) hk
  case irem => exact pI_m (fun x r q => pI_m (fun x r q => ⟨q.1, m _ _ _ q.2⟩) q) hk
  case iand => exact pI_m (fun x r q => pI_m (fun x r q => m _ _ _ q) q) hk
  case ior => exact pI_m (fun x r q => pI_m (fun x r q => m _ _ _ q) q) hk
  case ishl => exact pI_m (fun x r q => pI_m (fun x r q => m _ _ _ q) q) hk
  case i2b => exact pI_m (fun x r q => m _ _ _ q) hk
  case land => exact pL_m (fun x r q => pL_m (fun x r q => m _ _ _ q) q) hk
  case lor => exact pL_m (fun x r q => pL_m (fun x r q => m _ _ _ q) q) hk
  case lshl => exact pI_m (fun x r q => pL_m (fun x r q => m _ _ _ q) q) hk
  case lushr => exact pI_m (fun x r q => pL_m (fun x r q => m _ _ _ q) q) hk
  case lcmp => exact pL_m (fun x r q => pL_m (fun x r q => m _ _ _ q) q) hk
  case dup => exact pV_m (fun x r q => m _ _ _ q) hk
  case dup2 => exact pV_m (fun x r q => pV_m (fun x r q => m _ _ _ q) q) hk
  case pop => exact pV_m (fun x r q => m _ _ _ q) hk
  case getfield =>
    match f, hk with
    | 0, hk => exact pR_m (fun x r q => ⟨q.1, m _ _ _ q.2⟩) hk
    | f + 1, hk => exact pR_m (fun x r q => ⟨q.1, q.2.elim fun b q => ⟨b, q.1, m _ _ _ q.2⟩⟩) hk
  case putfield =>
    match f, hk with
    | 0, hk => exact pI_m (fun x r q => pR_m (fun x r q => ⟨q.1, m _ _ _ q.2⟩) q) hk
    | 1, hk => exact pR_m (fun x r q => pR_m (fun x r q => ⟨q.1, m _ _ _ q.2⟩) q) hk
    | f + 2, hk => exact pI_m (fun x r q => pR_m (fun x r q => ⟨q.1, q.2.1, m _ _ _ q.2.2⟩) q) hk
  case iaload => exact pI_m (fun x r q => pR_m (fun x r q => ⟨q.1, m _ _ _ q.2⟩) q) hk
  case baload => exact pI_m (fun x r q => pR_m (fun x r q => ⟨q.1, m _ _ _ q.2⟩) q) hk
  case laload => exact pI_m (fun x r q => pR_m (fun x r q => ⟨q.1, m _ _ _ q.2⟩) q) hk
  case aaload => exact pI_m (fun x r q => pR_m (fun x r q => ⟨q.1, q.2.elim fun b q => ⟨b, q.1, m _ _ _ q.2⟩⟩) q) hk
  case ineg => exact pI_m (fun x r q => ⟨q.1, m _ _ _ q.2⟩) hk
  case l2i => exact pL_m (fun x r q => m _ _ _ q) hk
  case ladd => exact pL_m (fun x r q => pL_m (fun x r q => m _ _ _ q) q) hk
  case lsub => exact pL_m (fun x r q => pL_m (fun x r q => m _ _ _ q) q) hk
  case arraylength => exact pR_m (fun x r q => ⟨q.1, m _ _ _ q.2⟩) hk
  case iastore => exact pI_m (fun x r q => pI_m (fun x r q => pR_m (fun x r q => ⟨q.1, m _ _ _ q.2⟩) q) q) hk
  case bastore => exact pI_m (fun x r q => pI_m (fun x r q => pR_m (fun x r q => ⟨q.1, m _ _ _ q.2⟩) q) q) hk
  case lastore => exact pL_m (fun x r q => pI_m (fun x r q => pR_m (fun x r q => ⟨q.1, m _ _ _ q.2⟩) q) q) hk
  case aastore => exact pR_m (fun x r q => pI_m (fun x r q => pR_m (fun x r q => ⟨q.1, m _ _ _ q.2⟩) q) q) hk
  all_goals exact False.elim hk
theorem wB {o : Nat} (ho : y.1.cls = rx o) : ∀ {es : List IE} {pc q : Nat} {lo : List (Option AV)} {st : List AV} {h : AH}, chkB y o pc es q = true → wpB es lo st h (fun lo st h => wp y d rc rs Q q lo st h) → wp y d rc rs Q pc lo st h
  | [], pc, q, lo, st, h, hc, hk => by
    simp only [chkB, decide_eq_true_eq] at hc
    subst hc
    exact hk
  | e :: es, pc, q, lo, st, h, hc, hk => by
    simp only [chkB, Bool.and_eq_true, decide_eq_true_eq] at hc
    refine st1_ok ho hc.1.1 hc.1.2 ?_
    refine st1_mono ?_ hk
    intro lo st h h2
    exact wB ho hc.2 h2
end SOUND
