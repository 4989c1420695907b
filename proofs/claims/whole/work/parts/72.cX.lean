/-! WHAT STAYS, STAYS COUPLED: the reference's side -/
section
variable {g g' : AH}
def agDoc (g g' : AH) (d : Nat) : Prop := iH g' 91 d = iH g 91 d ∧ ∀ i : Nat, iH g' (93 + d) i = iH g (93 + d) i
def agSeg (g g' : AH) (x : Nat) : Prop := iH g' 615 x = iH g 615 x ∧ (∀ k : Nat, iH g' (617 + x) k = iH g (617 + x) k) ∧ ∀ k : Nat, (k : Int) < iH g 615 x → agDoc g g' (iH g (617 + x) k).toNat
theorem doc_mv {d : Nat} (e : agDoc g g' d) (h : m_doc g d) : m_doc g' d := by
  obtain ⟨h1, h2, h3⟩ := h
  rw [Int.toNat_natCast] at h2 h3
  refine ⟨h1, by rw [Int.toNat_natCast, e.1]; exact h2, fun i hi => ?_⟩
  rw [Int.toNat_natCast] at hi ⊢
  rw [e.1] at hi
  rw [e.2]
  exact h3 i hi
variable {x : Nat}
theorem segd_mv (e : agSeg g g' x) (h : m_segd g x) : m_segd g' x := by
  obtain ⟨⟨h1, h2, h3⟩, h4⟩ := h
  rw [Int.toNat_natCast] at h2 h3 h4
  refine ⟨⟨h1, by rw [Int.toNat_natCast, e.1]; exact h2, fun k hk => ?_⟩, fun k hk => ?_⟩
  · rw [Int.toNat_natCast] at hk ⊢
    rw [e.1] at hk; rw [e.2.1]; exact h3 k hk
  · rw [Int.toNat_natCast] at hk ⊢
    rw [e.1] at hk; rw [e.2.1]
    have q := h3 k hk
    have := doc_mv (d := (iH g (617 + x) k).toNat) (e.2.2 k hk) (by rw [Int.toNat_of_nonneg q.1]; exact h4 k hk)
    rw [Int.toNat_of_nonneg q.1] at this
    exact this
theorem wi_mv (e : agSeg g g' x) : ∀ k i, m_wi g' x k i ↔ m_wi g x k i := by
  intro k i
  unfold m_wi
  rw [Int.toNat_natCast, e.1, e.2.1]
  constructor
  · rintro ⟨h1, h2⟩; exact ⟨h1, by rw [← (e.2.2 k h1).1]; exact h2⟩
  · rintro ⟨h1, h2⟩; exact ⟨h1, by rw [(e.2.2 k h1).1]; exact h2⟩
theorem wd_mv (e : agSeg g g' x) : ∀ k i, m_wi g x k i → m_wd g' x k i = m_wd g x k i := by
  intro k i h
  have h1 := h.1
  rw [Int.toNat_natCast] at h1
  unfold m_wd
  rw [Int.toNat_natCast, e.2.1, (e.2.2 k h1).2]
theorem dict_mv (e : agSeg g g' x) (h : m_dict g x) : m_dict g' x := by
  obtain ⟨hs, n, dw, hn, hD⟩ := h
  exact ⟨segd_mv e hs, n, dw, hn, IsD_cg (wi_mv e) (wd_mv e) hD⟩
theorem dn_mv (e : agSeg g g' x) (h : m_dict g x) : m_dn g' x = m_dn g x ∧ ∀ j, j < m_dn g x → m_dw g' x j = m_dw g x j := by
  have hD := m_dict_D h
  exact m_dw_un (segd_mv e h.1) hD.1 (IsD_cg (wi_mv e) (wd_mv e) hD.2)
theorem postP_mv (e : agSeg g g' x) {w : Int} {k : Nat} (hk : (k : Int) < iH g 615 x) : m_postP g' x w k ↔ m_postP g x w k := by
  unfold m_postP m_has m_hasP
  rw [Int.toNat_natCast, e.2.1, (e.2.2 k hk).1]
  constructor
  · rintro ⟨i, h1, h2⟩; exact ⟨i, h1, by rw [← (e.2.2 k hk).2]; exact h2⟩
  · rintro ⟨i, h1, h2⟩; exact ⟨i, h1, by rw [(e.2.2 k hk).2]; exact h2⟩
theorem post_mv (e : agSeg g g' x) {w : Int} : m_post g' x w = m_post g x w := by
  unfold m_post
  rw [Int.toNat_natCast, e.1]
  exact cnt_cg fun k hk => postP_mv e (by omega)
theorem ps_mv (e : agSeg g g' x) {w : Int} : m_ps g' x w = m_ps g x w := by
  unfold m_ps
  rw [Int.toNat_natCast, e.1]
  refine sumN_cg fun k hk => ?_
  unfold m_psF
  rw [propext (postP_mv e (w := w) (k := k) (by omega))]
theorem dic_mv (e : agSeg g g' x) (h : m_dict g x) : m_dic g' x 1 = m_dic g x 1 := by
  obtain ⟨e1, e2⟩ := dn_mv e h
  unfold m_dic
  rw [if_neg (by decide), if_neg (by decide), e1]
  exact sumN_cg fun j hj => by rw [e2 j hj, post_mv e]
theorem cDict_mv {h : AH} {a r : Nat} (e : agSeg g g' x) (hd : m_dict g x) (hc : cDict h g a x r) : cDict h g' a x r := by
  obtain ⟨c1, c2, c3, c4⟩ := hc
  obtain ⟨e1, e2⟩ := dn_mv e hd
  refine ⟨by rw [e1]; exact c1, by rw [e1]; exact c2, by rw [dic_mv e hd]; exact c3, fun j hj => ?_⟩
  rw [e1] at hj
  rw [e2 j hj, post_mv e, ps_mv e]
  exact c4 j hj
theorem cSeg1_mv {h : AH} {da sa da' sa' : Nat → Nat} (e : agSeg g g' x) (en : iH g' 614 x = iH g 614 x) (ed : iH g 89 0 ≤ iH g' 89 0) (eda : ∀ d : Nat, (d : Int) < iH g 89 0 → da' d = da d) (esa : sa' x = sa x) (hc : cSeg1 h g da sa x) : cSeg1 h g' da' sa' x := by
  obtain ⟨c1, c2, c3, ⟨r, c4, c5⟩, c6⟩ := hc
  refine ⟨dict_mv e c1, by rw [en]; exact c2, by rw [esa]; exact c3, ⟨r, by rw [esa, e.1]; exact c4, by rw [esa]; exact cDict_mv e c1 c5⟩, fun k hk => ?_⟩
  rw [e.1] at hk
  obtain ⟨q1, q2⟩ := c6 k hk
  have q3 := (c1.1.1.2.2 k (by rw [Int.toNat_natCast]; exact hk)).1
  rw [Int.toNat_natCast] at q3
  rw [esa, e.2.1, eda _ (by omega)]
  exact ⟨q1, by omega⟩
end
section
variable {h g g' : AH} {da sa da' sa' : Nat → Nat}
/-- documents that were there stay as they were -/
def agDs (g g' : AH) : Prop := iH g 89 0 ≤ iH g' 89 0 ∧ ∀ d : Nat, (d : Int) < iH g 89 0 → agDoc g g' d ∧ iH g' 90 d = iH g 90 d
/-- segments that were there stay as they were -/
def agSs (g g' : AH) : Prop := iH g 89 5 ≤ iH g' 89 5 ∧ ∀ x : Nat, (x : Int) < iH g 89 5 → iH g' 614 x = iH g 614 x ∧ iH g' 615 x = iH g 615 x ∧ ∀ k : Nat, iH g' (617 + x) k = iH g (617 + x) k
def exD (g : AH) (da da' : Nat → Nat) : Prop := ∀ d : Nat, (d : Int) < iH g 89 0 → da' d = da d
def exS (g : AH) (sa sa' : Nat → Nat) : Prop := ∀ x : Nat, (x : Int) < iH g 89 5 → sa' x = sa x
theorem ag_Seg (e1 : agDs g g') (e2 : agSs g g') (hs : cSegs h g da sa) {x : Nat} (hx : (x : Int) < iH g 89 5) : agSeg g g' x := by
  obtain ⟨-, q2, q3⟩ := e2.2 x hx
  refine ⟨q2, q3, fun k hk => (e1.2 _ ?_).1⟩
  obtain ⟨c1, -, -, -, c6⟩ := hs x hx
  have u := (c1.1.1.2.2 k (by rw [Int.toNat_natCast]; exact hk)).1
  rw [Int.toNat_natCast] at u
  have := (c6 k hk).2
  omega
theorem cDoc_mv (e1 : agDs g g') (ex : exD g da da') (hd : cDocs h g da) {d : Nat} (hdn : (d : Int) < iH g 89 0) : m_doc g' d ∧ iD h (da' d) (iH g' 91 d).toNat ∧ iH h (da' d) 0 = iH g' 90 d ∧ ∀ i : Nat, i < (iH g' 91 d).toNat → iH h (da' d + 1) i = iH g' (93 + d) i := by
  obtain ⟨d1, d2, d3, d4⟩ := hd d hdn
  obtain ⟨q1, q2⟩ := e1.2 d hdn
  rw [ex d hdn, q1.1, q2]
  exact ⟨doc_mv q1 d1, d2, d3, fun i hi => by rw [q1.2]; exact d4 i hi⟩
theorem cDocs_mv (e1 : agDs g g') (ee : iH g' 89 0 = iH g 89 0) (ex : exD g da da') (hd : cDocs h g da) : cDocs h g' da' := fun d hdn => cDoc_mv e1 ex hd (by omega)
theorem cSegsO_mv (e1 : agDs g g') (e2 : agSs g g') (ex : exD g da da') (ey : exS g sa sa') (hs : cSegs h g da sa) {x : Nat} (hx : (x : Int) < iH g 89 5) : cSeg1 h g' da' sa' x := cSeg1_mv (ag_Seg e1 e2 hs hx) (e2.2 x hx).1 e1.1 ex (ey x hx) (hs x hx)
theorem cSegs_mv (e1 : agDs g g') (e2 : agSs g g') (ee : iH g' 89 5 = iH g 89 5) (ex : exD g da da') (ey : exS g sa sa') (hs : cSegs h g da sa) : cSegs h g' da' sa' := fun x hx => cSegsO_mv e1 e2 ex ey hs (by omega)
/-- a stand whose cells and whose rows stay -/
theorem cStd_mv {h' : AH} {a : Nat} {n n' : Int} {row row' : Nat → Int} {dr dr' : Nat → Nat → Prop} (e2 : agSs g g') (ey : exS g sa sa') (en : n' = n) (er : ∀ s : Nat, (s : Int) < n → row' s = row s) (ed : ∀ s k : Nat, (s : Int) < n → (k : Int) < iH g 615 (row s).toNat → (dr' s k ↔ dr s k)) (hn : iH h' a 2 = iH h a 2) (hr : ∀ k, rH h' (a + 1) k = rH h (a + 1) k) (hj : ∀ k, jH h' (a + 2) k = jH h (a + 2) k) (hs : cStd h g sa a n row dr) : cStd h' g' sa' a n' row' dr' := by
  obtain ⟨s1, s2, s3⟩ := hs
  subst en
  refine ⟨by rw [hn]; exact s1, s2, fun s hs => ?_⟩
  obtain ⟨q1, q2, q3⟩ := s3 s hs
  have lt : (((row s).toNat : Nat) : Int) < iH g 89 5 := by omega
  rw [er s hs, ey _ lt, hr, hj, (e2.2 _ lt).2.1]
  refine ⟨by have := e2.1; omega, q2, fun k => ?_⟩
  rw [q3 k]
  exact ⟨fun ⟨u1, u2⟩ => ⟨u1, (ed s k hs u1).mpr u2⟩, fun ⟨u1, u2⟩ => ⟨u1, (ed s k hs u1).mp u2⟩⟩
end
