/-! ALL THAT IS COUPLED -/
section
def kTp (h g : AH) : Prop := cTape h g ∧ ∀ k : Nat, k < d_n g → 0 ≤ iH g 1157 k ∧ iH g 1157 k ≤ 255
def kT (g : AH) (T : Nat) : Prop := (0 ≤ iH g 89 0 ∧ iH g 89 0 ≤ (T : Int)) ∧ iH g 89 5 ≤ (T : Int) ∧ iH g 89 46 ≤ 2 * (T : Int) ∧ iH g 89 47 ≤ 2 * (T : Int) ∧ 0 ≤ iH g 1138 6 ∧ iH g 1138 6 ≤ 8
def fSe (x k : Nat) : Prop := x = 0 ∧ k = 8
def gSe (x k : Nat) : Prop := x = 89 ∧ k = 5
def fPo (x k : Nat) : Prop := (x = 16 ∧ k < 2) ∨ (x = 0 ∧ k = 11)
def gPo (x k : Nat) : Prop := x = 89 ∧ 21 ≤ k ∧ k ≤ 23
def fTp (x k : Nat) : Prop := (x = 1 ∧ k = 1) ∨ x = 2
def gTp (x k : Nat) : Prop := (x = 89 ∧ k = 18) ∨ x = 1157
def fSh (x k : Nat) : Prop := 81 ≤ x ∧ x ≤ 88
def gSh (x k : Nat) : Prop := (1183 ≤ x ∧ x ≤ 1184) ∨ (1186 ≤ x ∧ x ≤ 1189)
def fL (x k : Nat) : Prop := x = 21 ∨ x = 22
def gL (x k : Nat) : Prop := (x = 89 ∧ 46 ≤ k ∧ k ≤ 47) ∨ x = 1181
def fQ (x k : Nat) : Prop := (x = 0 ∧ k = 13) ∨ (45 ≤ x ∧ x ≤ 79 ∧ x % 6 ≠ 2)
def gQ (x k : Nat) : Prop := (x = 89 ∧ k = 30) ∨ (1170 ≤ x ∧ x ≤ 1176)
def gK (x k : Nat) : Prop := (x = 89 ∧ k = 0) ∨ x = 90
def gC (x k : Nat) : Prop := 1161 ≤ x ∧ x ≤ 1168
variable {h h' g g' : AH}
theorem kSe_u (io : ∀ x k, fSe x k → iH h' x k = iH h x k) (go : ∀ x k, gSe x k → iH g' x k = iH g x k) (q : kSe h g) : kSe h' g' := by
  unfold kSe at *
  rw [io 0 8 ⟨rfl, rfl⟩, go 89 5 ⟨rfl, rfl⟩]; exact q
theorem kPo_u (io : ∀ x k, fPo x k → iH h' x k = iH h x k) (go : ∀ x k, gPo x k → iH g' x k = iH g x k) (q : kPo h g) : kPo h' g' := by
  unfold kPo cPol at *
  rw [io 16 0 (Or.inl ⟨rfl, by omega⟩), io 16 1 (Or.inl ⟨rfl, by omega⟩), io 0 11 (Or.inr ⟨rfl, rfl⟩), go 89 21 ⟨rfl, by omega⟩, go 89 22 ⟨rfl, by omega⟩, go 89 23 ⟨rfl, by omega⟩]; exact q
theorem kTp_u (io : ∀ x k, fTp x k → iH h' x k = iH h x k) (go : ∀ x k, gTp x k → iH g' x k = iH g x k) (q : kTp h g) : kTp h' g' := by
  have e : d_n g' = d_n g := by unfold d_n; rw [go 89 18 (Or.inl ⟨rfl, rfl⟩)]
  obtain ⟨⟨q1, q2, q3⟩, q4⟩ := q
  refine ⟨⟨by rw [io 1 1 (Or.inl ⟨rfl, rfl⟩), go 89 18 (Or.inl ⟨rfl, rfl⟩)]; exact q1, by rw [go 89 18 (Or.inl ⟨rfl, rfl⟩)]; exact q2, fun k hk => ?_⟩, fun k hk => ?_⟩
  · rw [e] at hk
    rw [io 2 k (Or.inr rfl), go 1157 k (Or.inr rfl)]; exact q3 k hk
  · rw [e] at hk
    rw [go 1157 k (Or.inr rfl)]; exact q4 k hk
theorem kSh_u (io : ∀ x k, fSh x k → iH h' x k = iH h x k) (go : ∀ x k, gSh x k → iH g' x k = iH g x k) (q : kSh h g) : kSh h' g' := fun s h4 => by
  obtain ⟨q1, q2, q3, q4⟩ := q s h4
  have e1 : iH g' 1183 s = iH g 1183 s := go _ _ (Or.inl (by omega))
  have e2 : iH g' 1184 s = iH g 1184 s := go _ _ (Or.inl (by omega))
  refine ⟨by rw [io _ _ (by unfold fSh; omega), e1]; exact q1, by rw [io _ _ (by unfold fSh; omega), e2]; exact q2, by rw [e1, e2]; exact q3, fun k hk => ?_⟩
  rw [e2] at hk
  rw [e1, go (1186 + s) k (Or.inr (by omega)), io _ _ (by unfold fSh; omega)]
  exact q4 k hk
theorem kL_u (io : ∀ x k, fL x k → iH h' x k = iH h x k) (go : ∀ x k, gL x k → iH g' x k = iH g x k) (q : kL h g) : kL h' g' := by
  obtain ⟨l1, l2, l3⟩ := q
  have e1 : iH g' 89 46 = iH g 89 46 := go _ _ (Or.inl (by omega))
  have e2 : iH g' 89 47 = iH g 89 47 := go _ _ (Or.inl (by omega))
  refine ⟨by rw [io _ _ (Or.inl rfl), e1]; exact l1, by rw [io _ _ (Or.inl rfl), e2]; exact l2, fun k h1 h2 => ?_⟩
  rw [e2] at h2 ⊢
  rw [io _ _ (Or.inr rfl), go 1181 _ (Or.inr rfl)]
  exact l3 k h1 h2
theorem kQ_u (io : ∀ x k, fQ x k → iH h' x k = iH h x k) (go : ∀ x k, gQ x k → iH g' x k = iH g x k) (q : kQ h g) : kQ h' g' := by
  have c : kQ h' g := by
    refine ⟨by rw [io 0 13 (Or.inl ⟨rfl, rfl⟩)]; exact q.1, q.2.1, fun s hs => ?_⟩
    have := q.2.1
    exact cQry_cg (fun k => io _ k (Or.inr (by omega))) (fun i h1 h2 k => io _ k (Or.inr (by omega))) (q.2.2 s hs)
  exact kQ_g (go _ _ (Or.inl ⟨rfl, rfl⟩)) (fun q hq k => go _ k (Or.inr (by omega))) (fun k => go _ k (Or.inr (by omega))) c
theorem kK_u (go : ∀ x k, gK x k → iH g' x k = iH g x k) (q : kK g) : kK g' := fun d hd => by
  rw [go 89 0 (Or.inl ⟨rfl, rfl⟩)] at hd
  rw [go 90 d (Or.inr rfl)]
  exact q d hd
theorem kC_u (go : ∀ x k, gC x k → iH g' x k = iH g x k) (q : m_cstOK g) : m_cstOK g' := fun i j hi hj => by
  have := q i j hi hj
  unfold m_cst at *
  rw [go (1161 + i) j (by unfold gC; omega)]
  exact this
theorem kT_u (e : ∀ k, k = 0 ∨ k = 5 ∨ k = 46 ∨ k = 47 → iH g' 89 k = iH g 89 k) (e6 : iH g' 1138 6 = iH g 1138 6) {T T' : Nat} (hT : T ≤ T') (q : kT g T) : kT g' T' := by
  obtain ⟨q1, q2, q3, q4, q5⟩ := q
  unfold kT
  rw [e 0 (by omega), e 5 (by omega), e 46 (by omega), e 47 (by omega), e6]
  omega
def kSm (h g : AH) (T : Nat) : Prop := kSe h g ∧ kPo h g ∧ kTp h g ∧ kSh h g ∧ kL h g ∧ kQ h g ∧ kK g ∧ m_cstOK g ∧ kT g T
theorem kSm_u {T T' : Nat} (q : kSm h g T) (C G : Nat → Nat → Prop) (io : ∀ x k, x ≤ 88 → ¬ C x k → iH h' x k = iH h x k) (go : ∀ x k, 89 ≤ x → x < 1191 → ¬ G x k → iH g' x k = iH g x k) (pT : kT g' T')
    (pSe : ((∀ x k, fSe x k → ¬ C x k) ∧ ∀ x k, gSe x k → ¬ G x k) ∨ kSe h' g' := by refine Or.inl ⟨?_, ?_⟩ <;> (intro x k q c; simp only [fSe, gSe] at q; (try dsimp only at c) <;> omega))
    (pPo : ((∀ x k, fPo x k → ¬ C x k) ∧ ∀ x k, gPo x k → ¬ G x k) ∨ kPo h' g' := by refine Or.inl ⟨?_, ?_⟩ <;> (intro x k q c; simp only [fPo, gPo] at q; (try dsimp only at c) <;> omega))
    (pTp : ((∀ x k, fTp x k → ¬ C x k) ∧ ∀ x k, gTp x k → ¬ G x k) ∨ kTp h' g' := by refine Or.inl ⟨?_, ?_⟩ <;> (intro x k q c; simp only [fTp, gTp] at q; (try dsimp only at c) <;> omega))
    (pSh : ((∀ x k, fSh x k → ¬ C x k) ∧ ∀ x k, gSh x k → ¬ G x k) ∨ kSh h' g' := by refine Or.inl ⟨?_, ?_⟩ <;> (intro x k q c; simp only [fSh, gSh] at q; (try dsimp only at c) <;> omega))
    (pL : ((∀ x k, fL x k → ¬ C x k) ∧ ∀ x k, gL x k → ¬ G x k) ∨ kL h' g' := by refine Or.inl ⟨?_, ?_⟩ <;> (intro x k q c; simp only [fL, gL] at q; (try dsimp only at c) <;> omega))
    (pQ : ((∀ x k, fQ x k → ¬ C x k) ∧ ∀ x k, gQ x k → ¬ G x k) ∨ kQ h' g' := by refine Or.inl ⟨?_, ?_⟩ <;> (intro x k q c; simp only [fQ, gQ] at q; (try dsimp only at c) <;> omega))
    (pK : (∀ x k, gK x k → ¬ G x k) ∨ kK g' := by refine Or.inl ?_; (intro x k q c; simp only [gK] at q; (try dsimp only at c) <;> omega))
    (pC : (∀ x k, gC x k → ¬ G x k) ∨ m_cstOK g' := by refine Or.inl ?_; (intro x k q c; simp only [gC] at q; (try dsimp only at c) <;> omega)) : kSm h' g' T' := by
  obtain ⟨q1, q2, q3, q4, q5, q6, q7, q8, q9⟩ := q
  refine ⟨pSe.elim (fun w => kSe_u (fun x k f => io x k (by unfold fSe at f; omega) (w.1 x k f)) (fun x k f => go x k (by unfold gSe at f; omega) (by unfold gSe at f; omega) (w.2 x k f)) q1) id,
    pPo.elim (fun w => kPo_u (fun x k f => io x k (by unfold fPo at f; omega) (w.1 x k f)) (fun x k f => go x k (by unfold gPo at f; omega) (by unfold gPo at f; omega) (w.2 x k f)) q2) id,
    pTp.elim (fun w => kTp_u (fun x k f => io x k (by unfold fTp at f; omega) (w.1 x k f)) (fun x k f => go x k (by unfold gTp at f; omega) (by unfold gTp at f; omega) (w.2 x k f)) q3) id,
    pSh.elim (fun w => kSh_u (fun x k f => io x k (by unfold fSh at f; omega) (w.1 x k f)) (fun x k f => go x k (by unfold gSh at f; omega) (by unfold gSh at f; omega) (w.2 x k f)) q4) id,
    pL.elim (fun w => kL_u (fun x k f => io x k (by unfold fL at f; omega) (w.1 x k f)) (fun x k f => go x k (by unfold gL at f; omega) (by unfold gL at f; omega) (w.2 x k f)) q5) id,
    pQ.elim (fun w => kQ_u (fun x k f => io x k (by unfold fQ at f; omega) (w.1 x k f)) (fun x k f => go x k (by unfold gQ at f; omega) (by unfold gQ at f; omega) (w.2 x k f)) q6) id,
    pK.elim (fun w => kK_u (fun x k f => go x k (by unfold gK at f; omega) (by unfold gK at f; omega) (w x k f)) q7) id,
    pC.elim (fun w => kC_u (fun x k f => go x k (by unfold gC at f; omega) (by unfold gC at f; omega) (w x k f)) q8) id, pT⟩
variable {da sa : Nat → Nat}
theorem kSta_u (hp : kSta h g da sa) (ag : agD h h') (st : agSt h h') (e : agN g g') (eT : ∀ t : Nat, t < 6 → iH g' 1137 t = iH g 1137 t) : kSta h' g' da sa := by
  have k1 := kHd_fr ag st hp.1
  exact ⟨kHd_N e (kF_N eT (e.2.2.2 5 (by omega)).1 k1.2.2) k1, rI_N e hp.1 hp.2.1 hp.2.2⟩
theorem kB_u (hb : kB h g da) (e1 : iH h' 0 2 = iH h 0 2) (e2 : ∀ k, rH h' 4 k = rH h 4 k) (e : agN g g') (e15 : iH g' 89 15 = iH g 89 15) (eb : ∀ k, iH g' 1156 k = iH g 1156 k) : kB h' g' da := by
  obtain ⟨⟨b1, b2, b3⟩, hB⟩ := hb
  refine ⟨⟨by rw [e1, e15]; exact b1, by rw [e15]; exact b2, fun i hi => ?_⟩, fun i hi => ?_⟩
  · rw [e15] at hi
    rw [eb, e2, e.1.1.1]
    exact b3 i hi
  · rw [e15] at hi
    obtain ⟨q1, q2, q3⟩ := hB i hi
    rw [eb, e.2.1]
    refine ⟨q1, fun i' hi' => by rw [eb]; exact q2 i' hi', fun x hx hx2 k hk => ?_⟩
    rw [e.1.1.2] at hx2
    rw [e.1.2 615 _ (by decide) (by decide) (by decide)] at hk
    rw [e.1.2 (617 + x) _ (by omega) (by omega) (by omega)]
    exact q3 x hx hx2 k hk
theorem rZ_u (hz : rZ g) (e : agN g g') : rZ g' := fun d hd h1 => by
  rw [e.1.1.1] at h1
  rw [e.2.1]
  exact hz d hd h1
theorem kMg_u (hm : kMg h g) (e1 : ∀ k, k < 3 → iH h' 17 k = iH h 17 k) (e2 : ∀ k, jH h' 18 k = jH h 18 k) (f1 : ∀ k, 24 ≤ k → k ≤ 27 → iH g' 89 k = iH g 89 k) (f2 : ∀ k, iH g' 1159 k = iH g 1159 k) (f3 : iH g 89 13 ≤ iH g' 89 13) (f4 : ∀ s : Nat, (s : Int) < iH g 89 13 → iH g' 1155 s = iH g 1155 s) (f5 : ∀ x : Nat, (x : Int) < iH g 89 5 → iH g' 615 x = iH g 615 x ∧ ∀ k, iH g' (617 + x) k = iH g (617 + x) k) (hb : ∀ s : Nat, (s : Int) < iH g 89 13 → 0 ≤ iH g 1155 s ∧ iH g 1155 s < iH g 89 5) : kMg h' g' := by
  obtain ⟨m1, m2⟩ := hm
  refine ⟨by rw [e1 0 (by omega), f1 24 (by omega) (by omega)]; exact m1, fun c => ?_⟩
  rw [f1 24 (by omega) (by omega)] at c
  obtain ⟨f, w, ⟨c1, c2, c3, c4⟩, d1, d2, d3, d4⟩ := m2 c
  have lf : mgLf h' = mgLf h := by
    funext i k
    unfold mgLf
    rw [e2]
  have eC : v_cm g' (mgRow g' f) (mgLf h') w = v_cm g (mgRow g f) (mgLf h) w := by
    rw [lf]
    refine cm_cg w fun i hi => ?_
    have q := hb (f + i) (by omega)
    have er : mgRow g' f i = mgRow g f i := f4 (f + i) (by omega)
    rw [er]
    obtain ⟨a1, a2⟩ := f5 (mgRow g f i).toNat (by unfold mgRow; omega)
    exact ⟨a1, fun j _ => ⟨a2 j, Iff.rfl⟩⟩
  refine ⟨f, w, ⟨by rw [e1 1 (by omega)]; exact c1, by rw [e1 2 (by omega)]; exact c2, ⟨c3.1, by omega⟩, fun i hi k hk => ?_⟩, by rw [f1 26 (by omega) (by omega)]; exact d1, ?_, ?_, ?_⟩
  · rw [e2] at hk
    have q := hb (f + i) (by omega)
    rw [f4 (f + i) (by omega), (f5 _ (by omega)).1]
    exact c4 i hi k hk
  · rw [f1 25 (by omega) (by omega), f4 f (by omega)]; exact d2
  · rw [eC, f1 27 (by omega) (by omega)]; exact d3
  · rw [eC]
    exact fun i hi => by rw [f2]; exact d4 i hi
theorem kMg_0 (e1 : iH h 17 0 = 0) (e2 : iH g 89 24 = 0) : kMg h g := ⟨by rw [e1, e2], fun c => absurd e2 c⟩
theorem row_b (hp : kSta h g da sa) : ∀ s : Nat, (s : Int) < iH g 89 13 → 0 ≤ iH g 1155 s ∧ iH g 1155 s < iH g 89 5 := fun s hs => (hp.1.1.2.2.2.2 s hs).1
def K (h g : AH) (da sa : Nat → Nat) (T : Nat) : Prop := kSta h g da sa ∧ kB h g da ∧ rZ g ∧ kMg h g ∧ kSm h g T ∧ 1191 ≤ nH h
end
