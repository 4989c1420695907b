/-! THE INDEX: A MERGE IS FINISHED, COUPLED -/
def src (f n s : Nat) : Nat := if s < f then s else s + n
theorem sum_src {L : Nat → Int} {f w r : Nat} : sumN (fun s => L (src f w s)) (f + r) + sumN (fun i => L (f + i)) w = sumN L (f + w + r) := by
  have e1 : sumN (fun s => L (src f w s)) f = sumN L f := sumN_cg fun s hs => by unfold src; rw [if_pos hs]
  have e2 : sumN (fun i => L (src f w (f + i))) r = sumN (fun i => L (f + w + i)) r := sumN_cg fun i _ => by
    unfold src
    rw [if_neg (by omega), show f + i + w = f + w + i by omega]
  rw [sumN_split, sumN_split L (f + w) r, sumN_split L f w, e1, e2]
  omega
section
variable {h H g : AH} {da sa : Nat → Nat} {S f w : Nat}
theorem fin0_K (hp : kSta h g da sa) (hS : iH g 89 13 = (S : Int)) (hw : iH g 89 26 = (w : Int)) (hfw : f + w ≤ S) (ag : agD h H) (h5 : iH H 5 2 = ((S - w : Nat) : Int)) (h6 : ∀ k, k < S - w → rH H 6 k = rH h 6 (src f w k)) (h7 : ∀ k, k < S - w → jH H 7 k = jH h 7 (src f w k)) (hst : ∀ c, iSt c → c ≠ 5 → (∀ k, iH H c k = iH h c k) ∧ (∀ k, rH H (c + 1) k = rH h (c + 1) k) ∧ ∀ k, jH H (c + 2) k = jH h (c + 2) k) (h53 : iH H 5 3 = iH h 5 3) : kSta H (m_fin0 g f) da sa ∧ (∀ x k, x ≠ 89 → x ≠ 1155 → iH (m_fin0 g f) x k = iH g x k) ∧ ∀ k, k ≠ 13 → k ≠ 24 → iH (m_fin0 g f) 89 k = iH g 89 k := by
  obtain ⟨G, hG⟩ : ∃ G, G = m_fin0 g f := ⟨_, rfl⟩
  rw [← hG]
  have x0 : ∀ x k, x ≠ 89 → x ≠ 1155 → iH G x k = iH g x k := fun x k h1 h2 => by
    rw [hG]; unfold m_fin0
    rw [rI_ne h1, rW_ne h2, rI_ne h1]
  have x7 : ∀ k, k ≠ 13 → k ≠ 24 → iH G 89 k = iH g 89 k := fun k h1 h2 => by
    rw [hG]; unfold m_fin0
    rw [rI_nk h1, rW_ne (by decide), rI_nk h2]
  have xn : iH G 89 13 = ((S - w : Nat) : Int) := by
    rw [hG]; unfold m_fin0
    rw [rI_same, hS, hw]; omega
  have xS : ∀ s, s < S - w → iH G 1155 s = iH g 1155 (src f w s) := fun s hs => by
    rw [hG]; unfold m_fin0
    rw [rI_ne (by decide), rW_same, hw, hS, Int.toNat_natCast, show ((S : Int) - (w : Int)).toNat = S - w by omega]
    unfold m_mv src
    by_cases c : s < f
    · rw [if_neg (by omega), if_pos c]
    · rw [if_pos (by omega), if_neg c]
  have sb : ∀ s, s < S - w → src f w s < S := fun s hs => by unfold src; split <;> omega
  have si : ∀ s s', s < s' → src f w s < src f w s' := fun s s' hs => by unfold src; split <;> split <;> omega
  obtain ⟨hk, hr, hU⟩ := id hp
  obtain ⟨⟨hd, hs, hno⟩, hv, hf⟩ := hk
  have s520 := segs_520 hs
  have b8 := hno.2.1
  have eDS : agDS g G := ⟨⟨x7 _ (by decide) (by decide), x7 _ (by decide) (by decide)⟩, fun x k h1 h2 _ => x0 x k (by omega) (by omega)⟩
  have eD := agDS_D eDS (docs_520 hd)
  have eS := agDS_S eDS s520
  have nb : ∀ s : Nat, s < S → (0 ≤ iH g 1155 s ∧ iH g 1155 s < iH g 89 5) := fun s hs1 => (hno.2.2 s (by omega)).1
  have xL : ∀ k, iH G 615 k = iH g 615 k := fun k => x0 _ _ (by decide) (by decide)
  have xM : ∀ x k, x < 520 → iH G (617 + x) k = iH g (617 + x) k := fun x k hx => x0 _ _ (by omega) (by omega)
  refine ⟨now_K (h := h) hp eS (fun _ _ => rfl) (cDocs_mv eD eDS.1.1 (fun _ _ => rfl) (cDocs_ag ag hd)) (cSegs_mv eD eS eDS.1.2 (fun _ _ => rfl) (fun _ _ => rfl) (cSegs_ag ag hs)) ⟨by rw [xn]; exact h5, by rw [xn]; omega, fun s hs1 => ?_⟩ (fun x h1 h2 k => x0 x k (by omega) (by omega)) (fun d => x0 _ _ (by decide) (by decide)) hst h53 (fun s s' h1 h2 => ?_) (fun s s' h1 h2 k k' h3 h4 => ?_) (fun x hx1 hx2 i j h1 h2 => ?_) ?_, x0, x7⟩
  · rw [xn] at hs1
    have hs2 : s < S - w := by omega
    obtain ⟨p1, p2, p3⟩ := hno.2.2 (src f w s) (by have := sb s hs2; omega)
    have er : nRow G s = nRow g (src f w s) := xS s hs2
    have q := nb _ (sb s hs2)
    rw [er, h6 s hs2, eDS.1.2]
    refine ⟨p1, p2, fun k => ?_⟩
    rw [show 5 + 2 = 7 from rfl, h7 s hs2, xL]
    refine (p3 k).trans ?_
    unfold nDr
    rw [xS s hs2, xM _ _ (by omega), x0 _ _ (by decide) (by decide)]
  · rw [xn] at h2
    rw [xS s (by omega), xS s' (by omega)]
    exact hr.1 0 (by omega) (src f w s) (src f w s') (si s s' h1) (by show _ < iH g 89 13; have := sb s' (by omega); omega)
  · rw [xn] at h2
    rw [xS s (by omega), xL] at h3
    rw [xS s' (by omega), xL] at h4
    have q := nb _ (sb s (by omega))
    have q' := nb _ (sb s' (by omega))
    rw [xS s (by omega), xS s' (by omega), xM _ _ (by omega), xM _ _ (by omega)]
    exact hU.1 0 (by omega) (src f w s) (src f w s') (si s s' h1) (by show _ < iH g 89 13; have := sb s' (by omega); omega) k k' h3 h4
  · rw [eDS.1.2] at hx2
    rw [xL] at h2
    rw [xM x i hx1, xM x j hx1]
    exact hU.2 x hx1 hx2 i j h1 h2
  · obtain ⟨r, hr1⟩ : ∃ r, S = f + w + r := ⟨S - (f + w), by omega⟩
    have e1 : m_held G = sumN (fun s => iH g 615 (iH g 1155 (src f w s)).toNat) (f + r) := by
      unfold m_held
      rw [xn, Int.toNat_natCast, show S - w = f + r by omega]
      exact sumN_cg fun s hs1 => by rw [xS s (by omega), xL]
    have e2 : m_held g = sumN (fun s => iH g 615 (iH g 1155 s).toNat) (f + w + r) := by
      unfold m_held
      rw [hS, Int.toNat_natCast, hr1]
    have e3 := sum_src (L := fun s => iH g 615 (iH g 1155 s).toNat) (f := f) (w := w) (r := r)
    have e4 : 0 ≤ sumN (fun i => iH g 615 (iH g 1155 (f + i)).toNat) w := sumN_bd0 w fun i hi => by
      have := ((nowOf hp.1.1).2 (f + i) (by omega)).2.1
      exact this.1
    have := hr.2.1
    rw [e1]
    have e3 : sumN (fun s => iH g 615 (iH g 1155 (src f w s)).toNat) (f + r) + sumN (fun i => iH g 615 (iH g 1155 (f + i)).toNat) w = sumN (fun s => iH g 615 (iH g 1155 s).toNat) (f + w + r) := e3
    omega
theorem fin1_K {X n N1 r c : Nat} {z : Int64} (hp : kSta h g da sa) (hb : kB h g da) (hS : iH g 89 13 = (S : Int)) (hw : iH g 89 26 = (w : Int)) (hfw : f + w ≤ S) (hw2 : 2 ≤ w) (hX : iH g 89 5 = (X : Int)) (hX5 : X < 520) (hn : iH g 89 27 = (n : Int)) (hn64 : n ≤ 64)
    (hcm : ∀ k, k < n → ∃ i j : Nat, i < w ∧ (j : Int) < iH g 615 (iH g 1155 (f + i)).toNat ∧ iH g 1159 k = iH g (617 + (iH g 1155 (f + i)).toNat) j) (hcd : ∀ k k' : Nat, k < k' → k' < n → iH g 1159 k ≠ iH g 1159 k') (hsum : (n : Int) ≤ sumN (fun i => iH g 615 (iH g 1155 (f + i)).toNat) w)
    (ag : agD h H) (hSg : iSg H N1 n r) (hcr : c ≤ r) (hdD : dD H N1 c (MW (fun k => (iH g 91 (iH g 1159 k).toNat).toNat) (fun k i => iH g (93 + (iH g 1159 k).toNat) i) n 0) (cpW (fun k => (iH g 91 (iH g 1159 k).toNat).toNat) (fun k i => iH g (93 + (iH g 1159 k).toNat) i) n 0) (spW (fun k => (iH g 91 (iH g 1159 k).toNat).toNat) (fun k i => iH g (93 + (iH g 1159 k).toNat) i) n 0)) (hnm : iH H N1 0 = (X : Int) + 1) (hrow : ∀ k : Nat, k < n → rH H (N1 - 1) k = some (da (iH g 1159 k).toNat))
    (hz : ∀ k : Nat, bt z k ↔ k < n ∧ iH g 613 (iH g 1159 k).toNat ≠ 0)
    (h5 : iH H 5 2 = ((S - (w - 1) : Nat) : Int)) (h6 : ∀ k, k < S - (w - 1) → rH H 6 k = if k = f then some N1 else rH h 6 (src f (w - 1) k)) (h7 : ∀ k, k < S - (w - 1) → jH H 7 k = if k = f then z else jH h 7 (src f (w - 1) k)) (hst : ∀ c, iSt c → c ≠ 5 → (∀ k, iH H c k = iH h c k) ∧ (∀ k, rH H (c + 1) k = rH h (c + 1) k) ∧ ∀ k, jH H (c + 2) k = jH h (c + 2) k) (h53 : iH H 5 3 = iH h 5 3) (h02 : iH H 0 2 = iH h 0 2) (h4 : ∀ k, rH H 4 k = rH h 4 k) :
    kSta H (m_fin1 g f) da (fun x => if x = X then N1 else sa x) ∧ kB H (m_fin1 g f) da ∧ (∀ x k, x ≠ 89 → x ≠ 1155 → (x ≠ 615 ∨ k ≠ X) → x ≠ 617 + X → (x ≠ 614 ∨ k ≠ X) → iH (m_fin1 g f) x k = iH g x k) ∧ (∀ k, k ≠ 5 → k ≠ 13 → k ≠ 24 → iH (m_fin1 g f) 89 k = iH g 89 k) ∧ iH (m_fin1 g f) 89 5 = (X : Int) + 1 := by
  obtain ⟨G, hG⟩ : ∃ G, G = m_fin1 g f := ⟨_, rfl⟩
  rw [← hG]
  obtain ⟨A, hA⟩ : ∃ A, A = m_fin1A g f := ⟨_, rfl⟩
  have hA2 : A = sI (sI (sW (sI (sI (sI g 89 24 0) 614 X (X + 1)) 89 5 (X + 1)) (617 + X) (m_ffM g n)) 615 X n) 1155 f X := by
    rw [hA]; unfold m_fin1A m_fill m_ns0
    have e5 : iH (sI g 89 24 0) 89 5 = (X : Int) := (rI_nk (by decide)).trans hX
    rw [e5, hX, hn]; simp only [Int.toNat_natCast]
  have hG2 : G = sI (sW A 1155 (m_mv (iH A 1155) (f + 1) (w - 1) (S - (w - 1)))) 89 13 ((S - (w - 1) : Nat) : Int) := by
    rw [hG, hA]; unfold m_fin1; rw [hS, hw]
    rw [show ((w : Int) - 1).toNat = w - 1 by omega, show ((S : Int) - ((w : Int) - 1)).toNat = S - (w - 1) by omega, show (S : Int) - ((w : Int) - 1) = ((S - (w - 1) : Nat) : Int) by omega]
  have st : ∀ (h : AH) (x k a i : Nat) (v : Int), (x ≠ a ∨ k ≠ i) → iH (sI h a i v) x k = iH h x k := fun h x k a i v q => by
    by_cases e : x = a
    · subst e; exact rI_nk (q.elim (fun u => absurd rfl u) id)
    · exact rI_ne e
  have a0 : ∀ x k, x ≠ 89 → (x ≠ 1155 ∨ k ≠ f) → (x ≠ 615 ∨ k ≠ X) → x ≠ 617 + X → (x ≠ 614 ∨ k ≠ X) → iH A x k = iH g x k := fun x k h1 h2 h3 h4 h5 => by
    rw [hA2, st _ _ _ _ _ _ h2, st _ _ _ _ _ _ h3, rW_ne h4, rI_ne h1, st _ _ _ _ _ _ h5, rI_ne h1]
  have x0 : ∀ x k, x ≠ 89 → x ≠ 1155 → (x ≠ 615 ∨ k ≠ X) → x ≠ 617 + X → (x ≠ 614 ∨ k ≠ X) → iH G x k = iH g x k := fun x k h1 h2 h3 h4 h5 => by
    rw [hG2, rI_ne h1, rW_ne h2]
    exact a0 x k h1 (Or.inl h2) h3 h4 h5
  have x7 : ∀ k, k ≠ 5 → k ≠ 13 → k ≠ 24 → iH G 89 k = iH g 89 k := fun k h1 h2 h3 => by
    rw [hG2, rI_nk h2, rW_ne (by decide), hA2, rI_ne (by decide), rI_ne (by decide), rW_ne (by omega), rI_nk h1, rI_ne (by decide), rI_nk h3]
  have xs : iH G 89 5 = (X : Int) + 1 := by
    rw [hG2, rI_nk (by decide), rW_ne (by decide), hA2, rI_ne (by decide), rI_ne (by decide), rW_ne (by omega)]; exact rI_same
  have xn : iH G 89 13 = ((S - (w - 1) : Nat) : Int) := by rw [hG2]; exact rI_same
  have aS : ∀ s, iH A 1155 s = if s = f then (X : Int) else iH g 1155 s := fun s => by
    rw [hA2, rI_if]
    by_cases e : s = f
    · rw [if_pos e, if_pos e]
    · rw [if_neg e, if_neg e, rI_ne (by decide), rW_ne (by omega), rI_ne (by decide), rI_ne (by decide), rI_ne (by decide)]
  have xS : ∀ s, s < S - (w - 1) → iH G 1155 s = if s = f then (X : Int) else iH g 1155 (src f (w - 1) s) := fun s hs => by
    rw [hG2, rI_ne (by decide), rW_same]
    unfold m_mv src
    by_cases c : f + 1 ≤ s ∧ s < S - (w - 1)
    · rw [if_pos c, aS, if_neg (by omega), if_neg (by omega), if_neg (by omega)]
    · rw [if_neg c, aS]
      by_cases e : s = f
      · rw [if_pos e, if_pos e]
      · rw [if_neg e, if_neg e, if_pos (by omega)]
  have xL : iH G 615 X = (n : Int) := by
    rw [hG2, rI_ne (by decide), rW_ne (by decide), hA2, rI_ne (by decide)]; exact rI_same
  have xM : ∀ k, k < n → iH G (617 + X) k = iH g 1159 k := fun k hk => by
    rw [hG2, rI_ne (by omega), rW_ne (by omega), hA2, rI_ne (by omega), rI_ne (by omega), rW_same]
    exact if_pos hk
  have xN : iH G 614 X = (X : Int) + 1 := by
    rw [hG2, rI_ne (by decide), rW_ne (by decide), hA2, rI_ne (by decide), rI_ne (by decide), rW_ne (by omega), rI_ne (by decide)]; exact rI_same
  have sb : ∀ s, s < S - (w - 1) → s ≠ f → src f (w - 1) s < S ∧ (src f (w - 1) s < f ∨ f + w ≤ src f (w - 1) s) := fun s hs e => by unfold src; split <;> omega
  have si : ∀ s s', s < s' → src f (w - 1) s < src f (w - 1) s' := fun s s' hs => by unfold src; split <;> split <;> omega
  obtain ⟨hk, hr, hU⟩ := id hp
  obtain ⟨⟨hd, hs, hno⟩, hv, hf⟩ := hk
  have s520 := segs_520 hs
  have b8 := hno.2.1
  have d520 := docs_520 hd
  have eD : agDs g G := ⟨by rw [x7 0 (by decide) (by decide) (by decide)]; exact Int.le_refl _, fun d hd1 => ⟨⟨x0 _ _ (by decide) (by decide) (Or.inl (by decide)) (by omega) (Or.inl (by decide)), fun i => x0 _ _ (by omega) (by omega) (Or.inl (by omega)) (by omega) (Or.inl (by omega))⟩, x0 _ _ (by decide) (by decide) (Or.inl (by decide)) (by omega) (Or.inl (by decide))⟩⟩
  have eS : agSs g G := ⟨by rw [xs, hX]; omega, fun x hx => ⟨x0 _ _ (by decide) (by decide) (Or.inl (by decide)) (by omega) (Or.inr (by omega)), x0 _ _ (by decide) (by decide) (Or.inr (by omega)) (by omega) (Or.inl (by decide)), fun k => x0 _ _ (by omega) (by omega) (Or.inl (by omega)) (by omega) (Or.inl (by omega))⟩⟩
  have ey : exS g sa (fun x => if x = X then N1 else sa x) := fun x hx => if_neg (by omega)
  have ed : iH G 89 0 = iH g 89 0 := x7 0 (by decide) (by decide) (by decide)
  have hdR : cDocs H G da := cDocs_mv eD ed (fun _ _ => rfl) (cDocs_ag ag hd)
  have xI : ∀ d, iH G 613 d = iH g 613 d := fun d => x0 _ _ (by decide) (by decide) (Or.inl (by decide)) (by omega) (Or.inl (by decide))
  have nb : ∀ s : Nat, s < S → (0 ≤ iH g 1155 s ∧ iH g 1155 s < iH g 89 5) := fun s hs1 => (hno.2.2 s (by omega)).1
  have bu : ∀ k, k < n → (0 ≤ iH g 1159 k ∧ iH g 1159 k < iH g 89 0) := fun k hk1 => by
    obtain ⟨i, j, i1, i2, i3⟩ := hcm k hk1
    have m := mem_bd hp (s := f + i) (k := j) (by omega) i2
    rw [i3]; exact ⟨m.1, m.2.1⟩
  have hsg : m_segd G X := by
    refine ⟨⟨by omega, by rw [Int.toNat_natCast, xL]; omega, fun k hk1 => ?_⟩, fun k hk1 => ?_⟩
    · rw [Int.toNat_natCast] at hk1 ⊢
      rw [xL] at hk1
      rw [xM k (by omega)]
      have := bu k (by omega)
      omega
    · rw [Int.toNat_natCast] at hk1 ⊢
      rw [xL] at hk1
      rw [xM k (by omega)]
      have u := bu k (by omega)
      have := (hdR (iH g 1159 k).toNat (by omega)).1
      rw [Int.toNat_of_nonneg u.1] at this
      exact this
  have hwg : sgW G X n (fun k => (iH g 91 (iH g 1159 k).toNat).toNat) (fun k i => iH g (93 + (iH g 1159 k).toNat) i) := by
    refine ⟨xL, fun k hk1 => ?_⟩
    have u := bu k hk1
    have v := (hd (iH g 1159 k).toNat (by omega)).1.2.1
    rw [Int.toNat_natCast] at v
    have w := (eD.2 (iH g 1159 k).toNat (by omega)).1
    refine ⟨by dsimp only; rw [xM k hk1, w.1]; omega, fun i _ => ?_⟩
    unfold m_wd
    rw [Int.toNat_natCast, xM k hk1, w.2]
  obtain ⟨m1, m2⟩ := sgW_dict hwg hsg hSg.2.2.2.2.2 hcr hdD
  have hsR : cSegs H G da (fun x => if x = X then N1 else sa x) := by
    intro x hx
    rw [xs] at hx
    by_cases e : x = X
    · subst e
      refine ⟨m1, xN, ?_, ⟨r, ?_, ?_⟩, fun k hk1 => ?_⟩ <;> dsimp only <;> rw [if_pos rfl]
      · exact hnm
      · rw [xL, Int.toNat_natCast]; exact hSg
      · exact m2
      · rw [xL] at hk1
        rw [xM k (by omega), hrow k (by omega), ed]
        exact ⟨rfl, (bu k (by omega)).2⟩
    · exact cSegsO_mv eD eS (fun _ _ => rfl) ey (cSegs_ag ag hs) (by omega)
  have hnR : cNow H G (fun x => if x = X then N1 else sa x) := by
    refine ⟨by rw [xn]; exact h5, by rw [xn]; omega, fun s hs1 => ?_⟩
    rw [xn] at hs1
    have hs2 : s < S - (w - 1) := by omega
    have rw1 : nRow G s = if s = f then (X : Int) else iH g 1155 (src f (w - 1) s) := xS s hs2
    rw [rw1, h6 s hs2, show 5 + 2 = 7 from rfl, h7 s hs2]
    by_cases e : s = f
    · subst e
      dsimp only
      rw [if_pos rfl, if_pos rfl, if_pos rfl, Int.toNat_natCast, if_pos rfl, xL]
      refine ⟨by omega, rfl, fun k => (hz k).trans ?_⟩
      unfold nDr
      rw [xS s hs2, if_pos rfl, Int.toNat_natCast]
      constructor
      · rintro ⟨u1, u2⟩
        exact ⟨by omega, by rw [xM k u1, xI]; exact u2⟩
      · rintro ⟨u1, u2⟩
        rw [xM k (by omega), xI] at u2
        exact ⟨by omega, u2⟩
    · obtain ⟨b1, b2⟩ := sb s hs2 e
      have u := nb _ b1
      obtain ⟨p1, p2, p3⟩ := hno.2.2 (src f (w - 1) s) (by omega)
      dsimp only
      rw [if_neg e, if_neg e, if_neg e, if_neg (by omega), (eS.2 (iH g 1155 (src f (w - 1) s)).toNat (by omega)).2.1]
      refine ⟨by omega, p2, fun k => ?_⟩
      have p3' := p3 k
      rw [show 5 + 2 = 7 from rfl] at p3'
      rw [p3']
      unfold nDr nRow
      rw [xS s hs2, if_neg e, (eS.2 (iH g 1155 (src f (w - 1) s)).toNat (by omega)).2.2, xI]
  -- what comes stands in none that stays
  have fresh : ∀ s, s < S - (w - 1) → s ≠ f → ∀ k j : Nat, (k : Int) < iH g 615 (iH g 1155 (src f (w - 1) s)).toNat → j < n → iH g (617 + (iH g 1155 (src f (w - 1) s)).toNat) k ≠ iH g 1159 j := fun s hs2 e k j hk1 hj u => by
    obtain ⟨b1, b2⟩ := sb s hs2 e
    obtain ⟨i, j', i1, i2, i3⟩ := hcm j hj
    rw [i3] at u
    have := (uniq0 hp (s := src f (w - 1) s) (s' := f + i) (by omega) (by omega) hk1 i2 u).1
    omega
  have lenS : ∀ s, s < S - (w - 1) → s ≠ f → iH G 615 (iH G 1155 s).toNat = iH g 615 (iH g 1155 (src f (w - 1) s)).toNat ∧ ∀ k, iH G (617 + (iH G 1155 s).toNat) k = iH g (617 + (iH g 1155 (src f (w - 1) s)).toNat) k := fun s hs2 e => by
    have u := nb _ (sb s hs2 e).1
    obtain ⟨-, c2, c3⟩ := eS.2 (iH g 1155 (src f (w - 1) s)).toNat (by omega)
    rw [xS s hs2, if_neg e]
    exact ⟨c2, c3⟩
  have lenf : f < S - (w - 1) := by omega
  have xf : iH G 1155 f = (X : Int) := by rw [xS f lenf, if_pos rfl]
  have K := now_K (h := h) (H := H) (G := G) hp eS ey hdR hsR hnR (fun x h1 h2 k => x0 x k (by omega) (by omega) (Or.inl (by omega)) (by omega) (Or.inl (by omega))) xI hst h53 (fun s s' h1 h2 => ?_) (fun s s' h1 h2 k k' h3 h4 => ?_) (fun x hx5 hx i j hij hj => ?_) ?_
  · refine ⟨K, ⟨⟨by rw [h02, x7 15 (by decide) (by decide) (by decide)]; exact hb.1.1, by rw [x7 15 (by decide) (by decide) (by decide)]; exact hb.1.2.1, fun i hi => ?_⟩, fun i hi => ?_⟩, x0, x7, xs⟩
    · rw [x7 15 (by decide) (by decide) (by decide)] at hi
      rw [x0 1156 _ (by decide) (by decide) (Or.inl (by decide)) (by omega) (Or.inl (by decide)), h4, ed]
      exact hb.1.2.2 i hi
    · rw [x7 15 (by decide) (by decide) (by decide)] at hi
      obtain ⟨q1, q2, q3⟩ := hb.2 i hi
      have xB : ∀ k, iH G 1156 k = iH g 1156 k := fun k => x0 _ _ (by decide) (by decide) (Or.inl (by decide)) (by omega) (Or.inl (by decide))
      rw [xB, xI]
      refine ⟨q1, fun i' hi' => by rw [xB]; exact q2 i' hi', fun x hx hx2 k hk1 => ?_⟩
      rw [xs] at hx2
      by_cases e : x = X
      · subst e
        rw [xL] at hk1
        rw [xM k (by omega)]
        obtain ⟨i2, j2, c1, c2, c3⟩ := hcm k (by omega)
        have m := mem_bd hp (s := f + i2) (k := j2) (by omega) c2
        rw [c3]
        exact q3 _ m.2.2.1 m.2.2.2 j2 c2
      · obtain ⟨-, c2, c3⟩ := eS.2 x (by omega)
        rw [c2] at hk1
        rw [c3]
        exact q3 x hx (by omega) k hk1
  · rw [xn] at h2
    by_cases e : s = f
    · subst e
      rw [xf, xS s' (by omega), if_neg (by omega)]
      have u := nb _ (sb s' (by omega) (by omega)).1
      omega
    · by_cases e' : s' = f
      · subst e'
        rw [xf, xS s (by omega), if_neg e]
        have u := nb _ (sb s (by omega) e).1
        omega
      · rw [xS s (by omega), if_neg e, xS s' (by omega), if_neg e']
        exact hr.1 0 (by omega) _ _ (si s s' h1) (by show _ < iH g 89 13; have := (sb s' (by omega) e').1; omega)
  · rw [xn] at h2
    by_cases e : s = f
    · subst e
      obtain ⟨l1, l2⟩ := lenS s' (by omega) (by omega)
      rw [xf, Int.toNat_natCast, xL] at h3
      rw [l1] at h4
      rw [xf, Int.toNat_natCast, xM k (by omega), l2]
      exact fun u => fresh s' (by omega) (by omega) k' k h4 (by omega) u.symm
    · by_cases e' : s' = f
      · subst e'
        obtain ⟨l1, l2⟩ := lenS s (by omega) e
        rw [xf, Int.toNat_natCast, xL] at h4
        rw [l1] at h3
        rw [xf, Int.toNat_natCast, xM k' (by omega), l2]
        exact fresh s (by omega) e k k' h3 (by omega)
      · obtain ⟨l1, l2⟩ := lenS s (by omega) e
        obtain ⟨l1', l2'⟩ := lenS s' (by omega) e'
        rw [l1] at h3
        rw [l1'] at h4
        rw [l2, l2']
        exact hU.1 0 (by omega) _ _ (si s s' h1) (by show _ < iH g 89 13; have := (sb s' (by omega) e').1; omega) k k' h3 h4
  · rw [xs] at hx
    by_cases e : x = X
    · subst e
      rw [xL] at hj
      rw [xM i (by omega), xM j (by omega)]
      exact hcd i j hij (by omega)
    · obtain ⟨-, c2, c3⟩ := eS.2 x (by omega)
      rw [c2] at hj
      rw [c3, c3]
      exact hU.2 x hx5 (by omega) i j hij hj
  · obtain ⟨q, hq⟩ : ∃ q, S = f + w + q := ⟨S - (f + w), by omega⟩
    have e1 : m_held G = sumN (fun s => iH G 615 (iH G 1155 s).toNat) (f + (1 + q)) := by
      unfold m_held
      rw [xn, Int.toNat_natCast, show S - (w - 1) = f + (1 + q) by omega]
    have e2 : m_held g = sumN (fun s => iH g 615 (iH g 1155 s).toNat) (f + (w + q)) := by
      unfold m_held
      rw [hS, Int.toNat_natCast, hq, Nat.add_assoc]
    rw [sumN_split, sumN_split _ 1] at e1
    rw [sumN_split, sumN_split _ w] at e2
    have t1 : sumN (fun s => iH G 615 (iH G 1155 s).toNat) f = sumN (fun s => iH g 615 (iH g 1155 s).toNat) f := sumN_cg fun s hs1 => by
      rw [(lenS s (by omega) (by omega)).1]
      unfold src
      rw [if_pos hs1]
    have t2 : sumN (fun i => iH G 615 (iH G 1155 (f + i)).toNat) 1 = (n : Int) := by
      show (0 : Int) + iH G 615 (iH G 1155 (f + 0)).toNat = _
      rw [Nat.add_zero, xf, Int.toNat_natCast, xL]; omega
    have t3 : sumN (fun i => iH G 615 (iH G 1155 (f + (1 + i))).toNat) q = sumN (fun i => iH g 615 (iH g 1155 (f + (w + i))).toNat) q := sumN_cg fun i hi => by
      rw [(lenS (f + (1 + i)) (by omega) (by omega)).1]
      unfold src
      rw [if_neg (by omega), show f + (1 + i) + (w - 1) = f + (w + i) by omega]
    have := hr.2.1
    rw [e1, t1, t2, t3]
    omega
end
