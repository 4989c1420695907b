/-! STANDS ARE LAID DOWN -/
/-- documents and segments are the same ones -/
def agDS (g g' : AH) : Prop := (iH g' 89 0 = iH g 89 0 ∧ iH g' 89 5 = iH g 89 5) ∧ ∀ x k : Nat, 90 ≤ x → x < 1137 → x ≠ 613 → iH g' x k = iH g x k
theorem agDS_D {g g' : AH} (e : agDS g g') (hd : iH g 89 0 ≤ 520) : agDs g g' := ⟨by rw [e.1.1]; exact Int.le_refl _, fun d _ => ⟨⟨e.2 _ _ (by omega) (by omega) (by omega), fun i => e.2 _ _ (by omega) (by omega) (by omega)⟩, e.2 _ _ (by omega) (by omega) (by omega)⟩⟩
theorem agDS_S {g g' : AH} (e : agDS g g') (hs : iH g 89 5 ≤ 520) : agSs g g' := ⟨by rw [e.1.2]; exact Int.le_refl _, fun x _ => ⟨e.2 _ _ (by omega) (by omega) (by omega), e.2 _ _ (by omega) (by omega) (by omega), fun k => e.2 _ _ (by omega) (by omega) (by omega)⟩⟩
section
variable {g : AH}
theorem layW_at (hn : m_now g) {W : Nat → Int} {s k : Nat} (hk : (k : Int) < iH g 615 (iH g 1155 s).toNat) : ∀ S : Nat, s < S → (S : Int) ≤ iH g 89 13 → m_layW g W S ((m_off g s).toNat + k) = m_drD g s k := by
  intro S
  induction S with
  | zero => intro h; omega
  | succ S ih =>
    intro h1 h2
    have o1 := (m_off_le hn S s (by omega) (by omega))
    have o2 : m_off g (s + 1) = m_off g s + iH g 615 (iH g 1155 s).toNat := rfl
    show m_layI g (m_layW g W S) S _ _ = _
    unfold m_layI
    by_cases e : s = S
    · subst e
      rw [if_pos (by omega), show (m_off g s).toNat + k - (m_off g s).toNat = k by omega]
    · have o3 := (m_off_le hn S (s + 1) (by omega) (by omega))
      rw [if_neg (by omega)]
      exact ih (by omega) (by omega)
variable {t : Nat}
theorem lay_I : iH (m_lay g t) 1137 t = 1 := by
  unfold m_lay m_layB
  rw [Int.toNat_natCast, rW_ne (by omega), rW_ne (by omega), rI_ne (by decide), rI_same]
theorem lay_C : iH (m_lay g t) 1138 t = iH g 89 13 := by
  unfold m_lay m_layB
  rw [Int.toNat_natCast, rW_ne (by omega), rW_ne (by omega), rI_same]
theorem lay_R (ht : t < 7) {s : Nat} (hs : (s : Int) < iH g 89 13) : iH (m_lay g t) (1140 + t) s = iH g 1155 s := by
  unfold m_lay m_layB
  rw [Int.toNat_natCast, rW_ne (by omega), rW_same]
  unfold m_layR
  rw [if_pos (by omega)]
theorem lay_W : ∀ n : Nat, iH (m_lay g t) (1148 + t) n = m_layW g (iH g (1148 + t)) (iH g 89 13).toNat n := by
  intro n
  unfold m_lay
  rw [Int.toNat_natCast, rW_same]
theorem lay_x {x k : Nat} (h1 : x ≠ 1140 + t) (h2 : x ≠ 1148 + t) (h3 : x ≠ 1137 ∨ k ≠ t) (h4 : x ≠ 1138 ∨ k ≠ t) : iH (m_lay g t) x k = iH g x k := by
  unfold m_lay m_layB
  rw [Int.toNat_natCast, rW_ne h2, rW_ne h1]
  have a1 : ∀ h : AH, iH (sI h 1138 t (iH g 89 13)) x k = iH h x k := fun h => by
    by_cases e : x = 1138
    · subst e; exact rI_nk (h4.elim (fun q => absurd rfl q) id)
    · exact rI_ne e
  rw [a1]
  by_cases e : x = 1137
  · subst e; exact rI_nk (h3.elim (fun q => absurd rfl q) id)
  · exact rI_ne e
theorem lay_off (ht : t < 7) {s : Nat} (hs : (s : Int) ≤ iH g 89 13) : m_offT (m_lay g t) t s = m_off g s := by
  unfold m_offT m_off
  rw [Int.toNat_natCast]
  refine sumN_cg fun i hi => ?_
  rw [lay_R ht (by omega), lay_x (by omega) (by omega) (by omega) (by omega)]
theorem lay_dr (ht : t < 7) (hn : m_now g) {s k : Nat} (hs : (s : Int) < iH g 89 13) (hk : (k : Int) < iH g 615 (iH g 1155 s).toNat) : tDr (m_lay g t) t s k ↔ nDr g s k := by
  unfold tDr nDr
  rw [lay_W, lay_off ht (by omega), layW_at hn hk _ (by omega) (by omega)]
  exact Iff.rfl
theorem lay_oT {u : Nat} (hu : u < 7) (e : u ≠ t) {s : Nat} : m_offT (m_lay g t) u s = m_offT g u s := by
  unfold m_offT
  rw [Int.toNat_natCast]
  refine sumN_cg fun i hi => ?_
  rw [lay_x (x := 1140 + u) (by omega) (by omega) (by omega) (by omega), lay_x (by omega) (by omega) (by omega) (by omega)]
theorem lay_tDr {u : Nat} (ht : t < 7) (hu : u < 7) (e : u ≠ t) (s k : Nat) : tDr (m_lay g t) u s k ↔ tDr g u s k := by
  unfold tDr
  rw [lay_oT hu e, lay_x (by omega) (by omega) (by omega) (by omega)]
theorem lay_DS (ht : t < 7) : agDS g (m_lay g t) := ⟨⟨lay_x (by omega) (by omega) (by omega) (by omega), lay_x (by omega) (by omega) (by omega) (by omega)⟩, fun x k h1 h2 _ => lay_x (by omega) (by omega) (by omega) (by omega)⟩
end
section
variable {h g : AH} {sa : Nat → Nat} {a b : Nat} {n : Int} {row : Nat → Int} {dr : Nat → Nat → Prop} {R : Nat → Option Nat} {J : Nat → Int64}
/-- a stand becomes another -/
theorem cStd_cp (hc : cStd h g sa b n row dr) (hm : ∀ k : Nat, (k : Int) < iH h b 2 → R k = rH h (b + 1) k ∧ J k = jH h (b + 2) k) : cStd (hSt h a (iH h b 2) R J) g sa a n row dr := by
  obtain ⟨c1, c2, c3⟩ := hc
  refine ⟨by rw [st_n]; exact c1, c2, fun s hs => ?_⟩
  obtain ⟨q1, q2, q3⟩ := c3 s hs
  obtain ⟨m1, m2⟩ := hm s (by omega)
  rw [st_R, st_J, m1, m2]
  exact ⟨q1, q2, q3⟩
end
/-- the stands, as a whole -/
def rI (g : AH) : Prop := kI g ∧ m_held g ≤ 64 ∧ (∀ t : Nat, t < 6 → m_offT g t (iH g 1138 t).toNat ≤ 64 ∧ ∀ k : Nat, k < 64 → iH g (1148 + t) k = 0 ∨ iH g (1148 + t) k = 1) ∧ ∀ d : Nat, d < 520 → iH g 613 d = 0 ∨ iH g 613 d = 1
/-- no document stands twice in one stand -/
def kU1 (g : AH) : Prop := ∀ j : Nat, j < 7 → ∀ s s' : Nat, s < s' → (s' : Int) < cntH g j → ∀ k k' : Nat, (k : Int) < iH g 615 (rowH g j s).toNat → (k' : Int) < iH g 615 (rowH g j s').toNat → iH g (617 + (rowH g j s).toNat) k ≠ iH g (617 + (rowH g j s').toNat) k'
/-- nor in one segment -/
def kW (g : AH) : Prop := ∀ x : Nat, x < 520 → (x : Int) < iH g 89 5 → ∀ i j : Nat, i < j → (j : Int) < iH g 615 x → iH g (617 + x) i ≠ iH g (617 + x) j
def kU (g : AH) : Prop := kU1 g ∧ kW g
theorem segs_520 {h g : AH} {da sa : Nat → Nat} (hs : cSegs h g da sa) : iH g 89 5 ≤ 520 := by
  refine Classical.byContradiction fun c => ?_
  have := (hs 520 (by omega)).1.1.1.1
  omega
theorem agD_rf {h h' : AH} (e0 : nH h' = nH h) (e1 : ∀ x, kH h' x = kH h x) (e2 : ∀ x, 1191 ≤ x → (∀ k, iH h' x k = iH h x k) ∧ ∀ k, rH h' x k = rH h x k) : agD h h' := ⟨by rw [e0]; exact Nat.le_refl _, fun x _ hx => ⟨e1 x, e2 x hx⟩⟩
theorem iSt_1173 {a : Nat} (ha : iSt a) : a + 2 < 1191 := by unfold iSt at ha; omega
/-- the class's stand t becomes what stands now, and the reference lays it down -/
def hLay (h : AH) (t : Nat) (n : Int) (R : Nat → Option Nat) (J : Nat → Int64) : AH := sI (hSt h (avT t) n R J) (avT t) 3 1
theorem lay_kHd {h g : AH} {da sa : Nat → Nat} {t : Nat} {R : Nat → Option Nat} {J : Nat → Int64} (ht : t < 5) (hk : kHd h g da sa) (hm : ∀ k : Nat, (k : Int) < iH h 5 2 → R k = rH h 6 k ∧ J k = jH h 7 k) : kHd (hLay h t (iH h 5 2) R J) (m_lay g t) da sa := by
  obtain ⟨⟨hd, hs, hn⟩, hv, hf⟩ := hk
  have hna : m_now g := nowOf ⟨hd, hs, hn⟩
  have hst := iSt_av (t := t) (by omega)
  have h73 := iSt_1173 hst
  have eDS := lay_DS (g := g) (t := t) (by omega)
  have eD := agDS_D eDS (docs_520 hd)
  have eS := agDS_S eDS (segs_520 hs)
  have ag : agD h (hLay h t (iH h 5 2) R J) := agD_rf rfl (fun _ => rfl) fun x hx => ⟨fun k => by unfold hLay; rw [rI_ne (by omega), st_io (by omega)], fun k => by
    show rH (hSt h (avT t) (iH h 5 2) R J) x k = _
    exact st_Ro (by omega)⟩
  have io : ∀ c k, c ≠ avT t → iH (hLay h t (iH h 5 2) R J) c k = iH h c k := fun c k hc => by unfold hLay; rw [rI_ne hc, st_io hc]
  have ro : ∀ c, iSt c → c ≠ avT t → (∀ k, rH (hLay h t (iH h 5 2) R J) (c + 1) k = rH h (c + 1) k) ∧ ∀ k, jH (hLay h t (iH h 5 2) R J) (c + 2) k = jH h (c + 2) k := fun c hc hne => by
    have := iSt_ap hst hc (fun q => hne q.symm)
    refine ⟨fun k => ?_, fun k => ?_⟩
    · show rH (hSt h (avT t) (iH h 5 2) R J) _ k = _
      exact st_Ro (by omega)
    · show jH (hSt h (avT t) (iH h 5 2) R J) _ k = _
      exact st_Jo (by omega)
  have n5 : 5 ≠ avT t := by unfold avT; (repeat' split) <;> omega
  have seg : iH (m_lay g t) 89 13 = iH g 89 13 := lay_x (by omega) (by omega) (by omega) (by omega)
  have sta : ∀ s, iH (m_lay g t) 1155 s = iH g 1155 s := fun s => lay_x (by omega) (by omega) (by omega) (by omega)
  refine ⟨⟨cDocs_mv eD eDS.1.1 (fun _ _ => rfl) (cDocs_ag ag hd), cSegs_mv eD eS eDS.1.2 (fun _ _ => rfl) (fun _ _ => rfl) (cSegs_ag ag hs), ?_⟩, fun u hu => ?_, ?_⟩
  · obtain ⟨r1, r2⟩ := ro 5 (Or.inl rfl) n5
    refine cStd_mv eS (fun _ _ => rfl) seg (fun s _ => sta s) (fun s k hs1 hk1 => ?_) (io 5 2 n5) r1 r2 hn
    have q1 : 0 ≤ iH g 1155 s ∧ iH g 1155 s < iH g 89 5 := (hn.2.2 s hs1).1
    have := segs_520 hs
    unfold nDr
    rw [sta, lay_x (x := 617 + _) (by omega) (by omega) (by omega) (by omega), lay_x (by omega) (by omega) (by omega) (by omega)]
  · by_cases e : u = t
    · subst e
      have c1 := cStd_cp (a := avT u) (R := R) (J := J) (b := 5) (n := iH g 89 13) (row := nRow g) (dr := nDr g) hn hm
      refine cStd_mv (h := hSt h (avT u) (iH h 5 2) R J) (row := nRow g) eS (fun _ _ => rfl) lay_C (fun s hs1 => lay_R (by omega) hs1) (fun s k hs1 hk1 => lay_dr (by omega) hna hs1 hk1) ?_ (fun _ => rfl) (fun _ => rfl) c1
      show iH (sI (hSt h (avT u) (iH h 5 2) R J) (avT u) 3 1) (avT u) 2 = _
      exact rI_nk (by decide)
    · have ne : avT u ≠ avT t := by unfold avT; (repeat' split) <;> omega
      obtain ⟨r1, r2⟩ := ro _ (iSt_av hu) ne
      exact cStd_mv eS (fun _ _ => rfl) (lay_x (by omega) (by omega) (Or.inr e) (Or.inr e)) (fun s _ => lay_x (by omega) (by omega) (by omega) (by omega)) (fun s k _ _ => lay_tDr (by omega) (by omega) e s k) (io _ 2 ne) r1 r2 (hv u hu)
  · obtain ⟨f1, f2, f3, f4⟩ := hf
    refine ⟨fun u hu => ?_, by rw [io 5 3 n5]; exact f2, by rw [io 11 3 (by unfold avT; (repeat' split) <;> omega)]; exact f3, ?_⟩
    · by_cases e : u = t
      · subst e
        rw [lay_I]
        exact ⟨rI_same, Or.inr rfl⟩
      · have ne : avT u ≠ avT t := by unfold avT; (repeat' split) <;> omega
        rw [io _ 3 ne, lay_x (by omega) (by omega) (Or.inr e) (Or.inr e)]
        exact f1 u hu
    · rw [lay_x (by omega) (by omega) (Or.inr (by omega)) (Or.inr (by omega)), lay_x (by omega) (by omega) (Or.inr (by omega)) (Or.inr (by omega))]
      exact f4
theorem row_bd {h g : AH} {da sa : Nat → Nat} (hk : kHd h g da sa) {j : Nat} (hj : j < 7) {s : Nat} (hs : (s : Int) < cntH g j) : 0 ≤ rowH g j s ∧ rowH g j s < iH g 89 5 ∧ iH g 89 5 ≤ 520 := by
  obtain ⟨hc, hv, hf⟩ := hk
  have := ((hold_of hc hv hf hj).1.2.2 s hs).1
  exact ⟨this.1, this.2, segs_520 hc.2.1⟩
theorem iu_from {g g' : AH} (e : agDS g g') (hb : ∀ j : Nat, j < 7 → ∀ s : Nat, (s : Int) < cntH g j → 0 ≤ rowH g j s ∧ rowH g j s < 520) (hf : ∀ j : Nat, j < 7 → ∃ j' : Nat, j' < 7 ∧ cntH g' j ≤ cntH g j' ∧ ∀ s : Nat, (s : Int) < cntH g' j → rowH g' j s = rowH g j' s) (hI : kI g) (hU : kU g) : kI g' ∧ kU g' := by
  refine ⟨fun j hj s s' h1 h2 => ?_, fun j hj s s' h1 h2 k k' h3 h4 => ?_, fun x hx h1 i j h2 h3 => ?_⟩
  · obtain ⟨j', a1, a2, a3⟩ := hf j hj
    rw [a3 s (by omega), a3 s' h2]
    exact hI j' a1 s s' h1 (by omega)
  · obtain ⟨j', a1, a2, a3⟩ := hf j hj
    have b1 := hb j' a1 s (by omega)
    have b2 := hb j' a1 s' (by omega)
    rw [a3 s (by omega), e.2 615 _ (by decide) (by decide) (by decide)] at h3
    rw [a3 s' h2, e.2 615 _ (by decide) (by decide) (by decide)] at h4
    rw [a3 s (by omega), a3 s' h2, e.2 (617 + _) _ (by omega) (by omega) (by omega), e.2 (617 + _) _ (by omega) (by omega) (by omega)]
    exact hU.1 j' a1 s s' h1 (by omega) k k' h3 h4
  · rw [e.1.2] at h1
    rw [e.2 615 _ (by decide) (by decide) (by decide)] at h3
    rw [e.2 (617 + x) _ (by omega) (by omega) (by omega), e.2 (617 + x) _ (by omega) (by omega) (by omega)]
    exact hU.2 x hx h1 i j h2 h3
theorem lay_from {g : AH} {t : Nat} (ht : t < 6) : ∀ j : Nat, j < 7 → ∃ j' : Nat, j' < 7 ∧ cntH (m_lay g t) j ≤ cntH g j' ∧ ∀ s : Nat, (s : Int) < cntH (m_lay g t) j → rowH (m_lay g t) j s = rowH g j' s := by
  intro j hj
  by_cases e0 : j = 0
  · subst e0
    refine ⟨0, by omega, ?_, fun s _ => ?_⟩
    · show iH (m_lay g t) 89 13 ≤ iH g 89 13
      rw [lay_x (by omega) (by omega) (by omega) (by omega)]; exact Int.le_refl _
    · show iH (m_lay g t) 1155 s = iH g 1155 s
      exact lay_x (by omega) (by omega) (by omega) (by omega)
  · have e2 := (hld_av e0 hj).2
    have c1 : ∀ g, cntH g j = iH g 1138 (tH j) := fun g => if_neg e0
    have r1 : ∀ g s, rowH g j s = tRow g (tH j) s := fun g s => if_neg e0
    by_cases e : tH j = t
    · refine ⟨0, by omega, ?_, fun s hs => ?_⟩
      · rw [c1, e, lay_C]; exact Int.le_refl _
      · rw [c1, e, lay_C] at hs
        rw [r1, e]
        exact lay_R (by omega) hs
    · refine ⟨j, hj, ?_, fun s hs => ?_⟩
      · rw [c1, c1, lay_x (by omega) (by omega) (Or.inr e) (Or.inr e)]; exact Int.le_refl _
      · rw [r1, r1]
        exact lay_x (by omega) (by omega) (by omega) (by omega)
theorem layW_01 {g : AH} {W : Nat → Int} (hn : m_now g) (h01 : ∀ d : Nat, d < 520 → iH g 613 d = 0 ∨ iH g 613 d = 1) (hW : ∀ k : Nat, k < 64 → W k = 0 ∨ W k = 1) {k : Nat} (hk : k < 64) : ∀ S : Nat, (S : Int) ≤ iH g 89 13 → m_layW g W S k = 0 ∨ m_layW g W S k = 1 := by
  intro S
  induction S with
  | zero => intro _; exact hW k hk
  | succ S ih =>
    intro hS
    show m_layI g (m_layW g W S) S _ k = 0 ∨ m_layI g (m_layW g W S) S _ k = 1
    unfold m_layI
    by_cases e : (m_off g S).toNat ≤ k ∧ k < (m_off g S).toNat + (iH g 615 (iH g 1155 S).toNat).toNat
    · rw [if_pos e]
      unfold m_drD
      have q := (hn.2 S (by omega)).2.2 (k - (m_off g S).toNat) (by omega)
      exact h01 _ (by omega)
    · rw [if_neg e]
      exact ih (by omega)
theorem lay_rI {h g : AH} {da sa : Nat → Nat} {t : Nat} (ht : t < 6) (hk : kHd h g da sa) (hr : rI g) (hU : kU g) : rI (m_lay g t) ∧ kU (m_lay g t) := by
  obtain ⟨r1, r2, r3, r4⟩ := hr
  have hna := nowOf hk.1
  have eDS := lay_DS (g := g) (t := t) (by omega)
  obtain ⟨i1, i2⟩ := iu_from eDS (fun j hj s hs => by have := row_bd hk hj hs; omega) (lay_from ht) r1 hU
  refine ⟨⟨i1, ?_, fun u hu => ?_, fun d hd => ?_⟩, i2⟩
  · have : m_held (m_lay g t) = m_held g := by
      unfold m_held
      rw [lay_x (x := 89) (by omega) (by omega) (by omega) (by omega)]
      exact sumN_cg fun s _ => by rw [lay_x (x := 1155) (by omega) (by omega) (by omega) (by omega), lay_x (by omega) (by omega) (by omega) (by omega)]
    rw [this]; exact r2
  · by_cases e : u = t
    · subst e
      refine ⟨?_, fun k hk1 => ?_⟩
      · have := hna.1
        rw [lay_C, lay_off (by omega) (by omega)]
        exact r2
      · rw [lay_W]
        exact layW_01 hna r4 (r3 u hu).2 hk1 _ (by have := hna.1; omega)
    · refine ⟨?_, fun k hk1 => ?_⟩
      · rw [lay_oT (by omega) e, lay_x (by omega) (by omega) (Or.inr e) (Or.inr e)]
        exact (r3 u hu).1
      · rw [lay_x (by omega) (by omega) (by omega) (by omega)]
        exact (r3 u hu).2 k hk1
  · rw [lay_x (by omega) (by omega) (by omega) (by omega)]
    exact r4 d hd
