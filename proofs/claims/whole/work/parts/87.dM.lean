/-! THE INDEX: A CRASH, COUPLED -/
section
variable {g : AH} {D : Nat → Int} {s d : Nat}
theorem crI_ne : ∀ k : Nat, (∀ k' : Nat, k' < k → d ≠ (iH g (617 + (iH g (1140 + 5) s).toNat) k').toNat) → m_crI g D s k d = D d
  | 0, _ => rfl
  | k + 1, h => by
    show (if d = (iH g (617 + (iH g (1140 + 5) s).toNat) k).toNat then _ else m_crI g D s k d) = _
    rw [if_neg (h k (by omega))]
    exact crI_ne k fun k' hk' => h k' (by omega)
theorem crI_at {j : Nat} (e : d = (iH g (617 + (iH g (1140 + 5) s).toNat) j).toNat) : ∀ k : Nat, j < k → (∀ k' : Nat, k' < k → k' ≠ j → d ≠ (iH g (617 + (iH g (1140 + 5) s).toNat) k').toNat) → m_crI g D s k d = iH g (1148 + 5) ((m_off5 g s).toNat + j)
  | 0, h, _ => absurd h (Nat.not_lt_zero _)
  | k + 1, h, u => by
    show (if d = (iH g (617 + (iH g (1140 + 5) s).toNat) k).toNat then iH g (1148 + 5) ((m_off5 g s).toNat + k) else m_crI g D s k d) = _
    by_cases c : k = j
    · subst c; rw [if_pos e]
    · rw [if_neg (u k (by omega) c)]
      exact crI_at e k (by omega) fun k' hk' hne => u k' (by omega) hne
theorem crI_01 (hD : D d = 0 ∨ D d = 1) : ∀ k : Nat, (∀ k' : Nat, k' < k → iH g (1148 + 5) ((m_off5 g s).toNat + k') = 0 ∨ iH g (1148 + 5) ((m_off5 g s).toNat + k') = 1) → m_crI g D s k d = 0 ∨ m_crI g D s k d = 1
  | 0, _ => hD
  | k + 1, h => by
    show (if d = (iH g (617 + (iH g (1140 + 5) s).toNat) k).toNat then iH g (1148 + 5) ((m_off5 g s).toNat + k) else m_crI g D s k d) = 0 ∨ (if d = (iH g (617 + (iH g (1140 + 5) s).toNat) k).toNat then iH g (1148 + 5) ((m_off5 g s).toNat + k) else m_crI g D s k d) = 1
    by_cases c : d = (iH g (617 + (iH g (1140 + 5) s).toNat) k).toNat
    · rw [if_pos c]; exact h k (by omega)
    · rw [if_neg c]; exact crI_01 hD k fun k' hk' => h k' (by omega)
end
section
variable {h g : AH} {da sa : Nat → Nat}
theorem mem_t {t : Nat} (hp : kSta h g da sa) (ht : t < 6) {s k : Nat} (hs : (s : Int) < iH g 1138 t) (hk : (k : Int) < iH g 615 (tRow g t s).toNat) : 0 ≤ iH g (617 + (tRow g t s).toNat) k ∧ iH g (617 + (tRow g t s).toNat) k < iH g 89 0 ∧ (tRow g t s).toNat < 520 ∧ iH g 89 0 ≤ 520 := by
  have s520 := segs_520 hp.1.1.2.1
  have st := ((hp.1.2.1 t ht).2.2 s hs).1
  have q := hp.1.1.2.1 (tRow g t s).toNat (by omega)
  have q2 := (q.1.1.1.2.2 k (by rw [Int.toNat_natCast]; exact hk)).1
  rw [Int.toNat_natCast] at q2
  exact ⟨q2, (q.2.2.2.2 k hk).2, by omega, docs_520 hp.1.1.1⟩
theorem uniq5 (hp : kSta h g da sa) {s s' k k' : Nat} (hs : (s : Int) < iH g 1138 5) (hs' : (s' : Int) < iH g 1138 5) (hk : (k : Int) < iH g 615 (tRow g 5 s).toNat) (hk' : (k' : Int) < iH g 615 (tRow g 5 s').toNat) (e : (iH g (617 + (tRow g 5 s).toNat) k).toNat = (iH g (617 + (tRow g 5 s').toNat) k').toNat) : s = s' ∧ k = k' := by
  have m1 := mem_t hp (by omega) hs hk
  have m2 := mem_t hp (by omega) hs' hk'
  exact uniq (j := 1) hp (by omega) hs hs' hk hk' (by show iH g (617 + (tRow g 5 s).toNat) k = iH g (617 + (tRow g 5 s').toNat) k'; omega)
theorem crD_at (hp : kSta h g da sa) {s k : Nat} (hk : (k : Int) < iH g 615 (tRow g 5 s).toNat) : ∀ S : Nat, s < S → (S : Int) ≤ iH g 1138 5 → m_crD g S (iH g (617 + (tRow g 5 s).toNat) k).toNat = iH g (1148 + 5) ((m_off5 g s).toNat + k)
  | 0, h, _ => absurd h (Nat.not_lt_zero _)
  | S + 1, h1, h2 => by
    show m_crI g (m_crD g S) S (iH g 615 (iH g (1140 + 5) S).toNat).toNat _ = _
    by_cases c : s = S
    · subst c
      refine crI_at rfl _ (by unfold tRow at hk; omega) fun k' hk' hne e => ?_
      exact hne (uniq5 hp (s := s) (s' := s) (k := k') (k' := k) (by omega) (by omega) (by unfold tRow; omega) hk e.symm).2
    · rw [crI_ne _ fun k' hk' e => ?_]
      · exact crD_at hp hk S (by omega) (by omega)
      · exact c (uniq5 hp (s := s) (s' := S) (k := k) (k' := k') (by omega) (by omega) hk (by unfold tRow; omega) e).1
theorem crD_ne (hp : kSta h g da sa) {d : Nat} (hd : iH g 89 0 ≤ (d : Int)) : ∀ S : Nat, (S : Int) ≤ iH g 1138 5 → m_crD g S d = iH g 613 d
  | 0, _ => rfl
  | S + 1, h2 => by
    show m_crI g (m_crD g S) S (iH g 615 (iH g (1140 + 5) S).toNat).toNat d = _
    rw [crI_ne _ fun k' hk' e => ?_]
    · exact crD_ne hp hd S (by omega)
    · have m := mem_t hp (t := 5) (by omega) (s := S) (k := k') (by omega) (by unfold tRow; omega)
      unfold tRow at m
      omega
theorem crD_01 (hp : kSta h g da sa) {d : Nat} (hd : d < 520) : ∀ S : Nat, (S : Int) ≤ iH g 1138 5 → m_crD g S d = 0 ∨ m_crD g S d = 1
  | 0, _ => hp.2.1.2.2.2 d hd
  | S + 1, h2 => by
    refine crI_01 (crD_01 hp hd S (by omega)) _ fun k' hk' => ?_
    have o := off_bd hp.1 hp.2.1 (t := 5) (by omega) (s := S) (k := k') (by omega) (by unfold tRow; omega)
    exact (hp.2.1.2.2.1 5 (by omega)).2 _ o
theorem crG_x {x k : Nat} (h1 : x ≠ 89 ∨ (k ≠ 13 ∧ k ≠ 15 ∧ k ≠ 24)) (h2 : x ≠ 1155) (h3 : x ≠ 613) (h4 : x ≠ 1137 ∨ 5 ≤ k) : iH (m_crash g) x k = iH g x k := by
  unfold m_crash m_crS
  by_cases c : x = 1137
  · subst c
    rw [rW_same]
    unfold m_crT
    rw [if_neg (by omega)]
  · rw [rW_ne c]
    by_cases c1 : x = 89
    · subst c1
      rw [rI_nk (by omega), rI_nk (by omega), rW_ne h3, rW_ne h2, rI_nk (by omega)]
    · rw [rI_ne c1, rI_ne c1, rW_ne h3, rW_ne h2, rI_ne c1]
theorem crG_S : iH (m_crash g) 89 13 = iH g 1138 5 ∧ iH (m_crash g) 89 15 = 0 ∧ iH (m_crash g) 89 24 = 0 := by
  unfold m_crash m_crS
  refine ⟨?_, ?_, ?_⟩
  · rw [rW_ne (by decide), rI_nk (by decide), rI_nk (by decide), rW_ne (by decide), rW_ne (by decide), rI_same]
  · rw [rW_ne (by decide), rI_nk (by decide), rI_same]
  · rw [rW_ne (by decide), rI_same]
theorem crG_st {s : Nat} (hs : (s : Int) < iH g 1138 5) : iH (m_crash g) 1155 s = tRow g 5 s := by
  unfold m_crash m_crS
  rw [rW_ne (by decide), rI_ne (by decide), rI_ne (by decide), rW_ne (by decide), rW_same]
  unfold m_crR
  rw [if_pos (by omega)]; rfl
theorem crG_D {d : Nat} : iH (m_crash g) 613 d = m_crD g (iH g 1138 5).toNat d := by
  unfold m_crash m_crS
  rw [rW_ne (by decide), rI_ne (by decide), rI_ne (by decide), rW_same]
theorem crG_T {t : Nat} (ht : t < 5) : iH (m_crash g) 1137 t = 0 := by
  unfold m_crash
  rw [rW_same]
  unfold m_crT
  rw [if_pos ht]
theorem crG_DS : agDS g (m_crash g) := ⟨⟨crG_x (by omega) (by omega) (by omega) (by omega), crG_x (by omega) (by omega) (by omega) (by omega)⟩, fun x k h1 h2 h3 => crG_x (by omega) (by omega) h3 (by omega)⟩
variable {R : Nat → Option Nat} {J : Nat → Int64}
theorem cr_i {x k : Nat} (h0 : x ≠ 0 ∨ k ≠ 2) (h8 : x ≠ 8 ∨ k ≠ 3) (h17 : x ≠ 17 ∨ k ≠ 0) (hv : k ≠ 3 ∨ ∀ t, t < 4 → x ≠ 33 + 3 * t) : iH (hCr h R J) x k = iH (hSt h 5 (iH h 11 2) R J) x k := by
  unfold hCr
  rw [(crL_f 4).2.2.2.2.1 x k hv]
  have a1 : ∀ (A : AH) (b c : Nat) (u : Int), (x ≠ b ∨ k ≠ c) → iH (sI A b c u) x k = iH A x k := fun A b c u q => by
    by_cases e : x = b
    · subst e; exact rI_nk (q.elim (fun w => absurd rfl w) id)
    · exact rI_ne e
  rw [a1 _ _ _ _ h17, a1 _ _ _ _ h8, a1 _ _ _ _ h0]
theorem cr_r (x k : Nat) : rH (hCr h R J) x k = rH (hSt h 5 (iH h 11 2) R J) x k := by
  unfold hCr
  rw [(crL_f 4).2.2.2.1 x k]; rfl
theorem cr_j (x k : Nat) : jH (hCr h R J) x k = jH (hSt h 5 (iH h 11 2) R J) x k := by
  unfold hCr
  rw [(crL_f 4).2.2.1 x k]; rfl
theorem cr_02 : iH (hCr h R J) 0 2 = 0 := by
  unfold hCr
  rw [(crL_f 4).2.2.2.2.1 0 2 (Or.inl (by decide)), rI_ne (by decide), rI_ne (by decide), rI_same]
theorem cr_83 : iH (hCr h R J) 8 3 = 0 := by
  unfold hCr
  rw [(crL_f 4).2.2.2.2.1 8 3 (Or.inr fun t ht => by omega), rI_ne (by decide), rI_same]
theorem cr_170 : iH (hCr h R J) 17 0 = 0 := by
  unfold hCr
  rw [(crL_f 4).2.2.2.2.1 17 0 (Or.inl (by decide)), rI_same]
theorem cr_v {t : Nat} (ht : t < 4) : iH (hCr h R J) (33 + 3 * t) 3 = 0 := by
  unfold hCr
  exact (crL_f 4).2.2.2.2.2 t ht
theorem crash_kSta (hp : kSta h g da sa) (hm : ∀ k : Nat, (k : Int) < iH h 11 2 → R k = rH h 12 k ∧ J k = jH h 13 k) : kSta (hCr h R J) (m_crash g) da sa := by
  have eDS := crG_DS (g := g)
  obtain ⟨⟨⟨hd, hs, hn⟩, hv, hf⟩, hr, hU⟩ := id hp
  have s520 := segs_520 hs
  have eD := agDS_D eDS (docs_520 hd)
  have eS := agDS_S eDS s520
  have b5 := (hv 5 (by omega)).2.1
  have ag : agD h (hCr h R J) := agD_rf (crL_f 4).1 (fun x => (crL_f 4).2.1 x) fun x hx => ⟨fun k => by rw [cr_i (by omega) (by omega) (by omega) (Or.inr fun t ht => by omega), st_io (by omega)], fun k => by rw [cr_r, st_Ro (by omega)]⟩
  have c1 : cStd (hSt h 5 (iH h 11 2) R J) g sa 5 (iH g 1138 5) (tRow g 5) (tDr g 5) := cStd_cp (a := 5) (b := 11) (hv 5 (by omega)) hm
  have oth : ∀ c, iSt c → c ≠ 5 → iH (hCr h R J) c 2 = iH h c 2 ∧ (∀ k, rH (hCr h R J) (c + 1) k = rH h (c + 1) k) ∧ ∀ k, jH (hCr h R J) (c + 2) k = jH h (c + 2) k := fun c hc hne => by
    have ap := iSt_ap (Or.inl rfl : iSt 5) hc (Ne.symm hne)
    exact ⟨by rw [cr_i (by unfold iSt at hc; omega) (by omega) (by omega) (by omega), st_io hne], fun k => by rw [cr_r, st_Ro (by omega)], fun k => by rw [cr_j, st_Jo (by omega)]⟩
  have hcR : cRd (hCr h R J) (m_crash g) da sa := by
    refine ⟨cDocs_mv eD eDS.1.1 (fun _ _ => rfl) (cDocs_ag ag hd), cSegs_mv eD eS eDS.1.2 (fun _ _ => rfl) (fun _ _ => rfl) (cSegs_ag ag hs), ?_⟩
    refine cStd_mv eS (fun _ _ => rfl) crG_S.1 (fun s h1 => crG_st h1) (fun s k h1 h2 => ?_) (by rw [cr_i (by omega) (by omega) (by omega) (by omega)]) (fun k => cr_r _ k) (fun k => cr_j _ k) c1
    unfold nDr
    have m := mem_t hp (t := 5) (by omega) h1 h2
    rw [crG_st h1, crG_x (x := 617 + _) (by omega) (by omega) (by omega) (by omega), crG_D, crD_at hp h2 _ (by omega) (by omega)]
    exact Iff.rfl
  have eo : ∀ t : Nat, t < 6 → ∀ s, m_offT (m_crash g) t s = m_offT g t s := fun t ht s => by
    unfold m_offT
    rw [Int.toNat_natCast]
    exact sumN_cg fun i _ => by rw [crG_x (x := 1140 + _) (by omega) (by omega) (by omega) (by omega), crG_x (by omega) (by omega) (by omega) (by omega)]
  have hvR : ∀ t : Nat, t < 6 → kV (hCr h R J) (m_crash g) sa t := fun t ht => by
    obtain ⟨o1, o2, o3⟩ := oth _ (iSt_av ht) (by unfold avT; (repeat' split) <;> omega)
    refine cStd_mv eS (fun _ _ => rfl) (crG_x (by omega) (by omega) (by omega) (by omega)) (fun s _ => crG_x (by omega) (by omega) (by omega) (by omega)) (fun s k _ _ => ?_) o1 o2 o3 (hv t ht)
    unfold tDr
    rw [eo t ht, crG_x (by omega) (by omega) (by omega) (by omega)]
  have hfR : kF (hCr h R J) (m_crash g) := by
    obtain ⟨f1, f2, f3, f4⟩ := hf
    refine ⟨fun t ht => ?_, ?_, ?_, ?_⟩
    · rw [crG_T ht]
      refine ⟨?_, Or.inl rfl⟩
      by_cases e : t = 4
      · subst e
        rw [show avT 4 = 8 from rfl]; exact cr_83
      · rw [avT_v (by omega)]; exact cr_v (by omega)
    · rw [cr_i (by omega) (by omega) (by omega) (Or.inr fun t ht => by omega), st_ik (by decide)]; exact f2
    · rw [cr_i (by omega) (by omega) (by omega) (Or.inr fun t ht => by omega), st_ik (by decide)]; exact f3
    · rw [crG_x (by omega) (by omega) (by omega) (by omega), crG_x (by omega) (by omega) (by omega) (by omega)]; exact f4
  refine ⟨⟨hcR, hvR, hfR⟩, ?_⟩
  obtain ⟨r1, r2, r3, r4⟩ := hr
  obtain ⟨j1, j2⟩ := iu_from eDS (fun j hj s hs => by have := row_bd hp.1 hj hs; omega) (fun j hj => by
    by_cases e0 : j = 0
    · subst e0
      refine ⟨1, by omega, ?_, fun s h1 => ?_⟩
      · show iH (m_crash g) 89 13 ≤ iH g 1138 5
        rw [crG_S.1]; exact Int.le_refl _
      · show iH (m_crash g) 1155 s = tRow g 5 s
        refine crG_st ?_
        have : iH (m_crash g) 89 13 = iH g 1138 5 := crG_S.1
        rw [← this]; exact h1
    · refine ⟨j, hj, ?_, fun s _ => ?_⟩
      · unfold cntH
        rw [if_neg e0, if_neg e0, crG_x (by omega) (by omega) (by omega) (by omega)]; exact Int.le_refl _
      · unfold rowH
        rw [if_neg e0, if_neg e0]
        have := (hld_av e0 hj).2
        exact crG_x (by omega) (by omega) (by omega) (by omega)) r1 hU
  refine ⟨⟨j1, ?_, fun t ht => ⟨by rw [eo t ht, crG_x (by omega) (by omega) (by omega) (by omega)]; exact (r3 t ht).1, fun k hk1 => by rw [crG_x (by omega) (by omega) (by omega) (by omega)]; exact (r3 t ht).2 k hk1⟩, fun d hd1 => ?_⟩, j2⟩
  · have : m_held (m_crash g) = m_offT g 5 (iH g 1138 5).toNat := by
      unfold m_held m_offT
      rw [crG_S.1]
      refine sumN_cg fun s hs1 => ?_
      rw [crG_st (by omega), crG_x (by omega) (by omega) (by omega) (by omega)]; rfl
    rw [this]; exact (r3 5 (by omega)).1
  · rw [crG_D]
    exact crD_01 hp hd1 _ (by omega)
theorem crash_kB : kB (hCr h R J) (m_crash g) da := ⟨⟨by rw [cr_02, crG_S.2.1], by rw [crG_S.2.1]; decide, fun k hk => by rw [crG_S.2.1] at hk; omega⟩, fun i hi => by rw [crG_S.2.1] at hi; omega⟩
theorem crash_Z (hp : kSta h g da sa) (hz : rZ g) : rZ (m_crash g) := fun d hd h1 => by
  have b5 := (hp.1.2.1 5 (by omega)).2.1
  rw [crG_x (by omega) (by omega) (by omega) (by omega)] at h1
  rw [crG_D, crD_ne hp h1 _ (by omega)]
  exact hz d hd h1
end
