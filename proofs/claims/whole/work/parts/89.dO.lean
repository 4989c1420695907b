/-! THE INDEX: A MERGE IS FINISHED; the stand that is now, made anew -/
theorem now_K {h H g G : AH} {da sa sa' : Nat → Nat} (hp : kSta h g da sa) (eS : agSs g G) (ey : exS g sa sa') (hdR : cDocs H G da) (hsR : cSegs H G da sa') (hnR : cNow H G sa') (eT : ∀ x, 1137 ≤ x → x < 1155 → ∀ k, iH G x k = iH g x k) (eI : ∀ d, iH G 613 d = iH g 613 d) (hst : ∀ c, iSt c → c ≠ 5 → (∀ k, iH H c k = iH h c k) ∧ (∀ k, rH H (c + 1) k = rH h (c + 1) k) ∧ ∀ k, jH H (c + 2) k = jH h (c + 2) k) (h53 : iH H 5 3 = iH h 5 3) (hI0 : ∀ s s' : Nat, s < s' → (s' : Int) < iH G 89 13 → iH G 1155 s ≠ iH G 1155 s') (hU0 : ∀ s s' : Nat, s < s' → (s' : Int) < iH G 89 13 → ∀ k k' : Nat, (k : Int) < iH G 615 (iH G 1155 s).toNat → (k' : Int) < iH G 615 (iH G 1155 s').toNat → iH G (617 + (iH G 1155 s).toNat) k ≠ iH G (617 + (iH G 1155 s').toNat) k') (hW : kW G) (h64 : m_held G ≤ 64) : kSta H G da sa' := by
  obtain ⟨hk, hr, hU⟩ := hp
  have rb := fun (j : Nat) (hj : j < 7) (s : Nat) hs => row_bd hk hj (s := s) hs
  obtain ⟨⟨hd, hs, hno⟩, hv, q1, q2, q3, q4⟩ := hk
  have eo : ∀ t s, t < 6 → (s : Nat) ≤ (iH g 1138 t).toNat → m_offT G (t : Nat) s = m_offT g (t : Nat) s := fun t s ht hs1 => by
    unfold m_offT
    refine sumN_cg fun i hi1 => ?_
    have u := ((hv t ht).2.2 i (by omega)).1
    have u' : 0 ≤ iH g (1140 + t) i ∧ iH g (1140 + t) i < iH g 89 5 := u
    rw [Int.toNat_natCast, eT (1140 + t) (by omega) (by omega), (eS.2 _ (show (((iH g (1140 + t) i).toNat : Nat) : Int) < iH g 89 5 by omega)).2.1]
  have hvR : ∀ t : Nat, t < 6 → kV H G sa' t := fun t ht => by
    have n5 : avT t ≠ 5 := by unfold avT; (repeat' split) <;> omega
    obtain ⟨t1, t2, t3⟩ := hst _ (iSt_av ht) n5
    refine cStd_mv eS ey (eT _ (by decide) (by decide) t) (fun s _ => eT _ (by omega) (by omega) s) (fun s k hs1 _ => ?_) (t1 2) t2 t3 (hv t ht)
    unfold tDr
    rw [eo t s ht (by omega), eT (1148 + t) (by omega) (by omega)]
  obtain ⟨r1, r2, r3, r4⟩ := hr
  have cj : ∀ j : Nat, j ≠ 0 → j < 7 → cntH G j = cntH g j ∧ ∀ s, rowH G j s = rowH g j s := fun j e0 hj => by
    have := (hld_av e0 hj).2
    unfold cntH rowH tRow
    rw [if_neg e0, if_neg e0]
    refine ⟨eT 1138 (by decide) (by decide) _, fun s => ?_⟩
    rw [if_neg e0, if_neg e0]
    exact eT _ (by omega) (by omega) s
  refine ⟨⟨⟨hdR, hsR, hnR⟩, hvR, fun t ht => ?_, ?_, ?_, ?_⟩, ⟨fun j hj s s' hs1 hs2 => ?_, h64, fun t ht => ⟨?_, fun k hk1 => ?_⟩, fun d hd1 => ?_⟩, fun j hj s s' hs1 hs2 k k' hk1 hk2 => ?_, hW⟩
  · have n5 : avT t ≠ 5 := by unfold avT; (repeat' split) <;> omega
    rw [(hst _ (iSt_av (t := t) (by omega)) n5).1, eT 1137 (by decide) (by decide)]; exact q1 t ht
  · rw [h53]; exact q2
  · rw [(hst 11 (iSt_av (t := 5) (by omega)) (by decide)).1]; exact q3
  · rw [eT 1137 (by decide) (by decide), eT 1138 (by decide) (by decide)]; exact q4
  · by_cases e0 : j = 0
    · subst e0; exact hI0 s s' hs1 hs2
    · obtain ⟨a1, a2⟩ := cj j e0 hj
      rw [a1] at hs2
      rw [a2, a2]
      exact r1 j hj s s' hs1 hs2
  · have := (hv t ht).2.1
    rw [eT 1138 (by decide) (by decide), eo t _ ht (Nat.le_refl _)]; exact (r3 t ht).1
  · rw [eT (1148 + t) (by omega) (by omega)]; exact (r3 t ht).2 k hk1
  · rw [eI]; exact r4 d hd1
  · by_cases e0 : j = 0
    · subst e0; exact hU0 s s' hs1 hs2 k k' hk1 hk2
    · obtain ⟨a1, a2⟩ := cj j e0 hj
      rw [a1] at hs2
      have u := rb j hj s (by omega)
      have u' := rb j hj s' hs2
      rw [a2, (eS.2 (rowH g j s).toNat (by omega)).2.1] at hk1
      rw [a2, (eS.2 (rowH g j s').toNat (by omega)).2.1] at hk2
      rw [a2, a2, (eS.2 (rowH g j s).toNat (by omega)).2.2, (eS.2 (rowH g j s').toNat (by omega)).2.2]
      exact hU.1 j hj s s' hs1 hs2 k k' hk1 hk2
theorem sumN_split (f : Nat → Int) (a : Nat) : ∀ b : Nat, sumN f (a + b) = sumN f a + sumN (fun i => f (a + i)) b
  | 0 => (Int.add_zero _).symm
  | b + 1 => by
    have := sumN_split f a b
    show sumN f (a + b) + f (a + b) = sumN f a + (sumN (fun i => f (a + i)) b + f (a + b))
    omega
/-! who comes: no document twice -/
section
variable {g : AH} {row : Nat → Int} {lf : Nat → Nat → Prop} {w : Nat}
def cmI (g : AH) (row : Nat → Int) (p : Nat × (Nat → Int)) (j k : Nat) : Prop := (∀ i : Nat, i < p.1 → ∃ j' k' : Nat, (j' < j ∨ (j' = j ∧ k' < k)) ∧ (k' : Int) < iH g 615 (row j').toNat ∧ p.2 i = iH g (617 + (row j').toNat) k') ∧ ∀ i i' : Nat, i < i' → i' < p.1 → p.2 i ≠ p.2 i'
theorem cI_inv (uq : ∀ j j' k k' : Nat, j < w → j' < w → (k : Int) < iH g 615 (row j).toNat → (k' : Int) < iH g 615 (row j').toNat → iH g (617 + (row j).toNat) k = iH g (617 + (row j').toNat) k' → j = j' ∧ k = k') {j : Nat} (hj : j < w) {p : Nat × (Nat → Int)} (hp : cmI g row p j 0) : ∀ k : Nat, k ≤ (iH g 615 (row j).toNat).toNat → cmI g row (v_cI g (row j) (lf j) p k) j k
  | 0, _ => hp
  | k + 1, hk => by
    obtain ⟨h1, h2⟩ := cI_inv uq hj hp k (by omega)
    unfold v_cI
    by_cases c : lf j k
    · rw [if_pos c]
      exact ⟨fun i hi => by
        obtain ⟨j', k', a1, a2, a3⟩ := h1 i hi
        exact ⟨j', k', by omega, a2, a3⟩, h2⟩
    · rw [if_neg c]
      generalize v_cI g (row j) (lf j) p k = q at *
      refine ⟨fun i hi => ?_, fun i i' h3 h4 => ?_⟩
      · have hi : i < q.1 + 1 := hi
        dsimp only
        by_cases e : i = q.1
        · rw [if_pos e]; exact ⟨j, k, by omega, by omega, rfl⟩
        · rw [if_neg e]
          obtain ⟨j', k', a1, a2, a3⟩ := h1 i (by omega)
          exact ⟨j', k', by omega, a2, a3⟩
      · have h4 : i' < q.1 + 1 := h4
        dsimp only
        rw [if_neg (by omega)]
        by_cases e : i' = q.1
        · rw [if_pos e]
          obtain ⟨j', k', a1, a2, a3⟩ := h1 i (by omega)
          intro u
          rw [a3] at u
          obtain ⟨b1, b2⟩ := uq j' j k' k (by omega) hj a2 (by omega) u
          omega
        · rw [if_neg e]; exact h2 i i' h3 (by omega)
theorem cm_inv (uq : ∀ j j' k k' : Nat, j < w → j' < w → (k : Int) < iH g 615 (row j).toNat → (k' : Int) < iH g 615 (row j').toNat → iH g (617 + (row j).toNat) k = iH g (617 + (row j').toNat) k' → j = j' ∧ k = k') : ∀ j : Nat, j ≤ w → cmI g row (v_cm g row lf j) j 0
  | 0, _ => ⟨fun i hi => absurd hi (Nat.not_lt_zero _), fun i i' _ hi => absurd hi (Nat.not_lt_zero _)⟩
  | j + 1, hj => by
    obtain ⟨h1, h2⟩ := cI_inv (lf := lf) uq (show j < w by omega) (cm_inv uq j (by omega)) _ (Nat.le_refl _)
    exact ⟨fun i hi => by
      obtain ⟨j', k', a1, a2, a3⟩ := h1 i hi
      exact ⟨j', k', by omega, a2, a3⟩, h2⟩
theorem cm_len : ∀ j : Nat, (∀ i, i < j → 0 ≤ iH g 615 (row i).toNat) → ((v_cm g row lf j).1 : Int) ≤ sumN (fun i => iH g 615 (row i).toNat) j
  | 0, _ => Int.le_refl _
  | j + 1, hl => by
    have ih := cm_len j fun i hi => hl i (by omega)
    have l0 := hl j (by omega)
    have e := v_cI_1 g (row j) (lf j) (v_cm g row lf j) (iH g 615 (row j).toNat).toNat
    have b := cnt_bd (fun k => ¬ lf j k) (iH g 615 (row j).toNat).toNat
    show ((v_cI g (row j) (lf j) (v_cm g row lf j) (iH g 615 (row j).toNat).toNat).1 : Int) ≤ sumN (fun i => iH g 615 (row i).toNat) j + iH g 615 (row j).toNat
    omega
end
