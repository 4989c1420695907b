/-! THE REFERENCE: A MERGE FINISHED, A CRASH -/
def m_ffM (h : AH) (j k : Nat) : Int := if k < j then iH h 1159 k else iH h (617 + (iH h 89 5).toNat) k
/-- the row of standing, with those from a on moved up by n -/
def m_mv (st : Nat → Int) (a n e i : Nat) : Int := if a ≤ i ∧ i < e then st (i + n) else st i
theorem c_shift {A : AH} (hL : LayM A) {gone name k0 : Int} {Q : Option AV → AH → Prop} (hg : 0 ≤ gone ∧ gone ≤ k0 ∧ k0 ≤ 9) (hs : 0 ≤ iH A 89 13 ∧ iH A 89 13 ≤ 8 ∧ k0 ≤ iH A 89 13)
    (hq : Q (some (vi name)) (sI (sW A 1155 (m_mv (iH A 1155) (k0 - gone).toNat gone.toNat (iH A 89 13 - gone).toNat)) 89 13 (iH A 89 13 - gone))) : wp mX12_finish 1 0 0 Q 114 [some (vr 89), none, some (vi gone), some (vi name), some (vi k0), none] [] A := by
  have e0 : A = sW A 1155 (m_mv (iH A 1155) (k0 - gone).toNat gone.toNat ((k0 - gone).toNat + 0)) := (sW_id fun k => by unfold m_mv; rw [if_neg (by omega)]).symm
  have e1 : k0 = k0 + ((0 : Nat) : Int) := by omega
  have main := up (P := fun j => wp mX12_finish 1 0 0 Q 114 [some (vr 89), none, some (vi gone), some (vi name), some (vi (k0 + (j : Int))), none] [] (sW A 1155 (m_mv (iH A 1155) (k0 - gone).toNat gone.toNat ((k0 - gone).toNat + j)))) (iH A 89 13 - k0).toNat ?_ ?_
  · rw [← e0, ← e1] at main; exact main
  · refine t_X12_finish_114 (by exact hL) ?_
    rw [rW_ne (by decide)]
    refine ⟨fun _ => ⟨by omega, ?_⟩, fun q => absurd q (by omega)⟩
    rw [show (k0 - gone).toNat + (iH A 89 13 - k0).toNat = (iH A 89 13 - gone).toNat by omega]
    exact hq
  · intro j hj ih
    refine t_X12_finish_114 (by exact hL) ?_
    rw [rW_ne (by decide), rW_same]
    refine ⟨fun q => absurd q (by omega), fun _ => ⟨by omega, by omega, by omega, by omega, ?_⟩⟩
    rw [sI_sW (g' := m_mv (iH A 1155) (k0 - gone).toNat gone.toNat ((k0 - gone).toNat + (j + 1))) (fun i => by
      unfold m_mv
      by_cases q : i = (k0 + (j : Int) - gone).toNat
      · rw [if_pos q, if_pos (by omega)]
        by_cases q2 : (k0 - gone).toNat ≤ (k0 + (j : Int)).toNat ∧ (k0 + (j : Int)).toNat < (k0 - gone).toNat + j
        · have : gone = 0 ∨ 0 < gone := by omega
          rcases this with r | r
          · rw [if_pos q2]; omega
          · rw [if_pos q2]; omega
        · rw [if_neg q2]; congr 1; omega
      · rw [if_neg q]
        by_cases q2 : (k0 - gone).toNat ≤ i ∧ i < (k0 - gone).toNat + j
        · rw [if_pos q2, if_pos (by omega)]
        · rw [if_neg q2, if_neg (by omega)])]
    rw [show k0 + (j : Int) + 1 = k0 + ((j + 1 : Nat) : Int) by omega]
    exact ih
def m_fin0 (h : AH) (p : Nat) : AH := sI (sW (sI h 89 24 0) 1155 (m_mv (iH h 1155) p (iH h 89 26).toNat (iH h 89 13 - iH h 89 26).toNat)) 89 13 (iH h 89 13 - iH h 89 26)
def m_fin1A (h : AH) (p : Nat) : AH := sI (m_fill (m_ns0 (sI h 89 24 0)) (iH h 89 5) (m_ffM h (iH h 89 27).toNat) (iH h 89 27)) 1155 p (iH h 89 5)
def m_fin1 (h : AH) (p : Nat) : AH := sI (sW (m_fin1A h p) 1155 (m_mv (iH (m_fin1A h p) 1155) (p + 1) (iH h 89 26 - 1).toNat (iH h 89 13 - (iH h 89 26 - 1)).toNat)) 89 13 (iH h 89 13 - (iH h 89 26 - 1))
/-- the merge that is begun: of wide segments from place p on -/
def m_mrg (h : AH) (p : Nat) : Prop := (0 ≤ iH h 89 13 ∧ iH h 89 13 ≤ 8) ∧ (2 ≤ iH h 89 26 ∧ (p : Int) + iH h 89 26 ≤ iH h 89 13) ∧ iH h 1155 p = iH h 89 25 ∧ (∀ j, j < p → iH h 1155 j ≠ iH h 89 25) ∧ (0 ≤ iH h 89 27 ∧ iH h 89 27 ≤ 64)
def p_finish (h : AH) (p : Nat) (x : Int) (h' : AH) : Prop := (iH h 89 24 = 0 ∧ x = -3 ∧ h' = h) ∨ (iH h 89 24 ≠ 0 ∧ iH h 89 27 = 0 ∧ x = 0 ∧ h' = m_fin0 h p) ∨ (iH h 89 24 ≠ 0 ∧ 0 < iH h 89 27 ∧ x = iH h 89 5 + 1 ∧ h' = m_fin1 h p)
theorem c_finish {h : AH} (hL : LayM h) {p : Nat} (hm : iH h 89 24 ≠ 0 → m_mrg h p) (hs : 0 ≤ iH h 89 5 ∧ iH h 89 5 < 520) : Ct 1 0 0 mX12_finish [vr 89] h (QI (p_finish h p)) := by
  refine e_X12_finish hL ⟨fun c => ?_, fun c => ⟨_, rfl, Or.inl ⟨c, rfl, rfl⟩⟩⟩
  obtain ⟨h1, h2, h3, h4, h5⟩ := hm c
  have hB : ∀ k, k ≠ 24 → iH (sI h 89 24 0) 89 k = iH h 89 k := fun k hk => rI_nk hk
  have hB2 : ∀ a k, a ≠ 89 → iH (sI h 89 24 0) a k = iH h a k := fun a k ha => rI_ne ha
  have main := up (P := fun j => wp mX12_finish 1 0 0 (QI (p_finish h p)) 17 [some (vr 89), some (vi j), none, none, none, none] [] (sI h 89 24 0)) p ?_ ?_
  · exact main
  · refine t_X12_finish_17 (by exact hL) ?_
    rw [hB2 _ _ (by decide), hB 25 (by decide), hB 27 (by decide), hB 26 (by decide), hB 5 (by decide)]
    refine ⟨by omega, fun _ => ⟨fun c2 => ⟨by omega, ?_⟩, fun c2 => ⟨hs, by exact hL, ?_⟩⟩, fun q => absurd h3 q⟩
    · refine c_shift (A := sI h 89 24 0) (by exact hL) (by omega) (by rw [hB 13 (by decide)]; omega) ⟨_, rfl, Or.inr (Or.inl ⟨c, by omega, rfl, ?_⟩)⟩
      rw [hB 13 (by decide), show iH (sI h 89 24 0) 1155 = iH h 1155 from funext fun k => hB2 _ k (by decide)]
      unfold m_fin0
      rw [show ((p : Int) + iH h 89 26 - iH h 89 26).toNat = p by omega]
    · have e5 : iH (sI h 89 24 0) 89 5 = iH h 89 5 := hB 5 (by decide)
      have ns : m_nseg (sI h 89 24 0) = m_fill (m_ns0 (sI h 89 24 0)) (iH h 89 5) (m_ffM h 0) ((0 : Nat) : Int) := by
        have := m_nseg_fill (sI h 89 24 0) (M := m_ffM h 0) (by rw [e5]; omega) (fun k => by
          rw [e5, hB2 _ _ (by omega)]
          exact if_neg (by omega))
        rw [e5] at this
        exact this
      rw [ns]
      have rd : ∀ (M : Nat → Int) (j : Int) (k : Nat), k ≠ 24 → k ≠ 5 → iH (m_fill (m_ns0 (sI h 89 24 0)) (iH h 89 5) M j) 89 k = iH h 89 k := fun M j k hk hk2 => by
        unfold m_fill m_ns0
        rw [rI_ne (by decide), rW_ne (by omega), rI_nk hk2, rI_ne (by decide), hB k hk]
      have rd2 : ∀ (M : Nat → Int) (j : Int) (a k : Nat), a ≠ 89 → a ≠ 614 → a ≠ 615 → (a < 617 ∨ 617 + 520 ≤ a) → iH (m_fill (m_ns0 (sI h 89 24 0)) (iH h 89 5) M j) a k = iH h a k := fun M j a k h1 h2 h3 h4 => by
        unfold m_fill m_ns0
        rw [rI_ne h3, rW_ne (by omega), rI_ne h1, rI_ne h2, hB2 _ _ h1]
      refine up (P := fun j => wp mX12_finish 1 _ _ _ 59 [some (vr 89), some (vi p), some (vi (iH h 89 26)), none, some (vi (iH h 89 5)), some (vi j)] [] (m_fill (m_ns0 (sI h 89 24 0)) (iH h 89 5) (m_ffM h j) j)) (iH h 89 27).toNat ?_ ?_
      · have r1 : iH (m_fill (m_ns0 (sI h 89 24 0)) (iH h 89 5) (m_ffM h (iH h 89 27).toNat) ((iH h 89 27).toNat : Int)) 614 (iH h 89 5).toNat = iH h 89 5 + 1 := by
          unfold m_fill m_ns0
          rw [rI_ne (by decide), rW_ne (by omega), rI_ne (by decide), e5, rI_same]
        refine t_X12_finish_59 (by exact hL) ?_
        rw [rd _ _ _ (by decide) (by decide), r1]
        refine ⟨fun _ => ⟨by omega, by omega, by omega, by omega, by omega, ?_⟩, fun q => absurd q (by omega)⟩
        have eA : sI (m_fill (m_ns0 (sI h 89 24 0)) (iH h 89 5) (m_ffM h (iH h 89 27).toNat) ((iH h 89 27).toNat : Int)) 1155 ((p : Int)).toNat (iH h 89 5) = m_fin1A h p := by
          unfold m_fin1A
          rw [show (((iH h 89 27).toNat : Nat) : Int) = iH h 89 27 by omega]; rfl
        rw [eA]
        have e13 : iH (m_fin1A h p) 89 13 = iH h 89 13 := by
          unfold m_fin1A
          rw [rI_ne (by decide), rd _ _ _ (by decide) (by decide)]
        refine c_shift (A := m_fin1A h p) (by exact hL) (by omega) (by rw [e13]; omega) ⟨_, rfl, Or.inr (Or.inr ⟨c, c2, rfl, ?_⟩)⟩
        rw [e13]
        unfold m_fin1
        rw [show ((p : Int) + 1 + (iH h 89 26 + -1) - (iH h 89 26 + -1)).toNat = p + 1 by omega, show iH h 89 26 + -1 = iH h 89 26 - 1 by omega]
      · intro j hj ih
        refine t_X12_finish_59 (by exact hL) ?_
        rw [rd _ _ _ (by decide) (by decide), show iH (m_fill (m_ns0 (sI h 89 24 0)) (iH h 89 5) (m_ffM h j) (j : Int)) 615 (iH h 89 5).toNat = (j : Int) from rI_same, show ((j : Int)).toNat = j from rfl, rd2 _ _ 1159 _ (by decide) (by decide) (by decide) (by decide), m_join_fill (M' := m_ffM h (j + 1)) (by omega) (fun k => by
          unfold m_ffM
          by_cases q : k = j
          · subst q; rw [if_pos rfl, if_pos (by omega)]
          · rw [if_neg q]
            by_cases q2 : k < j
            · rw [if_pos q2, if_pos (by omega)]
            · rw [if_neg q2, if_neg (by omega)])]
        exact ⟨fun q => absurd q (by omega), fun _ => ⟨by omega, ⟨by omega, by omega⟩, by exact hL, by omega, ih⟩⟩
  · intro j hj ih
    refine t_X12_finish_17 (by exact hL) ?_
    rw [hB2 _ _ (by decide), hB 25 (by decide)]
    exact ⟨by omega, fun q => absurd q (h4 j hj), fun _ => ⟨by omega, ih⟩⟩
/-- a crash: who is dropped, by the commit -/
def m_off5 (h : AH) (s : Nat) : Int := sumN (fun s => iH h 615 (iH h (1140 + 5) s).toNat) s
def m_crI (h : AH) (D : Nat → Int) (s : Nat) : Nat → Nat → Int
  | 0 => D
  | k + 1 => fun d => if d = (iH h (617 + (iH h (1140 + 5) s).toNat) k).toNat then iH h (1148 + 5) ((m_off5 h s).toNat + k) else m_crI h D s k d
def m_crD (h : AH) : Nat → Nat → Int
  | 0 => iH h 613
  | s + 1 => m_crI h (m_crD h s) s (iH h 615 (iH h (1140 + 5) s).toNat).toNat
def m_crR (h : AH) (s k : Nat) : Int := if k < s then iH h (1140 + 5) k else iH h 1155 k
def m_crT (h : AH) (v k : Nat) : Int := if k < v then 0 else iH h 1137 k
def m_crS (h : AH) (s : Nat) (D : Nat → Int) : AH := sW (sW (sI h 89 13 (iH h 1138 5)) 1155 (m_crR h s)) 613 D
def m_crash (h : AH) : AH := sW (sI (sI (m_crS h (iH h 1138 5).toNat (m_crD h (iH h 1138 5).toNat)) 89 15 0) 89 24 0) 1137 (m_crT h 5)
def m_com (h : AH) : Prop := (0 ≤ iH h 1138 5 ∧ iH h 1138 5 ≤ 8) ∧ (∀ s : Nat, (s : Int) < iH h 1138 5 → m_seg h (iH h (1140 + 5) s)) ∧ m_off5 h (iH h 1138 5).toNat ≤ 64 ∧ ∀ k : Nat, k < 64 → iH h (1148 + 5) k = 0 ∨ iH h (1148 + 5) k = 1
theorem m_off5_le {h : AH} (hn : m_com h) : ∀ (n s : Nat), (n : Int) ≤ iH h 1138 5 → s ≤ n → 0 ≤ m_off5 h s ∧ m_off5 h s ≤ m_off5 h n
  | 0, s, _, hs => by
    have : s = 0 := by omega
    subst this
    exact ⟨Int.le_refl 0, Int.le_refl _⟩
  | n + 1, s, hn', hs => by
    have hl := (hn.2.1 n (by omega)).2.1
    have e : m_off5 h (n + 1) = m_off5 h n + iH h 615 (iH h (1140 + 5) n).toNat := rfl
    by_cases q : s = n + 1
    · subst q
      have := m_off5_le hn n n (by omega) (Nat.le_refl n)
      omega
    · have := m_off5_le hn n s (by omega) (by omega)
      omega
theorem c_crash {h : AH} (hL : LayM h) (hc : m_com h) : Ct 0 0 0 mX12_crash [vr 89] h (QI fun x h' => x = iH h 1138 5 ∧ h' = m_crash h) := by
  obtain ⟨h1, hseg, h64, h01⟩ := id hc
  refine e_X12_crash hL ?_
  have e0 : sI h 89 13 (iH h 1138 5) = m_crS h 0 (m_crD h 0) := by
    unfold m_crS
    rw [sW_id (h := sI h 89 13 (iH h 1138 5)) (fun k => by unfold m_crR; rw [if_neg (by omega), rI_ne (by decide)]), sW_id (fun k => by rw [rI_ne (by decide)]; rfl)]
  rw [e0]
  have rd : ∀ (s : Nat) (D : Nat → Int) (a k : Nat), a ≠ 89 → a ≠ 1155 → a ≠ 613 → iH (m_crS h s D) a k = iH h a k := fun s D a k h1 h2 h3 => by
    unfold m_crS; rw [rW_ne h3, rW_ne h2, rI_ne h1]
  have rs : ∀ (s : Nat) (D : Nat → Int), iH (m_crS h s D) 89 13 = iH h 1138 5 := fun s D => by
    unfold m_crS; rw [rW_ne (by decide), rW_ne (by decide), rI_same]
  refine up (P := fun s => wp mX12_crash 0 _ _ _ 14 [some (vr 89), some (vi (m_off5 h s)), some (vi s), none, none] [] (m_crS h s (m_crD h s))) (iH h 1138 5).toNat ?_ ?_
  · refine t_X12_crash_14 (by exact hL) ?_
    rw [rs]
    refine ⟨fun _ => ?_, fun q => absurd q (by omega)⟩
    generalize hA : sI (sI (m_crS h (iH h 1138 5).toNat (m_crD h (iH h 1138 5).toNat)) 89 15 0) 89 24 0 = A
    have hLA : LayM A := by rw [← hA]; exact hL
    have eT : ∀ k, iH A 1137 k = iH h 1137 k := fun k => by rw [← hA, rI_ne (by decide), rI_ne (by decide), rd _ _ _ _ (by decide) (by decide) (by decide)]
    have eS : iH A 89 13 = iH h 1138 5 := by rw [← hA, rI_nk (by decide), rI_nk (by decide), rs]
    have e1 : A = sW A 1137 (m_crT h 0) := (sW_id fun k => by unfold m_crT; rw [if_neg (by omega), eT]).symm
    have main := up (P := fun v => wp mX12_crash 0 0 0 (QI fun x h' => x = iH h 1138 5 ∧ h' = m_crash h) 101 [some (vr 89), none, some (vi v), none, none] [] (sW A 1137 (m_crT h v))) 5 ?_ ?_
    · rw [← e1] at main; exact main
    · refine t_X12_crash_101 (by exact hLA) ?_
      rw [rW_ne (by decide), eS]
      exact ⟨fun _ => ⟨_, rfl, rfl, by rw [← hA]; rfl⟩, fun q => absurd q (by omega)⟩
    · intro v hv ih
      refine t_X12_crash_101 (by exact hLA) ⟨fun q => absurd q (by omega), fun _ => ⟨by omega, by omega, ?_⟩⟩
      rw [sI_sW (g' := m_crT h (v + 1)) (fun k => by
        unfold m_crT
        by_cases q : k = v
        · subst q; rw [if_pos (by omega), if_pos (show k = ((k : Int)).toNat from rfl)]
        · rw [show ((v : Int)).toNat = v from rfl, if_neg q]
          by_cases q2 : k < v
          · rw [if_pos (by omega), if_pos q2]
          · rw [if_neg (by omega), if_neg q2])]
      exact ih
  · intro s hs ih
    have hg := hseg s (by omega)
    have hg1 := hg.1
    have hg2 := hg.2.1
    have ho := m_off5_le hc (iH h 1138 5).toNat s (by omega) (by omega)
    have ho2 := m_off5_le hc (iH h 1138 5).toNat (s + 1) (by omega) (by omega)
    have ho3 : m_off5 h (s + 1) = m_off5 h s + iH h 615 (iH h (1140 + 5) s).toNat := rfl
    refine t_X12_crash_14 (by exact hL) ?_
    rw [rs, show ((s : Int)).toNat = s from rfl, rd _ _ _ _ (by decide) (by decide) (by decide)]
    refine ⟨fun q => absurd q (by omega), fun _ => ⟨by omega, ?_⟩⟩
    have e2 : sI (m_crS h s (m_crD h s)) 1155 s (iH h (1140 + 5) s) = m_crS h (s + 1) (m_crI h (m_crD h s) s 0) := by
      unfold m_crS
      rw [sI_sW_ne (by decide), sI_sW (g' := m_crR h (s + 1)) (fun k => by
        unfold m_crR
        by_cases q : k = s
        · subst q; rw [if_pos (by omega), if_pos rfl]
        · rw [if_neg q]
          by_cases q2 : k < s
          · rw [if_pos (by omega), if_pos q2]
          · rw [if_neg (by omega), if_neg q2])]
      rfl
    rw [e2]
    have e3 : m_off5 h s = m_off5 h s + ((0 : Nat) : Int) := by omega
    have main := up (P := fun k => wp mX12_crash 0 0 0 (QI fun x h' => x = iH h 1138 5 ∧ h' = m_crash h) 41 [some (vr 89), some (vi (m_off5 h s + (k : Int))), some (vi s), some (vi (iH h (1140 + 5) s)), some (vi k)] [] (m_crS h (s + 1) (m_crI h (m_crD h s) s k))) (iH h 615 (iH h (1140 + 5) s).toNat).toNat ?_ ?_
    · rw [← e3] at main; exact main
    · refine t_X12_crash_41 (by exact hL) ?_
      rw [rd _ _ _ _ (by decide) (by decide) (by decide)]
      refine ⟨hg1, fun _ => ⟨by omega, ?_⟩, fun q => absurd q (by omega)⟩
      rw [show m_off5 h s + ((iH h 615 (iH h (1140 + 5) s).toNat).toNat : Int) = m_off5 h (s + 1) by omega]
      exact ih
    · intro k hk ih2
      have hm := hg.2.2 k (by omega)
      have ek : (m_off5 h s + (k : Int)).toNat = (m_off5 h s).toNat + k := by omega
      refine t_X12_crash_41 (by exact hL) ?_
      simp (disch := omega) only [rd, Int.toNat_natCast]
      refine ⟨hg1, fun q => absurd q (by omega), fun _ => ⟨by omega, by omega, ⟨hm, h01 _ (by omega)⟩, by omega, by omega, ?_⟩⟩
      rw [ek]
      have e4 : sI (m_crS h (s + 1) (m_crI h (m_crD h s) s k)) 613 (iH h (617 + (iH h (1140 + 5) s).toNat) k).toNat (iH h (1148 + 5) ((m_off5 h s).toNat + k)) = m_crS h (s + 1) (m_crI h (m_crD h s) s (k + 1)) := by
        unfold m_crS
        exact sI_sW fun _ => rfl
      rw [e4, show m_off5 h s + (k : Int) + 1 = m_off5 h s + ((k + 1 : Nat) : Int) by omega]
      exact ih2
