/-! WHAT IS FOUND IN A STAND, AGAINST THE REFERENCE'S -/
section
variable {g : AH} {q : Int} {t : Nat}
theorem v_fv_t (s k : Nat) : v_fv g q (tRow g t) (tDr g t) s k = m_fv g t q s k := by
  unfold v_fv m_fv
  rw [Int.toNat_natCast]
  by_cases c : iH g (1130 + t) ((m_offT g t s).toNat + k) = 0
  · rw [if_pos c, if_neg (fun u : tDr g t s k => u c)]; rfl
  · rw [if_neg c, if_pos (show tDr g t s k from c)]
theorem v_fI_t (s : Nat) (S : FS) : ∀ k : Nat, v_fI g q (tRow g t) (tDr g t) s S k = m_fI g t q s S k
  | 0 => rfl
  | k + 1 => by
    unfold v_fI m_fI
    rw [v_fv_t, v_fI_t s S k]
    rfl
theorem v_fd_t : ∀ s : Nat, v_fd g q (tRow g t) (tDr g t) s = m_fd g t q s
  | 0 => rfl
  | s + 1 => by
    unfold v_fd m_fd
    rw [v_fI_t, v_fd_t s]
    rfl
theorem v_off_t (s : Nat) : v_off g (tRow g t) s = m_offT g t s := rfl
end
theorem hit_v {h g h1 : AH} {a aq : Nat} {q n w : Int} {row : Nat → Int} {dr : Nat → Nat → Prop} (hs : p_search h g a aq q n row dr h1) (hw : m_asked w) (hw1 : w ≠ 1) : l_hit h1 a w = if w = 0 then ((v_fd g q row dr n.toNat).1 : Int) else if w = 2 then (v_fd g q row dr n.toNat).2.1 else if w < 100 then (if w - 10 < ((v_fd g q row dr n.toNat).1 : Int) then iH g 72 ((v_fd g q row dr n.toNat).2.2.1 (w - 10).toNat).toNat else -1) else (if w - 100 < ((v_fd g q row dr n.toNat).1 : Int) then (v_fd g q row dr n.toNat).2.2.2 (w - 100).toNat else -1) := by
  obtain ⟨K, W, P, M, rfl, hk, -⟩ := hs
  unfold m_asked at hw
  unfold l_hit
  rw [hh_3, hh_4]
  by_cases c0 : w = 0
  · rw [if_pos c0, if_pos c0]
  · rw [if_neg c0, if_neg c0]
    by_cases c2 : w = 2
    · rw [if_pos c2, if_pos c2]
    · rw [if_neg c2, if_neg c2]
      by_cases c3 : w < 100
      · rw [if_neg (by omega), if_pos c3, hh_K]
        by_cases c4 : w - 10 < ((v_fd g q row dr n.toNat).1 : Int)
        · rw [if_pos c4, if_pos c4]
          exact (hk _ (by omega)).1
        · rw [if_neg c4, if_neg c4]
      · rw [if_pos (by omega), if_neg c3, hh_W]
        by_cases c4 : w - 100 < ((v_fd g q row dr n.toNat).1 : Int)
        · rw [if_pos c4, if_pos c4]
          exact (hk _ (by omega)).2
        · rw [if_neg c4, if_neg c4]
/-- no more is found than stands there -/
theorem v_fd_bd {h g : AH} {sa : Nat → Nat} {da : Nat → Nat} {b : Nat} {q n : Int} {row : Nat → Int} {dr : Nat → Nat → Prop} (hq : m_qok g q) (hs : cSegs h g da sa) (hc : cStd h g sa b n row dr) : ∀ s : Nat, (s : Int) ≤ n → ((v_fd g q row dr s).1 : Int) ≤ v_off g row s ∧ 0 ≤ (v_fd g q row dr s).2.1 ∧ (v_fd g q row dr s).2.1 ≤ 999 * ((v_fd g q row dr s).1 : Int) := by
  intro s
  induction s with
  | zero => intro _; exact ⟨Int.le_refl 0, Int.le_refl 0, Int.le_refl 0⟩
  | succ s ih =>
    intro h1
    have i1 := ih (by omega)
    have r := (hc.2.2 s (by omega)).1
    have sg := (hs (row s).toNat (by omega)).1.1
    have i3 := sg.1.2.1.1
    rw [Int.toNat_natCast] at i3
    have i2 := v_fI_bd (row := row) (dr := dr) hq (s := s) (m := (iH g 597 (row s).toNat).toNat) (fun k hk => by
      have := sg.2 k (by rw [Int.toNat_natCast]; omega)
      rw [Int.toNat_natCast] at this
      exact this) i1.2 (iH g 597 (row s).toNat).toNat (Nat.le_refl _)
    show ((v_fI g q row dr s (v_fd g q row dr s) (iH g 597 (row s).toNat).toNat).1 : Int) ≤ v_off g row s + iH g 597 (row s).toNat ∧ 0 ≤ (v_fI g q row dr s (v_fd g q row dr s) (iH g 597 (row s).toNat).toNat).2.1 ∧ (v_fI g q row dr s (v_fd g q row dr s) (iH g 597 (row s).toNat).toNat).2.1 ≤ 999 * ((v_fI g q row dr s (v_fd g q row dr s) (iH g 597 (row s).toNat).toNat).1 : Int)
    omega
