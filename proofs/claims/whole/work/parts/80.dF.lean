/-! WHAT IS FOUND IN A STAND, AGAINST THE REFERENCE'S -/
section
variable {g : AH} {q : Int} {t : Nat}
theorem v_fv_t (s k : Nat) : v_fv g q (tRow g t) (tDr g t) s k = m_fv g t q s k := by
  unfold v_fv m_fv
  rw [Int.toNat_natCast]
  by_cases c : iH g (1130 + t) ((m_offT g t s).toNat + k) = 0
  · rw [if_pos c, if_neg (fun u : tDr g t s k => u c)]; rfl
  · rw [if_neg c, if_pos (show tDr g t s k from c)]
theorem v_fI_t (s : Nat) (S : FS) : ∀ k : Nat, v_fI g q (tRow g t) (tDr g t) s S k = m_fI g t q s S k
  | 0 => rfl
  | k + 1 => by
    unfold v_fI m_fI
    rw [v_fv_t, v_fI_t s S k]
    rfl
theorem v_fd_t : ∀ s : Nat, v_fd g q (tRow g t) (tDr g t) s = m_fd g t q s
  | 0 => rfl
  | s + 1 => by
    unfold v_fd m_fd
    rw [v_fI_t, v_fd_t s]
    rfl
theorem v_off_t (s : Nat) : v_off g (tRow g t) s = m_offT g t s := rfl
end
theorem hit_v {h g h1 : AH} {a aq : Nat} {q n w : Int} {row : Nat → Int} {dr : Nat → Nat → Prop} (hs : p_search h g a aq q n row dr h1) (hw : m_asked w) (hw1 : w ≠ 1) : l_hit h1 a w = if w = 0 then ((v_fd g q row dr n.toNat).1 : Int) else if w = 2 then (v_fd g q row dr n.toNat).2.1 else if w < 100 then (if w - 10 < ((v_fd g q row dr n.toNat).1 : Int) then iH g 72 ((v_fd g q row dr n.toNat).2.2.1 (w - 10).toNat).toNat else -1) else (if w - 100 < ((v_fd g q row dr n.toNat).1 : Int) then (v_fd g q row dr n.toNat).2.2.2 (w - 100).toNat else -1) := by
  obtain ⟨K, W, P, M, rfl, hk, -⟩ := hs
  unfold m_asked at hw
  unfold l_hit
  rw [hh_3, hh_4]
  by_cases c0 : w = 0
  · rw [if_pos c0, if_pos c0]
  · rw [if_neg c0, if_neg c0]
    by_cases c2 : w = 2
    · rw [if_pos c2, if_pos c2]
    · rw [if_neg c2, if_neg c2]
      by_cases c3 : w < 100
      · rw [if_neg (by omega), if_pos c3, hh_K]
        by_cases c4 : w - 10 < ((v_fd g q row dr n.toNat).1 : Int)
        · rw [if_pos c4, if_pos c4]
          exact (hk _ (by omega)).1
        · rw [if_neg c4, if_neg c4]
      · rw [if_pos (by omega), if_neg c3, hh_W]
        by_cases c4 : w - 100 < ((v_fd g q row dr n.toNat).1 : Int)
        · rw [if_pos c4, if_pos c4]
          exact (hk _ (by omega)).2
        · rw [if_neg c4, if_neg c4]
