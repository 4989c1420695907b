/-! WHAT IS FOUND IN A STAND, AGAINST THE REFERENCE'S -/
section
variable {g : AH} {q : Int} {t : Nat}
theorem v_fv_t (s k : Nat) : v_fv g q (tRow g t) (tDr g t) s k = m_fv g t q s k := by
  unfold v_fv m_fv
  rw [Int.toNat_natCast]
  by_cases c : iH g (1130 + t) ((m_offT g t s).toNat + k) = 0
  · rw [if_pos c, if_neg (fun u : tDr g t s k => u c)]; rfl
  · rw [if_neg c, if_pos (show tDr g t s k from c)]
theorem v_fI_t (s : Nat) (S : FS) : ∀ k : Nat, v_fI g q (tRow g t) (tDr g t) s S k = m_fI g t q s S k
  | 0 => rfl
  | k + 1 => by
    unfold v_fI m_fI
    rw [v_fv_t, v_fI_t s S k]
    rfl
theorem v_fd_t : ∀ s : Nat, v_fd g q (tRow g t) (tDr g t) s = m_fd g t q s
  | 0 => rfl
  | s + 1 => by
    unfold v_fd m_fd
    rw [v_fI_t, v_fd_t s]
    rfl
theorem v_off_t (s : Nat) : v_off g (tRow g t) s = m_offT g t s := rfl
end
