/-! A NEW SEGMENT, BESIDE THE REFERENCE'S -/
section
variable {h g : AH} {a c r x n : Nat} {sz : Nat → Nat} {wd : Nat → Nat → Int}
/-- what the documents of the reference's segment x are -/
def sgW (g : AH) (x n : Nat) (sz : Nat → Nat) (wd : Nat → Nat → Int) : Prop := iH g 615 x = (n : Int) ∧ ∀ k, k < n → iH g 91 (iH g (617 + x) k).toNat = (sz k : Int) ∧ ∀ i, i < sz k → m_wd g x k i = wd k i
theorem sgW_P (hw : sgW g x n sz wd) {k : Nat} (hk : k < n) {w : Int} : m_postP g x w k ↔ wdB (wd k) (sz k) w := by
  obtain ⟨h1, h2⟩ := hw.2 k hk
  unfold m_postP m_has m_hasP wdB
  rw [Int.toNat_natCast, h1]
  exact ⟨fun ⟨i, q1, q2⟩ => ⟨i, by omega, by rw [← h2 i (by omega)]; exact q2⟩, fun ⟨i, q1, q2⟩ => ⟨i, by omega, by rw [← q2, ← h2 i q1]; rfl⟩⟩
theorem sgW_i (hw : sgW g x n sz wd) {k i : Nat} : m_wi g x k i ↔ k < n ∧ i < sz k := by
  unfold m_wi
  rw [Int.toNat_natCast, hw.1]
  constructor
  · rintro ⟨h1, h2⟩
    rw [(hw.2 k (by omega)).1] at h2
    exact ⟨by omega, by omega⟩
  · rintro ⟨h1, h2⟩
    rw [(hw.2 k h1).1]
    exact ⟨by omega, by omega⟩
theorem sgW_M (hw : sgW g x n sz wd) {w : Int} : MW sz wd n 0 w ↔ ∃ k i, m_wi g x k i ∧ m_wd g x k i = w := by
  unfold MW
  constructor
  · rintro (⟨k, q1, i, q2, q3⟩ | q)
    · exact ⟨k, i, (sgW_i hw).mpr ⟨q1, q2⟩, by rw [(hw.2 k q1).2 i q2]; exact q3⟩
    · exact absurd q wdB_0
  · rintro ⟨k, i, q1, q2⟩
    obtain ⟨u1, u2⟩ := (sgW_i hw).mp q1
    exact Or.inl ⟨k, u1, i, u2, by rw [← (hw.2 k u1).2 i u2]; exact q2⟩
theorem sgW_post (hw : sgW g x n sz wd) {w : Int} : cpW sz wd n 0 w = m_post g x w := by
  unfold cpW m_post
  rw [b01_f wdB_0, Int.add_zero, Int.toNat_natCast, hw.1, Int.toNat_natCast]
  exact cnt_cg fun k hk => (sgW_P hw hk).symm
theorem sgW_ps (hw : sgW g x n sz wd) {w : Int} : spW sz wd n 0 w = m_ps g x w := by
  unfold spW m_ps
  rw [b01_f wdB_0, Int.zero_mul, Int.add_zero, Int.toNat_natCast, hw.1, Int.toNat_natCast]
  have : ∀ m, m ≤ n → sumN (fun k => b01 (wdB (wd k) (sz k) w) * (k : Int)) m = sumN (m_psF g x w) m := by
    intro m
    induction m with
    | zero => intro _; rfl
    | succ m ih =>
      intro hm
      show sumN _ m + _ = sumN _ m + m_psF g x w m
      rw [ih (by omega)]
      unfold m_psF
      rw [propext (sgW_P hw (w := w) (k := m) (by omega))]
  exact this n (Nat.le_refl n)
theorem sgW_dict (hw : sgW g x n sz wd) (hg : m_segd g x) (hr : r ≤ 768) (hcr : c ≤ r) (hD : dD h a c (MW sz wd n 0) (cpW sz wd n 0) (spW sz wd n 0)) : m_dict g x ∧ cDict h g a x r := by
  obtain ⟨d1, d2, d3, d4, d5⟩ := hD
  have hI : IsD (m_wd g x) (m_wi g x) c (iH h (a + 1)) := ⟨d2, fun k i q => by
    obtain ⟨j, q1, q2⟩ := d4 (m_wd g x k i) ((sgW_M hw).mpr ⟨k, i, q, rfl⟩)
    exact ⟨j, q1, q2⟩, fun j hj => (sgW_M hw).mp (d3 j hj).1⟩
  obtain ⟨e1, e2⟩ := m_dw_un hg (by omega) hI
  have row : ∀ j, j < c → iH h (a + 1) j = m_dw g x j ∧ iH h (a + 2) j = m_post g x (m_dw g x j) ∧ iH h (a + 3) j = m_ps g x (m_dw g x j) := fun j hj => by
    obtain ⟨-, q2, q3⟩ := d3 j hj
    rw [q2, q3, e2 j hj, sgW_post hw, sgW_ps hw]
    exact ⟨rfl, rfl, rfl⟩
  refine ⟨⟨hg, c, _, by omega, hI⟩, by rw [e1]; exact d1, by omega, ?_, fun j hj => row j (by omega)⟩
  rw [d5]
  unfold m_dic
  rw [if_neg (by decide), e1]
  have : ∀ m, m ≤ c → sumN (fun j => iH h (a + 2) j) m = sumN (fun j => m_post g x (m_dw g x j)) m := by
    intro m
    induction m with
    | zero => intro _; rfl
    | succ m ih =>
      intro hm
      show sumN _ m + iH h (a + 2) m = sumN _ m + m_post g x (m_dw g x m)
      rw [ih (by omega), (row m (by omega)).2.1]
  exact this c (Nat.le_refl c)
end
