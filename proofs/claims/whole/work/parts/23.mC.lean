/-! THE REFERENCE: DICTIONARIES, WHAT IS TOLD OF SEGMENTS -/
/-- dn and dw tell all values of f on S, in order -/
def IsD (f : Nat → Nat → Int) (S : Nat → Nat → Prop) (dn : Nat) (dw : Nat → Int) : Prop := (∀ i j, i < j → j < dn → dw i < dw j) ∧ (∀ k i, S k i → ∃ j, j < dn ∧ dw j = f k i) ∧ ∀ j, j < dn → ∃ k i, S k i ∧ f k i = dw j
def wq (dn : Nat) (dw : Nat → Int) (j : Nat) : Int := if j < dn then dw j else -1
theorem IsD.mono {f : Nat → Nat → Int} {S : Nat → Nat → Prop} {dn : Nat} {dw : Nat → Int} (hD : IsD f S dn dw) {i j : Nat} (h1 : i ≤ j) (h2 : j < dn) : dw i ≤ dw j := by
  by_cases e : i = j
  · subst e; exact Int.le_refl _
  · have := hD.1 i j (by omega) h2; omega
theorem IsD.nx0 {f : Nat → Nat → Int} {S : Nat → Nat → Prop} {dn : Nat} {dw : Nat → Int} (hD : IsD f S dn dw) (h0 : ∀ k i, S k i → 0 < f k i) : Abv f 0 S (wq dn dw 0) := by
  unfold wq
  by_cases c : 0 < dn
  · rw [if_pos c]
    obtain ⟨a, b, h1, h2⟩ := hD.2.2 0 c
    refine Or.inr ⟨by rw [← h2]; exact h0 a b h1, ⟨a, b, h1, h2⟩, fun k i hk _ => ?_⟩
    obtain ⟨j, h3, h4⟩ := hD.2.1 k i hk
    rw [← h4]
    exact hD.mono (by omega) h3
  · rw [if_neg c]
    refine Or.inl ⟨rfl, fun k i hk => ?_⟩
    obtain ⟨j, h3, h4⟩ := hD.2.1 k i hk
    omega
theorem IsD.nxs {f : Nat → Nat → Int} {S : Nat → Nat → Prop} {dn : Nat} {dw : Nat → Int} (hD : IsD f S dn dw) {j : Nat} (hj : j < dn) : Abv f (dw j) S (wq dn dw (j + 1)) := by
  unfold wq
  by_cases c : j + 1 < dn
  · rw [if_pos c]
    obtain ⟨a, b, h1, h2⟩ := hD.2.2 (j + 1) c
    refine Or.inr ⟨hD.1 _ _ (by omega) c, ⟨a, b, h1, h2⟩, fun k i hk hw => ?_⟩
    obtain ⟨l, h3, h4⟩ := hD.2.1 k i hk
    rw [← h4] at hw ⊢
    by_cases e : j + 1 ≤ l
    · exact hD.mono e h3
    · have := hD.mono (show l ≤ j by omega) hj; omega
  · rw [if_neg c]
    refine Or.inl ⟨rfl, fun k i hk => ?_⟩
    obtain ⟨l, h3, h4⟩ := hD.2.1 k i hk
    rw [← h4]
    exact hD.mono (by omega) hj
theorem IsD.pos {f : Nat → Nat → Int} {S : Nat → Nat → Prop} {dn : Nat} {dw : Nat → Int} (hD : IsD f S dn dw) (h0 : ∀ k i, S k i → 0 < f k i) {j : Nat} (hj : j < dn) : 0 < dw j := by
  obtain ⟨a, b, h1, h2⟩ := hD.2.2 j hj
  rw [← h2]; exact h0 a b h1
theorem IsD.wq_eq {f : Nat → Nat → Int} {S : Nat → Nat → Prop} {dn dn' : Nat} {dw dw' : Nat → Int} (hD : IsD f S dn dw) (hD' : IsD f S dn' dw') (h0 : ∀ k i, S k i → 0 < f k i) : ∀ j, wq dn dw j = wq dn' dw' j
  | 0 => Abv.un (hD.nx0 h0) (hD'.nx0 h0)
  | j + 1 => by
    have ih := hD.wq_eq hD' h0 j
    by_cases c : j < dn
    · by_cases c' : j < dn'
      · have e : dw j = dw' j := by unfold wq at ih; rw [if_pos c, if_pos c'] at ih; exact ih
        have h1 := hD.nxs c
        rw [e] at h1
        exact Abv.un h1 (hD'.nxs c')
      · have := hD.pos h0 c
        unfold wq at ih; rw [if_pos c, if_neg c'] at ih; omega
    · by_cases c' : j < dn'
      · have := hD'.pos h0 c'
        unfold wq at ih; rw [if_neg c, if_pos c'] at ih; omega
      · unfold wq; rw [if_neg (by omega), if_neg (by omega)]
theorem IsD.un {f : Nat → Nat → Int} {S : Nat → Nat → Prop} {dn dn' : Nat} {dw dw' : Nat → Int} (hD : IsD f S dn dw) (hD' : IsD f S dn' dw') (h0 : ∀ k i, S k i → 0 < f k i) : dn = dn' ∧ ∀ j, j < dn → dw j = dw' j := by
  have hq := hD.wq_eq hD' h0
  have h1 : dn = dn' := by
    by_cases c : dn < dn'
    · have := hq dn
      have hp := hD'.pos h0 c
      unfold wq at this; rw [if_neg (by omega), if_pos c] at this; omega
    · by_cases c2 : dn' < dn
      · have := hq dn'
        have hp := hD.pos h0 c2
        unfold wq at this; rw [if_pos c2, if_neg (by omega)] at this; omega
      · omega
  subst h1
  refine ⟨rfl, fun j hj => ?_⟩
  have := hq j
  unfold wq at this; rw [if_pos hj, if_pos hj] at this; exact this
noncomputable def m_dn (h : AH) (g : Int) : Nat := Classical.epsilon (fun n => ∃ dw, IsD (m_wd h g) (m_wi h g) n dw)
noncomputable def m_dw (h : AH) (g : Int) : Nat → Int := Classical.epsilon (fun dw => IsD (m_wd h g) (m_wi h g) (m_dn h g) dw)
def m_dict (h : AH) (g : Int) : Prop := m_segd h g ∧ ∃ n dw, n ≤ 768 ∧ IsD (m_wd h g) (m_wi h g) n dw
theorem m_wd_pos {h : AH} {g : Int} (hg : m_segd h g) : ∀ k i, m_wi h g k i → 0 < m_wd h g k i := fun k i hw => ((hg.2 k hw.1).2.2 i hw.2).1
theorem m_wd_lt {h : AH} {g : Int} (hg : m_segd h g) : ∀ k i, m_wi h g k i → m_wd h g k i < 387420489 := fun k i hw => ((hg.2 k hw.1).2.2 i hw.2).2
theorem m_dict_D {h : AH} {g : Int} (hg : m_dict h g) : m_dn h g ≤ 768 ∧ IsD (m_wd h g) (m_wi h g) (m_dn h g) (m_dw h g) := by
  obtain ⟨hs, n, dw, hn, hD⟩ := hg
  have h1 : ∃ dw, IsD (m_wd h g) (m_wi h g) (m_dn h g) dw := Classical.epsilon_spec (p := fun n => ∃ dw, IsD (m_wd h g) (m_wi h g) n dw) ⟨n, dw, hD⟩
  have h2 : IsD (m_wd h g) (m_wi h g) (m_dn h g) (m_dw h g) := Classical.epsilon_spec h1
  exact ⟨by rw [(h2.un hD (m_wd_pos hs)).1]; exact hn, h2⟩
theorem m_dw_un {h : AH} {g : Int} (hg : m_segd h g) {n : Nat} {dw : Nat → Int} (hn : n ≤ 768) (hD : IsD (m_wd h g) (m_wi h g) n dw) : m_dn h g = n ∧ ∀ j, j < n → m_dw h g j = dw j := by
  have h2 := (m_dict_D ⟨hg, n, dw, hn, hD⟩).2
  have h3 := h2.un hD (m_wd_pos hg)
  exact ⟨h3.1, fun j hj => h3.2 j (by omega)⟩
theorem m_dw_bd {h : AH} {g : Int} (hg : m_dict h g) {j : Nat} (hj : j < m_dn h g) : 0 < m_dw h g j ∧ m_dw h g j < 387420489 := by
  have hD := (m_dict_D hg).2
  obtain ⟨a, b, h1, h2⟩ := hD.2.2 j hj
  rw [← h2]
  exact ⟨m_wd_pos hg.1 a b h1, m_wd_lt hg.1 a b h1⟩
theorem m_nx0 {h : AH} {g : Int} (hg : m_dict h g) : m_nx h g 0 = wq (m_dn h g) (m_dw h g) 0 := m_nx_e ((m_dict_D hg).2.nx0 (m_wd_pos hg.1))
theorem m_nxs {h : AH} {g : Int} (hg : m_dict h g) {j : Nat} (hj : j < m_dn h g) : m_nx h g (m_dw h g j) = wq (m_dn h g) (m_dw h g) (j + 1) := m_nx_e ((m_dict_D hg).2.nxs hj)
def b_X12_dictionary_0 : List IE := [(.iconst 0, 1, 0, 0, 0, 0), (.istore_n 3, 1, 0, 0, 3, 0), (.aload_n 0, 1, 0, 0, 0, 0), (.iload_n 1, 1, 0, 0, 1, 0), (.iconst 0, 1, 0, 0, 0, 0)]
theorem k_X12_dictionary_0 : ckB mX12_dictionary 12 0 b_X12_dictionary_0 5 = true := by decide +kernel
def b_X12_dictionary_8 : List IE := [(.istore 4, 2, 0, 0, 4, 0)]
theorem k_X12_dictionary_8 : ckB mX12_dictionary 12 8 b_X12_dictionary_8 10 = true := by decide +kernel
def b_X12_dictionary_10 : List IE := [(.iload 4, 2, 0, 0, 4, 0), (.iconst (-1), 1, (-1), 0, 0, 0)]
theorem k_X12_dictionary_10 : ckIc mX12_dictionary 12 10 b_X12_dictionary_10 13 0 33 46 16 = true := by decide +kernel
def b_X12_dictionary_16 : List IE := [(.iload_n 3, 1, 0, 0, 3, 0), (.iload_n 2, 1, 0, 0, 2, 0)]
theorem k_X12_dictionary_16 : ckIf mX12_dictionary 12 16 b_X12_dictionary_16 18 0 13 31 21 = true := by decide +kernel
def b_X12_dictionary_21 : List IE := [(.aload_n 0, 1, 0, 0, 0, 0), (.iload_n 1, 1, 0, 0, 1, 0), (.iload 4, 2, 0, 0, 4, 0)]
theorem k_X12_dictionary_21 : ckB mX12_dictionary 12 21 b_X12_dictionary_21 25 = true := by decide +kernel
def b_X12_dictionary_28 : List IE := []
theorem k_X12_dictionary_28 : ckGo mX12_dictionary 12 28 b_X12_dictionary_28 28 4 32 = true := by decide +kernel
def b_X12_dictionary_31 : List IE := [(.iconst 1, 1, 1, 0, 0, 0), (.iadd, 1, 0, 0, 0, 0), (.istore_n 3, 1, 0, 0, 3, 0), (.aload_n 0, 1, 0, 0, 0, 0), (.iload_n 1, 1, 0, 0, 1, 0), (.iload 4, 2, 0, 0, 4, 0)]
theorem k_X12_dictionary_31 : ckB mX12_dictionary 12 31 b_X12_dictionary_31 38 = true := by decide +kernel
def b_X12_dictionary_32 : List IE := [(.iadd, 1, 0, 0, 0, 0), (.istore_n 3, 1, 0, 0, 3, 0), (.aload_n 0, 1, 0, 0, 0, 0), (.iload_n 1, 1, 0, 0, 1, 0), (.iload 4, 2, 0, 0, 4, 0)]
theorem k_X12_dictionary_32 : ckB mX12_dictionary 12 32 b_X12_dictionary_32 38 = true := by decide +kernel
def b_X12_dictionary_41 : List IE := [(.istore 4, 2, 0, 0, 4, 0)]
theorem k_X12_dictionary_41 : ckGo mX12_dictionary 12 41 b_X12_dictionary_41 43 (-33) 10 = true := by decide +kernel
def b_X12_dictionary_46 : List IE := [(.iload_n 3, 1, 0, 0, 3, 0)]
theorem k_X12_dictionary_46 : ckI mX12_dictionary 12 46 b_X12_dictionary_46 47 = true := by decide +kernel
theorem s_X12_dictionary_5 : cV mX12_dictionary 5 mX12_wordAbove 185 2 12 := ⟨by decide +kernel, ⟨ml_X12_wordAbove, li_RX12_185, im_X12_wordAbove, se_X12_wordAbove⟩, ⟨by decide +kernel, by decide +kernel⟩, by decide +kernel⟩
theorem s_X12_dictionary_25 : cV mX12_dictionary 25 mX12_postings 188 2 12 := ⟨by decide +kernel, ⟨ml_X12_postings, li_RX12_188, im_X12_postings, se_X12_postings⟩, ⟨by decide +kernel, by decide +kernel⟩, by decide +kernel⟩
theorem s_X12_dictionary_38 : cV mX12_dictionary 38 mX12_wordAbove 185 2 12 := ⟨by decide +kernel, ⟨ml_X12_wordAbove, li_RX12_185, im_X12_wordAbove, se_X12_wordAbove⟩, ⟨by decide +kernel, by decide +kernel⟩, by decide +kernel⟩
theorem t_X12_dictionary_0 {rc rs : Nat} {Q : Option AV → AH → Prop} {h : AH} {x1 x2 : Int} (hL : LayM h) (hv : (m_segd h x1 ∧ 0 ≤ (0 : Int)) ∧ wp mX12_dictionary 2 rc rs Q 10 [some (vr 89), some (vi x1), some (vi x2), some (vi 0), some (vi (m_nx h x1 (0 : Int)))] [] h) : wp mX12_dictionary 2 rc rs Q 0 [some (vr 89), some (vi x1), some (vi x2), none, none] [] h :=
  (show wp mX12_dictionary 2 rc rs Q 0 [some (vr 89), some (vi x1), some (vi x2), none, none] [] h from xcV k_X12_dictionary_0 s_X12_dictionary_5 (And.intro rfl (have c1 := hv.1; have v2 := hv.2; (Exists.intro [vi x1, vi 0] (Exists.intro 89 (Exists.intro [] (And.intro (And.intro rfl (And.intro rfl (Nat.le_of_ble_eq_true rfl))) (And.intro (lm_89 hL) (Exists.intro 0 (Exists.intro 0 (Exists.intro 0 (Exists.intro _ (And.intro (c_wordAbove (h := h) hL c1) (And.intro (And.intro (by decide) (And.intro (Nat.zero_le _) (Nat.zero_le _))) (eQP (show wp mX12_dictionary 2 rc rs Q 8 [some (vr 89), some (vi x1), some (vi x2), some (vi 0), none] [vi (m_nx h x1 (0 : Int))] h from xB k_X12_dictionary_8 (And.intro rfl v2)))))))))))))))))
theorem e_X12_dictionary {mc ms : Nat} {Q : Option AV → AH → Prop} {h : AH} {x1 x2 : Int} (hL : LayM h) (hv : (m_segd h x1 ∧ 0 ≤ (0 : Int)) ∧ wp mX12_dictionary 2 mc ms Q 10 [some (vr 89), some (vi x1), some (vi x2), some (vi 0), some (vi (m_nx h x1 (0 : Int)))] [] h) : Ct 2 mc ms mX12_dictionary [vr 89, vi x1, vi x2] h Q := Ct.of (by decide +kernel) (Nat.le_of_ble_eq_true rfl) (t_X12_dictionary_0 hL hv)
theorem t_X12_dictionary_10 {rc rs : Nat} {Q : Option AV → AH → Prop} {h : AH} {x1 x2 x3 x4 : Int} (hL : LayM h) (hv : ((x4 = (-1) → Q (some (vi x3)) h) ∧ (x4 ≠ (-1) → ((x2 = 0 → (-2147483648 ≤ (x3 + 1) ∧ (x3 + 1) < 2147483648) ∧ (m_segd h x1 ∧ 0 ≤ x4) ∧ wp mX12_dictionary 2 rc rs Q 10 [some (vr 89), some (vi x1), some (vi x2), some (vi (x3 + 1)), some (vi (m_nx h x1 x4))] [] h) ∧ (x2 ≠ 0 → (m_segd h x1) ∧ (-2147483648 ≤ (x3 + (m_post h x1 x4)) ∧ (x3 + (m_post h x1 x4)) < 2147483648) ∧ (m_segd h x1 ∧ 0 ≤ x4) ∧ wp mX12_dictionary 2 rc rs Q 10 [some (vr 89), some (vi x1), some (vi x2), some (vi (x3 + (m_post h x1 x4))), some (vi (m_nx h x1 x4))] [] h))))) : wp mX12_dictionary 2 rc rs Q 10 [some (vr 89), some (vi x1), some (vi x2), some (vi x3), some (vi x4)] [] h :=
  (show wp mX12_dictionary 2 rc rs Q 10 [some (vr 89), some (vi x1), some (vi x2), some (vi x3), some (vi x4)] [] h from xIc k_X12_dictionary_10 (And.intro (fun c1 => have v3 := hv.1 c1; (show wp mX12_dictionary 2 rc rs Q 46 [some (vr 89), some (vi x1), some (vi x2), some (vi x3), some (vi x4)] [] h from xI k_X12_dictionary_46 (And.intro rfl v3))) (fun c2 => have v4 := hv.2 c2; (show wp mX12_dictionary 2 rc rs Q 16 [some (vr 89), some (vi x1), some (vi x2), some (vi x3), some (vi x4)] [] h from xIf k_X12_dictionary_16 (And.intro (fun c5 => have v7 := v4.1 c5; (show wp mX12_dictionary 2 rc rs Q 31 [some (vr 89), some (vi x1), some (vi x2), some (vi x3), some (vi x4)] [vi x3] h from xcV k_X12_dictionary_31 s_X12_dictionary_38 (have c9 := v7.1; have v13 := v7.2; (And.intro c9 (And.intro rfl (have c10 := v13.1; have v11 := v13.2; (Exists.intro [vi x1, vi x4] (Exists.intro 89 (Exists.intro [] (And.intro (And.intro rfl (And.intro rfl (Nat.le_of_ble_eq_true rfl))) (And.intro (lm_89 hL) (Exists.intro 0 (Exists.intro 0 (Exists.intro 0 (Exists.intro _ (And.intro (c_wordAbove (h := h) hL c10) (And.intro (And.intro (by decide) (And.intro (Nat.zero_le _) (Nat.zero_le _))) (eQP (show wp mX12_dictionary 2 rc rs Q 41 [some (vr 89), some (vi x1), some (vi x2), some (vi (x3 + 1)), some (vi x4)] [vi (m_nx h x1 x4)] h from xGo k_X12_dictionary_41 (And.intro rfl v11)))))))))))))))))))) (fun c6 => have v8 := v4.2 c6; (show wp mX12_dictionary 2 rc rs Q 21 [some (vr 89), some (vi x1), some (vi x2), some (vi x3), some (vi x4)] [vi x3] h from xcV k_X12_dictionary_21 s_X12_dictionary_25 (have c19 := v8.1; have v20 := v8.2; (Exists.intro [vi x1, vi x4] (Exists.intro 89 (Exists.intro [vi x3] (And.intro (And.intro rfl (And.intro rfl (Nat.le_of_ble_eq_true rfl))) (And.intro (lm_89 hL) (Exists.intro 1 (Exists.intro 0 (Exists.intro 0 (Exists.intro _ (And.intro (c_postings (h := h) hL c19) (And.intro (And.intro (by decide) (And.intro (Nat.zero_le _) (Nat.zero_le _))) (eQP (show wp mX12_dictionary 2 rc rs Q 28 [some (vr 89), some (vi x1), some (vi x2), some (vi x3), some (vi x4)] [vi (m_post h x1 x4), vi x3] h from xGo k_X12_dictionary_28 (show wp mX12_dictionary 2 rc rs Q 32 [some (vr 89), some (vi x1), some (vi x2), some (vi x3), some (vi x4)] [vi (m_post h x1 x4), vi x3] h from xcV k_X12_dictionary_32 s_X12_dictionary_38 (have c14 := v20.1; have v18 := v20.2; (And.intro c14 (And.intro rfl (have c15 := v18.1; have v16 := v18.2; (Exists.intro [vi x1, vi x4] (Exists.intro 89 (Exists.intro [] (And.intro (And.intro rfl (And.intro rfl (Nat.le_of_ble_eq_true rfl))) (And.intro (lm_89 hL) (Exists.intro 0 (Exists.intro 0 (Exists.intro 0 (Exists.intro _ (And.intro (c_wordAbove (h := h) hL c15) (And.intro (And.intro (by decide) (And.intro (Nat.zero_le _) (Nat.zero_le _))) (eQP (show wp mX12_dictionary 2 rc rs Q 41 [some (vr 89), some (vi x1), some (vi x2), some (vi (x3 + (m_post h x1 x4))), some (vi x4)] [vi (m_nx h x1 x4)] h from xGo k_X12_dictionary_41 (And.intro rfl v16))))))))))))))))))))))))))))))))))))))))
def b_X12_postingsBegun_0 : List IE := [(.iconst 0, 1, 0, 0, 0, 0), (.istore 4, 2, 0, 0, 4, 0), (.aload_n 0, 1, 0, 0, 0, 0), (.iload_n 1, 1, 0, 0, 1, 0), (.iconst 0, 1, 0, 0, 0, 0)]
theorem k_X12_postingsBegun_0 : ckB mX12_postingsBegun 12 0 b_X12_postingsBegun_0 6 = true := by decide +kernel
def b_X12_postingsBegun_9 : List IE := [(.istore 5, 2, 0, 0, 5, 0)]
theorem k_X12_postingsBegun_9 : ckB mX12_postingsBegun 12 9 b_X12_postingsBegun_9 11 = true := by decide +kernel
def b_X12_postingsBegun_11 : List IE := [(.iload 5, 2, 0, 0, 5, 0), (.iconst (-1), 1, (-1), 0, 0, 0)]
theorem k_X12_postingsBegun_11 : ckIc mX12_postingsBegun 12 11 b_X12_postingsBegun_11 14 0 37 51 17 = true := by decide +kernel
def b_X12_postingsBegun_17 : List IE := [(.iload 5, 2, 0, 0, 5, 0), (.iload_n 2, 1, 0, 0, 2, 0), (.iload_n 3, 1, 0, 0, 3, 0)]
theorem k_X12_postingsBegun_17 : ckB mX12_postingsBegun 12 17 b_X12_postingsBegun_17 21 = true := by decide +kernel
def b_X12_postingsBegun_24 : List IE := []
theorem k_X12_postingsBegun_24 : ckIf mX12_postingsBegun 12 24 b_X12_postingsBegun_24 24 0 15 39 27 = true := by decide +kernel
def b_X12_postingsBegun_27 : List IE := [(.iload 4, 2, 0, 0, 4, 0), (.aload_n 0, 1, 0, 0, 0, 0), (.iload_n 1, 1, 0, 0, 1, 0), (.iload 5, 2, 0, 0, 5, 0)]
theorem k_X12_postingsBegun_27 : ckB mX12_postingsBegun 12 27 b_X12_postingsBegun_27 33 = true := by decide +kernel
def b_X12_postingsBegun_36 : List IE := [(.iadd, 1, 0, 0, 0, 0), (.istore 4, 2, 0, 0, 4, 0), (.aload_n 0, 1, 0, 0, 0, 0), (.iload_n 1, 1, 0, 0, 1, 0), (.iload 5, 2, 0, 0, 5, 0)]
theorem k_X12_postingsBegun_36 : ckB mX12_postingsBegun 12 36 b_X12_postingsBegun_36 43 = true := by decide +kernel
def b_X12_postingsBegun_39 : List IE := [(.aload_n 0, 1, 0, 0, 0, 0), (.iload_n 1, 1, 0, 0, 1, 0), (.iload 5, 2, 0, 0, 5, 0)]
theorem k_X12_postingsBegun_39 : ckB mX12_postingsBegun 12 39 b_X12_postingsBegun_39 43 = true := by decide +kernel
def b_X12_postingsBegun_46 : List IE := [(.istore 5, 2, 0, 0, 5, 0)]
theorem k_X12_postingsBegun_46 : ckGo mX12_postingsBegun 12 46 b_X12_postingsBegun_46 48 (-37) 11 = true := by decide +kernel
def b_X12_postingsBegun_51 : List IE := [(.iload 4, 2, 0, 0, 4, 0)]
theorem k_X12_postingsBegun_51 : ckI mX12_postingsBegun 12 51 b_X12_postingsBegun_51 53 = true := by decide +kernel
theorem s_X12_postingsBegun_6 : cV mX12_postingsBegun 6 mX12_wordAbove 185 2 12 := ⟨by decide +kernel, ⟨ml_X12_wordAbove, li_RX12_185, im_X12_wordAbove, se_X12_wordAbove⟩, ⟨by decide +kernel, by decide +kernel⟩, by decide +kernel⟩
theorem s_X12_postingsBegun_21 : cS mX12_postingsBegun 21 mX12_begins 342 3 := ⟨by decide +kernel, ⟨ml_X12_begins, li_RX12_342, st_X12_begins⟩, by decide +kernel⟩
theorem s_X12_postingsBegun_33 : cV mX12_postingsBegun 33 mX12_postings 188 2 12 := ⟨by decide +kernel, ⟨ml_X12_postings, li_RX12_188, im_X12_postings, se_X12_postings⟩, ⟨by decide +kernel, by decide +kernel⟩, by decide +kernel⟩
theorem s_X12_postingsBegun_43 : cV mX12_postingsBegun 43 mX12_wordAbove 185 2 12 := ⟨by decide +kernel, ⟨ml_X12_wordAbove, li_RX12_185, im_X12_wordAbove, se_X12_wordAbove⟩, ⟨by decide +kernel, by decide +kernel⟩, by decide +kernel⟩
theorem t_X12_postingsBegun_0 {rc rs : Nat} {Q : Option AV → AH → Prop} {h : AH} {x1 x2 x3 : Int} (hL : LayM h) (hv : (m_segd h x1 ∧ 0 ≤ (0 : Int)) ∧ wp mX12_postingsBegun 2 rc rs Q 11 [some (vr 89), some (vi x1), some (vi x2), some (vi x3), some (vi 0), some (vi (m_nx h x1 (0 : Int)))] [] h) : wp mX12_postingsBegun 2 rc rs Q 0 [some (vr 89), some (vi x1), some (vi x2), some (vi x3), none, none] [] h :=
  (show wp mX12_postingsBegun 2 rc rs Q 0 [some (vr 89), some (vi x1), some (vi x2), some (vi x3), none, none] [] h from xcV k_X12_postingsBegun_0 s_X12_postingsBegun_6 (And.intro rfl (have c1 := hv.1; have v2 := hv.2; (Exists.intro [vi x1, vi 0] (Exists.intro 89 (Exists.intro [] (And.intro (And.intro rfl (And.intro rfl (Nat.le_of_ble_eq_true rfl))) (And.intro (lm_89 hL) (Exists.intro 0 (Exists.intro 0 (Exists.intro 0 (Exists.intro _ (And.intro (c_wordAbove (h := h) hL c1) (And.intro (And.intro (by decide) (And.intro (Nat.zero_le _) (Nat.zero_le _))) (eQP (show wp mX12_postingsBegun 2 rc rs Q 9 [some (vr 89), some (vi x1), some (vi x2), some (vi x3), some (vi 0), none] [vi (m_nx h x1 (0 : Int))] h from xB k_X12_postingsBegun_9 (And.intro rfl v2)))))))))))))))))
theorem e_X12_postingsBegun {mc ms : Nat} {Q : Option AV → AH → Prop} {h : AH} {x1 x2 x3 : Int} (hL : LayM h) (hv : (m_segd h x1 ∧ 0 ≤ (0 : Int)) ∧ wp mX12_postingsBegun 2 mc ms Q 11 [some (vr 89), some (vi x1), some (vi x2), some (vi x3), some (vi 0), some (vi (m_nx h x1 (0 : Int)))] [] h) : Ct 2 mc ms mX12_postingsBegun [vr 89, vi x1, vi x2, vi x3] h Q := Ct.of (by decide +kernel) (Nat.le_of_ble_eq_true rfl) (t_X12_postingsBegun_0 hL hv)
theorem t_X12_postingsBegun_11 {rc rs : Nat} {Q : Option AV → AH → Prop} {h : AH} {x1 x2 x3 x4 x5 : Int} (hL : LayM h) (hv : ((x5 = (-1) → Q (some (vi x4)) h) ∧ (x5 ≠ (-1) → ((0 ≤ x5 ∧ x5 < 2147483648) ∧ (0 ≤ x2 ∧ x2 < 2147483648) ∧ (0 ≤ x3 ∧ x3 ≤ 6)) ∧ ((¬ (m_beg x5 x2 x3) → (m_segd h x1 ∧ 0 ≤ x5) ∧ wp mX12_postingsBegun 2 rc rs Q 11 [some (vr 89), some (vi x1), some (vi x2), some (vi x3), some (vi x4), some (vi (m_nx h x1 x5))] [] h) ∧ ((m_beg x5 x2 x3) → (m_segd h x1) ∧ (-2147483648 ≤ (x4 + (m_post h x1 x5)) ∧ (x4 + (m_post h x1 x5)) < 2147483648) ∧ (m_segd h x1 ∧ 0 ≤ x5) ∧ wp mX12_postingsBegun 2 rc rs Q 11 [some (vr 89), some (vi x1), some (vi x2), some (vi x3), some (vi (x4 + (m_post h x1 x5))), some (vi (m_nx h x1 x5))] [] h))))) : wp mX12_postingsBegun 2 rc rs Q 11 [some (vr 89), some (vi x1), some (vi x2), some (vi x3), some (vi x4), some (vi x5)] [] h :=
  (show wp mX12_postingsBegun 2 rc rs Q 11 [some (vr 89), some (vi x1), some (vi x2), some (vi x3), some (vi x4), some (vi x5)] [] h from xIc k_X12_postingsBegun_11 (And.intro (fun c1 => have v3 := hv.1 c1; (show wp mX12_postingsBegun 2 rc rs Q 51 [some (vr 89), some (vi x1), some (vi x2), some (vi x3), some (vi x4), some (vi x5)] [] h from xI k_X12_postingsBegun_51 (And.intro rfl v3))) (fun c2 => have v4 := hv.2 c2; (show wp mX12_postingsBegun 2 rc rs Q 17 [some (vr 89), some (vi x1), some (vi x2), some (vi x3), some (vi x4), some (vi x5)] [] h from xcS k_X12_postingsBegun_17 s_X12_postingsBegun_21 (have c20 := v4.1; have v21 := v4.2; (Exists.intro [vi x5, vi x2, vi x3] (Exists.intro [] (And.intro (And.intro rfl (And.intro rfl (Nat.le_of_ble_eq_true rfl))) (Exists.intro 1 (Exists.intro 0 (Exists.intro 0 (Exists.intro _ (And.intro (c_begins c20) (And.intro (And.intro (by decide) (And.intro (Nat.zero_le _) (Nat.zero_le _))) (eQP (show wp mX12_postingsBegun 2 rc rs Q 24 [some (vr 89), some (vi x1), some (vi x2), some (vi x3), some (vi x4), some (vi x5)] [vi (b01 (m_beg x5 x2 x3))] h from xIf k_X12_postingsBegun_24 (And.intro (fun c5 => have v7 := v21.1 (b01_n.mp c5); (show wp mX12_postingsBegun 2 rc rs Q 39 [some (vr 89), some (vi x1), some (vi x2), some (vi x3), some (vi x4), some (vi x5)] [] h from xcV k_X12_postingsBegun_39 s_X12_postingsBegun_43 (have c9 := v7.1; have v10 := v7.2; (Exists.intro [vi x1, vi x5] (Exists.intro 89 (Exists.intro [] (And.intro (And.intro rfl (And.intro rfl (Nat.le_of_ble_eq_true rfl))) (And.intro (lm_89 hL) (Exists.intro 0 (Exists.intro 0 (Exists.intro 0 (Exists.intro _ (And.intro (c_wordAbove (h := h) hL c9) (And.intro (And.intro (by decide) (And.intro (Nat.zero_le _) (Nat.zero_le _))) (eQP (show wp mX12_postingsBegun 2 rc rs Q 46 [some (vr 89), some (vi x1), some (vi x2), some (vi x3), some (vi x4), some (vi x5)] [vi (m_nx h x1 x5)] h from xGo k_X12_postingsBegun_46 (And.intro rfl v10))))))))))))))))) (fun c6 => have v8 := v21.2 (b01_p.mp c6); (show wp mX12_postingsBegun 2 rc rs Q 27 [some (vr 89), some (vi x1), some (vi x2), some (vi x3), some (vi x4), some (vi x5)] [] h from xcV k_X12_postingsBegun_27 s_X12_postingsBegun_33 (have c17 := v8.1; have v18 := v8.2; (Exists.intro [vi x1, vi x5] (Exists.intro 89 (Exists.intro [vi x4] (And.intro (And.intro rfl (And.intro rfl (Nat.le_of_ble_eq_true rfl))) (And.intro (lm_89 hL) (Exists.intro 1 (Exists.intro 0 (Exists.intro 0 (Exists.intro _ (And.intro (c_postings (h := h) hL c17) (And.intro (And.intro (by decide) (And.intro (Nat.zero_le _) (Nat.zero_le _))) (eQP (show wp mX12_postingsBegun 2 rc rs Q 36 [some (vr 89), some (vi x1), some (vi x2), some (vi x3), some (vi x4), some (vi x5)] [vi (m_post h x1 x5), vi x4] h from xcV k_X12_postingsBegun_36 s_X12_postingsBegun_43 (have c12 := v18.1; have v16 := v18.2; (And.intro c12 (And.intro rfl (have c13 := v16.1; have v14 := v16.2; (Exists.intro [vi x1, vi x5] (Exists.intro 89 (Exists.intro [] (And.intro (And.intro rfl (And.intro rfl (Nat.le_of_ble_eq_true rfl))) (And.intro (lm_89 hL) (Exists.intro 0 (Exists.intro 0 (Exists.intro 0 (Exists.intro _ (And.intro (c_wordAbove (h := h) hL c13) (And.intro (And.intro (by decide) (And.intro (Nat.zero_le _) (Nat.zero_le _))) (eQP (show wp mX12_postingsBegun 2 rc rs Q 46 [some (vr 89), some (vi x1), some (vi x2), some (vi x3), some (vi (x4 + (m_post h x1 x5))), some (vi x5)] [vi (m_nx h x1 x5)] h from xGo k_X12_postingsBegun_46 (And.intro rfl v14)))))))))))))))))))))))))))))))))))))))))))))))))))
def b_X12_word_0 : List IE := [(.aload_n 0, 1, 0, 0, 0, 0), (.iload_n 1, 1, 0, 0, 1, 0)]
theorem k_X12_word_0 : ckB mX12_word 12 0 b_X12_word_0 2 = true := by decide +kernel
def b_X12_word_5 : List IE := []
theorem k_X12_word_5 : ckIf mX12_word 12 5 b_X12_word_5 5 0 12 17 8 = true := by decide +kernel
def b_X12_word_8 : List IE := [(.iload_n 3, 1, 0, 0, 3, 0), (.iconst 0, 1, 0, 0, 0, 0), (.iconst 2, 1, 2, 0, 0, 0)]
theorem k_X12_word_8 : ckB mX12_word 12 8 b_X12_word_8 11 = true := by decide +kernel
def b_X12_word_14 : List IE := []
theorem k_X12_word_14 : ckIf mX12_word 12 14 b_X12_word_14 14 1 6 20 17 = true := by decide +kernel
def b_X12_word_17 : List IE := [(.bipush (-2), 2, (-2), 0, 0, 0)]
theorem k_X12_word_17 : ckI mX12_word 12 17 b_X12_word_17 19 = true := by decide +kernel
def b_X12_word_20 : List IE := [(.iload_n 2, 1, 0, 0, 2, 0)]
theorem k_X12_word_20 : ckIf mX12_word 12 20 b_X12_word_20 21 3 6 27 24 = true := by decide +kernel
def b_X12_word_24 : List IE := [(.bipush (-12), 2, (-12), 0, 0, 0)]
theorem k_X12_word_24 : ckI mX12_word 12 24 b_X12_word_24 26 = true := by decide +kernel
def b_X12_word_27 : List IE := [(.aload_n 0, 1, 0, 0, 0, 0), (.getfield 48, 3, 0, 12, 14, 1), (.iload_n 1, 1, 0, 0, 1, 0), (.iaload, 1, 0, 0, 0, 0), (.istore 4, 2, 0, 0, 4, 0), (.aload_n 0, 1, 0, 0, 0, 0), (.iload 4, 2, 0, 0, 4, 0), (.iconst 0, 1, 0, 0, 0, 0)]
theorem k_X12_word_27 : ckB mX12_word 12 27 b_X12_word_27 39 = true := by decide +kernel
def b_X12_word_42 : List IE := [(.istore 5, 2, 0, 0, 5, 0), (.iconst 0, 1, 0, 0, 0, 0), (.istore 6, 2, 0, 0, 6, 0)]
theorem k_X12_word_42 : ckB mX12_word 12 42 b_X12_word_42 47 = true := by decide +kernel
def b_X12_word_47 : List IE := [(.iload 6, 2, 0, 0, 6, 0), (.iload_n 2, 1, 0, 0, 2, 0)]
theorem k_X12_word_47 : ckIc mX12_word 12 47 b_X12_word_47 50 3 25 75 53 = true := by decide +kernel
def b_X12_word_53 : List IE := [(.iload 5, 2, 0, 0, 5, 0), (.iconst (-1), 1, (-1), 0, 0, 0)]
theorem k_X12_word_53 : ckIc mX12_word 12 53 b_X12_word_53 56 0 19 75 59 = true := by decide +kernel
def b_X12_word_59 : List IE := [(.aload_n 0, 1, 0, 0, 0, 0), (.iload 4, 2, 0, 0, 4, 0), (.iload 5, 2, 0, 0, 5, 0)]
theorem k_X12_word_59 : ckB mX12_word 12 59 b_X12_word_59 64 = true := by decide +kernel
def b_X12_word_67 : List IE := [(.istore 5, 2, 0, 0, 5, 0), (.iinc 6 1, 3, 1, 0, 6, 0)]
theorem k_X12_word_67 : ckGo mX12_word 12 67 b_X12_word_67 72 (-25) 47 = true := by decide +kernel
def b_X12_word_75 : List IE := [(.iload 5, 2, 0, 0, 5, 0), (.iconst (-1), 1, (-1), 0, 0, 0)]
theorem k_X12_word_75 : ckIc mX12_word 12 75 b_X12_word_75 78 1 6 84 81 = true := by decide +kernel
def b_X12_word_81 : List IE := [(.bipush (-12), 2, (-12), 0, 0, 0)]
theorem k_X12_word_81 : ckI mX12_word 12 81 b_X12_word_81 83 = true := by decide +kernel
def b_X12_word_84 : List IE := [(.iload_n 3, 1, 0, 0, 3, 0)]
theorem k_X12_word_84 : ckIf mX12_word 12 84 b_X12_word_84 85 1 9 94 88 = true := by decide +kernel
def b_X12_word_88 : List IE := [(.iload 5, 2, 0, 0, 5, 0)]
theorem k_X12_word_88 : ckB mX12_word 12 88 b_X12_word_88 90 = true := by decide +kernel
def b_X12_word_93 : List IE := []
theorem k_X12_word_93 : ckI mX12_word 12 93 b_X12_word_93 93 = true := by decide +kernel
def b_X12_word_94 : List IE := [(.iload_n 3, 1, 0, 0, 3, 0), (.iconst 1, 1, 1, 0, 0, 0)]
theorem k_X12_word_94 : ckIc mX12_word 12 94 b_X12_word_94 96 1 12 108 99 = true := by decide +kernel
def b_X12_word_99 : List IE := [(.aload_n 0, 1, 0, 0, 0, 0), (.iload 4, 2, 0, 0, 4, 0), (.iload 5, 2, 0, 0, 5, 0)]
theorem k_X12_word_99 : ckB mX12_word 12 99 b_X12_word_99 104 = true := by decide +kernel
def b_X12_word_107 : List IE := []
theorem k_X12_word_107 : ckI mX12_word 12 107 b_X12_word_107 107 = true := by decide +kernel
def b_X12_word_108 : List IE := [(.iconst 0, 1, 0, 0, 0, 0), (.istore 6, 2, 0, 0, 6, 0), (.iconst 0, 1, 0, 0, 0, 0), (.istore 7, 2, 0, 0, 7, 0)]
theorem k_X12_word_108 : ckB mX12_word 12 108 b_X12_word_108 114 = true := by decide +kernel
def b_X12_word_114 : List IE := [(.iload 7, 2, 0, 0, 7, 0), (.aload_n 0, 1, 0, 0, 0, 0), (.getfield 28, 3, 0, 12, 7, 1), (.iload 4, 2, 0, 0, 4, 0), (.iaload, 1, 0, 0, 0, 0)]
theorem k_X12_word_114 : ckIc mX12_word 12 114 b_X12_word_114 123 3 35 158 126 = true := by decide +kernel
def b_X12_word_126 : List IE := [(.aload_n 0, 1, 0, 0, 0, 0), (.aload_n 0, 1, 0, 0, 0, 0), (.getfield 31, 3, 0, 12, 8, 1), (.iload 4, 2, 0, 0, 4, 0), (.aaload, 1, 0, 0, 0, 0), (.iload 7, 2, 0, 0, 7, 0), (.iaload, 1, 0, 0, 0, 0), (.iload 5, 2, 0, 0, 5, 0)]
theorem k_X12_word_126 : ckB mX12_word 12 126 b_X12_word_126 139 = true := by decide +kernel
def b_X12_word_142 : List IE := []
theorem k_X12_word_142 : ckIf mX12_word 12 142 b_X12_word_142 142 0 10 152 145 = true := by decide +kernel
def b_X12_word_145 : List IE := [(.iload 6, 2, 0, 0, 6, 0), (.iload 7, 2, 0, 0, 7, 0), (.iadd, 1, 0, 0, 0, 0), (.istore 6, 2, 0, 0, 6, 0), (.iinc 7 1, 3, 1, 0, 7, 0)]
theorem k_X12_word_145 : ckGo mX12_word 12 145 b_X12_word_145 155 (-41) 114 = true := by decide +kernel
def b_X12_word_152 : List IE := [(.iinc 7 1, 3, 1, 0, 7, 0)]
theorem k_X12_word_152 : ckGo mX12_word 12 152 b_X12_word_152 155 (-41) 114 = true := by decide +kernel
def b_X12_word_158 : List IE := [(.iload 6, 2, 0, 0, 6, 0)]
theorem k_X12_word_158 : ckI mX12_word 12 158 b_X12_word_158 160 = true := by decide +kernel
theorem s_X12_word_2 : cV mX12_word 2 mX12_isSegment 191 1 12 := ⟨by decide +kernel, ⟨ml_X12_isSegment, li_RX12_191, im_X12_isSegment, se_X12_isSegment⟩, ⟨by decide +kernel, by decide +kernel⟩, by decide +kernel⟩
theorem s_X12_word_11 : cS mX12_word 11 mX12_in 109 3 := ⟨by decide +kernel, ⟨ml_X12_in, li_RX12_109, st_X12_in⟩, by decide +kernel⟩
theorem s_X12_word_39 : cV mX12_word 39 mX12_wordAbove 185 2 12 := ⟨by decide +kernel, ⟨ml_X12_wordAbove, li_RX12_185, im_X12_wordAbove, se_X12_wordAbove⟩, ⟨by decide +kernel, by decide +kernel⟩, by decide +kernel⟩
theorem s_X12_word_64 : cV mX12_word 64 mX12_wordAbove 185 2 12 := ⟨by decide +kernel, ⟨ml_X12_wordAbove, li_RX12_185, im_X12_wordAbove, se_X12_wordAbove⟩, ⟨by decide +kernel, by decide +kernel⟩, by decide +kernel⟩
theorem s_X12_word_90 : cS mX12_word 90 mX12_plainWord 194 1 := ⟨by decide +kernel, ⟨ml_X12_plainWord, li_RX12_194, st_X12_plainWord⟩, by decide +kernel⟩
theorem s_X12_word_104 : cV mX12_word 104 mX12_postings 188 2 12 := ⟨by decide +kernel, ⟨ml_X12_postings, li_RX12_188, im_X12_postings, se_X12_postings⟩, ⟨by decide +kernel, by decide +kernel⟩, by decide +kernel⟩
theorem s_X12_word_139 : cV mX12_word 139 mX12_hasWord 181 2 12 := ⟨by decide +kernel, ⟨ml_X12_hasWord, li_RX12_181, im_X12_hasWord, se_X12_hasWord⟩, ⟨by decide +kernel, by decide +kernel⟩, by decide +kernel⟩
theorem t_X12_word_0 {rc rs : Nat} {Q : Option AV → AH → Prop} {h : AH} {x1 x2 x3 : Int} (hL : LayM h) (hv : (0 ≤ iH h 89 13 ∧ iH h 89 13 ≤ 8) ∧ ((¬ (0 ≤ x1 ∧ x1 ≤ (iH h 89 13 - 1)) → Q (some (vi (-2))) h) ∧ ((0 ≤ x1 ∧ x1 ≤ (iH h 89 13 - 1)) → ((((0 : Int) ≤ x3 ∧ x3 ≤ (2 : Int)) → ((0 ≤ x2 → (0 ≤ x1 ∧ x1 < 8) ∧ (m_segd h (iH h 1155 x1.toNat) ∧ 0 ≤ (0 : Int)) ∧ wp mX12_word 2 rc rs Q 47 [some (vr 89), none, some (vi x2), some (vi x3), some (vi (iH h 1155 x1.toNat)), some (vi (m_nx h (iH h 1155 x1.toNat) (0 : Int))), some (vi 0), none] [] h) ∧ (x2 < 0 → Q (some (vi (-12))) h))) ∧ (¬ ((0 : Int) ≤ x3 ∧ x3 ≤ (2 : Int)) → Q (some (vi (-2))) h))))) : wp mX12_word 2 rc rs Q 0 [some (vr 89), some (vi x1), some (vi x2), some (vi x3), none, none, none, none] [] h :=
  (show wp mX12_word 2 rc rs Q 0 [some (vr 89), some (vi x1), some (vi x2), some (vi x3), none, none, none, none] [] h from xcV k_X12_word_0 s_X12_word_2 (have c21 := hv.1; have v22 := hv.2; (Exists.intro [vi x1] (Exists.intro 89 (Exists.intro [] (And.intro (And.intro rfl (And.intro rfl (Nat.le_of_ble_eq_true rfl))) (And.intro (lm_89 hL) (Exists.intro 1 (Exists.intro 0 (Exists.intro 0 (Exists.intro _ (And.intro (c_isSegment (h := h) hL c21) (And.intro (And.intro (by decide) (And.intro (Nat.zero_le _) (Nat.zero_le _))) (eQP (show wp mX12_word 2 rc rs Q 5 [some (vr 89), some (vi x1), some (vi x2), some (vi x3), none, none, none, none] [vi (b01 (0 ≤ x1 ∧ x1 ≤ (iH h 89 13 - 1)))] h from xIf k_X12_word_5 (And.intro (fun c1 => have v3 := v22.1 (b01_n.mp c1); (show wp mX12_word 2 rc rs Q 17 [some (vr 89), some (vi x1), some (vi x2), some (vi x3), none, none, none, none] [] h from xI k_X12_word_17 (And.intro rfl v3))) (fun c2 => have v4 := v22.2 (b01_p.mp c2); (show wp mX12_word 2 rc rs Q 8 [some (vr 89), some (vi x1), some (vi x2), some (vi x3), none, none, none, none] [] h from xcS k_X12_word_8 s_X12_word_11 ((Exists.intro [vi x3, vi 0, vi 2] (Exists.intro [] (And.intro (And.intro rfl (And.intro rfl (Nat.le_of_ble_eq_true rfl))) (Exists.intro 0 (Exists.intro 0 (Exists.intro 0 (Exists.intro _ (And.intro c_in (And.intro (And.intro (by decide) (And.intro (Nat.zero_le _) (Nat.zero_le _))) (eQP (show wp mX12_word 2 rc rs Q 14 [some (vr 89), some (vi x1), some (vi x2), some (vi x3), none, none, none, none] [vi (b01 ((0 : Int) ≤ x3 ∧ x3 ≤ (2 : Int)))] h from xIf k_X12_word_14 (And.intro (fun c5 => have v7 := v4.1 (b01_p.mp c5); (show wp mX12_word 2 rc rs Q 20 [some (vr 89), some (vi x1), some (vi x2), some (vi x3), none, none, none, none] [] h from xIf k_X12_word_20 (And.intro (fun c9 => have v11 := v7.1 c9; (show wp mX12_word 2 rc rs Q 27 [some (vr 89), some (vi x1), some (vi x2), some (vi x3), none, none, none, none] [] h from xcV k_X12_word_27 s_X12_word_39 (And.intro (lm_89 hL) (Exists.intro 1155 (And.intro (lf_89_14 hL) (have c13 := v11.1; have v17 := v11.2; (And.intro (sdI (lm_1155 hL) c13) (And.intro rfl (have c14 := v17.1; have v15 := v17.2; (Exists.intro [vi (iH h 1155 x1.toNat), vi 0] (Exists.intro 89 (Exists.intro [] (And.intro (And.intro rfl (And.intro rfl (Nat.le_of_ble_eq_true rfl))) (And.intro (lm_89 hL) (Exists.intro 0 (Exists.intro 0 (Exists.intro 0 (Exists.intro _ (And.intro (c_wordAbove (h := h) hL c14) (And.intro (And.intro (by decide) (And.intro (Nat.zero_le _) (Nat.zero_le _))) (eQP (show wp mX12_word 2 rc rs Q 42 [some (vr 89), some (vi x1), some (vi x2), some (vi x3), some (vi (iH h 1155 x1.toNat)), none, none, none] [vi (m_nx h (iH h 1155 x1.toNat) (0 : Int))] h from xB k_X12_word_42 (And.intro rfl (And.intro rfl (w_fg [true, false, true, true, true, true, true, false] v15))))))))))))))))))))))))) (fun c10 => have v12 := v7.2 (Int.not_le.mp c10); (show wp mX12_word 2 rc rs Q 24 [some (vr 89), some (vi x1), some (vi x2), some (vi x3), none, none, none, none] [] h from xI k_X12_word_24 (And.intro rfl v12)))))) (fun c6 => have v8 := v4.2 (b01_nn.mp c6); (show wp mX12_word 2 rc rs Q 17 [some (vr 89), some (vi x1), some (vi x2), some (vi x3), none, none, none, none] [] h from xI k_X12_word_17 (And.intro rfl v8))))))))))))))))))))))))))))))))))
theorem e_X12_word {mc ms : Nat} {Q : Option AV → AH → Prop} {h : AH} {x1 x2 x3 : Int} (hL : LayM h) (hv : (0 ≤ iH h 89 13 ∧ iH h 89 13 ≤ 8) ∧ ((¬ (0 ≤ x1 ∧ x1 ≤ (iH h 89 13 - 1)) → Q (some (vi (-2))) h) ∧ ((0 ≤ x1 ∧ x1 ≤ (iH h 89 13 - 1)) → ((((0 : Int) ≤ x3 ∧ x3 ≤ (2 : Int)) → ((0 ≤ x2 → (0 ≤ x1 ∧ x1 < 8) ∧ (m_segd h (iH h 1155 x1.toNat) ∧ 0 ≤ (0 : Int)) ∧ wp mX12_word 2 mc ms Q 47 [some (vr 89), none, some (vi x2), some (vi x3), some (vi (iH h 1155 x1.toNat)), some (vi (m_nx h (iH h 1155 x1.toNat) (0 : Int))), some (vi 0), none] [] h) ∧ (x2 < 0 → Q (some (vi (-12))) h))) ∧ (¬ ((0 : Int) ≤ x3 ∧ x3 ≤ (2 : Int)) → Q (some (vi (-2))) h))))) : Ct 2 mc ms mX12_word [vr 89, vi x1, vi x2, vi x3] h Q := Ct.of (by decide +kernel) (Nat.le_of_ble_eq_true rfl) (t_X12_word_0 hL hv)
theorem t_X12_word_47 {rc rs : Nat} {Q : Option AV → AH → Prop} {h : AH} {x2 x3 x4 x5 x6 : Int} (hL : LayM h) (hv : ((x2 ≤ x6 → ((x5 ≠ (-1) → ((x3 ≠ 0 → ((x3 ≠ 1 → wp mX12_word 2 rc rs Q 114 [some (vr 89), none, none, none, some (vi x4), some (vi x5), some (vi 0), some (vi 0)] [] h) ∧ (x3 = 1 → (m_segd h x4) ∧ Q (some (vi (m_post h x4 x5))) h))) ∧ (x3 = 0 → (0 < x5 ∧ x5 < 387420489) ∧ Q (some (vi (m_pl 6 x5))) h))) ∧ (x5 = (-1) → Q (some (vi (-12))) h))) ∧ (x6 < x2 → ((x5 = (-1) → ((x5 ≠ (-1) → ((x3 ≠ 0 → ((x3 ≠ 1 → wp mX12_word 2 rc rs Q 114 [some (vr 89), none, none, none, some (vi x4), some (vi x5), some (vi 0), some (vi 0)] [] h) ∧ (x3 = 1 → (m_segd h x4) ∧ Q (some (vi (m_post h x4 x5))) h))) ∧ (x3 = 0 → (0 < x5 ∧ x5 < 387420489) ∧ Q (some (vi (m_pl 6 x5))) h))) ∧ (x5 = (-1) → Q (some (vi (-12))) h))) ∧ (x5 ≠ (-1) → (m_segd h x4 ∧ 0 ≤ x5) ∧ (-2147483648 ≤ (x6 + 1) ∧ (x6 + 1) < 2147483648) ∧ wp mX12_word 2 rc rs Q 47 [some (vr 89), none, some (vi x2), some (vi x3), some (vi x4), some (vi (m_nx h x4 x5)), some (vi (x6 + 1)), none] [] h))))) : wp mX12_word 2 rc rs Q 47 [some (vr 89), none, some (vi x2), some (vi x3), some (vi x4), some (vi x5), some (vi x6), none] [] h :=
  (show wp mX12_word 2 rc rs Q 47 [some (vr 89), none, some (vi x2), some (vi x3), some (vi x4), some (vi x5), some (vi x6), none] [] h from xIc k_X12_word_47 (And.intro (fun c1 => have v3 := hv.1 c1; (show wp mX12_word 2 rc rs Q 75 [some (vr 89), none, some (vi x2), some (vi x3), some (vi x4), some (vi x5), some (vi x6), none] [] h from xIc k_X12_word_75 (And.intro (fun c5 => have v7 := v3.1 c5; (show wp mX12_word 2 rc rs Q 84 [some (vr 89), none, some (vi x2), some (vi x3), some (vi x4), some (vi x5), some (vi x6), none] [] h from xIf k_X12_word_84 (And.intro (fun c9 => have v11 := v7.1 c9; (show wp mX12_word 2 rc rs Q 94 [some (vr 89), none, some (vi x2), some (vi x3), some (vi x4), some (vi x5), some (vi x6), none] [] h from xIc k_X12_word_94 (And.intro (fun c13 => have v15 := v11.1 c13; (show wp mX12_word 2 rc rs Q 108 [some (vr 89), none, some (vi x2), some (vi x3), some (vi x4), some (vi x5), some (vi x6), none] [] h from xB k_X12_word_108 (And.intro rfl (And.intro rfl (w_fg [true, false, false, false, true, true, true, true] v15))))) (fun c14 => have v16 := v11.2 (Decidable.not_not.mp c14); (show wp mX12_word 2 rc rs Q 99 [some (vr 89), none, some (vi x2), some (vi x3), some (vi x4), some (vi x5), some (vi x6), none] [] h from xcV k_X12_word_99 s_X12_word_104 (have c17 := v16.1; have v18 := v16.2; (Exists.intro [vi x4, vi x5] (Exists.intro 89 (Exists.intro [] (And.intro (And.intro rfl (And.intro rfl (Nat.le_of_ble_eq_true rfl))) (And.intro (lm_89 hL) (Exists.intro 1 (Exists.intro 0 (Exists.intro 0 (Exists.intro _ (And.intro (c_postings (h := h) hL c17) (And.intro (And.intro (by decide) (And.intro (Nat.zero_le _) (Nat.zero_le _))) (eQP (show wp mX12_word 2 rc rs Q 107 [some (vr 89), none, some (vi x2), some (vi x3), some (vi x4), some (vi x5), some (vi x6), none] [vi (m_post h x4 x5)] h from xI k_X12_word_107 (And.intro rfl v18)))))))))))))))))))) (fun c10 => have v12 := v7.2 (Decidable.not_not.mp c10); (show wp mX12_word 2 rc rs Q 88 [some (vr 89), none, some (vi x2), some (vi x3), some (vi x4), some (vi x5), some (vi x6), none] [] h from xcS k_X12_word_88 s_X12_word_90 (have c20 := v12.1; have v21 := v12.2; (Exists.intro [vi x5] (Exists.intro [] (And.intro (And.intro rfl (And.intro rfl (Nat.le_of_ble_eq_true rfl))) (Exists.intro 0 (Exists.intro 0 (Exists.intro 0 (Exists.intro _ (And.intro (c_plainWord c20) (And.intro (And.intro (by decide) (And.intro (Nat.zero_le _) (Nat.zero_le _))) (eQP (show wp mX12_word 2 rc rs Q 93 [some (vr 89), none, some (vi x2), some (vi x3), some (vi x4), some (vi x5), some (vi x6), none] [vi (m_pl 6 x5)] h from xI k_X12_word_93 (And.intro rfl v21)))))))))))))))))) (fun c6 => have v8 := v3.2 (Decidable.not_not.mp c6); (show wp mX12_word 2 rc rs Q 81 [some (vr 89), none, some (vi x2), some (vi x3), some (vi x4), some (vi x5), some (vi x6), none] [] h from xI k_X12_word_81 (And.intro rfl v8)))))) (fun c2 => have v4 := hv.2 (Int.not_le.mp c2); (show wp mX12_word 2 rc rs Q 53 [some (vr 89), none, some (vi x2), some (vi x3), some (vi x4), some (vi x5), some (vi x6), none] [] h from xIc k_X12_word_53 (And.intro (fun c23 => have v25 := v4.1 c23; (show wp mX12_word 2 rc rs Q 75 [some (vr 89), none, some (vi x2), some (vi x3), some (vi x4), some (vi x5), some (vi x6), none] [] h from xIc k_X12_word_75 (And.intro (fun c27 => have v29 := v25.1 c27; (show wp mX12_word 2 rc rs Q 84 [some (vr 89), none, some (vi x2), some (vi x3), some (vi x4), some (vi x5), some (vi x6), none] [] h from xIf k_X12_word_84 (And.intro (fun c31 => have v33 := v29.1 c31; (show wp mX12_word 2 rc rs Q 94 [some (vr 89), none, some (vi x2), some (vi x3), some (vi x4), some (vi x5), some (vi x6), none] [] h from xIc k_X12_word_94 (And.intro (fun c35 => have v37 := v33.1 c35; (show wp mX12_word 2 rc rs Q 108 [some (vr 89), none, some (vi x2), some (vi x3), some (vi x4), some (vi x5), some (vi x6), none] [] h from xB k_X12_word_108 (And.intro rfl (And.intro rfl (w_fg [true, false, false, false, true, true, true, true] v37))))) (fun c36 => have v38 := v33.2 (Decidable.not_not.mp c36); (show wp mX12_word 2 rc rs Q 99 [some (vr 89), none, some (vi x2), some (vi x3), some (vi x4), some (vi x5), some (vi x6), none] [] h from xcV k_X12_word_99 s_X12_word_104 (have c39 := v38.1; have v40 := v38.2; (Exists.intro [vi x4, vi x5] (Exists.intro 89 (Exists.intro [] (And.intro (And.intro rfl (And.intro rfl (Nat.le_of_ble_eq_true rfl))) (And.intro (lm_89 hL) (Exists.intro 1 (Exists.intro 0 (Exists.intro 0 (Exists.intro _ (And.intro (c_postings (h := h) hL c39) (And.intro (And.intro (by decide) (And.intro (Nat.zero_le _) (Nat.zero_le _))) (eQP (show wp mX12_word 2 rc rs Q 107 [some (vr 89), none, some (vi x2), some (vi x3), some (vi x4), some (vi x5), some (vi x6), none] [vi (m_post h x4 x5)] h from xI k_X12_word_107 (And.intro rfl v40)))))))))))))))))))) (fun c32 => have v34 := v29.2 (Decidable.not_not.mp c32); (show wp mX12_word 2 rc rs Q 88 [some (vr 89), none, some (vi x2), some (vi x3), some (vi x4), some (vi x5), some (vi x6), none] [] h from xcS k_X12_word_88 s_X12_word_90 (have c42 := v34.1; have v43 := v34.2; (Exists.intro [vi x5] (Exists.intro [] (And.intro (And.intro rfl (And.intro rfl (Nat.le_of_ble_eq_true rfl))) (Exists.intro 0 (Exists.intro 0 (Exists.intro 0 (Exists.intro _ (And.intro (c_plainWord c42) (And.intro (And.intro (by decide) (And.intro (Nat.zero_le _) (Nat.zero_le _))) (eQP (show wp mX12_word 2 rc rs Q 93 [some (vr 89), none, some (vi x2), some (vi x3), some (vi x4), some (vi x5), some (vi x6), none] [vi (m_pl 6 x5)] h from xI k_X12_word_93 (And.intro rfl v43)))))))))))))))))) (fun c28 => have v30 := v25.2 (Decidable.not_not.mp c28); (show wp mX12_word 2 rc rs Q 81 [some (vr 89), none, some (vi x2), some (vi x3), some (vi x4), some (vi x5), some (vi x6), none] [] h from xI k_X12_word_81 (And.intro rfl v30)))))) (fun c24 => have v26 := v4.2 c24; (show wp mX12_word 2 rc rs Q 59 [some (vr 89), none, some (vi x2), some (vi x3), some (vi x4), some (vi x5), some (vi x6), none] [] h from xcV k_X12_word_59 s_X12_word_64 (have c47 := v26.1; have v48 := v26.2; (Exists.intro [vi x4, vi x5] (Exists.intro 89 (Exists.intro [] (And.intro (And.intro rfl (And.intro rfl (Nat.le_of_ble_eq_true rfl))) (And.intro (lm_89 hL) (Exists.intro 0 (Exists.intro 0 (Exists.intro 0 (Exists.intro _ (And.intro (c_wordAbove (h := h) hL c47) (And.intro (And.intro (by decide) (And.intro (Nat.zero_le _) (Nat.zero_le _))) (eQP (show wp mX12_word 2 rc rs Q 67 [some (vr 89), none, some (vi x2), some (vi x3), some (vi x4), some (vi x5), some (vi x6), none] [vi (m_nx h x4 x5)] h from xGo k_X12_word_67 (And.intro rfl (have c45 := v48.1; have v46 := v48.2; (And.intro c45 (And.intro rfl v46)))))))))))))))))))))))))
theorem t_X12_word_114 {rc rs : Nat} {Q : Option AV → AH → Prop} {h : AH} {x4 x5 x6 x7 : Int} (hL : LayM h) (hv : (0 ≤ x4 ∧ x4 < 520) ∧ (((iH h 615 x4.toNat) ≤ x7 → Q (some (vi x6)) h) ∧ (x7 < (iH h 615 x4.toNat) → (0 ≤ x7 ∧ x7 < 64) ∧ (m_doc h (iH h (617 + x4.toNat) x7.toNat)) ∧ ((¬ (m_has h (iH h (617 + x4.toNat) x7.toNat) x5) → (-2147483648 ≤ (x7 + 1) ∧ (x7 + 1) < 2147483648) ∧ wp mX12_word 2 rc rs Q 114 [some (vr 89), none, none, none, some (vi x4), some (vi x5), some (vi x6), some (vi (x7 + 1))] [] h) ∧ ((m_has h (iH h (617 + x4.toNat) x7.toNat) x5) → (-2147483648 ≤ (x6 + x7) ∧ (x6 + x7) < 2147483648) ∧ (-2147483648 ≤ (x7 + 1) ∧ (x7 + 1) < 2147483648) ∧ wp mX12_word 2 rc rs Q 114 [some (vr 89), none, none, none, some (vi x4), some (vi x5), some (vi (x6 + x7)), some (vi (x7 + 1))] [] h))))) : wp mX12_word 2 rc rs Q 114 [some (vr 89), none, none, none, some (vi x4), some (vi x5), some (vi x6), some (vi x7)] [] h :=
  (show wp mX12_word 2 rc rs Q 114 [some (vr 89), none, none, none, some (vi x4), some (vi x5), some (vi x6), some (vi x7)] [] h from xIc k_X12_word_114 (And.intro (lm_89 hL) (Exists.intro 615 (And.intro (lf_89_7 hL) (have c1 := hv.1; have v22 := hv.2; (And.intro (sdI (lm_615 hL) c1) (And.intro (fun c2 => have v4 := v22.1 c2; (show wp mX12_word 2 rc rs Q 158 [some (vr 89), none, none, none, some (vi x4), some (vi x5), some (vi x6), some (vi x7)] [] h from xI k_X12_word_158 (And.intro rfl v4))) (fun c3 => have v5 := v22.2 (Int.not_le.mp c3); (show wp mX12_word 2 rc rs Q 126 [some (vr 89), none, none, none, some (vi x4), some (vi x5), some (vi x6), some (vi x7)] [] h from xcV k_X12_word_126 s_X12_word_139 (And.intro (lm_89 hL) (Exists.intro 616 (And.intro (lf_89_8 hL) (And.intro (sdQ (lm_616 hL) c1) (Exists.intro (617 + x4.toNat) (And.intro (lr_members hL (tnl c1)) (have c7 := v5.1; have v21 := v5.2; (And.intro (sdI (lk_members hL (tnl c1)) c7) (have c18 := v21.1; have v19 := v21.2; (Exists.intro [vi (iH h (617 + x4.toNat) x7.toNat), vi x5] (Exists.intro 89 (Exists.intro [] (And.intro (And.intro rfl (And.intro rfl (Nat.le_of_ble_eq_true rfl))) (And.intro (lm_89 hL) (Exists.intro 0 (Exists.intro 0 (Exists.intro 0 (Exists.intro _ (And.intro (c_hasWord (h := h) hL c18) (And.intro (And.intro (by decide) (And.intro (Nat.zero_le _) (Nat.zero_le _))) (eQP (show wp mX12_word 2 rc rs Q 142 [some (vr 89), none, none, none, some (vi x4), some (vi x5), some (vi x6), some (vi x7)] [vi (b01 (m_has h (iH h (617 + x4.toNat) x7.toNat) x5))] h from xIf k_X12_word_142 (And.intro (fun c8 => have v10 := v19.1 (b01_n.mp c8); (show wp mX12_word 2 rc rs Q 152 [some (vr 89), none, none, none, some (vi x4), some (vi x5), some (vi x6), some (vi x7)] [] h from xGo k_X12_word_152 (have c12 := v10.1; have v13 := v10.2; (And.intro c12 (And.intro rfl v13))))) (fun c9 => have v11 := v19.2 (b01_p.mp c9); (show wp mX12_word 2 rc rs Q 145 [some (vr 89), none, none, none, some (vi x4), some (vi x5), some (vi x6), some (vi x7)] [] h from xGo k_X12_word_145 (have c14 := v11.1; have v17 := v11.2; (And.intro c14 (And.intro rfl (have c15 := v17.1; have v16 := v17.2; (And.intro c15 (And.intro rfl v16))))))))))))))))))))))))))))))))))))))))
noncomputable def m_dic (h : AH) (g p : Int) : Int := if p = 0 then (m_dn h g : Int) else sumN (fun j => m_post h g (m_dw h g j)) (m_dn h g)
theorem wq_at {dn : Nat} {dw : Nat → Int} {j : Nat} (c : j < dn) : wq dn dw j = dw j := if_pos c
theorem wq_no {dn : Nat} {dw : Nat → Int} {j : Nat} (c : ¬ j < dn) : wq dn dw j = -1 := if_neg c
theorem c_dictionary {h : AH} (hL : LayM h) {g p : Int} (hg : m_dict h g) : Ct 2 0 0 mX12_dictionary [vr 89, vi g, vi p] h (QI fun x h' => x = m_dic h g p ∧ h' = h) := by
  have hdn := (m_dict_D hg).1
  refine e_X12_dictionary hL ⟨⟨hg.1, by omega⟩, ?_⟩
  rw [m_nx0 hg]
  have e0 : (0 : Int) = (if p = 0 then ((0 : Nat) : Int) else sumN (fun j => m_post h g (m_dw h g j)) 0) := by split <;> rfl
  rw [e0]
  refine up (P := fun j => wp mX12_dictionary 2 _ _ _ 10 [some (vr 89), some (vi g), some (vi p), some (vi (if p = 0 then (j : Int) else sumN (fun j => m_post h g (m_dw h g j)) j)), some (vi (wq (m_dn h g) (m_dw h g) j))] [] h) (m_dn h g) ?_ ?_
  · exact t_X12_dictionary_10 hL ⟨fun _ => ⟨_, rfl, rfl, rfl⟩, fun c => absurd (wq_no (by omega)) c⟩
  · intro j hj ih
    have hp := m_dw_bd hg hj
    have hb := sumN_bd (fun j => m_post h g (m_dw h g j)) 64 (by omega) j (fun i _ => m_post_bd hg.1)
    have hb2 := m_post_bd (w := m_dw h g j) hg.1
    have e1 := m_nxs hg hj
    rw [wq_at hj]
    refine t_X12_dictionary_10 hL ⟨fun c => absurd c (by omega), fun c => ⟨fun c2 => ?_, fun c2 => ?_⟩⟩
    · rw [if_pos c2, e1]
      rw [if_pos c2] at ih
      exact ⟨by omega, ⟨hg.1, by omega⟩, ih⟩
    · rw [if_neg c2, e1]
      rw [if_neg c2] at ih
      exact ⟨hg.1, by omega, ⟨hg.1, by omega⟩, ih⟩
noncomputable def m_pbF (h : AH) (g b l : Int) (j : Nat) : Int := b01 (m_beg (m_dw h g j) b l) * m_post h g (m_dw h g j)
noncomputable def m_pb (h : AH) (g b l : Int) : Int := sumN (m_pbF h g b l) (m_dn h g)
theorem m_pbF_bd {h : AH} {g b l : Int} (hg : m_segd h g) (j : Nat) : 0 ≤ m_pbF h g b l j ∧ m_pbF h g b l j ≤ 64 := by
  have hb2 := m_post_bd (w := m_dw h g j) hg
  unfold m_pbF
  rcases b01_01 (m_beg (m_dw h g j) b l) with e | e <;> rw [e] <;> omega
theorem m_pb_bd {h : AH} {g b l : Int} (hg : m_dict h g) : 0 ≤ m_pb h g b l ∧ m_pb h g b l ≤ 49152 := by
  have h1 := sumN_bd (m_pbF h g b l) 64 (by omega) (m_dn h g) (fun j _ => m_pbF_bd hg.1 j)
  have h2 := (m_dict_D hg).1
  unfold m_pb; omega
theorem c_postingsBegun {h : AH} (hL : LayM h) {g b l : Int} (hg : m_dict h g ∧ m_bl b l) : Ct 2 0 0 mX12_postingsBegun [vr 89, vi g, vi b, vi l] h (QI fun x h' => x = m_pb h g b l ∧ h' = h) := by
  obtain ⟨hg, hbl⟩ := hg
  have hdn := (m_dict_D hg).1
  refine e_X12_postingsBegun hL ⟨⟨hg.1, by omega⟩, ?_⟩
  rw [m_nx0 hg]
  refine up (P := fun j => wp mX12_postingsBegun 2 _ _ _ 11 [some (vr 89), some (vi g), some (vi b), some (vi l), some (vi (sumN (m_pbF h g b l) j)), some (vi (wq (m_dn h g) (m_dw h g) j))] [] h) (m_dn h g) ?_ ?_
  · exact t_X12_postingsBegun_11 hL ⟨fun _ => ⟨_, rfl, rfl, rfl⟩, fun c => absurd (wq_no (by omega)) c⟩
  · intro j hj ih
    have hp := m_dw_bd hg hj
    have hb := sumN_bd (m_pbF h g b l) 64 (by omega) j (fun i _ => m_pbF_bd hg.1 i)
    have hb2 := m_post_bd (w := m_dw h g j) hg.1
    have e1 := m_nxs hg hj
    rw [wq_at hj]
    have e2 : sumN (m_pbF h g b l) (j + 1) = sumN (m_pbF h g b l) j + b01 (m_beg (m_dw h g j) b l) * m_post h g (m_dw h g j) := rfl
    refine t_X12_postingsBegun_11 hL ⟨fun c => absurd c (by omega), fun c => ⟨⟨by omega, hbl.1, hbl.2⟩, fun c2 => ?_, fun c2 => ?_⟩⟩
    · rw [b01_f c2, Int.zero_mul, Int.add_zero] at e2
      rw [e1, ← e2]
      exact ⟨⟨hg.1, by omega⟩, ih⟩
    · rw [b01_t c2, Int.one_mul] at e2
      refine ⟨hg.1, by omega, ⟨hg.1, by omega⟩, ?_⟩
      rw [e1, ← e2]
      exact ih
def m_nowd (h : AH) : Prop := m_now h ∧ ∀ s : Nat, (s : Int) < iH h 89 13 → m_dict h (iH h 1155 s)
noncomputable def m_psF (h : AH) (g w : Int) (k : Nat) : Int := b01 (m_postP h g w k) * (k : Int)
noncomputable def m_ps (h : AH) (g w : Int) : Int := sumN (m_psF h g w) (iH h 615 g.toNat).toNat
noncomputable def a_word (h : AH) (s k w : Int) : Int :=
  if ¬ (0 ≤ s ∧ s ≤ iH h 89 13 - 1) ∨ ¬ (0 ≤ w ∧ w ≤ 2) then -2
  else if k < 0 ∨ (m_dn h (iH h 1155 s.toNat) : Int) ≤ k then -12
  else if w = 0 then m_pl 6 (m_dw h (iH h 1155 s.toNat) k.toNat)
  else if w = 1 then m_post h (iH h 1155 s.toNat) (m_dw h (iH h 1155 s.toNat) k.toNat)
  else m_ps h (iH h 1155 s.toNat) (m_dw h (iH h 1155 s.toNat) k.toNat)
theorem c_word {h : AH} (hL : LayM h) {s k w : Int} (hn : m_nowd h) : Ct 2 0 0 mX12_word [vr 89, vi s, vi k, vi w] h (QI fun x h' => x = a_word h s k w ∧ h' = h) := by
  have hl := hn.1.1
  refine e_X12_word hL ⟨hl, fun c => ⟨_, rfl, (if_pos (Or.inl c)).symm, rfl⟩, fun c => ⟨fun c2 => ⟨fun c3 => ⟨by omega, ?_⟩, fun c3 => ⟨_, rfl, ?_, rfl⟩⟩, fun c2 => ⟨_, rfl, (if_pos (Or.inr c2)).symm, rfl⟩⟩⟩
  · have hg := hn.2 s.toNat (by omega)
    have hdn := (m_dict_D hg).1
    refine ⟨⟨hg.1, by omega⟩, ?_⟩
    rw [m_nx0 hg]
    generalize hG : iH h 1155 s.toNat = g at *
    have fin : ∀ j : Nat, j ≤ m_dn h g → (k ≤ (j : Int) → (j : Int) = k ∨ j = m_dn h g ∨ True) := fun _ _ _ => Or.inr (Or.inr trivial)
    -- at the end of the walk: word j, where j is k, or there are no more
    have last : ∀ j : Nat, (j : Int) ≤ k → ((j : Int) = k ∨ m_dn h g ≤ j) → ((wq (m_dn h g) (m_dw h g) j ≠ -1 → ((w ≠ 0 → ((w ≠ 1 → wp mX12_word 2 0 0 (QI fun x h' => x = a_word h s k w ∧ h' = h) 114 [some (vr 89), none, none, none, some (vi g), some (vi (wq (m_dn h g) (m_dw h g) j)), some (vi 0), some (vi 0)] [] h) ∧ (w = 1 → (m_segd h g) ∧ (QI fun x h' => x = a_word h s k w ∧ h' = h) (some (vi (m_post h g (wq (m_dn h g) (m_dw h g) j)))) h))) ∧ (w = 0 → (0 < wq (m_dn h g) (m_dw h g) j ∧ wq (m_dn h g) (m_dw h g) j < 387420489) ∧ (QI fun x h' => x = a_word h s k w ∧ h' = h) (some (vi (m_pl 6 (wq (m_dn h g) (m_dw h g) j)))) h))) ∧ (wq (m_dn h g) (m_dw h g) j = -1 → (QI fun x h' => x = a_word h s k w ∧ h' = h) (some (vi (-12))) h)) := by
      intro j hjk hj
      have hcond : ¬ (¬ (0 ≤ s ∧ s ≤ iH h 89 13 - 1) ∨ ¬ (0 ≤ w ∧ w ≤ 2)) := by omega
      by_cases q : j < m_dn h g
      · have hk : k = (j : Int) := by omega
        have hp := m_dw_bd hg q
        have hcond2 : ¬ (k < 0 ∨ (m_dn h g : Int) ≤ k) := by omega
        have hjt : k.toNat = j := by omega
        rw [wq_at q]
        refine ⟨fun _ => ⟨fun d0 => ⟨fun d1 => ?_, fun d1 => ⟨hg.1, _, rfl, ?_, rfl⟩⟩, fun d0 => ⟨hp, _, rfl, ?_, rfl⟩⟩, fun e => by omega⟩
        · have hA : a_word h s k w = m_ps h g (m_dw h g j) := by
            unfold a_word; rw [if_neg hcond, hG, if_neg hcond2, if_neg d0, if_neg d1, hjt]
          rw [hA]
          have hl2 := hg.1.1.2.1
          refine up (P := fun i => wp mX12_word 2 _ _ _ 114 [some (vr 89), none, none, none, some (vi g), some (vi (m_dw h g j)), some (vi (sumN (m_psF h g (m_dw h g j)) i)), some (vi i)] [] h) (iH h 615 g.toNat).toNat ?_ ?_
          · exact t_X12_word_114 hL ⟨hg.1.1.1, fun _ => ⟨_, rfl, rfl, rfl⟩, fun c => absurd c (by omega)⟩
          · intro i hi ih
            have hb := sumN_bd (m_psF h g (m_dw h g j)) 64 (by omega) i (fun i hi => by
              unfold m_psF
              rcases b01_01 (m_postP h g (m_dw h g j) i) with e | e <;> rw [e] <;> omega)
            have e2 : sumN (m_psF h g (m_dw h g j)) (i + 1) = sumN (m_psF h g (m_dw h g j)) i + b01 (m_postP h g (m_dw h g j) i) * (i : Int) := rfl
            refine t_X12_word_114 hL ⟨hg.1.1.1, fun c => absurd c (by omega), fun c => ⟨by omega, hg.1.2 i c, fun d2 => ⟨by omega, ?_⟩, fun d2 => ⟨by omega, by omega, ?_⟩⟩⟩
            · rw [b01_f (p := m_postP h g (m_dw h g j) i) d2, Int.zero_mul, Int.add_zero] at e2
              rw [← e2]; exact ih
            · rw [b01_t (p := m_postP h g (m_dw h g j) i) d2, Int.one_mul] at e2
              rw [← e2]; exact ih
        · unfold a_word; rw [if_neg hcond, hG, if_neg hcond2, if_neg d0, if_pos d1, hjt]
        · unfold a_word; rw [if_neg hcond, hG, if_neg hcond2, if_pos d0, hjt]
      · rw [wq_no q]
        refine ⟨fun e => absurd rfl e, fun _ => ⟨_, rfl, ?_, rfl⟩⟩
        unfold a_word; rw [if_neg hcond, hG, if_pos (by omega)]
    refine up (P := fun j => wp mX12_word 2 _ _ _ 47 [some (vr 89), none, some (vi k), some (vi w), some (vi g), some (vi (wq (m_dn h g) (m_dw h g) j)), some (vi j), none] [] h) (min k.toNat (m_dn h g)) ?_ ?_
    · by_cases q : k.toNat ≤ m_dn h g
      · rw [show min k.toNat (m_dn h g) = k.toNat by omega]
        exact t_X12_word_47 hL ⟨fun _ => last k.toNat (by omega) (by omega), fun c => absurd c (by omega)⟩
      · rw [show min k.toNat (m_dn h g) = m_dn h g by omega]
        exact t_X12_word_47 hL ⟨fun c => absurd c (by omega), fun _ => ⟨fun _ => last (m_dn h g) (by omega) (by omega), fun e => absurd (wq_no (by omega)) e⟩⟩
    · intro j hj ih
      have q : j < m_dn h g := by omega
      have hp := m_dw_bd hg q
      rw [wq_at q]
      refine t_X12_word_47 hL ⟨fun c => absurd c (by omega), fun _ => ⟨fun e => by omega, fun _ => ⟨⟨hg.1, by omega⟩, by omega, ?_⟩⟩⟩
      rw [m_nxs hg q]; exact ih
  · unfold a_word; rw [if_neg (by omega), if_pos (Or.inl c3)]
