/-! THE REFERENCE: THE CHEAPEST WAY TO ONE SEGMENT -/
/-- rows b .. b + n - 1 replaced -/
def sM (h : AH) (b n : Nat) (C : Nat → Nat → Int) : AH := (h.1, h.2.1, (fun x y => if b ≤ x ∧ x < b + n then C (x - b) y else h.2.2.1 x y), h.2.2.2.1, h.2.2.2.2)
theorem rM_in {h : AH} {b n i j : Nat} {C : Nat → Nat → Int} (hi : i < n) : iH (sM h b n C) (b + i) j = C i j := by
  show (if b ≤ b + i ∧ b + i < b + n then C (b + i - b) j else _) = _
  rw [if_pos (by omega), show b + i - b = i by omega]
theorem rM_ne {h : AH} {b n a k : Nat} {C : Nat → Nat → Int} (ha : a < b ∨ b + n ≤ a) : iH (sM h b n C) a k = iH h a k := by
  show (if b ≤ a ∧ a < b + n then C (a - b) k else _) = _
  rw [if_neg (by omega)]; rfl
theorem sM_id {h : AH} {b n : Nat} {C : Nat → Nat → Int} (e : ∀ i j, i < n → C i j = iH h (b + i) j) : sM h b n C = h := by
  have : (fun x y => if b ≤ x ∧ x < b + n then C (x - b) y else h.2.2.1 x y) = h.2.2.1 := by
    funext x y
    by_cases c : b ≤ x ∧ x < b + n
    · rw [if_pos c, e (x - b) y (by omega), show b + (x - b) = x by omega]; rfl
    · rw [if_neg c]
  unfold sM
  rw [this]
theorem sI_sM {h : AH} {b n i j : Nat} {v : Int} {C C' : Nat → Nat → Int} (hi : i < n) (e : ∀ x y, C' x y = if x = i ∧ y = j then v else C x y) : sI (sM h b n C) (b + i) j v = sM h b n C' := by
  unfold sI sM
  congr 3
  funext x y
  unfold u2
  dsimp only
  by_cases c : b ≤ x ∧ x < b + n
  · rw [if_pos c, if_pos c, e]
    by_cases c2 : x = b + i
    · rw [if_pos c2]
      by_cases c3 : y = j
      · rw [if_pos c3, if_pos ⟨by omega, c3⟩]
      · rw [if_neg c3, if_neg (fun q => c3 q.2)]
    · rw [if_neg c2, if_neg (fun q => c2 (by omega))]
  · rw [if_neg c, if_neg c, if_neg (by omega)]
def c_cd (C : Nat → Nat → Int) (a b : Nat) (t : Int) (j : Nat) : Int := C a (a + j) + C (a + j + 1) b + t
theorem bst_cg {C C' : Nat → Nat → Int} {a b : Nat} {f t : Int} : ∀ j : Nat, (∀ i, i < j → c_cd C a b t i = c_cd C' a b t i) → m_bst C a b f t j = m_bst C' a b f t j
  | 0, _ => rfl
  | j + 1, h => by
    have ih := bst_cg (C := C) (C' := C') (a := a) (b := b) (f := f) (t := t) j (fun i hi => h i (by omega))
    have hj : C a (a + j) + C (a + j + 1) b + t = C' a (a + j) + C' (a + j + 1) b + t := h j (by omega)
    unfold m_bst
    rw [ih, hj]
theorem bst_min {C : Nat → Nat → Int} {a b : Nat} {t : Int} : ∀ j : Nat, (∀ i, i < j + 1 → 0 ≤ c_cd C a b t i) → (∃ i, i < j + 1 ∧ m_bst C a b 0 t (j + 1) = c_cd C a b t i) ∧ ∀ i, i < j + 1 → m_bst C a b 0 t (j + 1) ≤ c_cd C a b t i
  | 0, h0 => by
    have e : m_bst C a b 0 t (0 + 1) = c_cd C a b t 0 := by
      unfold m_bst
      rw [if_neg (by omega), if_pos (Or.inl (show m_bst C a b 0 t 0 = -1 from rfl))]; rfl
    refine ⟨⟨0, by omega, e⟩, fun i hi => ?_⟩
    have : i = 0 := by omega
    subst this
    rw [e]; exact Int.le_refl _
  | j + 1, h0 => by
    obtain ⟨⟨i, hi, e⟩, hm⟩ := bst_min (C := C) (a := a) (b := b) (t := t) j (fun i hi => h0 i (by omega))
    have hp := h0 i (by omega)
    have e2 : m_bst C a b 0 t (j + 1 + 1) = if m_bst C a b 0 t (j + 1) = -1 ∨ c_cd C a b t (j + 1) < m_bst C a b 0 t (j + 1) then c_cd C a b t (j + 1) else m_bst C a b 0 t (j + 1) := by
      show (if 0 < (0 : Int) ∧ _ then _ else _) = _
      rw [if_neg (by omega)]; rfl
    rw [e2]
    by_cases c : m_bst C a b 0 t (j + 1) = -1 ∨ c_cd C a b t (j + 1) < m_bst C a b 0 t (j + 1)
    · rw [if_pos c]
      refine ⟨⟨j + 1, by omega, rfl⟩, fun k hk => ?_⟩
      by_cases q : k = j + 1
      · subst q; exact Int.le_refl _
      · have := hm k (by omega); omega
    · rw [if_neg c]
      refine ⟨⟨i, by omega, e⟩, fun k hk => ?_⟩
      by_cases q : k = j + 1
      · subst q; omega
      · exact hm k (by omega)
theorem bst_f {C : Nat → Nat → Int} {a b : Nat} {t : Int} {f : Nat} (hf : 1 ≤ f) : ∀ j : Nat, m_bst C a b f t j = if f ≤ j then c_cd C a b t (f - 1) else -1
  | 0 => by rw [if_neg (by omega)]; rfl
  | j + 1 => by
    have ih := bst_f (C := C) (a := a) (b := b) (t := t) hf j
    show (if 0 < (f : Int) ∧ (j : Int) + 1 ≠ f then m_bst C a b f t j else _) = _
    by_cases c : j + 1 = f
    · rw [if_neg (show ¬ (0 < (f : Int) ∧ (j : Int) + 1 ≠ f) by omega), ih, if_neg (show ¬ f ≤ j by omega), if_pos (Or.inl rfl), if_pos (show f ≤ j + 1 by omega), show f - 1 = j by omega]; rfl
    · rw [if_pos (show 0 < (f : Int) ∧ (j : Int) + 1 ≠ f by omega), ih]
      by_cases c2 : f ≤ j
      · rw [if_pos c2, if_pos (show f ≤ j + 1 by omega)]
      · rw [if_neg c2, if_neg (show ¬ f ≤ j + 1 by omega)]
/-- the table of costs, by how many lengths are done -/
noncomputable def c_T (Lv : Nat → Nat → Int) : Nat → Nat → Nat → Int
  | 0 => fun _ _ => 0
  | n + 1 => fun a b => if b = a + (n + 1) then m_bst (c_T Lv n) a b 0 (Lv a b) (n + 1) else c_T Lv n a b
theorem c_T_st {Lv : Nat → Nat → Int} {a b : Nat} : ∀ {n : Nat} (m : Nat), b ≤ a + n → c_T Lv (n + m) a b = c_T Lv n a b
  | n, 0, _ => rfl
  | n, m + 1, h => by
    rw [show n + (m + 1) = (n + m) + 1 by omega]
    show (if b = a + ((n + m) + 1) then _ else c_T Lv (n + m) a b) = _
    rw [if_neg (by omega)]
    exact c_T_st m h
noncomputable def c_tb (Lv : Nat → Nat → Int) (a b : Nat) : Int := c_T Lv 8 a b
theorem c_tb_0 {Lv : Nat → Nat → Int} {a : Nat} : c_tb Lv a a = 0 := c_T_st (n := 0) 8 (by omega)
theorem c_tb_s {Lv : Nat → Nat → Int} {a n : Nat} (hn : n + 1 ≤ 8) : c_tb Lv a (a + (n + 1)) = m_bst (c_tb Lv) a (a + (n + 1)) 0 (Lv a (a + (n + 1))) (n + 1) := by
  have e1 : c_tb Lv a (a + (n + 1)) = c_T Lv (n + 1) a (a + (n + 1)) := by
    unfold c_tb
    rw [show 8 = (n + 1) + (7 - n) by omega]
    exact c_T_st _ (by omega)
  rw [e1]
  show (if a + (n + 1) = a + (n + 1) then _ else _) = _
  rw [if_pos rfl]
  have e2 : ∀ x y, x ≤ y → y ≤ x + n → c_T Lv n x y = c_tb Lv x y := fun x y h1 h2 => by
    unfold c_tb
    rw [show 8 = n + (8 - n) by omega]
    exact (c_T_st _ h2).symm
  refine bst_cg _ fun i hi => ?_
  unfold c_cd
  rw [e2 _ _ (by omega) (by omega), e2 _ _ (by omega) (by omega)]
theorem c_tb_bd {Lv : Nat → Nat → Int} (hL : ∀ a b, 0 ≤ Lv a b ∧ Lv a b ≤ 512) : ∀ m : Nat, m ≤ 8 → ∀ n, n ≤ m → ∀ a, 0 ≤ c_tb Lv a (a + n) ∧ c_tb Lv a (a + n) ≤ 512 * (n : Int)
  | 0, _, n, hn, a => by
    have : n = 0 := by omega
    subst this
    rw [show a + 0 = a from rfl, c_tb_0]; omega
  | m + 1, hm, n, hn, a => by
    have ih := c_tb_bd hL m (by omega)
    by_cases c : n ≤ m
    · exact ih n c a
    · have : n = m + 1 := by omega
      subst this
      have hl := hL a (a + (m + 1))
      have cd : ∀ i, i < m + 1 → 0 ≤ c_cd (c_tb Lv) a (a + (m + 1)) (Lv a (a + (m + 1))) i ∧ c_cd (c_tb Lv) a (a + (m + 1)) (Lv a (a + (m + 1))) i ≤ 512 * ((m + 1 : Nat) : Int) := fun i hi => by
        have h1 := ih i (by omega) a
        have h2 := ih (m - i) (by omega) (a + i + 1)
        rw [show a + i + 1 + (m - i) = a + (m + 1) by omega] at h2
        unfold c_cd
        omega
      rw [c_tb_s (by omega)]
      obtain ⟨⟨i, hi, e⟩, -⟩ := bst_min (C := c_tb Lv) (a := a) (b := a + (m + 1)) (t := Lv a (a + (m + 1))) m (fun i hi => (cd i hi).1)
      rw [e]
      exact cd i hi
noncomputable def m_Lv (h : AH) (a b : Nat) : Int := if b < (iH h 89 13).toNat ∧ a ≤ b then m_liveIn h a ((b : Int) - (a : Int) + 1) else 0
noncomputable def m_least (h : AH) : Int := c_tb (m_Lv h) 0 ((iH h 89 13).toNat - 1)
def m_splP (h : AH) (j : Nat) : Prop := c_cd (c_tb (m_Lv h)) 0 ((iH h 89 13).toNat - 1) (m_Lv h 0 ((iH h 89 13).toNat - 1)) j = m_least h
noncomputable def a_cheapest (h : AH) (w : Int) : Int := if ¬ (0 ≤ w ∧ w ≤ 1) then -2 else if iH h 89 13 < 2 then (if w = 0 then 0 else -1) else if w = 0 then m_least h else 1 + fst (m_splP h) ((iH h 89 13).toNat - 1)
def m_cstOK (h : AH) : Prop := ∀ i j : Nat, i < 8 → j < 8 → 0 ≤ m_cst h i j ∧ m_cst h i j ≤ 100000
def b_X12_cheapest_0 : List IE := [(.iload_n 1, 1, 0, 0, 1, 0), (.iconst 0, 1, 0, 0, 0, 0), (.iconst 1, 1, 1, 0, 0, 0)]
theorem k_X12_cheapest_0 : ckB mX12_cheapest 12 0 b_X12_cheapest_0 3 = true := by decide +kernel
def b_X12_cheapest_6 : List IE := []
theorem k_X12_cheapest_6 : ckIf mX12_cheapest 12 6 b_X12_cheapest_6 6 1 6 12 9 = true := by decide +kernel
def b_X12_cheapest_9 : List IE := [(.bipush (-2), 2, (-2), 0, 0, 0)]
theorem k_X12_cheapest_9 : ckI mX12_cheapest 12 9 b_X12_cheapest_9 11 = true := by decide +kernel
def b_X12_cheapest_12 : List IE := [(.aload_n 0, 1, 0, 0, 0, 0), (.getfield 106, 3, 0, 12, 13, 0), (.iconst 2, 1, 2, 0, 0, 0)]
theorem k_X12_cheapest_12 : ckIc mX12_cheapest 12 12 b_X12_cheapest_12 17 3 13 30 20 = true := by decide +kernel
def b_X12_cheapest_20 : List IE := [(.iload_n 1, 1, 0, 0, 1, 0)]
theorem k_X12_cheapest_20 : ckIf mX12_cheapest 12 20 b_X12_cheapest_20 21 1 7 28 24 = true := by decide +kernel
def b_X12_cheapest_24 : List IE := [(.iconst 0, 1, 0, 0, 0, 0)]
theorem k_X12_cheapest_24 : ckGo mX12_cheapest 12 24 b_X12_cheapest_24 25 4 29 = true := by decide +kernel
def b_X12_cheapest_28 : List IE := [(.iconst (-1), 1, (-1), 0, 0, 0)]
theorem k_X12_cheapest_28 : ckI mX12_cheapest 12 28 b_X12_cheapest_28 29 = true := by decide +kernel
def b_X12_cheapest_29 : List IE := []
theorem k_X12_cheapest_29 : ckI mX12_cheapest 12 29 b_X12_cheapest_29 29 = true := by decide +kernel
def b_X12_cheapest_30 : List IE := [(.iconst 0, 1, 0, 0, 0, 0), (.istore_n 2, 1, 0, 0, 2, 0)]
theorem k_X12_cheapest_30 : ckB mX12_cheapest 12 30 b_X12_cheapest_30 32 = true := by decide +kernel
def b_X12_cheapest_32 : List IE := [(.iload_n 2, 1, 0, 0, 2, 0), (.aload_n 0, 1, 0, 0, 0, 0), (.getfield 106, 3, 0, 12, 13, 0)]
theorem k_X12_cheapest_32 : ckIc mX12_cheapest 12 32 b_X12_cheapest_32 37 3 18 55 40 = true := by decide +kernel
def b_X12_cheapest_40 : List IE := [(.aload_n 0, 1, 0, 0, 0, 0), (.getfield 67, 3, 0, 12, 29, 1), (.iload_n 2, 1, 0, 0, 2, 0), (.aaload, 1, 0, 0, 0, 0), (.iload_n 2, 1, 0, 0, 2, 0), (.iconst 0, 1, 0, 0, 0, 0), (.iastore, 1, 0, 0, 0, 0), (.iinc 2 1, 3, 1, 0, 2, 0)]
theorem k_X12_cheapest_40 : ckGo mX12_cheapest 12 40 b_X12_cheapest_40 52 (-20) 32 = true := by decide +kernel
def b_X12_cheapest_55 : List IE := [(.iconst 1, 1, 1, 0, 0, 0), (.istore_n 2, 1, 0, 0, 2, 0)]
theorem k_X12_cheapest_55 : ckB mX12_cheapest 12 55 b_X12_cheapest_55 57 = true := by decide +kernel
def b_X12_cheapest_57 : List IE := [(.iload_n 2, 1, 0, 0, 2, 0), (.aload_n 0, 1, 0, 0, 0, 0), (.getfield 106, 3, 0, 12, 13, 0)]
theorem k_X12_cheapest_57 : ckIc mX12_cheapest 12 57 b_X12_cheapest_57 62 3 46 108 65 = true := by decide +kernel
def b_X12_cheapest_65 : List IE := [(.iconst 0, 1, 0, 0, 0, 0), (.istore_n 3, 1, 0, 0, 3, 0)]
theorem k_X12_cheapest_65 : ckB mX12_cheapest 12 65 b_X12_cheapest_65 67 = true := by decide +kernel
def b_X12_cheapest_67 : List IE := [(.iload_n 3, 1, 0, 0, 3, 0), (.iload_n 2, 1, 0, 0, 2, 0), (.iadd, 1, 0, 0, 0, 0), (.aload_n 0, 1, 0, 0, 0, 0), (.getfield 106, 3, 0, 12, 13, 0)]
theorem k_X12_cheapest_67 : ckIc mX12_cheapest 12 67 b_X12_cheapest_67 74 3 28 102 77 = true := by decide +kernel
def b_X12_cheapest_77 : List IE := [(.aload_n 0, 1, 0, 0, 0, 0), (.getfield 67, 3, 0, 12, 29, 1), (.iload_n 3, 1, 0, 0, 3, 0), (.aaload, 1, 0, 0, 0, 0), (.iload_n 3, 1, 0, 0, 3, 0), (.iload_n 2, 1, 0, 0, 2, 0), (.iadd, 1, 0, 0, 0, 0), (.aload_n 0, 1, 0, 0, 0, 0), (.iload_n 3, 1, 0, 0, 3, 0), (.iload_n 3, 1, 0, 0, 3, 0), (.iload_n 2, 1, 0, 0, 2, 0), (.iadd, 1, 0, 0, 0, 0), (.iconst 0, 1, 0, 0, 0, 0)]
theorem k_X12_cheapest_77 : ckB mX12_cheapest 12 77 b_X12_cheapest_77 92 = true := by decide +kernel
def b_X12_cheapest_95 : List IE := [(.iastore, 1, 0, 0, 0, 0), (.iinc 3 1, 3, 1, 0, 3, 0)]
theorem k_X12_cheapest_95 : ckGo mX12_cheapest 12 95 b_X12_cheapest_95 99 (-32) 67 = true := by decide +kernel
def b_X12_cheapest_102 : List IE := [(.iinc 2 1, 3, 1, 0, 2, 0)]
theorem k_X12_cheapest_102 : ckGo mX12_cheapest 12 102 b_X12_cheapest_102 105 (-48) 57 = true := by decide +kernel
def b_X12_cheapest_108 : List IE := [(.aload_n 0, 1, 0, 0, 0, 0), (.getfield 67, 3, 0, 12, 29, 1), (.iconst 0, 1, 0, 0, 0, 0), (.aaload, 1, 0, 0, 0, 0), (.aload_n 0, 1, 0, 0, 0, 0), (.getfield 106, 3, 0, 12, 13, 0), (.iconst 1, 1, 1, 0, 0, 0), (.isub, 1, 0, 0, 0, 0), (.iaload, 1, 0, 0, 0, 0), (.istore_n 2, 1, 0, 0, 2, 0), (.iload_n 1, 1, 0, 0, 1, 0)]
theorem k_X12_cheapest_108 : ckIf mX12_cheapest 12 108 b_X12_cheapest_108 123 1 5 128 126 = true := by decide +kernel
def b_X12_cheapest_126 : List IE := [(.iload_n 2, 1, 0, 0, 2, 0)]
theorem k_X12_cheapest_126 : ckI mX12_cheapest 12 126 b_X12_cheapest_126 127 = true := by decide +kernel
def b_X12_cheapest_128 : List IE := [(.iconst 1, 1, 1, 0, 0, 0), (.istore_n 3, 1, 0, 0, 3, 0)]
theorem k_X12_cheapest_128 : ckB mX12_cheapest 12 128 b_X12_cheapest_128 130 = true := by decide +kernel
def b_X12_cheapest_130 : List IE := [(.aload_n 0, 1, 0, 0, 0, 0), (.iconst 0, 1, 0, 0, 0, 0), (.aload_n 0, 1, 0, 0, 0, 0), (.getfield 106, 3, 0, 12, 13, 0), (.iconst 1, 1, 1, 0, 0, 0), (.isub, 1, 0, 0, 0, 0), (.iload_n 3, 1, 0, 0, 3, 0)]
theorem k_X12_cheapest_130 : ckB mX12_cheapest 12 130 b_X12_cheapest_130 139 = true := by decide +kernel
def b_X12_cheapest_142 : List IE := [(.iload_n 2, 1, 0, 0, 2, 0)]
theorem k_X12_cheapest_142 : ckIc mX12_cheapest 12 142 b_X12_cheapest_142 143 0 9 152 146 = true := by decide +kernel
def b_X12_cheapest_146 : List IE := [(.iinc 3 1, 3, 1, 0, 3, 0)]
theorem k_X12_cheapest_146 : ckGo mX12_cheapest 12 146 b_X12_cheapest_146 149 (-19) 130 = true := by decide +kernel
def b_X12_cheapest_152 : List IE := [(.iload_n 3, 1, 0, 0, 3, 0)]
theorem k_X12_cheapest_152 : ckI mX12_cheapest 12 152 b_X12_cheapest_152 153 = true := by decide +kernel
theorem s_X12_cheapest_3 : cS mX12_cheapest 3 mX12_in 109 3 := ⟨by decide +kernel, ⟨ml_X12_in, li_RX12_109, st_X12_in⟩, by decide +kernel⟩
theorem s_X12_cheapest_92 : cV mX12_cheapest 92 mX12_costOf 242 3 12 := ⟨by decide +kernel, ⟨ml_X12_costOf, li_RX12_242, im_X12_costOf, se_X12_costOf⟩, ⟨by decide +kernel, by decide +kernel⟩, by decide +kernel⟩
theorem s_X12_cheapest_139 : cV mX12_cheapest 139 mX12_costOf 242 3 12 := ⟨by decide +kernel, ⟨ml_X12_costOf, li_RX12_242, im_X12_costOf, se_X12_costOf⟩, ⟨by decide +kernel, by decide +kernel⟩, by decide +kernel⟩
theorem t_X12_cheapest_0 {rc rs : Nat} {Q : Option AV → AH → Prop} {h : AH} {x1 : Int} (hL : LayM h) (hv : ((((0 : Int) ≤ x1 ∧ x1 ≤ (1 : Int)) → ((2 ≤ (iH h 89 13) → wp mX12_cheapest 3 rc rs Q 32 [some (vr 89), some (vi x1), some (vi 0), none] [] h) ∧ ((iH h 89 13) < 2 → ((x1 ≠ 0 → Q (some (vi (-1))) h) ∧ (x1 = 0 → Q (some (vi 0)) h))))) ∧ (¬ ((0 : Int) ≤ x1 ∧ x1 ≤ (1 : Int)) → Q (some (vi (-2))) h))) : wp mX12_cheapest 3 rc rs Q 0 [some (vr 89), some (vi x1), none, none] [] h :=
  (show wp mX12_cheapest 3 rc rs Q 0 [some (vr 89), some (vi x1), none, none] [] h from xcS k_X12_cheapest_0 s_X12_cheapest_3 ((Exists.intro [vi x1, vi 0, vi 1] (Exists.intro [] (And.intro (And.intro rfl (And.intro rfl (Nat.le_of_ble_eq_true rfl))) (Exists.intro 0 (Exists.intro 0 (Exists.intro 0 (Exists.intro _ (And.intro c_in (And.intro (And.intro (by decide) (And.intro (Nat.zero_le _) (Nat.zero_le _))) (eQP (show wp mX12_cheapest 3 rc rs Q 6 [some (vr 89), some (vi x1), none, none] [vi (b01 ((0 : Int) ≤ x1 ∧ x1 ≤ (1 : Int)))] h from xIf k_X12_cheapest_6 (And.intro (fun c1 => have v3 := hv.1 (b01_p.mp c1); (show wp mX12_cheapest 3 rc rs Q 12 [some (vr 89), some (vi x1), none, none] [] h from xIc k_X12_cheapest_12 (And.intro (lm_89 hL) (And.intro (fun c5 => have v7 := v3.1 c5; (show wp mX12_cheapest 3 rc rs Q 30 [some (vr 89), some (vi x1), none, none] [] h from xB k_X12_cheapest_30 (And.intro rfl v7))) (fun c6 => have v8 := v3.2 (Int.not_le.mp c6); (show wp mX12_cheapest 3 rc rs Q 20 [some (vr 89), some (vi x1), none, none] [] h from xIf k_X12_cheapest_20 (And.intro (fun c9 => have v11 := v8.1 c9; (show wp mX12_cheapest 3 rc rs Q 28 [some (vr 89), some (vi x1), none, none] [] h from xI k_X12_cheapest_28 (And.intro rfl v11))) (fun c10 => have v12 := v8.2 (Decidable.not_not.mp c10); (show wp mX12_cheapest 3 rc rs Q 24 [some (vr 89), some (vi x1), none, none] [] h from xGo k_X12_cheapest_24 (show wp mX12_cheapest 3 rc rs Q 29 [some (vr 89), some (vi x1), none, none] [vi 0] h from xI k_X12_cheapest_29 (And.intro rfl v12))))))))))) (fun c2 => have v4 := hv.2 (b01_nn.mp c2); (show wp mX12_cheapest 3 rc rs Q 9 [some (vr 89), some (vi x1), none, none] [] h from xI k_X12_cheapest_9 (And.intro rfl v4)))))))))))))))))
theorem e_X12_cheapest {mc ms : Nat} {Q : Option AV → AH → Prop} {h : AH} {x1 : Int} (hL : LayM h) (hv : ((((0 : Int) ≤ x1 ∧ x1 ≤ (1 : Int)) → ((2 ≤ (iH h 89 13) → wp mX12_cheapest 3 mc ms Q 32 [some (vr 89), some (vi x1), some (vi 0), none] [] h) ∧ ((iH h 89 13) < 2 → ((x1 ≠ 0 → Q (some (vi (-1))) h) ∧ (x1 = 0 → Q (some (vi 0)) h))))) ∧ (¬ ((0 : Int) ≤ x1 ∧ x1 ≤ (1 : Int)) → Q (some (vi (-2))) h))) : Ct 3 mc ms mX12_cheapest [vr 89, vi x1] h Q := Ct.of (by decide +kernel) (Nat.le_of_ble_eq_true rfl) (t_X12_cheapest_0 hL hv)
theorem t_X12_cheapest_32 {rc rs : Nat} {Q : Option AV → AH → Prop} {h : AH} {x1 x2 : Int} (hL : LayM h) (hv : (((iH h 89 13) ≤ x2 → wp mX12_cheapest 3 rc rs Q 57 [some (vr 89), some (vi x1), some (vi 1), none] [] h) ∧ (x2 < (iH h 89 13) → (0 ≤ x2 ∧ x2 < 8) ∧ (-2147483648 ≤ (x2 + 1) ∧ (x2 + 1) < 2147483648) ∧ wp mX12_cheapest 3 rc rs Q 32 [some (vr 89), some (vi x1), some (vi (x2 + 1)), none] [] (sI h (1161 + x2.toNat) x2.toNat 0)))) : wp mX12_cheapest 3 rc rs Q 32 [some (vr 89), some (vi x1), some (vi x2), none] [] h :=
  (show wp mX12_cheapest 3 rc rs Q 32 [some (vr 89), some (vi x1), some (vi x2), none] [] h from xIc k_X12_cheapest_32 (And.intro (lm_89 hL) (And.intro (fun c1 => have v3 := hv.1 c1; (show wp mX12_cheapest 3 rc rs Q 55 [some (vr 89), some (vi x1), some (vi x2), none] [] h from xB k_X12_cheapest_55 (And.intro rfl v3))) (fun c2 => have v4 := hv.2 (Int.not_le.mp c2); (show wp mX12_cheapest 3 rc rs Q 40 [some (vr 89), some (vi x1), some (vi x2), none] [] h from xGo k_X12_cheapest_40 (And.intro (lm_89 hL) (Exists.intro 1160 (And.intro (lf_89_29 hL) (have c5 := v4.1; have v9 := v4.2; (And.intro (sdQ (lm_1160 hL) c5) (Exists.intro (1161 + x2.toNat) (And.intro (lr_costs hL (tnl c5)) (And.intro (sdI (lk_costs hL (tnl c5)) c5) (have c7 := v9.1; have v8 := v9.2; (And.intro c7 (And.intro rfl v8))))))))))))))))
theorem t_X12_cheapest_57 {rc rs : Nat} {Q : Option AV → AH → Prop} {h : AH} {x1 x2 : Int} (hL : LayM h) (hv : (((iH h 89 13) ≤ x2 → (-2147483648 ≤ (iH h 89 13 - 1) ∧ (iH h 89 13 - 1) < 2147483648) ∧ (0 ≤ (iH h 89 13 - 1) ∧ (iH h 89 13 - 1) < 8) ∧ ((x1 ≠ 0 → wp mX12_cheapest 3 rc rs Q 130 [some (vr 89), none, some (vi (iH h 1161 ((iH h 89 13 - 1).toNat))), some (vi 1)] [] h) ∧ (x1 = 0 → Q (some (vi (iH h 1161 ((iH h 89 13 - 1).toNat)))) h))) ∧ (x2 < (iH h 89 13) → wp mX12_cheapest 3 rc rs Q 67 [some (vr 89), some (vi x1), some (vi x2), some (vi 0)] [] h))) : wp mX12_cheapest 3 rc rs Q 57 [some (vr 89), some (vi x1), some (vi x2), none] [] h :=
  (show wp mX12_cheapest 3 rc rs Q 57 [some (vr 89), some (vi x1), some (vi x2), none] [] h from xIc k_X12_cheapest_57 (And.intro (lm_89 hL) (And.intro (fun c1 => have v3 := hv.1 c1; (show wp mX12_cheapest 3 rc rs Q 108 [some (vr 89), some (vi x1), some (vi x2), none] [] h from xIf k_X12_cheapest_108 (And.intro (lm_89 hL) (Exists.intro 1160 (And.intro (lf_89_29 hL) (And.intro (sdQ (lm_1160 hL) (by decide)) (Exists.intro 1161 (And.intro (lr_costs hL (i := 0) (by decide)) (And.intro (lm_89 hL) (have c5 := v3.1; have v12 := v3.2; (And.intro c5 (have c6 := v12.1; have v11 := v12.2; (And.intro (sdI (lk_costs hL (i := 0) (by decide)) c6) (And.intro rfl (And.intro (fun c7 => have v9 := v11.1 c7; (show wp mX12_cheapest 3 rc rs Q 128 [some (vr 89), some (vi x1), some (vi (iH h 1161 ((iH h 89 13 - 1).toNat))), none] [] h from xB k_X12_cheapest_128 (And.intro rfl (w_fg [true, false, true, true] v9)))) (fun c8 => have v10 := v11.2 (Decidable.not_not.mp c8); (show wp mX12_cheapest 3 rc rs Q 126 [some (vr 89), some (vi x1), some (vi (iH h 1161 ((iH h 89 13 - 1).toNat))), none] [] h from xI k_X12_cheapest_126 (And.intro rfl v10)))))))))))))))))) (fun c2 => have v4 := hv.2 (Int.not_le.mp c2); (show wp mX12_cheapest 3 rc rs Q 65 [some (vr 89), some (vi x1), some (vi x2), none] [] h from xB k_X12_cheapest_65 (And.intro rfl v4))))))
theorem t_X12_cheapest_67 {rc rs : Nat} {Q : Option AV → AH → Prop} {h : AH} {x1 x2 x3 : Int} (hL : LayM h) (hv : (-2147483648 ≤ (x3 + x2) ∧ (x3 + x2) < 2147483648) ∧ (((iH h 89 13) ≤ (x3 + x2) → (-2147483648 ≤ (x2 + 1) ∧ (x2 + 1) < 2147483648) ∧ wp mX12_cheapest 3 rc rs Q 57 [some (vr 89), some (vi x1), some (vi (x2 + 1)), none] [] h) ∧ ((x3 + x2) < (iH h 89 13) → (0 ≤ x3 ∧ x3 < 8) ∧ (∃ P13 : Int → AH → Prop, Ct 2 0 0 mX12_costOf [vr 89, vi x3, vi (x3 + x2), vi 0] h (QI P13) ∧ ∀ (r12 : Int) (h11 : AH), (-2147483648 ≤ r12 ∧ r12 < 2147483648) → P13 r12 h11 → LayM h11 ∧ (0 ≤ (x3 + x2) ∧ (x3 + x2) < 8) ∧ (-2147483648 ≤ (x3 + 1) ∧ (x3 + 1) < 2147483648) ∧ wp mX12_cheapest 3 rc rs Q 67 [some (vr 89), some (vi x1), some (vi x2), some (vi (x3 + 1))] [] (sI h11 (1161 + x3.toNat) ((x3 + x2).toNat) r12))))) : wp mX12_cheapest 3 rc rs Q 67 [some (vr 89), some (vi x1), some (vi x2), some (vi x3)] [] h :=
  (show wp mX12_cheapest 3 rc rs Q 67 [some (vr 89), some (vi x1), some (vi x2), some (vi x3)] [] h from xIc k_X12_cheapest_67 (have c1 := hv.1; have v23 := hv.2; (And.intro c1 (And.intro (lm_89 hL) (And.intro (fun c2 => have v4 := v23.1 c2; (show wp mX12_cheapest 3 rc rs Q 102 [some (vr 89), some (vi x1), some (vi x2), some (vi x3)] [] h from xGo k_X12_cheapest_102 (have c6 := v4.1; have v7 := v4.2; (And.intro c6 (And.intro rfl (w_fg [true, true, true, false] v7)))))) (fun c3 => have v5 := v23.2 (Int.not_le.mp c3); (show wp mX12_cheapest 3 rc rs Q 77 [some (vr 89), some (vi x1), some (vi x2), some (vi x3)] [] h from xcV k_X12_cheapest_77 s_X12_cheapest_92 (And.intro (lm_89 hL) (Exists.intro 1160 (And.intro (lf_89_29 hL) (have c8 := v5.1; have v22 := v5.2; (And.intro (sdQ (lm_1160 hL) c8) (Exists.intro (1161 + x3.toNat) (And.intro (lr_costs hL (tnl c8)) (And.intro c1 (And.intro c1 (Exists.elim v22 (fun P13 v18 => (Exists.intro [vi x3, vi (x3 + x2), vi 0] (Exists.intro 89 (Exists.intro [vi (x3 + x2), vr (1161 + x3.toNat)] (And.intro (And.intro rfl (And.intro rfl (Nat.le_of_ble_eq_true rfl))) (And.intro (lm_89 hL) (Exists.intro 2 (Exists.intro 0 (Exists.intro 0 (Exists.intro (QI P13) (And.intro v18.1 (And.intro (And.intro (by decide) (And.intro (Nat.zero_le _) (Nat.zero_le _))) (eQI (fun r12 h11 q21 e20 => have v19 := v18.2 r12 h11 q21 e20; have hL := v19.1; have v19 := v19.2; (show wp mX12_cheapest 3 rc rs Q 95 [some (vr 89), some (vi x1), some (vi x2), some (vi x3)] [vi r12, vi (x3 + x2), vr (1161 + x3.toNat)] h11 from xGo k_X12_cheapest_95 (have c14 := v19.1; have v17 := v19.2; (And.intro (sdI (lk_costs hL (tnl c8)) c14) (have c15 := v17.1; have v16 := v17.2; (And.intro c15 (And.intro rfl v16)))))))))))))))))))))))))))))))))))))
theorem t_X12_cheapest_130 {rc rs : Nat} {Q : Option AV → AH → Prop} {h : AH} {x2 x3 : Int} (hL : LayM h) (hv : (-2147483648 ≤ (iH h 89 13 - 1) ∧ (iH h 89 13 - 1) < 2147483648) ∧ (∃ P4 : Int → AH → Prop, Ct 2 0 0 mX12_costOf [vr 89, vi 0, vi (iH h 89 13 - 1), vi x3] h (QI P4) ∧ ∀ (r3 : Int) (h2 : AH), (-2147483648 ≤ r3 ∧ r3 < 2147483648) → P4 r3 h2 → LayM h2 ∧ ((r3 = x2 → Q (some (vi x3)) h2) ∧ (r3 ≠ x2 → (-2147483648 ≤ (x3 + 1) ∧ (x3 + 1) < 2147483648) ∧ wp mX12_cheapest 3 rc rs Q 130 [some (vr 89), none, some (vi x2), some (vi (x3 + 1))] [] h2)))) : wp mX12_cheapest 3 rc rs Q 130 [some (vr 89), none, some (vi x2), some (vi x3)] [] h :=
  (show wp mX12_cheapest 3 rc rs Q 130 [some (vr 89), none, some (vi x2), some (vi x3)] [] h from xcV k_X12_cheapest_130 s_X12_cheapest_139 (And.intro (lm_89 hL) (have c1 := hv.1; have v15 := hv.2; (And.intro c1 (Exists.elim v15 (fun P4 v11 => (Exists.intro [vi 0, vi (iH h 89 13 - 1), vi x3] (Exists.intro 89 (Exists.intro [] (And.intro (And.intro rfl (And.intro rfl (Nat.le_of_ble_eq_true rfl))) (And.intro (lm_89 hL) (Exists.intro 2 (Exists.intro 0 (Exists.intro 0 (Exists.intro (QI P4) (And.intro v11.1 (And.intro (And.intro (by decide) (And.intro (Nat.zero_le _) (Nat.zero_le _))) (eQI (fun r3 h2 q14 e13 => have v12 := v11.2 r3 h2 q14 e13; have hL := v12.1; have v12 := v12.2; (show wp mX12_cheapest 3 rc rs Q 142 [some (vr 89), none, some (vi x2), some (vi x3)] [vi r3] h2 from xIc k_X12_cheapest_142 (And.intro (fun c5 => have v7 := v12.1 c5; (show wp mX12_cheapest 3 rc rs Q 152 [some (vr 89), none, some (vi x2), some (vi x3)] [] h2 from xI k_X12_cheapest_152 (And.intro rfl v7))) (fun c6 => have v8 := v12.2 c6; (show wp mX12_cheapest 3 rc rs Q 146 [some (vr 89), none, some (vi x2), some (vi x3)] [] h2 from xGo k_X12_cheapest_146 (have c9 := v8.1; have v10 := v8.2; (And.intro c9 (And.intro rfl v10))))))))))))))))))))))))))
theorem m_rng_sub {h : AH} (hn : m_now h) {a b : Nat} (hab : a ≤ b) (hb : (b : Int) < iH h 89 13) : m_rng h a ((b : Int) - (a : Int) + 1) := by
  have h1 := hn.1
  exact ⟨by omega, by omega, by omega, fun s h2 h3 => hn.2 s (by omega)⟩
theorem m_Lv_bd {h : AH} (hn : m_now h) (a b : Nat) : 0 ≤ m_Lv h a b ∧ m_Lv h a b ≤ 512 := by
  have h1 := hn.1
  unfold m_Lv
  split
  · rename_i q
    exact m_liveIn_bd (m_rng_sub hn q.2 (by omega))
  · omega
theorem c_cheapest {h : AH} (hL : LayM h) {w : Int} (hn : m_now h) (hc : m_cstOK h) : Ct 3 0 0 mX12_cheapest [vr 89, vi w] h (QI fun x h' => x = a_cheapest h w ∧ ∃ C, h' = sM h 1161 8 C ∧ ∀ i j : Nat, i < 8 → j < 8 → 0 ≤ C i j ∧ C i j ≤ 100000) := by
  have h1 := hn.1
  have e0 : sM h 1161 8 (fun i j => iH h (1161 + i) j) = h := sM_id fun i j _ => rfl
  have fin0 : ∃ C, h = sM h 1161 8 C ∧ ∀ i j : Nat, i < 8 → j < 8 → 0 ≤ C i j ∧ C i j ≤ 100000 := ⟨_, e0.symm, fun i j hi hj => hc i j hi hj⟩
  refine e_X12_cheapest hL ⟨fun c => ⟨fun c2 => ?_, fun c2 => ⟨fun c3 => ⟨_, rfl, ?_, fin0⟩, fun c3 => ⟨_, rfl, ?_, fin0⟩⟩⟩, fun c => ⟨_, rfl, (if_pos c).symm, fin0⟩⟩
  · generalize hN : (iH h 89 13).toNat = N at *
    have hNs : (N : Int) = iH h 89 13 := by omega
    have tbd := c_tb_bd (m_Lv_bd hn) 8 (Nat.le_refl _)
    have rd : ∀ (C : Nat → Nat → Int) (a k : Nat), (a < 1161 ∨ 1161 + 8 ≤ a) → iH (sM h 1161 8 C) a k = iH h a k := fun C a k ha => rM_ne ha
    have rS : ∀ C : Nat → Nat → Int, iH (sM h 1161 8 C) 89 13 = (N : Int) := fun C => by rw [rd _ _ _ (by decide), hNs]
    have lv : ∀ (C : Nat → Nat → Int) (a b : Nat), a ≤ b → b < N → m_rng (sM h 1161 8 C) a ((b : Int) - (a : Int) + 1) ∧ m_liveIn (sM h 1161 8 C) a ((b : Int) - (a : Int) + 1) = m_Lv h a b := fun C a b hab hb => by
      have hr := m_rng_sub hn hab (b := b) (by omega)
      refine ⟨m_rng_cg hr (fun k => rd _ _ _ (by decide)) (fun g k hg => rd _ _ _ (by omega)) (fun k => rd _ _ _ (by decide)), ?_⟩
      rw [m_liveIn_cg hr (fun k => rd _ _ _ (by decide)) (fun k => rd _ _ _ (by decide)) (fun g k hg => rd _ _ _ (by omega)) (fun k => rd _ _ _ (by decide))]
      unfold m_Lv
      rw [if_pos ⟨by omega, hab⟩]
    have cst : ∀ (C : Nat → Nat → Int) (i j : Nat), i < 8 → m_cst (sM h 1161 8 C) i j = C i j := fun C i j hi => rM_in hi
    let OK : (Nat → Nat → Int) → Prop := fun C => ∀ i j : Nat, i < 8 → j < 8 → 0 ≤ C i j ∧ C i j ≤ 100000
    -- the last loop
    have last : ∀ C, OK C → (∀ a b, a ≤ b → b < N → C a b = c_tb (m_Lv h) a b) → w ≠ 0 → wp mX12_cheapest 3 0 0 (QI fun x h' => x = a_cheapest h w ∧ ∃ C, h' = sM h 1161 8 C ∧ ∀ i j : Nat, i < 8 → j < 8 → 0 ≤ C i j ∧ C i j ≤ 100000) 130 [some (vr 89), none, some (vi (m_least h)), some (vi 1)] [] (sM h 1161 8 C) := by
      intro C hC hT hw
      have hnn : ∀ i, i < N - 2 + 1 → 0 ≤ c_cd (c_tb (m_Lv h)) 0 (N - 1) (m_Lv h 0 (N - 1)) i := fun i hi => by
        have a1 := tbd i (by omega) 0
        have a2 := tbd (N - 2 - i) (by omega) (i + 1)
        have a3 := m_Lv_bd hn 0 (N - 1)
        unfold c_cd
        rw [show 0 + i + 1 = i + 1 by omega]
        rw [show i + 1 + (N - 2 - i) = N - 1 by omega] at a2
        omega
      have hls : m_least h = m_bst (c_tb (m_Lv h)) 0 (N - 1) 0 (m_Lv h 0 (N - 1)) (N - 2 + 1) := by
        unfold m_least
        rw [hN]
        have := c_tb_s (Lv := m_Lv h) (a := 0) (n := N - 2) (by omega)
        rw [show 0 + (N - 2 + 1) = N - 1 by omega] at this
        exact this
      obtain ⟨⟨i0, hi0, he0⟩, -⟩ := bst_min (C := c_tb (m_Lv h)) (a := 0) (b := N - 1) (t := m_Lv h 0 (N - 1)) (N - 2) hnn
      have hex : m_splP h i0 := by
        unfold m_splP
        rw [hN, hls, he0]
      rcases fst_cs (m_splP h) (N - 1) with ⟨-, q⟩ | ⟨p, hp, ep, q1, q2⟩
      · exact absurd hex (q i0 (by omega))
      · have main := up (P := fun j => wp mX12_cheapest 3 0 0 (QI fun x h' => x = a_cheapest h w ∧ ∃ C, h' = sM h 1161 8 C ∧ ∀ i j : Nat, i < 8 → j < 8 → 0 ≤ C i j ∧ C i j ≤ 100000) 130 [some (vr 89), none, some (vi (m_least h)), some (vi (1 + (j : Int)))] [] (sM h 1161 8 C)) p ?_ ?_
        · exact main
        all_goals
          have step : ∀ j : Nat, j ≤ p → (c_cd (c_tb (m_Lv h)) 0 (N - 1) (m_Lv h 0 (N - 1)) j ≠ m_least h → wp mX12_cheapest 3 0 0 (QI fun x h' => x = a_cheapest h w ∧ ∃ C, h' = sM h 1161 8 C ∧ ∀ i j : Nat, i < 8 → j < 8 → 0 ≤ C i j ∧ C i j ≤ 100000) 130 [some (vr 89), none, some (vi (m_least h)), some (vi (1 + (j : Int) + 1))] [] (sM h 1161 8 C)) → (c_cd (c_tb (m_Lv h)) 0 (N - 1) (m_Lv h 0 (N - 1)) j = m_least h → 1 + (j : Int) = a_cheapest h w) → wp mX12_cheapest 3 0 0 (QI fun x h' => x = a_cheapest h w ∧ ∃ C, h' = sM h 1161 8 C ∧ ∀ i j : Nat, i < 8 → j < 8 → 0 ≤ C i j ∧ C i j ≤ 100000) 130 [some (vr 89), none, some (vi (m_least h)), some (vi (1 + (j : Int)))] [] (sM h 1161 8 C) := by
            intro j hj k1 k2
            have l1 := lv C 0 (N - 1) (by omega) (by omega)
            have e1 : ((N - 1 : Nat) : Int) = (N : Int) - 1 := by omega
            rw [e1] at l1
            refine t_X12_cheapest_130 (by exact hL) ?_
            rw [rS]
            refine ⟨by omega, _, c_costOf (h := sM h 1161 8 C) (a := 0) (b := (N : Int) - 1) (f := 1 + (j : Int)) (by exact hL) l1.1 (by omega) (fun i k hi hk => by rw [cst C i k hi]; exact hC i k hi hk), fun x h2 _ hx => ?_⟩
            obtain ⟨rfl, rfl⟩ := hx
            have e2 : m_bst (m_cst (sM h 1161 8 C)) (0 : Int).toNat ((N : Int) - 1).toNat (1 + (j : Int)) (m_liveIn (sM h 1161 8 C) 0 ((N : Int) - 1 - 0 + 1)) ((N : Int) - 1 - 0).toNat = c_cd (c_tb (m_Lv h)) 0 (N - 1) (m_Lv h 0 (N - 1)) j := by
              have l2 : m_liveIn (sM h 1161 8 C) 0 ((N : Int) - 1 - 0 + 1) = m_Lv h 0 (N - 1) := l1.2
              rw [l2, show (0 : Int).toNat = 0 from rfl, show ((N : Int) - 1).toNat = N - 1 by omega, show ((N : Int) - 1 - 0).toNat = N - 1 by omega, show 1 + (j : Int) = ((j + 1 : Nat) : Int) by omega, bst_f (by omega), if_pos (by omega), show j + 1 - 1 = j from rfl]
              unfold c_cd
              rw [cst _ _ _ (by omega), cst _ _ _ (by omega), hT _ _ (by omega) (by omega), hT _ _ (by omega) (by omega)]
            rw [e2]
            exact ⟨by exact hL, fun d => ⟨_, rfl, k2 d, C, rfl, hC⟩, fun d => ⟨by omega, k1 d⟩⟩
        · refine step p (Nat.le_refl _) (fun d => absurd ?_ d) (fun _ => ?_)
          · have := q1
            unfold m_splP at this
            rw [hN] at this
            exact this
          · unfold a_cheapest
            rw [if_neg (fun z => z c), if_neg (by omega), if_neg hw, hN, ep]
        · intro j hj ih
          refine step j (by omega) (fun _ => ?_) (fun d => absurd ?_ (q2 j hj))
          · rw [show 1 + (j : Int) + 1 = 1 + ((j + 1 : Nat) : Int) by omega]; exact ih
          · unfold m_splP
            rw [hN]
            exact d
    -- lengths, one by one
    have mid : ∀ C, OK C → (∀ a b, a ≤ b → b < N → b < a + 1 → C a b = c_tb (m_Lv h) a b) → wp mX12_cheapest 3 0 0 (QI fun x h' => x = a_cheapest h w ∧ ∃ C, h' = sM h 1161 8 C ∧ ∀ i j : Nat, i < 8 → j < 8 → 0 ≤ C i j ∧ C i j ≤ 100000) 57 [some (vr 89), some (vi w), some (vi 1), none] [] (sM h 1161 8 C) := by
      intro C hC hT
      have main := up (P := fun n => ∀ C, OK C → (∀ a b, a ≤ b → b < N → b < a + (n + 1) → C a b = c_tb (m_Lv h) a b) → wp mX12_cheapest 3 0 0 (QI fun x h' => x = a_cheapest h w ∧ ∃ C, h' = sM h 1161 8 C ∧ ∀ i j : Nat, i < 8 → j < 8 → 0 ≤ C i j ∧ C i j ≤ 100000) 57 [some (vr 89), some (vi w), some (vi (1 + (n : Int))), none] [] (sM h 1161 8 C)) (N - 1) ?_ ?_
      · exact main C hC hT
      · intro C hC hT
        have hT' : ∀ a b, a ≤ b → b < N → C a b = c_tb (m_Lv h) a b := fun a b h1 h2 => hT a b h1 h2 (by omega)
        have e5 : iH (sM h 1161 8 C) 1161 ((N : Int) - 1).toNat = m_least h := by
          have : iH (sM h 1161 8 C) (1161 + 0) ((N : Int) - 1).toNat = C 0 ((N : Int) - 1).toNat := rM_in (by omega)
          rw [show 1161 + 0 = 1161 from rfl] at this
          rw [this, show ((N : Int) - 1).toNat = N - 1 by omega, hT' _ _ (by omega) (by omega)]
          unfold m_least
          rw [hN]
        refine t_X12_cheapest_57 (by exact hL) ?_
        rw [rS, e5]
        refine ⟨fun _ => ⟨by omega, by omega, fun d => last C hC hT' d, fun d => ⟨_, rfl, ?_, C, rfl, hC⟩⟩, fun q => absurd q (by omega)⟩
        unfold a_cheapest
        rw [if_neg (fun z => z c), if_neg (by omega), if_pos d]
      · intro n hn2 ih C hC hT
        refine t_X12_cheapest_57 (by exact hL) ?_
        rw [rS]
        refine ⟨fun q => absurd q (by omega), fun _ => ?_⟩
        have main2 := up (P := fun s => ∀ C, OK C → (∀ a b, a ≤ b → b < N → b < a + (n + 1) → C a b = c_tb (m_Lv h) a b) → (∀ a, a < s → a + (n + 1) < N → C a (a + (n + 1)) = c_tb (m_Lv h) a (a + (n + 1))) → wp mX12_cheapest 3 0 0 (QI fun x h' => x = a_cheapest h w ∧ ∃ C, h' = sM h 1161 8 C ∧ ∀ i j : Nat, i < 8 → j < 8 → 0 ≤ C i j ∧ C i j ≤ 100000) 67 [some (vr 89), some (vi w), some (vi (1 + (n : Int))), some (vi s)] [] (sM h 1161 8 C)) (N - (n + 1)) ?_ ?_
        · exact main2 C hC hT (fun a ha => absurd ha (Nat.not_lt_zero a))
        · intro C hC hT hT2
          refine t_X12_cheapest_67 (by exact hL) ?_
          rw [rS]
          refine ⟨by omega, fun _ => ⟨by omega, ?_⟩, fun q => absurd q (by omega)⟩
          rw [show 1 + (n : Int) + 1 = 1 + ((n + 1 : Nat) : Int) by omega]
          refine ih C hC fun a b h2 h3 h4 => ?_
          by_cases q : b = a + (n + 1)
          · rw [q]; exact hT2 a (by omega) (by omega)
          · exact hT a b h2 h3 (by omega)
        · intro s hs ih2 C hC hT hT2
          have l1 := lv C s (s + (n + 1)) (by omega) (by omega)
          have es : ((s + (n + 1) : Nat) : Int) = (s : Int) + (1 + (n : Int)) := by omega
          rw [es] at l1
          refine t_X12_cheapest_67 (by exact hL) ?_
          rw [rS]
          refine ⟨by omega, fun q => absurd q (by omega), fun _ => ⟨by omega, _, c_costOf (h := sM h 1161 8 C) (a := s) (b := (s : Int) + (1 + (n : Int))) (f := 0) (by exact hL) l1.1 (by omega) (fun i k hi hk => by rw [cst C i k hi]; exact hC i k hi hk), fun x h2 _ hx => ?_⟩⟩
          obtain ⟨rfl, rfl⟩ := hx
          have e2 : m_bst (m_cst (sM h 1161 8 C)) ((s : Int)).toNat ((s : Int) + (1 + (n : Int))).toNat 0 (m_liveIn (sM h 1161 8 C) s ((s : Int) + (1 + (n : Int)) - (s : Int) + 1)) ((s : Int) + (1 + (n : Int)) - (s : Int)).toNat = c_tb (m_Lv h) s (s + (n + 1)) := by
            rw [l1.2, show ((s : Int)).toNat = s from rfl, show ((s : Int) + (1 + (n : Int))).toNat = s + (n + 1) by omega, show ((s : Int) + (1 + (n : Int)) - (s : Int)).toNat = n + 1 by omega, c_tb_s (by omega)]
            refine bst_cg _ fun i hi => ?_
            unfold c_cd
            rw [cst _ _ _ (by omega), cst _ _ _ (by omega), hT _ _ (by omega) (by omega) (by omega), hT _ _ (by omega) (by omega) (by omega)]
          rw [e2]
          have tb := tbd (n + 1) (by omega) s
          refine ⟨by exact hL, by omega, by omega, ?_⟩
          rw [show ((s : Int)).toNat = s from rfl, show ((s : Int) + (1 + (n : Int))).toNat = s + (n + 1) by omega, sI_sM (C' := fun x y => if x = s ∧ y = s + (n + 1) then c_tb (m_Lv h) s (s + (n + 1)) else C x y) (by omega) (fun _ _ => rfl), show (s : Int) + 1 = ((s + 1 : Nat) : Int) by omega]
          refine ih2 _ (fun i j hi hj => ?_) (fun a b h2 h3 h4 => ?_) (fun a ha h3 => ?_)
          · split
            · omega
            · exact hC i j hi hj
          · rw [if_neg (by omega)]; exact hT a b h2 h3 h4
          · by_cases q : a = s
            · subst q; rw [if_pos ⟨rfl, rfl⟩]
            · rw [if_neg (by omega)]; exact hT2 a (by omega) h3
    have main := up (P := fun s => ∀ C, OK C → (∀ a, a < s → C a a = 0) → wp mX12_cheapest 3 0 0 (QI fun x h' => x = a_cheapest h w ∧ ∃ C, h' = sM h 1161 8 C ∧ ∀ i j : Nat, i < 8 → j < 8 → 0 ≤ C i j ∧ C i j ≤ 100000) 32 [some (vr 89), some (vi w), some (vi s), none] [] (sM h 1161 8 C)) N ?_ ?_
    · have := main (fun i j => iH h (1161 + i) j) (fun i j hi hj => hc i j hi hj) (fun a ha => absurd ha (Nat.not_lt_zero a))
      rw [e0] at this
      exact this
    · intro C hC h0
      refine t_X12_cheapest_32 (by exact hL) ?_
      rw [rS]
      refine ⟨fun _ => mid C hC fun a b h2 h3 h4 => ?_, fun q => absurd q (by omega)⟩
      have : b = a := by omega
      subst this
      rw [h0 b h3, c_tb_0]
    · intro s hs ih C hC h0
      refine t_X12_cheapest_32 (by exact hL) ?_
      rw [rS]
      refine ⟨fun q => absurd q (by omega), fun _ => ⟨by omega, by omega, ?_⟩⟩
      rw [show ((s : Int)).toNat = s from rfl, sI_sM (C' := fun x y => if x = s ∧ y = s then 0 else C x y) (by omega) (fun _ _ => rfl), show (s : Int) + 1 = ((s + 1 : Nat) : Int) by omega]
      refine ih _ (fun i j hi hj => ?_) (fun a ha => ?_)
      · split
        · omega
        · exact hC i j hi hj
      · by_cases q : a = s
        · subst q; rw [if_pos ⟨rfl, rfl⟩]
        · rw [if_neg (by omega)]; exact h0 a (by omega)
  · unfold a_cheapest; rw [if_neg (fun z => z c), if_pos c2, if_neg c3]
  · unfold a_cheapest; rw [if_neg (fun z => z c), if_pos c2, if_pos c3]
