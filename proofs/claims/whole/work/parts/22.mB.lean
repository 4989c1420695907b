/-! THE REFERENCE: WORDS, POSTINGS, SIZES, PLACES -/
def b_X12_postings_0 : List IE := [(.iconst 0, 1, 0, 0, 0, 0), (.istore_n 3, 1, 0, 0, 3, 0), (.iconst 0, 1, 0, 0, 0, 0), (.istore 4, 2, 0, 0, 4, 0)]
theorem k_X12_postings_0 : ckB mX12_postings 12 0 b_X12_postings_0 5 = true := by decide +kernel
def b_X12_postings_5 : List IE := [(.iload 4, 2, 0, 0, 4, 0), (.aload_n 0, 1, 0, 0, 0, 0), (.getfield 28, 3, 0, 12, 7, 1), (.iload_n 1, 1, 0, 0, 1, 0), (.iaload, 1, 0, 0, 0, 0)]
theorem k_X12_postings_5 : ckIc mX12_postings 12 5 b_X12_postings_5 13 3 29 42 16 = true := by decide +kernel
def b_X12_postings_16 : List IE := [(.aload_n 0, 1, 0, 0, 0, 0), (.aload_n 0, 1, 0, 0, 0, 0), (.getfield 31, 3, 0, 12, 8, 1), (.iload_n 1, 1, 0, 0, 1, 0), (.aaload, 1, 0, 0, 0, 0), (.iload 4, 2, 0, 0, 4, 0), (.iaload, 1, 0, 0, 0, 0), (.iload_n 2, 1, 0, 0, 2, 0)]
theorem k_X12_postings_16 : ckB mX12_postings 12 16 b_X12_postings_16 27 = true := by decide +kernel
def b_X12_postings_30 : List IE := []
theorem k_X12_postings_30 : ckIf mX12_postings 12 30 b_X12_postings_30 30 0 6 36 33 = true := by decide +kernel
def b_X12_postings_33 : List IE := [(.iinc 3 1, 3, 1, 0, 3, 0), (.iinc 4 1, 3, 1, 0, 4, 0)]
theorem k_X12_postings_33 : ckGo mX12_postings 12 33 b_X12_postings_33 39 (-34) 5 = true := by decide +kernel
def b_X12_postings_36 : List IE := [(.iinc 4 1, 3, 1, 0, 4, 0)]
theorem k_X12_postings_36 : ckGo mX12_postings 12 36 b_X12_postings_36 39 (-34) 5 = true := by decide +kernel
def b_X12_postings_42 : List IE := [(.iload_n 3, 1, 0, 0, 3, 0)]
theorem k_X12_postings_42 : ckI mX12_postings 12 42 b_X12_postings_42 43 = true := by decide +kernel
theorem s_X12_postings_27 : cV mX12_postings 27 mX12_hasWord 181 2 12 := ⟨by decide +kernel, ⟨ml_X12_hasWord, li_RX12_181, im_X12_hasWord, se_X12_hasWord⟩, ⟨by decide +kernel, by decide +kernel⟩, by decide +kernel⟩
theorem t_X12_postings_0 {rc rs : Nat} {Q : Option AV → AH → Prop} {h : AH} {x1 x2 : Int} (hL : LayM h) (hv : wp mX12_postings 1 rc rs Q 5 [some (vr 89), some (vi x1), some (vi x2), some (vi 0), some (vi 0)] [] h) : wp mX12_postings 1 rc rs Q 0 [some (vr 89), some (vi x1), some (vi x2), none, none] [] h :=
  (show wp mX12_postings 1 rc rs Q 0 [some (vr 89), some (vi x1), some (vi x2), none, none] [] h from xB k_X12_postings_0 (And.intro rfl (And.intro rfl hv)))
theorem e_X12_postings {mc ms : Nat} {Q : Option AV → AH → Prop} {h : AH} {x1 x2 : Int} (hL : LayM h) (hv : wp mX12_postings 1 mc ms Q 5 [some (vr 89), some (vi x1), some (vi x2), some (vi 0), some (vi 0)] [] h) : Ct 1 mc ms mX12_postings [vr 89, vi x1, vi x2] h Q := Ct.of (by decide +kernel) (Nat.le_of_ble_eq_true rfl) (t_X12_postings_0 hL hv)
theorem t_X12_postings_5 {rc rs : Nat} {Q : Option AV → AH → Prop} {h : AH} {x1 x2 x3 x4 : Int} (hL : LayM h) (hv : (0 ≤ x1 ∧ x1 < 520) ∧ (((iH h 615 x1.toNat) ≤ x4 → Q (some (vi x3)) h) ∧ (x4 < (iH h 615 x1.toNat) → (0 ≤ x4 ∧ x4 < 64) ∧ (m_doc h (iH h (617 + x1.toNat) x4.toNat)) ∧ ((¬ (m_has h (iH h (617 + x1.toNat) x4.toNat) x2) → (-2147483648 ≤ (x4 + 1) ∧ (x4 + 1) < 2147483648) ∧ wp mX12_postings 1 rc rs Q 5 [some (vr 89), some (vi x1), some (vi x2), some (vi x3), some (vi (x4 + 1))] [] h) ∧ ((m_has h (iH h (617 + x1.toNat) x4.toNat) x2) → (-2147483648 ≤ (x3 + 1) ∧ (x3 + 1) < 2147483648) ∧ (-2147483648 ≤ (x4 + 1) ∧ (x4 + 1) < 2147483648) ∧ wp mX12_postings 1 rc rs Q 5 [some (vr 89), some (vi x1), some (vi x2), some (vi (x3 + 1)), some (vi (x4 + 1))] [] h))))) : wp mX12_postings 1 rc rs Q 5 [some (vr 89), some (vi x1), some (vi x2), some (vi x3), some (vi x4)] [] h :=
  (show wp mX12_postings 1 rc rs Q 5 [some (vr 89), some (vi x1), some (vi x2), some (vi x3), some (vi x4)] [] h from xIc k_X12_postings_5 (And.intro (lm_89 hL) (Exists.intro 615 (And.intro (lf_89_7 hL) (have c1 := hv.1; have v22 := hv.2; (And.intro (sdI (lm_615 hL) c1) (And.intro (fun c2 => have v4 := v22.1 c2; (show wp mX12_postings 1 rc rs Q 42 [some (vr 89), some (vi x1), some (vi x2), some (vi x3), some (vi x4)] [] h from xI k_X12_postings_42 (And.intro rfl v4))) (fun c3 => have v5 := v22.2 (Int.not_le.mp c3); (show wp mX12_postings 1 rc rs Q 16 [some (vr 89), some (vi x1), some (vi x2), some (vi x3), some (vi x4)] [] h from xcV k_X12_postings_16 s_X12_postings_27 (And.intro (lm_89 hL) (Exists.intro 616 (And.intro (lf_89_8 hL) (And.intro (sdQ (lm_616 hL) c1) (Exists.intro (617 + x1.toNat) (And.intro (lr_members hL (tnl c1)) (have c7 := v5.1; have v21 := v5.2; (And.intro (sdI (lk_members hL (tnl c1)) c7) (have c18 := v21.1; have v19 := v21.2; (Exists.intro [vi (iH h (617 + x1.toNat) x4.toNat), vi x2] (Exists.intro 89 (Exists.intro [] (And.intro (And.intro rfl (And.intro rfl (Nat.le_of_ble_eq_true rfl))) (And.intro (lm_89 hL) (Exists.intro 0 (Exists.intro 0 (Exists.intro 0 (Exists.intro _ (And.intro (c_hasWord (h := h) hL c18) (And.intro (And.intro (by decide) (And.intro (Nat.zero_le _) (Nat.zero_le _))) (eQP (show wp mX12_postings 1 rc rs Q 30 [some (vr 89), some (vi x1), some (vi x2), some (vi x3), some (vi x4)] [vi (b01 (m_has h (iH h (617 + x1.toNat) x4.toNat) x2))] h from xIf k_X12_postings_30 (And.intro (fun c8 => have v10 := v19.1 (b01_n.mp c8); (show wp mX12_postings 1 rc rs Q 36 [some (vr 89), some (vi x1), some (vi x2), some (vi x3), some (vi x4)] [] h from xGo k_X12_postings_36 (have c12 := v10.1; have v13 := v10.2; (And.intro c12 (And.intro rfl v13))))) (fun c9 => have v11 := v19.2 (b01_p.mp c9); (show wp mX12_postings 1 rc rs Q 33 [some (vr 89), some (vi x1), some (vi x2), some (vi x3), some (vi x4)] [] h from xGo k_X12_postings_33 (have c14 := v11.1; have v17 := v11.2; (And.intro c14 (And.intro rfl (have c15 := v17.1; have v16 := v17.2; (And.intro c15 (And.intro rfl v16))))))))))))))))))))))))))))))))))))))))
def m_segd (h : AH) (g : Int) : Prop := m_seg h g ∧ ∀ k : Nat, (k : Int) < iH h 615 g.toNat → m_doc h (iH h (617 + g.toNat) k)
def m_postP (h : AH) (g w : Int) (k : Nat) : Prop := m_has h (iH h (617 + g.toNat) k) w
noncomputable def m_post (h : AH) (g w : Int) : Int := cnt (m_postP h g w) (iH h 615 g.toNat).toNat
theorem m_post_bd {h : AH} {g w : Int} (hg : m_segd h g) : 0 ≤ m_post h g w ∧ m_post h g w ≤ 64 := by
  have h1 := cnt_bd (m_postP h g w) (iH h 615 g.toNat).toNat
  have h2 := hg.1.2.1
  unfold m_post; omega
theorem c_postings {h : AH} (hL : LayM h) {g w : Int} (hg : m_segd h g) : Ct 1 0 0 mX12_postings [vr 89, vi g, vi w] h (QI fun x h' => x = m_post h g w ∧ h' = h) := by
  have hl := hg.1.2.1
  refine e_X12_postings hL (up (P := fun k => wp mX12_postings 1 _ _ _ 5 [some (vr 89), some (vi g), some (vi w), some (vi (cnt (m_postP h g w) k)), some (vi k)] [] h) (iH h 615 g.toNat).toNat ?_ ?_)
  · exact t_X12_postings_5 hL ⟨hg.1.1, fun _ => ⟨_, rfl, rfl, rfl⟩, fun c => absurd c (by omega)⟩
  · intro k hk ih
    have hb := cnt_bd (m_postP h g w) k
    refine t_X12_postings_5 hL ⟨hg.1.1, fun c => absurd c (by omega), fun c => ⟨by omega, hg.2 k c, fun c2 => ⟨by omega, ?_⟩, fun c2 => ⟨by omega, by omega, ?_⟩⟩⟩
    · rw [← cnt_n (p := m_postP h g w) (n := k) c2]; exact ih
    · rw [← cnt_s (p := m_postP h g w) (n := k) c2]; exact ih
/-- the least that is above w among those of S, or -1 -/
def Abv (f : Nat → Nat → Int) (w : Int) (S : Nat → Nat → Prop) (x : Int) : Prop := (x = -1 ∧ ∀ k i, S k i → f k i ≤ w) ∨ (w < x ∧ (∃ k i, S k i ∧ f k i = x) ∧ ∀ k i, S k i → w < f k i → x ≤ f k i)
theorem Abv.cg {f : Nat → Nat → Int} {w x : Int} {S T : Nat → Nat → Prop} (e : ∀ k i, S k i ↔ T k i) (h : Abv f w S x) : Abv f w T x := by
  have : S = T := by funext k i; exact propext (e k i)
  rw [← this]; exact h
theorem Abv.old {f : Nat → Nat → Int} {w x : Int} {S T : Nat → Nat → Prop} {k i : Nat} (e : ∀ a b, T a b ↔ S a b ∨ (a = k ∧ b = i)) (h : Abv f w S x) (hc : f k i ≤ w ∨ (x ≠ -1 ∧ x ≤ f k i)) : Abv f w T x := by
  rcases h with ⟨rfl, h⟩ | ⟨h1, ⟨a, b, h2, h3⟩, h4⟩
  · refine Or.inl ⟨rfl, fun a b hab => ?_⟩
    rcases (e a b).mp hab with q | ⟨rfl, rfl⟩
    · exact h a b q
    · omega
  · refine Or.inr ⟨h1, ⟨a, b, (e a b).mpr (Or.inl h2), h3⟩, fun a b hab hw => ?_⟩
    rcases (e a b).mp hab with q | ⟨rfl, rfl⟩
    · exact h4 a b q hw
    · omega
theorem Abv.new {f : Nat → Nat → Int} {w x : Int} {S T : Nat → Nat → Prop} {k i : Nat} (h : Abv f w S x) (h0 : 0 ≤ w) (e : ∀ a b, T a b ↔ S a b ∨ (a = k ∧ b = i)) (hw : w < f k i) (hc : x = -1 ∨ f k i < x) : Abv f w T (f k i) := by
  refine Or.inr ⟨hw, ⟨k, i, (e k i).mpr (Or.inr ⟨rfl, rfl⟩), rfl⟩, fun a b hab hw2 => ?_⟩
  rcases (e a b).mp hab with q | ⟨rfl, rfl⟩
  · rcases h with ⟨-, h⟩ | ⟨h1, -, h4⟩
    · have := h a b q; omega
    · have := h4 a b q hw2; omega
  · omega
theorem Abv.un {f : Nat → Nat → Int} {w x z : Int} {S : Nat → Nat → Prop} (hx : Abv f w S x) (hz : Abv f w S z) : x = z := by
  rcases hx with ⟨rfl, h⟩ | ⟨h1, ⟨a, b, h2, h3⟩, h4⟩
  · rcases hz with ⟨rfl, -⟩ | ⟨g1, ⟨a, b, g2, g3⟩, g4⟩
    · rfl
    · have := h a b g2; omega
  · rcases hz with ⟨rfl, g⟩ | ⟨g1, ⟨c, d, g2, g3⟩, g4⟩
    · have := g a b h2; omega
    · have q1 := h4 c d g2 (by omega)
      have q2 := g4 a b h2 (by omega)
      omega
def m_wd (h : AH) (g : Int) (k i : Nat) : Int := iH h (93 + (iH h (617 + g.toNat) k).toNat) i
def m_wi (h : AH) (g : Int) (k i : Nat) : Prop := (k : Int) < iH h 615 g.toNat ∧ (i : Int) < iH h 91 (iH h (617 + g.toNat) k).toNat
noncomputable def m_nx (h : AH) (g w : Int) : Int := Classical.epsilon (fun x => Abv (m_wd h g) w (m_wi h g) x)
theorem m_nx_e {h : AH} {g w x : Int} (hx : Abv (m_wd h g) w (m_wi h g) x) : m_nx h g w = x := Abv.un (Classical.epsilon_spec (p := fun x => Abv (m_wd h g) w (m_wi h g) x) ⟨x, hx⟩) hx
def b_X12_wordAbove_0 : List IE := [(.iconst (-1), 1, (-1), 0, 0, 0), (.istore_n 3, 1, 0, 0, 3, 0), (.iconst 0, 1, 0, 0, 0, 0), (.istore 4, 2, 0, 0, 4, 0)]
theorem k_X12_wordAbove_0 : ckB mX12_wordAbove 12 0 b_X12_wordAbove_0 5 = true := by decide +kernel
def b_X12_wordAbove_5 : List IE := [(.iload 4, 2, 0, 0, 4, 0), (.aload_n 0, 1, 0, 0, 0, 0), (.getfield 28, 3, 0, 12, 7, 1), (.iload_n 1, 1, 0, 0, 1, 0), (.iaload, 1, 0, 0, 0, 0)]
theorem k_X12_wordAbove_5 : ckIc mX12_wordAbove 12 5 b_X12_wordAbove_5 13 3 85 98 16 = true := by decide +kernel
def b_X12_wordAbove_16 : List IE := [(.aload_n 0, 1, 0, 0, 0, 0), (.getfield 31, 3, 0, 12, 8, 1), (.iload_n 1, 1, 0, 0, 1, 0), (.aaload, 1, 0, 0, 0, 0), (.iload 4, 2, 0, 0, 4, 0), (.iaload, 1, 0, 0, 0, 0), (.istore 5, 2, 0, 0, 5, 0), (.iconst 0, 1, 0, 0, 0, 0), (.istore 6, 2, 0, 0, 6, 0)]
theorem k_X12_wordAbove_16 : ckB mX12_wordAbove 12 16 b_X12_wordAbove_16 30 = true := by decide +kernel
def b_X12_wordAbove_30 : List IE := [(.iload 6, 2, 0, 0, 6, 0), (.aload_n 0, 1, 0, 0, 0, 0), (.getfield 13, 3, 0, 12, 2, 1), (.iload 5, 2, 0, 0, 5, 0), (.iaload, 1, 0, 0, 0, 0)]
theorem k_X12_wordAbove_30 : ckIc mX12_wordAbove 12 30 b_X12_wordAbove_30 39 3 53 92 42 = true := by decide +kernel
def b_X12_wordAbove_42 : List IE := [(.aload_n 0, 1, 0, 0, 0, 0), (.getfield 18, 3, 0, 12, 3, 1), (.iload 5, 2, 0, 0, 5, 0), (.aaload, 1, 0, 0, 0, 0), (.iload 6, 2, 0, 0, 6, 0), (.iaload, 1, 0, 0, 0, 0), (.iload_n 2, 1, 0, 0, 2, 0)]
theorem k_X12_wordAbove_42 : ckIc mX12_wordAbove 12 42 b_X12_wordAbove_42 53 5 33 86 56 = true := by decide +kernel
def b_X12_wordAbove_56 : List IE := [(.iload_n 3, 1, 0, 0, 3, 0), (.iconst (-1), 1, (-1), 0, 0, 0)]
theorem k_X12_wordAbove_56 : ckIc mX12_wordAbove 12 56 b_X12_wordAbove_56 58 0 17 75 61 = true := by decide +kernel
def b_X12_wordAbove_61 : List IE := [(.aload_n 0, 1, 0, 0, 0, 0), (.getfield 18, 3, 0, 12, 3, 1), (.iload 5, 2, 0, 0, 5, 0), (.aaload, 1, 0, 0, 0, 0), (.iload 6, 2, 0, 0, 6, 0), (.iaload, 1, 0, 0, 0, 0), (.iload_n 3, 1, 0, 0, 3, 0)]
theorem k_X12_wordAbove_61 : ckIc mX12_wordAbove 12 61 b_X12_wordAbove_61 72 3 14 86 75 = true := by decide +kernel
def b_X12_wordAbove_75 : List IE := [(.aload_n 0, 1, 0, 0, 0, 0), (.getfield 18, 3, 0, 12, 3, 1), (.iload 5, 2, 0, 0, 5, 0), (.aaload, 1, 0, 0, 0, 0), (.iload 6, 2, 0, 0, 6, 0), (.iaload, 1, 0, 0, 0, 0), (.istore_n 3, 1, 0, 0, 3, 0), (.iinc 6 1, 3, 1, 0, 6, 0)]
theorem k_X12_wordAbove_75 : ckGo mX12_wordAbove 12 75 b_X12_wordAbove_75 89 (-59) 30 = true := by decide +kernel
def b_X12_wordAbove_86 : List IE := [(.iinc 6 1, 3, 1, 0, 6, 0)]
theorem k_X12_wordAbove_86 : ckGo mX12_wordAbove 12 86 b_X12_wordAbove_86 89 (-59) 30 = true := by decide +kernel
def b_X12_wordAbove_92 : List IE := [(.iinc 4 1, 3, 1, 0, 4, 0)]
theorem k_X12_wordAbove_92 : ckGo mX12_wordAbove 12 92 b_X12_wordAbove_92 95 (-90) 5 = true := by decide +kernel
def b_X12_wordAbove_98 : List IE := [(.iload_n 3, 1, 0, 0, 3, 0)]
theorem k_X12_wordAbove_98 : ckI mX12_wordAbove 12 98 b_X12_wordAbove_98 99 = true := by decide +kernel
theorem t_X12_wordAbove_0 {rc rs : Nat} {Q : Option AV → AH → Prop} {h : AH} {x1 x2 : Int} (hL : LayM h) (hv : wp mX12_wordAbove 0 rc rs Q 5 [some (vr 89), some (vi x1), some (vi x2), some (vi (-1)), some (vi 0), none, none] [] h) : wp mX12_wordAbove 0 rc rs Q 0 [some (vr 89), some (vi x1), some (vi x2), none, none, none, none] [] h :=
  (show wp mX12_wordAbove 0 rc rs Q 0 [some (vr 89), some (vi x1), some (vi x2), none, none, none, none] [] h from xB k_X12_wordAbove_0 (And.intro rfl (And.intro rfl hv)))
theorem e_X12_wordAbove {mc ms : Nat} {Q : Option AV → AH → Prop} {h : AH} {x1 x2 : Int} (hL : LayM h) (hv : wp mX12_wordAbove 0 mc ms Q 5 [some (vr 89), some (vi x1), some (vi x2), some (vi (-1)), some (vi 0), none, none] [] h) : Ct 0 mc ms mX12_wordAbove [vr 89, vi x1, vi x2] h Q := Ct.of (by decide +kernel) (Nat.le_of_ble_eq_true rfl) (t_X12_wordAbove_0 hL hv)
theorem t_X12_wordAbove_5 {rc rs : Nat} {Q : Option AV → AH → Prop} {h : AH} {x1 x2 x3 x4 : Int} (hL : LayM h) (hv : (0 ≤ x1 ∧ x1 < 520) ∧ (((iH h 615 x1.toNat) ≤ x4 → Q (some (vi x3)) h) ∧ (x4 < (iH h 615 x1.toNat) → (0 ≤ x4 ∧ x4 < 64) ∧ wp mX12_wordAbove 0 rc rs Q 30 [some (vr 89), some (vi x1), some (vi x2), some (vi x3), some (vi x4), some (vi (iH h (617 + x1.toNat) x4.toNat)), some (vi 0)] [] h))) : wp mX12_wordAbove 0 rc rs Q 5 [some (vr 89), some (vi x1), some (vi x2), some (vi x3), some (vi x4), none, none] [] h :=
  (show wp mX12_wordAbove 0 rc rs Q 5 [some (vr 89), some (vi x1), some (vi x2), some (vi x3), some (vi x4), none, none] [] h from xIc k_X12_wordAbove_5 (And.intro (lm_89 hL) (Exists.intro 615 (And.intro (lf_89_7 hL) (have c1 := hv.1; have v9 := hv.2; (And.intro (sdI (lm_615 hL) c1) (And.intro (fun c2 => have v4 := v9.1 c2; (show wp mX12_wordAbove 0 rc rs Q 98 [some (vr 89), some (vi x1), some (vi x2), some (vi x3), some (vi x4), none, none] [] h from xI k_X12_wordAbove_98 (And.intro rfl v4))) (fun c3 => have v5 := v9.2 (Int.not_le.mp c3); (show wp mX12_wordAbove 0 rc rs Q 16 [some (vr 89), some (vi x1), some (vi x2), some (vi x3), some (vi x4), none, none] [] h from xB k_X12_wordAbove_16 (And.intro (lm_89 hL) (Exists.intro 616 (And.intro (lf_89_8 hL) (And.intro (sdQ (lm_616 hL) c1) (Exists.intro (617 + x1.toNat) (And.intro (lr_members hL (tnl c1)) (have c7 := v5.1; have v8 := v5.2; (And.intro (sdI (lk_members hL (tnl c1)) c7) (And.intro rfl (And.intro rfl v8)))))))))))))))))))
theorem t_X12_wordAbove_30 {rc rs : Nat} {Q : Option AV → AH → Prop} {h : AH} {x1 x2 x3 x4 x5 x6 : Int} (hL : LayM h) (hv : (0 ≤ x5 ∧ x5 < 520) ∧ (((iH h 91 x5.toNat) ≤ x6 → (-2147483648 ≤ (x4 + 1) ∧ (x4 + 1) < 2147483648) ∧ wp mX12_wordAbove 0 rc rs Q 5 [some (vr 89), some (vi x1), some (vi x2), some (vi x3), some (vi (x4 + 1)), none, none] [] h) ∧ (x6 < (iH h 91 x5.toNat) → (0 ≤ x6 ∧ x6 < 12) ∧ (((iH h (93 + x5.toNat) x6.toNat) ≤ x2 → (-2147483648 ≤ (x6 + 1) ∧ (x6 + 1) < 2147483648) ∧ wp mX12_wordAbove 0 rc rs Q 30 [some (vr 89), some (vi x1), some (vi x2), some (vi x3), some (vi x4), some (vi x5), some (vi (x6 + 1))] [] h) ∧ (x2 < (iH h (93 + x5.toNat) x6.toNat) → ((x3 = (-1) → (-2147483648 ≤ (x6 + 1) ∧ (x6 + 1) < 2147483648) ∧ wp mX12_wordAbove 0 rc rs Q 30 [some (vr 89), some (vi x1), some (vi x2), some (vi (iH h (93 + x5.toNat) x6.toNat)), some (vi x4), some (vi x5), some (vi (x6 + 1))] [] h) ∧ (x3 ≠ (-1) → ((x3 ≤ (iH h (93 + x5.toNat) x6.toNat) → (-2147483648 ≤ (x6 + 1) ∧ (x6 + 1) < 2147483648) ∧ wp mX12_wordAbove 0 rc rs Q 30 [some (vr 89), some (vi x1), some (vi x2), some (vi x3), some (vi x4), some (vi x5), some (vi (x6 + 1))] [] h) ∧ ((iH h (93 + x5.toNat) x6.toNat) < x3 → (-2147483648 ≤ (x6 + 1) ∧ (x6 + 1) < 2147483648) ∧ wp mX12_wordAbove 0 rc rs Q 30 [some (vr 89), some (vi x1), some (vi x2), some (vi (iH h (93 + x5.toNat) x6.toNat)), some (vi x4), some (vi x5), some (vi (x6 + 1))] [] h))))))))) : wp mX12_wordAbove 0 rc rs Q 30 [some (vr 89), some (vi x1), some (vi x2), some (vi x3), some (vi x4), some (vi x5), some (vi x6)] [] h :=
  (show wp mX12_wordAbove 0 rc rs Q 30 [some (vr 89), some (vi x1), some (vi x2), some (vi x3), some (vi x4), some (vi x5), some (vi x6)] [] h from xIc k_X12_wordAbove_30 (And.intro (lm_89 hL) (Exists.intro 91 (And.intro (lf_89_2 hL) (have c1 := hv.1; have v37 := hv.2; (And.intro (sdI (lm_91 hL) c1) (And.intro (fun c2 => have v4 := v37.1 c2; (show wp mX12_wordAbove 0 rc rs Q 92 [some (vr 89), some (vi x1), some (vi x2), some (vi x3), some (vi x4), some (vi x5), some (vi x6)] [] h from xGo k_X12_wordAbove_92 (have c6 := v4.1; have v7 := v4.2; (And.intro c6 (And.intro rfl (w_fg [true, true, true, true, true, false, false] v7)))))) (fun c3 => have v5 := v37.2 (Int.not_le.mp c3); (show wp mX12_wordAbove 0 rc rs Q 42 [some (vr 89), some (vi x1), some (vi x2), some (vi x3), some (vi x4), some (vi x5), some (vi x6)] [] h from xIc k_X12_wordAbove_42 (And.intro (lm_89 hL) (Exists.intro 92 (And.intro (lf_89_3 hL) (And.intro (sdQ (lm_92 hL) c1) (Exists.intro (93 + x5.toNat) (And.intro (lr_words hL (tnl c1)) (have c9 := v5.1; have v36 := v5.2; (And.intro (sdI (lk_words hL (tnl c1)) c9) (And.intro (fun c10 => have v12 := v36.1 c10; (show wp mX12_wordAbove 0 rc rs Q 86 [some (vr 89), some (vi x1), some (vi x2), some (vi x3), some (vi x4), some (vi x5), some (vi x6)] [] h from xGo k_X12_wordAbove_86 (have c14 := v12.1; have v15 := v12.2; (And.intro c14 (And.intro rfl v15))))) (fun c11 => have v13 := v36.2 (Int.not_le.mp c11); (show wp mX12_wordAbove 0 rc rs Q 56 [some (vr 89), some (vi x1), some (vi x2), some (vi x3), some (vi x4), some (vi x5), some (vi x6)] [] h from xIc k_X12_wordAbove_56 (And.intro (fun c16 => have v18 := v13.1 c16; (show wp mX12_wordAbove 0 rc rs Q 75 [some (vr 89), some (vi x1), some (vi x2), some (vi x3), some (vi x4), some (vi x5), some (vi x6)] [] h from xGo k_X12_wordAbove_75 (And.intro (lm_89 hL) (Exists.intro 92 (And.intro (lf_89_3 hL) (And.intro (sdQ (lm_92 hL) c1) (Exists.intro (93 + x5.toNat) (And.intro (lr_words hL (tnl c1)) (And.intro (sdI (lk_words hL (tnl c1)) c9) (And.intro rfl (have c22 := v18.1; have v23 := v18.2; (And.intro c22 (And.intro rfl v23))))))))))))) (fun c17 => have v19 := v13.2 c17; (show wp mX12_wordAbove 0 rc rs Q 61 [some (vr 89), some (vi x1), some (vi x2), some (vi x3), some (vi x4), some (vi x5), some (vi x6)] [] h from xIc k_X12_wordAbove_61 (And.intro (lm_89 hL) (Exists.intro 92 (And.intro (lf_89_3 hL) (And.intro (sdQ (lm_92 hL) c1) (Exists.intro (93 + x5.toNat) (And.intro (lr_words hL (tnl c1)) (And.intro (sdI (lk_words hL (tnl c1)) c9) (And.intro (fun c26 => have v28 := v19.1 c26; (show wp mX12_wordAbove 0 rc rs Q 86 [some (vr 89), some (vi x1), some (vi x2), some (vi x3), some (vi x4), some (vi x5), some (vi x6)] [] h from xGo k_X12_wordAbove_86 (have c30 := v28.1; have v31 := v28.2; (And.intro c30 (And.intro rfl v31))))) (fun c27 => have v29 := v19.2 (Int.not_le.mp c27); (show wp mX12_wordAbove 0 rc rs Q 75 [some (vr 89), some (vi x1), some (vi x2), some (vi x3), some (vi x4), some (vi x5), some (vi x6)] [] h from xGo k_X12_wordAbove_75 (And.intro (lm_89 hL) (Exists.intro 92 (And.intro (lf_89_3 hL) (And.intro (sdQ (lm_92 hL) c1) (Exists.intro (93 + x5.toNat) (And.intro (lr_words hL (tnl c1)) (And.intro (sdI (lk_words hL (tnl c1)) c9) (And.intro rfl (have c34 := v29.1; have v35 := v29.2; (And.intro c34 (And.intro rfl v35))))))))))))))))))))))))))))))))))))))))))))
theorem c_wordAbove {h : AH} (hL : LayM h) {g w : Int} (hg' : m_segd h g ∧ 0 ≤ w) : Ct 0 0 0 mX12_wordAbove [vr 89, vi g, vi w] h (QI fun x h' => x = m_nx h g w ∧ h' = h) := by
  obtain ⟨hg, h0⟩ := hg'
  have hl := hg.1.2.1
  refine e_X12_wordAbove hL (up (P := fun k => ∀ x, Abv (m_wd h g) w (fun a b => m_wi h g a b ∧ a < k) x → wp mX12_wordAbove 0 _ _ _ 5 [some (vr 89), some (vi g), some (vi w), some (vi x), some (vi k), none, none] [] h) (iH h 615 g.toNat).toNat ?_ ?_ (-1) (Or.inl ⟨rfl, fun k i q => by omega⟩))
  · intro x hx
    refine t_X12_wordAbove_5 hL ⟨hg.1.1, fun _ => ⟨_, rfl, (m_nx_e (hx.cg fun a b => ⟨fun q => q.1, fun q => ⟨q, by have := q.1; omega⟩⟩)).symm, rfl⟩, fun c => absurd c (by omega)⟩
  · intro k hk ih x hx
    refine t_X12_wordAbove_5 hL ⟨hg.1.1, fun c => absurd c (by omega), fun c => ⟨by omega, ?_⟩⟩
    have hd := hg.2 k c
    have hs := hd.2.1
    refine up (P := fun i => ∀ x, Abv (m_wd h g) w (fun a b => m_wi h g a b ∧ (a < k ∨ (a = k ∧ b < i))) x → wp mX12_wordAbove 0 _ _ _ 30 [some (vr 89), some (vi g), some (vi w), some (vi x), some (vi k), some (vi (iH h (617 + g.toNat) k)), some (vi i)] [] h) (iH h 91 (iH h (617 + g.toNat) k).toNat).toNat ?_ ?_ x (hx.cg fun a b => ⟨fun q => ⟨q.1, Or.inl q.2⟩, fun q => ⟨q.1, by omega⟩⟩)
    · intro x hx
      refine t_X12_wordAbove_30 hL ⟨hd.1, fun _ => ⟨by omega, ih x (hx.cg fun a b => ⟨fun q => ⟨q.1, by omega⟩, fun q => ⟨q.1, ?_⟩⟩)⟩, fun c => absurd c (by omega)⟩
      have h1 := q.1.2
      by_cases e : a = k
      · subst e; exact Or.inr ⟨rfl, by omega⟩
      · exact Or.inl (by omega)
    · intro i hi ih2 x hx
      have e : ∀ a b, (m_wi h g a b ∧ (a < k ∨ (a = k ∧ b < i + 1))) ↔ (m_wi h g a b ∧ (a < k ∨ (a = k ∧ b < i))) ∨ (a = k ∧ b = i) := by
        intro a b
        constructor
        · rintro ⟨q1, q2⟩
          by_cases e : a = k ∧ b = i
          · exact Or.inr e
          · exact Or.inl ⟨q1, by omega⟩
        · rintro (⟨q1, q2⟩ | ⟨rfl, rfl⟩)
          · exact ⟨q1, by omega⟩
          · exact ⟨⟨c, by omega⟩, by omega⟩
      refine t_X12_wordAbove_30 hL ⟨hd.1, fun c => absurd c (by omega), fun c => ⟨by omega, fun c2 => ⟨by omega, ih2 x (hx.old e (Or.inl c2))⟩, fun c2 => ⟨fun c3 => ⟨by omega, ih2 _ (hx.new h0 e c2 (Or.inl c3))⟩, fun c3 => ⟨fun c4 => ⟨by omega, ih2 x (hx.old e (Or.inr ⟨c3, c4⟩))⟩, fun c4 => ⟨by omega, ih2 _ (hx.new h0 e c2 (Or.inr c4))⟩⟩⟩⟩⟩
def b_X12_size_0 : List IE := [(.aload_n 0, 1, 0, 0, 0, 0), (.getfield 48, 3, 0, 12, 14, 1), (.iload_n 1, 1, 0, 0, 1, 0), (.iaload, 1, 0, 0, 0, 0), (.istore_n 2, 1, 0, 0, 2, 0), (.aload_n 0, 1, 0, 0, 0, 0), (.getfield 197, 3, 0, 12, 21, 0), (.iconst 2, 1, 2, 0, 0, 0)]
theorem k_X12_size_0 : ckIc mX12_size 12 0 b_X12_size_0 12 1 9 21 15 = true := by decide +kernel
def b_X12_size_15 : List IE := [(.aload_n 0, 1, 0, 0, 0, 0), (.iload_n 2, 1, 0, 0, 2, 0)]
theorem k_X12_size_15 : ckB mX12_size 12 15 b_X12_size_15 17 = true := by decide +kernel
def b_X12_size_20 : List IE := []
theorem k_X12_size_20 : ckI mX12_size 12 20 b_X12_size_20 20 = true := by decide +kernel
def b_X12_size_21 : List IE := [(.aload_n 0, 1, 0, 0, 0, 0), (.getfield 197, 3, 0, 12, 21, 0), (.iconst 4, 1, 4, 0, 0, 0)]
theorem k_X12_size_21 : ckIc mX12_size 12 21 b_X12_size_21 26 1 20 46 29 = true := by decide +kernel
def b_X12_size_29 : List IE := [(.iconst 0, 1, 0, 0, 0, 0), (.aload_n 0, 1, 0, 0, 0, 0), (.iload_n 2, 1, 0, 0, 2, 0)]
theorem k_X12_size_29 : ckB mX12_size 12 29 b_X12_size_29 32 = true := by decide +kernel
def b_X12_size_35 : List IE := [(.aload_n 0, 1, 0, 0, 0, 0), (.getfield 203, 3, 0, 12, 22, 0), (.isub, 1, 0, 0, 0, 0)]
theorem k_X12_size_35 : ckB mX12_size 12 35 b_X12_size_35 40 = true := by decide +kernel
def b_X12_size_43 : List IE := []
theorem k_X12_size_43 : ckGo mX12_size 12 43 b_X12_size_43 43 9 52 = true := by decide +kernel
def b_X12_size_46 : List IE := [(.aload_n 0, 1, 0, 0, 0, 0), (.getfield 28, 3, 0, 12, 7, 1), (.iload_n 2, 1, 0, 0, 2, 0), (.iaload, 1, 0, 0, 0, 0)]
theorem k_X12_size_46 : ckI mX12_size 12 46 b_X12_size_46 52 = true := by decide +kernel
def b_X12_size_52 : List IE := []
theorem k_X12_size_52 : ckI mX12_size 12 52 b_X12_size_52 52 = true := by decide +kernel
theorem s_X12_size_17 : cV mX12_size 17 mX12_liveOf 200 1 12 := ⟨by decide +kernel, ⟨ml_X12_liveOf, li_RX12_200, im_X12_liveOf, se_X12_liveOf⟩, ⟨by decide +kernel, by decide +kernel⟩, by decide +kernel⟩
theorem s_X12_size_32 : cV mX12_size 32 mX12_liveOf 200 1 12 := ⟨by decide +kernel, ⟨ml_X12_liveOf, li_RX12_200, im_X12_liveOf, se_X12_liveOf⟩, ⟨by decide +kernel, by decide +kernel⟩, by decide +kernel⟩
theorem s_X12_size_40 : cMx mX12_size 40 206 Lib.Math.max.name Lib.Math.max.code 2 := ⟨by decide +kernel, gt_ok (List.mem_of_getElem? (i := 1273) (by decide +kernel)) (by decide +kernel), gt_ok (List.mem_of_getElem? (i := 508) (by decide +kernel)) (by decide +kernel), gt_ok (List.mem_of_getElem? (i := 103) (by decide +kernel)) (by decide +kernel), gt_ok (List.mem_of_getElem? (i := 509) (by decide +kernel)) (by decide +kernel)⟩
theorem t_X12_size_0 {rc rs : Nat} {Q : Option AV → AH → Prop} {h : AH} {x1 : Int} (hL : LayM h) (hv : (0 ≤ x1 ∧ x1 < 8) ∧ (((iH h 89 21) ≠ 2 → (((iH h 89 21) ≠ 4 → (0 ≤ iH h 1155 x1.toNat ∧ iH h 1155 x1.toNat < 520) ∧ Q (some (vi (iH h 615 ((iH h 1155 x1.toNat).toNat)))) h) ∧ ((iH h 89 21) = 4 → (m_seg h (iH h 1155 x1.toNat)) ∧ (-2147483648 ≤ ((m_live h (iH h 1155 x1.toNat)) - iH h 89 22) ∧ ((m_live h (iH h 1155 x1.toNat)) - iH h 89 22) < 2147483648) ∧ Q (some (vi (max 0 ((m_live h (iH h 1155 x1.toNat)) - iH h 89 22)))) h))) ∧ ((iH h 89 21) = 2 → (m_seg h (iH h 1155 x1.toNat)) ∧ Q (some (vi (m_live h (iH h 1155 x1.toNat)))) h))) : wp mX12_size 1 rc rs Q 0 [some (vr 89), some (vi x1), none] [] h :=
  (show wp mX12_size 1 rc rs Q 0 [some (vr 89), some (vi x1), none] [] h from xIc k_X12_size_0 (And.intro (lm_89 hL) (Exists.intro 1155 (And.intro (lf_89_14 hL) (have c1 := hv.1; have v20 := hv.2; (And.intro (sdI (lm_1155 hL) c1) (And.intro rfl (And.intro (lm_89 hL) (And.intro (fun c2 => have v4 := v20.1 c2; (show wp mX12_size 1 rc rs Q 21 [some (vr 89), some (vi x1), some (vi (iH h 1155 x1.toNat))] [] h from xIc k_X12_size_21 (And.intro (lm_89 hL) (And.intro (fun c6 => have v8 := v4.1 c6; (show wp mX12_size 1 rc rs Q 46 [some (vr 89), some (vi x1), some (vi (iH h 1155 x1.toNat))] [] h from xI k_X12_size_46 (And.intro (lm_89 hL) (Exists.intro 615 (And.intro (lf_89_7 hL) (have c10 := v8.1; have v11 := v8.2; (And.intro (sdI (lm_615 hL) c10) (And.intro rfl v11)))))))) (fun c7 => have v9 := v4.2 (Decidable.not_not.mp c7); (show wp mX12_size 1 rc rs Q 29 [some (vr 89), some (vi x1), some (vi (iH h 1155 x1.toNat))] [] h from xcV k_X12_size_29 s_X12_size_32 (have c14 := v9.1; have v15 := v9.2; (Exists.intro [vi (iH h 1155 x1.toNat)] (Exists.intro 89 (Exists.intro [vi 0] (And.intro (And.intro rfl (And.intro rfl (Nat.le_of_ble_eq_true rfl))) (And.intro (lm_89 hL) (Exists.intro 0 (Exists.intro 0 (Exists.intro 0 (Exists.intro _ (And.intro (c_liveOf (h := h) hL c14) (And.intro (And.intro (by decide) (And.intro (Nat.zero_le _) (Nat.zero_le _))) (eQP (show wp mX12_size 1 rc rs Q 35 [some (vr 89), some (vi x1), some (vi (iH h 1155 x1.toNat))] [vi (m_live h (iH h 1155 x1.toNat)), vi 0] h from xMax k_X12_size_35 s_X12_size_40 (And.intro (lm_89 hL) (have c12 := v15.1; have v13 := v15.2; (And.intro c12 (And.intro (And.intro (Nat.le_of_ble_eq_true rfl) (Nat.le_of_ble_eq_true rfl)) (show wp mX12_size 1 rc rs Q 43 [some (vr 89), some (vi x1), some (vi (iH h 1155 x1.toNat))] [vi (max 0 ((m_live h (iH h 1155 x1.toNat)) - iH h 89 22))] h from xGo k_X12_size_43 (show wp mX12_size 1 rc rs Q 52 [some (vr 89), some (vi x1), some (vi (iH h 1155 x1.toNat))] [vi (max 0 ((m_live h (iH h 1155 x1.toNat)) - iH h 89 22))] h from xI k_X12_size_52 (And.intro rfl v13))))))))))))))))))))))))))) (fun c3 => have v5 := v20.2 (Decidable.not_not.mp c3); (show wp mX12_size 1 rc rs Q 15 [some (vr 89), some (vi x1), some (vi (iH h 1155 x1.toNat))] [] h from xcV k_X12_size_15 s_X12_size_17 (have c17 := v5.1; have v18 := v5.2; (Exists.intro [vi (iH h 1155 x1.toNat)] (Exists.intro 89 (Exists.intro [] (And.intro (And.intro rfl (And.intro rfl (Nat.le_of_ble_eq_true rfl))) (And.intro (lm_89 hL) (Exists.intro 0 (Exists.intro 0 (Exists.intro 0 (Exists.intro _ (And.intro (c_liveOf (h := h) hL c17) (And.intro (And.intro (by decide) (And.intro (Nat.zero_le _) (Nat.zero_le _))) (eQP (show wp mX12_size 1 rc rs Q 20 [some (vr 89), some (vi x1), some (vi (iH h 1155 x1.toNat))] [vi (m_live h (iH h 1155 x1.toNat))] h from xI k_X12_size_20 (And.intro rfl v18))))))))))))))))))))))))))
theorem e_X12_size {mc ms : Nat} {Q : Option AV → AH → Prop} {h : AH} {x1 : Int} (hL : LayM h) (hv : (0 ≤ x1 ∧ x1 < 8) ∧ (((iH h 89 21) ≠ 2 → (((iH h 89 21) ≠ 4 → (0 ≤ iH h 1155 x1.toNat ∧ iH h 1155 x1.toNat < 520) ∧ Q (some (vi (iH h 615 ((iH h 1155 x1.toNat).toNat)))) h) ∧ ((iH h 89 21) = 4 → (m_seg h (iH h 1155 x1.toNat)) ∧ (-2147483648 ≤ ((m_live h (iH h 1155 x1.toNat)) - iH h 89 22) ∧ ((m_live h (iH h 1155 x1.toNat)) - iH h 89 22) < 2147483648) ∧ Q (some (vi (max 0 ((m_live h (iH h 1155 x1.toNat)) - iH h 89 22)))) h))) ∧ ((iH h 89 21) = 2 → (m_seg h (iH h 1155 x1.toNat)) ∧ Q (some (vi (m_live h (iH h 1155 x1.toNat)))) h))) : Ct 1 mc ms mX12_size [vr 89, vi x1] h Q := Ct.of (by decide +kernel) (Nat.le_of_ble_eq_true rfl) (t_X12_size_0 hL hv)
noncomputable def m_size (h : AH) (s : Int) : Int := if iH h 89 21 = 2 then m_live h (iH h 1155 s.toNat) else if iH h 89 21 = 4 then max 0 (m_live h (iH h 1155 s.toNat) - iH h 89 22) else iH h 615 (iH h 1155 s.toNat).toNat
def m_sz (h : AH) (s : Int) : Prop := (0 ≤ s ∧ s < 8) ∧ m_seg h (iH h 1155 s.toNat) ∧ (0 ≤ iH h 89 22 ∧ iH h 89 22 ≤ 9)
theorem m_size_bd {h : AH} {s : Int} (hs : m_sz h s) : 0 ≤ m_size h s ∧ m_size h s ≤ 64 := by
  have h1 := m_live_bd hs.2.1
  have h2 := hs.2.1.2.1
  have h3 := hs.2.2
  unfold m_size
  split
  · omega
  · split <;> omega
theorem c_size {h : AH} (hL : LayM h) {s : Int} (hs : m_sz h s) : Ct 1 0 0 mX12_size [vr 89, vi s] h (QI fun x h' => x = m_size h s ∧ h' = h) := by
  have h1 := m_live_bd hs.2.1
  have h2 := hs.2.1.2.1
  have h3 := hs.2.2
  refine e_X12_size hL ⟨hs.1, fun c => ⟨fun c2 => ⟨hs.2.1.1, _, rfl, ?_, rfl⟩, fun c2 => ⟨hs.2.1, by omega, _, rfl, ?_, rfl⟩⟩, fun c => ⟨hs.2.1, _, rfl, ?_, rfl⟩⟩
  · unfold m_size; rw [if_neg c, if_neg c2]
  · unfold m_size; rw [if_neg c, if_pos c2]
  · unfold m_size; rw [if_pos c]
def b_X12_tier_0 : List IE := [(.aload_n 0, 1, 0, 0, 0, 0), (.iload_n 1, 1, 0, 0, 1, 0)]
theorem k_X12_tier_0 : ckB mX12_tier 12 0 b_X12_tier_0 2 = true := by decide +kernel
def b_X12_tier_5 : List IE := [(.istore_n 2, 1, 0, 0, 2, 0), (.iload_n 2, 1, 0, 0, 2, 0), (.iconst 2, 1, 2, 0, 0, 0)]
theorem k_X12_tier_5 : ckIc mX12_tier 12 5 b_X12_tier_5 8 4 7 15 11 = true := by decide +kernel
def b_X12_tier_11 : List IE := [(.iconst 0, 1, 0, 0, 0, 0)]
theorem k_X12_tier_11 : ckGo mX12_tier 12 11 b_X12_tier_11 12 24 36 = true := by decide +kernel
def b_X12_tier_15 : List IE := [(.iload_n 2, 1, 0, 0, 2, 0), (.bipush 6, 2, 6, 0, 0, 0)]
theorem k_X12_tier_15 : ckIc mX12_tier 12 15 b_X12_tier_15 18 4 7 25 21 = true := by decide +kernel
def b_X12_tier_21 : List IE := [(.iconst 1, 1, 1, 0, 0, 0)]
theorem k_X12_tier_21 : ckGo mX12_tier 12 21 b_X12_tier_21 22 14 36 = true := by decide +kernel
def b_X12_tier_25 : List IE := [(.iload_n 2, 1, 0, 0, 2, 0), (.bipush 14, 2, 14, 0, 0, 0)]
theorem k_X12_tier_25 : ckIc mX12_tier 12 25 b_X12_tier_25 28 4 7 35 31 = true := by decide +kernel
def b_X12_tier_31 : List IE := [(.iconst 2, 1, 2, 0, 0, 0)]
theorem k_X12_tier_31 : ckGo mX12_tier 12 31 b_X12_tier_31 32 4 36 = true := by decide +kernel
def b_X12_tier_35 : List IE := [(.iconst 3, 1, 3, 0, 0, 0)]
theorem k_X12_tier_35 : ckI mX12_tier 12 35 b_X12_tier_35 36 = true := by decide +kernel
def b_X12_tier_36 : List IE := []
theorem k_X12_tier_36 : ckI mX12_tier 12 36 b_X12_tier_36 36 = true := by decide +kernel
theorem s_X12_tier_2 : cV mX12_tier 2 mX12_size 211 1 12 := ⟨by decide +kernel, ⟨ml_X12_size, li_RX12_211, im_X12_size, se_X12_size⟩, ⟨by decide +kernel, by decide +kernel⟩, by decide +kernel⟩
theorem t_X12_tier_0 {rc rs : Nat} {Q : Option AV → AH → Prop} {h : AH} {x1 : Int} (hL : LayM h) (hv : (m_sz h x1) ∧ ((2 < (m_size h x1) → ((6 < (m_size h x1) → ((14 < (m_size h x1) → Q (some (vi 3)) h) ∧ ((m_size h x1) ≤ 14 → Q (some (vi 2)) h))) ∧ ((m_size h x1) ≤ 6 → Q (some (vi 1)) h))) ∧ ((m_size h x1) ≤ 2 → Q (some (vi 0)) h))) : wp mX12_tier 2 rc rs Q 0 [some (vr 89), some (vi x1), none] [] h :=
  (show wp mX12_tier 2 rc rs Q 0 [some (vr 89), some (vi x1), none] [] h from xcV k_X12_tier_0 s_X12_tier_2 (have c13 := hv.1; have v14 := hv.2; (Exists.intro [vi x1] (Exists.intro 89 (Exists.intro [] (And.intro (And.intro rfl (And.intro rfl (Nat.le_of_ble_eq_true rfl))) (And.intro (lm_89 hL) (Exists.intro 1 (Exists.intro 0 (Exists.intro 0 (Exists.intro _ (And.intro (c_size (h := h) hL c13) (And.intro (And.intro (by decide) (And.intro (Nat.zero_le _) (Nat.zero_le _))) (eQP (show wp mX12_tier 2 rc rs Q 5 [some (vr 89), some (vi x1), none] [vi (m_size h x1)] h from xIc k_X12_tier_5 (And.intro rfl (And.intro (fun c1 => have v3 := v14.1 c1; (show wp mX12_tier 2 rc rs Q 15 [some (vr 89), some (vi x1), some (vi (m_size h x1))] [] h from xIc k_X12_tier_15 (And.intro (fun c5 => have v7 := v3.1 c5; (show wp mX12_tier 2 rc rs Q 25 [some (vr 89), some (vi x1), some (vi (m_size h x1))] [] h from xIc k_X12_tier_25 (And.intro (fun c9 => have v11 := v7.1 c9; (show wp mX12_tier 2 rc rs Q 35 [some (vr 89), some (vi x1), some (vi (m_size h x1))] [] h from xI k_X12_tier_35 (And.intro rfl v11))) (fun c10 => have v12 := v7.2 (Int.not_lt.mp c10); (show wp mX12_tier 2 rc rs Q 31 [some (vr 89), some (vi x1), some (vi (m_size h x1))] [] h from xGo k_X12_tier_31 (show wp mX12_tier 2 rc rs Q 36 [some (vr 89), some (vi x1), some (vi (m_size h x1))] [vi 2] h from xI k_X12_tier_36 (And.intro rfl v12))))))) (fun c6 => have v8 := v3.2 (Int.not_lt.mp c6); (show wp mX12_tier 2 rc rs Q 21 [some (vr 89), some (vi x1), some (vi (m_size h x1))] [] h from xGo k_X12_tier_21 (show wp mX12_tier 2 rc rs Q 36 [some (vr 89), some (vi x1), some (vi (m_size h x1))] [vi 1] h from xI k_X12_tier_36 (And.intro rfl v8))))))) (fun c2 => have v4 := v14.2 (Int.not_lt.mp c2); (show wp mX12_tier 2 rc rs Q 11 [some (vr 89), some (vi x1), some (vi (m_size h x1))] [] h from xGo k_X12_tier_11 (show wp mX12_tier 2 rc rs Q 36 [some (vr 89), some (vi x1), some (vi (m_size h x1))] [vi 0] h from xI k_X12_tier_36 (And.intro rfl v4)))))))))))))))))))))
theorem e_X12_tier {mc ms : Nat} {Q : Option AV → AH → Prop} {h : AH} {x1 : Int} (hL : LayM h) (hv : (m_sz h x1) ∧ ((2 < (m_size h x1) → ((6 < (m_size h x1) → ((14 < (m_size h x1) → Q (some (vi 3)) h) ∧ ((m_size h x1) ≤ 14 → Q (some (vi 2)) h))) ∧ ((m_size h x1) ≤ 6 → Q (some (vi 1)) h))) ∧ ((m_size h x1) ≤ 2 → Q (some (vi 0)) h))) : Ct 2 mc ms mX12_tier [vr 89, vi x1] h Q := Ct.of (by decide +kernel) (Nat.le_of_ble_eq_true rfl) (t_X12_tier_0 hL hv)
def b_X12_liveIn_0 : List IE := [(.iconst 0, 1, 0, 0, 0, 0), (.istore_n 3, 1, 0, 0, 3, 0), (.iload_n 1, 1, 0, 0, 1, 0), (.istore 4, 2, 0, 0, 4, 0)]
theorem k_X12_liveIn_0 : ckB mX12_liveIn 12 0 b_X12_liveIn_0 5 = true := by decide +kernel
def b_X12_liveIn_5 : List IE := [(.iload 4, 2, 0, 0, 4, 0), (.iload_n 1, 1, 0, 0, 1, 0), (.iload_n 2, 1, 0, 0, 2, 0), (.iadd, 1, 0, 0, 0, 0)]
theorem k_X12_liveIn_5 : ckIc mX12_liveIn 12 5 b_X12_liveIn_5 10 3 23 33 13 = true := by decide +kernel
def b_X12_liveIn_13 : List IE := [(.iload_n 3, 1, 0, 0, 3, 0), (.aload_n 0, 1, 0, 0, 0, 0), (.aload_n 0, 1, 0, 0, 0, 0), (.getfield 48, 3, 0, 12, 14, 1), (.iload 4, 2, 0, 0, 4, 0), (.iaload, 1, 0, 0, 0, 0)]
theorem k_X12_liveIn_13 : ckB mX12_liveIn 12 13 b_X12_liveIn_13 22 = true := by decide +kernel
def b_X12_liveIn_25 : List IE := [(.iadd, 1, 0, 0, 0, 0), (.istore_n 3, 1, 0, 0, 3, 0), (.iinc 4 1, 3, 1, 0, 4, 0)]
theorem k_X12_liveIn_25 : ckGo mX12_liveIn 12 25 b_X12_liveIn_25 30 (-25) 5 = true := by decide +kernel
def b_X12_liveIn_33 : List IE := [(.iload_n 3, 1, 0, 0, 3, 0)]
theorem k_X12_liveIn_33 : ckI mX12_liveIn 12 33 b_X12_liveIn_33 34 = true := by decide +kernel
theorem s_X12_liveIn_22 : cV mX12_liveIn 22 mX12_liveOf 200 1 12 := ⟨by decide +kernel, ⟨ml_X12_liveOf, li_RX12_200, im_X12_liveOf, se_X12_liveOf⟩, ⟨by decide +kernel, by decide +kernel⟩, by decide +kernel⟩
theorem t_X12_liveIn_0 {rc rs : Nat} {Q : Option AV → AH → Prop} {h : AH} {x1 x2 : Int} (hL : LayM h) (hv : wp mX12_liveIn 1 rc rs Q 5 [some (vr 89), some (vi x1), some (vi x2), some (vi 0), some (vi x1)] [] h) : wp mX12_liveIn 1 rc rs Q 0 [some (vr 89), some (vi x1), some (vi x2), none, none] [] h :=
  (show wp mX12_liveIn 1 rc rs Q 0 [some (vr 89), some (vi x1), some (vi x2), none, none] [] h from xB k_X12_liveIn_0 (And.intro rfl (And.intro rfl hv)))
theorem e_X12_liveIn {mc ms : Nat} {Q : Option AV → AH → Prop} {h : AH} {x1 x2 : Int} (hL : LayM h) (hv : wp mX12_liveIn 1 mc ms Q 5 [some (vr 89), some (vi x1), some (vi x2), some (vi 0), some (vi x1)] [] h) : Ct 1 mc ms mX12_liveIn [vr 89, vi x1, vi x2] h Q := Ct.of (by decide +kernel) (Nat.le_of_ble_eq_true rfl) (t_X12_liveIn_0 hL hv)
theorem t_X12_liveIn_5 {rc rs : Nat} {Q : Option AV → AH → Prop} {h : AH} {x1 x2 x3 x4 : Int} (hL : LayM h) (hv : (-2147483648 ≤ (x1 + x2) ∧ (x1 + x2) < 2147483648) ∧ (((x1 + x2) ≤ x4 → Q (some (vi x3)) h) ∧ (x4 < (x1 + x2) → (0 ≤ x4 ∧ x4 < 8) ∧ (m_seg h (iH h 1155 x4.toNat)) ∧ (-2147483648 ≤ (x3 + (m_live h (iH h 1155 x4.toNat))) ∧ (x3 + (m_live h (iH h 1155 x4.toNat))) < 2147483648) ∧ (-2147483648 ≤ (x4 + 1) ∧ (x4 + 1) < 2147483648) ∧ wp mX12_liveIn 1 rc rs Q 5 [some (vr 89), some (vi x1), some (vi x2), some (vi (x3 + (m_live h (iH h 1155 x4.toNat)))), some (vi (x4 + 1))] [] h))) : wp mX12_liveIn 1 rc rs Q 5 [some (vr 89), some (vi x1), some (vi x2), some (vi x3), some (vi x4)] [] h :=
  (show wp mX12_liveIn 1 rc rs Q 5 [some (vr 89), some (vi x1), some (vi x2), some (vi x3), some (vi x4)] [] h from xIc k_X12_liveIn_5 (have c1 := hv.1; have v15 := hv.2; (And.intro c1 (And.intro (fun c2 => have v4 := v15.1 c2; (show wp mX12_liveIn 1 rc rs Q 33 [some (vr 89), some (vi x1), some (vi x2), some (vi x3), some (vi x4)] [] h from xI k_X12_liveIn_33 (And.intro rfl v4))) (fun c3 => have v5 := v15.2 (Int.not_le.mp c3); (show wp mX12_liveIn 1 rc rs Q 13 [some (vr 89), some (vi x1), some (vi x2), some (vi x3), some (vi x4)] [] h from xcV k_X12_liveIn_13 s_X12_liveIn_22 (And.intro (lm_89 hL) (Exists.intro 1155 (And.intro (lf_89_14 hL) (have c6 := v5.1; have v14 := v5.2; (And.intro (sdI (lm_1155 hL) c6) (have c11 := v14.1; have v12 := v14.2; (Exists.intro [vi (iH h 1155 x4.toNat)] (Exists.intro 89 (Exists.intro [vi x3] (And.intro (And.intro rfl (And.intro rfl (Nat.le_of_ble_eq_true rfl))) (And.intro (lm_89 hL) (Exists.intro 0 (Exists.intro 0 (Exists.intro 0 (Exists.intro _ (And.intro (c_liveOf (h := h) hL c11) (And.intro (And.intro (by decide) (And.intro (Nat.zero_le _) (Nat.zero_le _))) (eQP (show wp mX12_liveIn 1 rc rs Q 25 [some (vr 89), some (vi x1), some (vi x2), some (vi x3), some (vi x4)] [vi (m_live h (iH h 1155 x4.toNat)), vi x3] h from xGo k_X12_liveIn_25 (have c7 := v12.1; have v10 := v12.2; (And.intro c7 (And.intro rfl (have c8 := v10.1; have v9 := v10.2; (And.intro c8 (And.intro rfl v9)))))))))))))))))))))))))))))))
noncomputable def m_tier (h : AH) (s : Int) : Int := if m_size h s ≤ 2 then 0 else if m_size h s ≤ 6 then 1 else if m_size h s ≤ 14 then 2 else 3
theorem c_tier {h : AH} (hL : LayM h) {s : Int} (hs : m_sz h s) : Ct 2 0 0 mX12_tier [vr 89, vi s] h (QI fun x h' => x = m_tier h s ∧ h' = h) := by
  refine e_X12_tier hL ⟨hs, fun c => ⟨fun c2 => ⟨fun c3 => ⟨_, rfl, ?_, rfl⟩, fun c3 => ⟨_, rfl, ?_, rfl⟩⟩, fun c2 => ⟨_, rfl, ?_, rfl⟩⟩, fun c => ⟨_, rfl, ?_, rfl⟩⟩
  · unfold m_tier; rw [if_neg (by omega), if_neg (by omega), if_neg (by omega)]
  · unfold m_tier; rw [if_neg (by omega), if_neg (by omega), if_pos (by omega)]
  · unfold m_tier; rw [if_neg (by omega), if_pos (by omega)]
  · unfold m_tier; rw [if_pos (by omega)]
theorem m_tier_bd (h : AH) (s : Int) : 0 ≤ m_tier h s ∧ m_tier h s ≤ 3 := by
  unfold m_tier
  split
  · omega
  · split
    · omega
    · split <;> omega
def m_rng (h : AH) (a n : Int) : Prop := 0 ≤ a ∧ 0 ≤ n ∧ a + n ≤ 8 ∧ ∀ s : Nat, a ≤ (s : Int) → (s : Int) < a + n → m_seg h (iH h 1155 s)
noncomputable def m_liveIn (h : AH) (a n : Int) : Int := sumN (fun i => m_live h (iH h 1155 (a.toNat + i))) n.toNat
theorem m_liveIn_bd' {h : AH} {a n : Int} (hr : m_rng h a n) (k : Nat) (hk : (k : Int) ≤ n) : 0 ≤ sumN (fun i => m_live h (iH h 1155 (a.toNat + i))) k ∧ sumN (fun i => m_live h (iH h 1155 (a.toNat + i))) k ≤ (k : Int) * 64 := by
  have h1 := hr.1
  refine sumN_bd _ 64 (by omega) k fun j hj => ?_
  have hs := hr.2.2.2 (a.toNat + j) (by omega) (by omega)
  have := m_live_bd hs
  have := hs.2.1
  omega
theorem m_liveIn_bd {h : AH} {a n : Int} (hr : m_rng h a n) : 0 ≤ m_liveIn h a n ∧ m_liveIn h a n ≤ 512 := by
  have h1 := m_liveIn_bd' hr n.toNat (by have := hr.2.1; omega)
  have h2 := hr.2.2.1
  have h3 := hr.1
  unfold m_liveIn; omega
theorem c_liveIn {h : AH} (hL : LayM h) {a n : Int} (hr : m_rng h a n) : Ct 1 0 0 mX12_liveIn [vr 89, vi a, vi n] h (QI fun x h' => x = m_liveIn h a n ∧ h' = h) := by
  have h1 := hr.1
  have h2 := hr.2.1
  have h3 := hr.2.2.1
  have e0 : a = a + ((0 : Nat) : Int) := by omega
  have key : ∀ k : Nat, (k : Int) < n → (a + (k : Int)).toNat = a.toNat + k := fun k hk => by omega
  refine e_X12_liveIn hL ?_
  have := up (P := fun k => wp mX12_liveIn 1 0 0 (QI fun x h' => x = m_liveIn h a n ∧ h' = h) 5 [some (vr 89), some (vi a), some (vi n), some (vi (sumN (fun i => m_live h (iH h 1155 (a.toNat + i))) k)), some (vi (a + (k : Int)))] [] h) n.toNat ?_ ?_
  · rw [← e0] at this; exact this
  · exact t_X12_liveIn_5 hL ⟨by omega, fun _ => ⟨_, rfl, rfl, rfl⟩, fun c => absurd c (by omega)⟩
  · intro k hk ih
    have hs := hr.2.2.2 (a.toNat + k) (by omega) (by omega)
    have hb := m_liveIn_bd' hr k (by omega)
    have hm := m_live_bd hs
    have hm2 := hs.2.1
    refine t_X12_liveIn_5 hL ?_
    rw [key k (by omega)]
    refine ⟨by omega, fun c => absurd c (by omega), fun c => ⟨by omega, hs, by omega, by omega, ?_⟩⟩
    rw [show a + (k : Int) + 1 = a + ((k + 1 : Nat) : Int) by omega]
    exact ih
def b_X12_near_0 : List IE := [(.iconst 0, 1, 0, 0, 0, 0), (.istore 4, 2, 0, 0, 4, 0), (.iconst 0, 1, 0, 0, 0, 0), (.istore 5, 2, 0, 0, 5, 0)]
theorem k_X12_near_0 : ckB mX12_near 12 0 b_X12_near_0 6 = true := by decide +kernel
def b_X12_near_6 : List IE := [(.iload 5, 2, 0, 0, 5, 0), (.aload_n 0, 1, 0, 0, 0, 0), (.getfield 13, 3, 0, 12, 2, 1), (.iload_n 1, 1, 0, 0, 1, 0), (.iaload, 1, 0, 0, 0, 0)]
theorem k_X12_near_6 : ckIc mX12_near 12 6 b_X12_near_6 14 3 77 91 17 = true := by decide +kernel
def b_X12_near_17 : List IE := [(.iconst 0, 1, 0, 0, 0, 0), (.istore 6, 2, 0, 0, 6, 0)]
theorem k_X12_near_17 : ckB mX12_near 12 17 b_X12_near_17 20 = true := by decide +kernel
def b_X12_near_20 : List IE := [(.iload 6, 2, 0, 0, 6, 0), (.aload_n 0, 1, 0, 0, 0, 0), (.getfield 13, 3, 0, 12, 2, 1), (.iload_n 1, 1, 0, 0, 1, 0), (.iaload, 1, 0, 0, 0, 0)]
theorem k_X12_near_20 : ckIc mX12_near 12 20 b_X12_near_20 28 3 57 85 31 = true := by decide +kernel
def b_X12_near_31 : List IE := [(.iload 5, 2, 0, 0, 5, 0), (.iload 6, 2, 0, 0, 6, 0)]
theorem k_X12_near_31 : ckIc mX12_near 12 31 b_X12_near_31 35 0 44 79 38 = true := by decide +kernel
def b_X12_near_38 : List IE := [(.iload 5, 2, 0, 0, 5, 0), (.iload 6, 2, 0, 0, 6, 0), (.isub, 1, 0, 0, 0, 0)]
theorem k_X12_near_38 : ckB mX12_near 12 38 b_X12_near_38 43 = true := by decide +kernel
def b_X12_near_46 : List IE := [(.iconst 3, 1, 3, 0, 0, 0)]
theorem k_X12_near_46 : ckIc mX12_near 12 46 b_X12_near_46 47 4 32 79 50 = true := by decide +kernel
def b_X12_near_50 : List IE := [(.aload_n 0, 1, 0, 0, 0, 0), (.getfield 18, 3, 0, 12, 3, 1), (.iload_n 1, 1, 0, 0, 1, 0), (.aaload, 1, 0, 0, 0, 0), (.iload 5, 2, 0, 0, 5, 0), (.iaload, 1, 0, 0, 0, 0), (.iload_n 2, 1, 0, 0, 2, 0)]
theorem k_X12_near_50 : ckIc mX12_near 12 50 b_X12_near_50 60 1 19 79 63 = true := by decide +kernel
def b_X12_near_63 : List IE := [(.aload_n 0, 1, 0, 0, 0, 0), (.getfield 18, 3, 0, 12, 3, 1), (.iload_n 1, 1, 0, 0, 1, 0), (.aaload, 1, 0, 0, 0, 0), (.iload 6, 2, 0, 0, 6, 0), (.iaload, 1, 0, 0, 0, 0), (.iload_n 3, 1, 0, 0, 3, 0)]
theorem k_X12_near_63 : ckIc mX12_near 12 63 b_X12_near_63 73 1 6 79 76 = true := by decide +kernel
def b_X12_near_76 : List IE := [(.iinc 4 1, 3, 1, 0, 4, 0), (.iinc 6 1, 3, 1, 0, 6, 0)]
theorem k_X12_near_76 : ckGo mX12_near 12 76 b_X12_near_76 82 (-62) 20 = true := by decide +kernel
def b_X12_near_79 : List IE := [(.iinc 6 1, 3, 1, 0, 6, 0)]
theorem k_X12_near_79 : ckGo mX12_near 12 79 b_X12_near_79 82 (-62) 20 = true := by decide +kernel
def b_X12_near_85 : List IE := [(.iinc 5 1, 3, 1, 0, 5, 0)]
theorem k_X12_near_85 : ckGo mX12_near 12 85 b_X12_near_85 88 (-82) 6 = true := by decide +kernel
def b_X12_near_91 : List IE := [(.iload 4, 2, 0, 0, 4, 0)]
theorem k_X12_near_91 : ckI mX12_near 12 91 b_X12_near_91 93 = true := by decide +kernel
theorem s_X12_near_43 : cMx mX12_near 43 345 Lib.Math.abs.name Lib.Math.abs.code 1 := ⟨by decide +kernel, gt_ok (List.mem_of_getElem? (i := 1501) (by decide +kernel)) (by decide +kernel), gt_ok (List.mem_of_getElem? (i := 1502) (by decide +kernel)) (by decide +kernel), gt_ok (List.mem_of_getElem? (i := 103) (by decide +kernel)) (by decide +kernel), gt_ok (List.mem_of_getElem? (i := 1503) (by decide +kernel)) (by decide +kernel)⟩
theorem t_X12_near_0 {rc rs : Nat} {Q : Option AV → AH → Prop} {h : AH} {x1 x2 x3 : Int} (hL : LayM h) (hv : wp mX12_near 1 rc rs Q 6 [some (vr 89), some (vi x1), some (vi x2), some (vi x3), some (vi 0), some (vi 0), none] [] h) : wp mX12_near 1 rc rs Q 0 [some (vr 89), some (vi x1), some (vi x2), some (vi x3), none, none, none] [] h :=
  (show wp mX12_near 1 rc rs Q 0 [some (vr 89), some (vi x1), some (vi x2), some (vi x3), none, none, none] [] h from xB k_X12_near_0 (And.intro rfl (And.intro rfl hv)))
theorem e_X12_near {mc ms : Nat} {Q : Option AV → AH → Prop} {h : AH} {x1 x2 x3 : Int} (hL : LayM h) (hv : wp mX12_near 1 mc ms Q 6 [some (vr 89), some (vi x1), some (vi x2), some (vi x3), some (vi 0), some (vi 0), none] [] h) : Ct 1 mc ms mX12_near [vr 89, vi x1, vi x2, vi x3] h Q := Ct.of (by decide +kernel) (Nat.le_of_ble_eq_true rfl) (t_X12_near_0 hL hv)
theorem t_X12_near_6 {rc rs : Nat} {Q : Option AV → AH → Prop} {h : AH} {x1 x2 x3 x4 x5 : Int} (hL : LayM h) (hv : (0 ≤ x1 ∧ x1 < 520) ∧ (((iH h 91 x1.toNat) ≤ x5 → Q (some (vi x4)) h) ∧ (x5 < (iH h 91 x1.toNat) → wp mX12_near 1 rc rs Q 20 [some (vr 89), some (vi x1), some (vi x2), some (vi x3), some (vi x4), some (vi x5), some (vi 0)] [] h))) : wp mX12_near 1 rc rs Q 6 [some (vr 89), some (vi x1), some (vi x2), some (vi x3), some (vi x4), some (vi x5), none] [] h :=
  (show wp mX12_near 1 rc rs Q 6 [some (vr 89), some (vi x1), some (vi x2), some (vi x3), some (vi x4), some (vi x5), none] [] h from xIc k_X12_near_6 (And.intro (lm_89 hL) (Exists.intro 91 (And.intro (lf_89_2 hL) (have c1 := hv.1; have v6 := hv.2; (And.intro (sdI (lm_91 hL) c1) (And.intro (fun c2 => have v4 := v6.1 c2; (show wp mX12_near 1 rc rs Q 91 [some (vr 89), some (vi x1), some (vi x2), some (vi x3), some (vi x4), some (vi x5), none] [] h from xI k_X12_near_91 (And.intro rfl v4))) (fun c3 => have v5 := v6.2 (Int.not_le.mp c3); (show wp mX12_near 1 rc rs Q 17 [some (vr 89), some (vi x1), some (vi x2), some (vi x3), some (vi x4), some (vi x5), none] [] h from xB k_X12_near_17 (And.intro rfl v5))))))))))
theorem t_X12_near_20 {rc rs : Nat} {Q : Option AV → AH → Prop} {h : AH} {x1 x2 x3 x4 x5 x6 : Int} (hL : LayM h) (hv : (0 ≤ x1 ∧ x1 < 520) ∧ (((iH h 91 x1.toNat) ≤ x6 → (-2147483648 ≤ (x5 + 1) ∧ (x5 + 1) < 2147483648) ∧ wp mX12_near 1 rc rs Q 6 [some (vr 89), some (vi x1), some (vi x2), some (vi x3), some (vi x4), some (vi (x5 + 1)), none] [] h) ∧ (x6 < (iH h 91 x1.toNat) → ((x5 = x6 → (-2147483648 ≤ (x6 + 1) ∧ (x6 + 1) < 2147483648) ∧ wp mX12_near 1 rc rs Q 20 [some (vr 89), some (vi x1), some (vi x2), some (vi x3), some (vi x4), some (vi x5), some (vi (x6 + 1))] [] h) ∧ (x5 ≠ x6 → (-2147483648 ≤ (x5 - x6) ∧ (x5 - x6) < 2147483648) ∧ ((-2147483648 ≤ (-(x5 - x6)) ∧ (-(x5 - x6)) < 2147483648) ∧ ((3 < (max (x5 - x6) (-(x5 - x6))) → (-2147483648 ≤ (x6 + 1) ∧ (x6 + 1) < 2147483648) ∧ wp mX12_near 1 rc rs Q 20 [some (vr 89), some (vi x1), some (vi x2), some (vi x3), some (vi x4), some (vi x5), some (vi (x6 + 1))] [] h) ∧ ((max (x5 - x6) (-(x5 - x6))) ≤ 3 → (0 ≤ x5 ∧ x5 < 12) ∧ (((iH h (93 + x1.toNat) x5.toNat) ≠ x2 → (-2147483648 ≤ (x6 + 1) ∧ (x6 + 1) < 2147483648) ∧ wp mX12_near 1 rc rs Q 20 [some (vr 89), some (vi x1), some (vi x2), some (vi x3), some (vi x4), some (vi x5), some (vi (x6 + 1))] [] h) ∧ ((iH h (93 + x1.toNat) x5.toNat) = x2 → (0 ≤ x6 ∧ x6 < 12) ∧ (((iH h (93 + x1.toNat) x6.toNat) ≠ x3 → (-2147483648 ≤ (x6 + 1) ∧ (x6 + 1) < 2147483648) ∧ wp mX12_near 1 rc rs Q 20 [some (vr 89), some (vi x1), some (vi x2), some (vi x3), some (vi x4), some (vi x5), some (vi (x6 + 1))] [] h) ∧ ((iH h (93 + x1.toNat) x6.toNat) = x3 → (-2147483648 ≤ (x4 + 1) ∧ (x4 + 1) < 2147483648) ∧ (-2147483648 ≤ (x6 + 1) ∧ (x6 + 1) < 2147483648) ∧ wp mX12_near 1 rc rs Q 20 [some (vr 89), some (vi x1), some (vi x2), some (vi x3), some (vi (x4 + 1)), some (vi x5), some (vi (x6 + 1))] [] h)))))))))))) : wp mX12_near 1 rc rs Q 20 [some (vr 89), some (vi x1), some (vi x2), some (vi x3), some (vi x4), some (vi x5), some (vi x6)] [] h :=
  (show wp mX12_near 1 rc rs Q 20 [some (vr 89), some (vi x1), some (vi x2), some (vi x3), some (vi x4), some (vi x5), some (vi x6)] [] h from xIc k_X12_near_20 (And.intro (lm_89 hL) (Exists.intro 91 (And.intro (lf_89_2 hL) (have c1 := hv.1; have v45 := hv.2; (And.intro (sdI (lm_91 hL) c1) (And.intro (fun c2 => have v4 := v45.1 c2; (show wp mX12_near 1 rc rs Q 85 [some (vr 89), some (vi x1), some (vi x2), some (vi x3), some (vi x4), some (vi x5), some (vi x6)] [] h from xGo k_X12_near_85 (have c6 := v4.1; have v7 := v4.2; (And.intro c6 (And.intro rfl (w_fg [true, true, true, true, true, true, false] v7)))))) (fun c3 => have v5 := v45.2 (Int.not_le.mp c3); (show wp mX12_near 1 rc rs Q 31 [some (vr 89), some (vi x1), some (vi x2), some (vi x3), some (vi x4), some (vi x5), some (vi x6)] [] h from xIc k_X12_near_31 (And.intro (fun c8 => have v10 := v5.1 c8; (show wp mX12_near 1 rc rs Q 79 [some (vr 89), some (vi x1), some (vi x2), some (vi x3), some (vi x4), some (vi x5), some (vi x6)] [] h from xGo k_X12_near_79 (have c12 := v10.1; have v13 := v10.2; (And.intro c12 (And.intro rfl v13))))) (fun c9 => have v11 := v5.2 c9; (show wp mX12_near 1 rc rs Q 38 [some (vr 89), some (vi x1), some (vi x2), some (vi x3), some (vi x4), some (vi x5), some (vi x6)] [] h from xAbs k_X12_near_38 s_X12_near_43 (have c14 := v11.1; have v44 := v11.2; (And.intro c14 (have v43 := v44.2; And.intro (And.intro (Nat.le_of_ble_eq_true rfl) (Nat.le_of_ble_eq_true rfl)) (And.intro v44.1 (show wp mX12_near 1 rc rs Q 46 [some (vr 89), some (vi x1), some (vi x2), some (vi x3), some (vi x4), some (vi x5), some (vi x6)] [vi (max (x5 - x6) (-(x5 - x6)))] h from xIc k_X12_near_46 (And.intro (fun c15 => have v17 := v43.1 c15; (show wp mX12_near 1 rc rs Q 79 [some (vr 89), some (vi x1), some (vi x2), some (vi x3), some (vi x4), some (vi x5), some (vi x6)] [] h from xGo k_X12_near_79 (have c19 := v17.1; have v20 := v17.2; (And.intro c19 (And.intro rfl v20))))) (fun c16 => have v18 := v43.2 (Int.not_lt.mp c16); (show wp mX12_near 1 rc rs Q 50 [some (vr 89), some (vi x1), some (vi x2), some (vi x3), some (vi x4), some (vi x5), some (vi x6)] [] h from xIc k_X12_near_50 (And.intro (lm_89 hL) (Exists.intro 92 (And.intro (lf_89_3 hL) (And.intro (sdQ (lm_92 hL) c1) (Exists.intro (93 + x1.toNat) (And.intro (lr_words hL (tnl c1)) (have c22 := v18.1; have v42 := v18.2; (And.intro (sdI (lk_words hL (tnl c1)) c22) (And.intro (fun c23 => have v25 := v42.1 c23; (show wp mX12_near 1 rc rs Q 79 [some (vr 89), some (vi x1), some (vi x2), some (vi x3), some (vi x4), some (vi x5), some (vi x6)] [] h from xGo k_X12_near_79 (have c27 := v25.1; have v28 := v25.2; (And.intro c27 (And.intro rfl v28))))) (fun c24 => have v26 := v42.2 (Decidable.not_not.mp c24); (show wp mX12_near 1 rc rs Q 63 [some (vr 89), some (vi x1), some (vi x2), some (vi x3), some (vi x4), some (vi x5), some (vi x6)] [] h from xIc k_X12_near_63 (And.intro (lm_89 hL) (Exists.intro 92 (And.intro (lf_89_3 hL) (And.intro (sdQ (lm_92 hL) c1) (Exists.intro (93 + x1.toNat) (And.intro (lr_words hL (tnl c1)) (have c30 := v26.1; have v41 := v26.2; (And.intro (sdI (lk_words hL (tnl c1)) c30) (And.intro (fun c31 => have v33 := v41.1 c31; (show wp mX12_near 1 rc rs Q 79 [some (vr 89), some (vi x1), some (vi x2), some (vi x3), some (vi x4), some (vi x5), some (vi x6)] [] h from xGo k_X12_near_79 (have c35 := v33.1; have v36 := v33.2; (And.intro c35 (And.intro rfl v36))))) (fun c32 => have v34 := v41.2 (Decidable.not_not.mp c32); (show wp mX12_near 1 rc rs Q 76 [some (vr 89), some (vi x1), some (vi x2), some (vi x3), some (vi x4), some (vi x5), some (vi x6)] [] h from xGo k_X12_near_76 (have c37 := v34.1; have v40 := v34.2; (And.intro c37 (And.intro rfl (have c38 := v40.1; have v39 := v40.2; (And.intro c38 (And.intro rfl v39))))))))))))))))))))))))))))))))))))))))))))))))
def b_X12_timesBegun_0 : List IE := [(.iconst 0, 1, 0, 0, 0, 0), (.istore 4, 2, 0, 0, 4, 0), (.iconst 0, 1, 0, 0, 0, 0), (.istore 5, 2, 0, 0, 5, 0)]
theorem k_X12_timesBegun_0 : ckB mX12_timesBegun 12 0 b_X12_timesBegun_0 6 = true := by decide +kernel
def b_X12_timesBegun_6 : List IE := [(.iload 5, 2, 0, 0, 5, 0), (.aload_n 0, 1, 0, 0, 0, 0), (.getfield 13, 3, 0, 12, 2, 1), (.iload_n 1, 1, 0, 0, 1, 0), (.iaload, 1, 0, 0, 0, 0)]
theorem k_X12_timesBegun_6 : ckIc mX12_timesBegun 12 6 b_X12_timesBegun_6 14 3 29 43 17 = true := by decide +kernel
def b_X12_timesBegun_17 : List IE := [(.aload_n 0, 1, 0, 0, 0, 0), (.getfield 18, 3, 0, 12, 3, 1), (.iload_n 1, 1, 0, 0, 1, 0), (.aaload, 1, 0, 0, 0, 0), (.iload 5, 2, 0, 0, 5, 0), (.iaload, 1, 0, 0, 0, 0), (.iload_n 2, 1, 0, 0, 2, 0), (.iload_n 3, 1, 0, 0, 3, 0)]
theorem k_X12_timesBegun_17 : ckB mX12_timesBegun 12 17 b_X12_timesBegun_17 28 = true := by decide +kernel
def b_X12_timesBegun_31 : List IE := []
theorem k_X12_timesBegun_31 : ckIf mX12_timesBegun 12 31 b_X12_timesBegun_31 31 0 6 37 34 = true := by decide +kernel
def b_X12_timesBegun_34 : List IE := [(.iinc 4 1, 3, 1, 0, 4, 0), (.iinc 5 1, 3, 1, 0, 5, 0)]
theorem k_X12_timesBegun_34 : ckGo mX12_timesBegun 12 34 b_X12_timesBegun_34 40 (-34) 6 = true := by decide +kernel
def b_X12_timesBegun_37 : List IE := [(.iinc 5 1, 3, 1, 0, 5, 0)]
theorem k_X12_timesBegun_37 : ckGo mX12_timesBegun 12 37 b_X12_timesBegun_37 40 (-34) 6 = true := by decide +kernel
def b_X12_timesBegun_43 : List IE := [(.iload 4, 2, 0, 0, 4, 0)]
theorem k_X12_timesBegun_43 : ckI mX12_timesBegun 12 43 b_X12_timesBegun_43 45 = true := by decide +kernel
theorem s_X12_timesBegun_28 : cS mX12_timesBegun 28 mX12_begins 342 3 := ⟨by decide +kernel, ⟨ml_X12_begins, li_RX12_342, st_X12_begins⟩, by decide +kernel⟩
theorem t_X12_timesBegun_0 {rc rs : Nat} {Q : Option AV → AH → Prop} {h : AH} {x1 x2 x3 : Int} (hL : LayM h) (hv : wp mX12_timesBegun 2 rc rs Q 6 [some (vr 89), some (vi x1), some (vi x2), some (vi x3), some (vi 0), some (vi 0)] [] h) : wp mX12_timesBegun 2 rc rs Q 0 [some (vr 89), some (vi x1), some (vi x2), some (vi x3), none, none] [] h :=
  (show wp mX12_timesBegun 2 rc rs Q 0 [some (vr 89), some (vi x1), some (vi x2), some (vi x3), none, none] [] h from xB k_X12_timesBegun_0 (And.intro rfl (And.intro rfl hv)))
theorem e_X12_timesBegun {mc ms : Nat} {Q : Option AV → AH → Prop} {h : AH} {x1 x2 x3 : Int} (hL : LayM h) (hv : wp mX12_timesBegun 2 mc ms Q 6 [some (vr 89), some (vi x1), some (vi x2), some (vi x3), some (vi 0), some (vi 0)] [] h) : Ct 2 mc ms mX12_timesBegun [vr 89, vi x1, vi x2, vi x3] h Q := Ct.of (by decide +kernel) (Nat.le_of_ble_eq_true rfl) (t_X12_timesBegun_0 hL hv)
theorem t_X12_timesBegun_6 {rc rs : Nat} {Q : Option AV → AH → Prop} {h : AH} {x1 x2 x3 x4 x5 : Int} (hL : LayM h) (hv : (0 ≤ x1 ∧ x1 < 520) ∧ (((iH h 91 x1.toNat) ≤ x5 → Q (some (vi x4)) h) ∧ (x5 < (iH h 91 x1.toNat) → (0 ≤ x5 ∧ x5 < 12) ∧ ((0 ≤ (iH h (93 + x1.toNat) x5.toNat) ∧ (iH h (93 + x1.toNat) x5.toNat) < 2147483648) ∧ (0 ≤ x2 ∧ x2 < 2147483648) ∧ (0 ≤ x3 ∧ x3 ≤ 6)) ∧ ((¬ (m_beg (iH h (93 + x1.toNat) x5.toNat) x2 x3) → (-2147483648 ≤ (x5 + 1) ∧ (x5 + 1) < 2147483648) ∧ wp mX12_timesBegun 2 rc rs Q 6 [some (vr 89), some (vi x1), some (vi x2), some (vi x3), some (vi x4), some (vi (x5 + 1))] [] h) ∧ ((m_beg (iH h (93 + x1.toNat) x5.toNat) x2 x3) → (-2147483648 ≤ (x4 + 1) ∧ (x4 + 1) < 2147483648) ∧ (-2147483648 ≤ (x5 + 1) ∧ (x5 + 1) < 2147483648) ∧ wp mX12_timesBegun 2 rc rs Q 6 [some (vr 89), some (vi x1), some (vi x2), some (vi x3), some (vi (x4 + 1)), some (vi (x5 + 1))] [] h))))) : wp mX12_timesBegun 2 rc rs Q 6 [some (vr 89), some (vi x1), some (vi x2), some (vi x3), some (vi x4), some (vi x5)] [] h :=
  (show wp mX12_timesBegun 2 rc rs Q 6 [some (vr 89), some (vi x1), some (vi x2), some (vi x3), some (vi x4), some (vi x5)] [] h from xIc k_X12_timesBegun_6 (And.intro (lm_89 hL) (Exists.intro 91 (And.intro (lf_89_2 hL) (have c1 := hv.1; have v22 := hv.2; (And.intro (sdI (lm_91 hL) c1) (And.intro (fun c2 => have v4 := v22.1 c2; (show wp mX12_timesBegun 2 rc rs Q 43 [some (vr 89), some (vi x1), some (vi x2), some (vi x3), some (vi x4), some (vi x5)] [] h from xI k_X12_timesBegun_43 (And.intro rfl v4))) (fun c3 => have v5 := v22.2 (Int.not_le.mp c3); (show wp mX12_timesBegun 2 rc rs Q 17 [some (vr 89), some (vi x1), some (vi x2), some (vi x3), some (vi x4), some (vi x5)] [] h from xcS k_X12_timesBegun_17 s_X12_timesBegun_28 (And.intro (lm_89 hL) (Exists.intro 92 (And.intro (lf_89_3 hL) (And.intro (sdQ (lm_92 hL) c1) (Exists.intro (93 + x1.toNat) (And.intro (lr_words hL (tnl c1)) (have c7 := v5.1; have v21 := v5.2; (And.intro (sdI (lk_words hL (tnl c1)) c7) (have c18 := v21.1; have v19 := v21.2; (Exists.intro [vi (iH h (93 + x1.toNat) x5.toNat), vi x2, vi x3] (Exists.intro [] (And.intro (And.intro rfl (And.intro rfl (Nat.le_of_ble_eq_true rfl))) (Exists.intro 1 (Exists.intro 0 (Exists.intro 0 (Exists.intro _ (And.intro (c_begins c18) (And.intro (And.intro (by decide) (And.intro (Nat.zero_le _) (Nat.zero_le _))) (eQP (show wp mX12_timesBegun 2 rc rs Q 31 [some (vr 89), some (vi x1), some (vi x2), some (vi x3), some (vi x4), some (vi x5)] [vi (b01 (m_beg (iH h (93 + x1.toNat) x5.toNat) x2 x3))] h from xIf k_X12_timesBegun_31 (And.intro (fun c8 => have v10 := v19.1 (b01_n.mp c8); (show wp mX12_timesBegun 2 rc rs Q 37 [some (vr 89), some (vi x1), some (vi x2), some (vi x3), some (vi x4), some (vi x5)] [] h from xGo k_X12_timesBegun_37 (have c12 := v10.1; have v13 := v10.2; (And.intro c12 (And.intro rfl v13))))) (fun c9 => have v11 := v19.2 (b01_p.mp c9); (show wp mX12_timesBegun 2 rc rs Q 34 [some (vr 89), some (vi x1), some (vi x2), some (vi x3), some (vi x4), some (vi x5)] [] h from xGo k_X12_timesBegun_34 (have c14 := v11.1; have v17 := v11.2; (And.intro c14 (And.intro rfl (have c15 := v17.1; have v16 := v17.2; (And.intro c15 (And.intro rfl v16))))))))))))))))))))))))))))))))))))))
def b_X12_phraseTimes_0 : List IE := [(.iconst 0, 1, 0, 0, 0, 0), (.istore 5, 2, 0, 0, 5, 0), (.iconst 0, 1, 0, 0, 0, 0), (.istore 6, 2, 0, 0, 6, 0)]
theorem k_X12_phraseTimes_0 : ckB mX12_phraseTimes 12 0 b_X12_phraseTimes_0 6 = true := by decide +kernel
def b_X12_phraseTimes_6 : List IE := [(.iload 6, 2, 0, 0, 6, 0), (.iload 4, 2, 0, 0, 4, 0), (.iadd, 1, 0, 0, 0, 0), (.aload_n 0, 1, 0, 0, 0, 0), (.getfield 13, 3, 0, 12, 2, 1), (.iload_n 1, 1, 0, 0, 1, 0), (.iaload, 1, 0, 0, 0, 0)]
theorem k_X12_phraseTimes_6 : ckIc mX12_phraseTimes 12 6 b_X12_phraseTimes_6 17 4 67 84 20 = true := by decide +kernel
def b_X12_phraseTimes_20 : List IE := [(.iconst 1, 1, 1, 0, 0, 0), (.istore 7, 2, 0, 0, 7, 0), (.iconst 0, 1, 0, 0, 0, 0), (.istore 8, 2, 0, 0, 8, 0)]
theorem k_X12_phraseTimes_20 : ckB mX12_phraseTimes 12 20 b_X12_phraseTimes_20 26 = true := by decide +kernel
def b_X12_phraseTimes_26 : List IE := [(.iload 8, 2, 0, 0, 8, 0), (.iload 4, 2, 0, 0, 4, 0)]
theorem k_X12_phraseTimes_26 : ckIc mX12_phraseTimes 12 26 b_X12_phraseTimes_26 30 3 40 70 33 = true := by decide +kernel
def b_X12_phraseTimes_33 : List IE := [(.iload 7, 2, 0, 0, 7, 0), (.aload_n 0, 1, 0, 0, 0, 0), (.getfield 18, 3, 0, 12, 3, 1), (.iload_n 1, 1, 0, 0, 1, 0), (.aaload, 1, 0, 0, 0, 0), (.iload 6, 2, 0, 0, 6, 0), (.iload 8, 2, 0, 0, 8, 0), (.iadd, 1, 0, 0, 0, 0), (.iaload, 1, 0, 0, 0, 0), (.aload_n 2, 1, 0, 0, 2, 0), (.iload_n 3, 1, 0, 0, 3, 0), (.iload 8, 2, 0, 0, 8, 0), (.iadd, 1, 0, 0, 0, 0), (.iaload, 1, 0, 0, 0, 0)]
theorem k_X12_phraseTimes_33 : ckIc mX12_phraseTimes 12 33 b_X12_phraseTimes_33 53 1 7 60 56 = true := by decide +kernel
def b_X12_phraseTimes_56 : List IE := [(.iconst 1, 1, 1, 0, 0, 0)]
theorem k_X12_phraseTimes_56 : ckGo mX12_phraseTimes 12 56 b_X12_phraseTimes_56 57 4 61 = true := by decide +kernel
def b_X12_phraseTimes_60 : List IE := [(.iconst 0, 1, 0, 0, 0, 0), (.iand, 1, 0, 0, 0, 0), (.istore 7, 2, 0, 0, 7, 0), (.iinc 8 1, 3, 1, 0, 8, 0)]
theorem k_X12_phraseTimes_60 : ckGo mX12_phraseTimes 12 60 b_X12_phraseTimes_60 67 (-41) 26 = true := by decide +kernel
def b_X12_phraseTimes_61 : List IE := [(.iand, 1, 0, 0, 0, 0), (.istore 7, 2, 0, 0, 7, 0), (.iinc 8 1, 3, 1, 0, 8, 0)]
theorem k_X12_phraseTimes_61 : ckGo mX12_phraseTimes 12 61 b_X12_phraseTimes_61 67 (-41) 26 = true := by decide +kernel
def b_X12_phraseTimes_70 : List IE := [(.iload 7, 2, 0, 0, 7, 0)]
theorem k_X12_phraseTimes_70 : ckIf mX12_phraseTimes 12 70 b_X12_phraseTimes_70 72 0 6 78 75 = true := by decide +kernel
def b_X12_phraseTimes_75 : List IE := [(.iinc 5 1, 3, 1, 0, 5, 0), (.iinc 6 1, 3, 1, 0, 6, 0)]
theorem k_X12_phraseTimes_75 : ckGo mX12_phraseTimes 12 75 b_X12_phraseTimes_75 81 (-75) 6 = true := by decide +kernel
def b_X12_phraseTimes_78 : List IE := [(.iinc 6 1, 3, 1, 0, 6, 0)]
theorem k_X12_phraseTimes_78 : ckGo mX12_phraseTimes 12 78 b_X12_phraseTimes_78 81 (-75) 6 = true := by decide +kernel
def b_X12_phraseTimes_84 : List IE := [(.iload 5, 2, 0, 0, 5, 0)]
theorem k_X12_phraseTimes_84 : ckI mX12_phraseTimes 12 84 b_X12_phraseTimes_84 86 = true := by decide +kernel
theorem t_X12_phraseTimes_0 {rc rs : Nat} {Q : Option AV → AH → Prop} {h : AH} {x1 x3 x4 : Int} {a2 n2 : Nat} (hL : LayM h) (hA2 : a2 < nH h ∧ kH h a2 = (13, n2)) (hv : wp mX12_phraseTimes 0 rc rs Q 6 [some (vr 89), some (vi x1), some (vr a2), some (vi x3), some (vi x4), some (vi 0), some (vi 0), none, none] [] h) : wp mX12_phraseTimes 0 rc rs Q 0 [some (vr 89), some (vi x1), some (vr a2), some (vi x3), some (vi x4), none, none, none, none] [] h :=
  (show wp mX12_phraseTimes 0 rc rs Q 0 [some (vr 89), some (vi x1), some (vr a2), some (vi x3), some (vi x4), none, none, none, none] [] h from xB k_X12_phraseTimes_0 (And.intro rfl (And.intro rfl hv)))
theorem e_X12_phraseTimes {mc ms : Nat} {Q : Option AV → AH → Prop} {h : AH} {x1 x3 x4 : Int} {a2 n2 : Nat} (hL : LayM h) (hA2 : a2 < nH h ∧ kH h a2 = (13, n2)) (hv : wp mX12_phraseTimes 0 mc ms Q 6 [some (vr 89), some (vi x1), some (vr a2), some (vi x3), some (vi x4), some (vi 0), some (vi 0), none, none] [] h) : Ct 0 mc ms mX12_phraseTimes [vr 89, vi x1, vr a2, vi x3, vi x4] h Q := Ct.of (by decide +kernel) (Nat.le_of_ble_eq_true rfl) (t_X12_phraseTimes_0 hL hA2 hv)
theorem t_X12_phraseTimes_6 {rc rs : Nat} {Q : Option AV → AH → Prop} {h : AH} {x1 x3 x4 x5 x6 : Int} {a2 n2 : Nat} (hL : LayM h) (hA2 : a2 < nH h ∧ kH h a2 = (13, n2)) (hv : (-2147483648 ≤ (x6 + x4) ∧ (x6 + x4) < 2147483648) ∧ (0 ≤ x1 ∧ x1 < 520) ∧ (((iH h 91 x1.toNat) < (x6 + x4) → Q (some (vi x5)) h) ∧ ((x6 + x4) ≤ (iH h 91 x1.toNat) → wp mX12_phraseTimes 0 rc rs Q 26 [some (vr 89), some (vi x1), some (vr a2), some (vi x3), some (vi x4), some (vi x5), some (vi x6), some (vi 1), some (vi 0)] [] h))) : wp mX12_phraseTimes 0 rc rs Q 6 [some (vr 89), some (vi x1), some (vr a2), some (vi x3), some (vi x4), some (vi x5), some (vi x6), none, none] [] h :=
  (show wp mX12_phraseTimes 0 rc rs Q 6 [some (vr 89), some (vi x1), some (vr a2), some (vi x3), some (vi x4), some (vi x5), some (vi x6), none, none] [] h from xIc k_X12_phraseTimes_6 (have c1 := hv.1; have v8 := hv.2; (And.intro c1 (And.intro (lm_89 hL) (Exists.intro 91 (And.intro (lf_89_2 hL) (have c2 := v8.1; have v7 := v8.2; (And.intro (sdI (lm_91 hL) c2) (And.intro (fun c3 => have v5 := v7.1 c3; (show wp mX12_phraseTimes 0 rc rs Q 84 [some (vr 89), some (vi x1), some (vr a2), some (vi x3), some (vi x4), some (vi x5), some (vi x6), none, none] [] h from xI k_X12_phraseTimes_84 (And.intro rfl v5))) (fun c4 => have v6 := v7.2 (Int.not_lt.mp c4); (show wp mX12_phraseTimes 0 rc rs Q 20 [some (vr 89), some (vi x1), some (vr a2), some (vi x3), some (vi x4), some (vi x5), some (vi x6), none, none] [] h from xB k_X12_phraseTimes_20 (And.intro rfl (And.intro rfl v6)))))))))))))
theorem t_X12_phraseTimes_26 {rc rs : Nat} {Q : Option AV → AH → Prop} {h : AH} {x1 x3 x4 x5 x6 x7 x8 : Int} {a2 n2 : Nat} (hL : LayM h) (hA2 : a2 < nH h ∧ kH h a2 = (13, n2)) (hv : ((x4 ≤ x8 → ((x7 = 0 → (-2147483648 ≤ (x6 + 1) ∧ (x6 + 1) < 2147483648) ∧ wp mX12_phraseTimes 0 rc rs Q 6 [some (vr 89), some (vi x1), some (vr a2), some (vi x3), some (vi x4), some (vi x5), some (vi (x6 + 1)), none, none] [] h) ∧ (x7 ≠ 0 → (-2147483648 ≤ (x5 + 1) ∧ (x5 + 1) < 2147483648) ∧ (-2147483648 ≤ (x6 + 1) ∧ (x6 + 1) < 2147483648) ∧ wp mX12_phraseTimes 0 rc rs Q 6 [some (vr 89), some (vi x1), some (vr a2), some (vi x3), some (vi x4), some (vi (x5 + 1)), some (vi (x6 + 1)), none, none] [] h))) ∧ (x8 < x4 → (0 ≤ x1 ∧ x1 < 520) ∧ (-2147483648 ≤ (x6 + x8) ∧ (x6 + x8) < 2147483648) ∧ (0 ≤ (x6 + x8) ∧ (x6 + x8) < 12) ∧ (-2147483648 ≤ (x3 + x8) ∧ (x3 + x8) < 2147483648) ∧ (0 ≤ (x3 + x8) ∧ (x3 + x8) < n2) ∧ (((iH h (93 + x1.toNat) ((x6 + x8).toNat)) ≠ (iH h a2 ((x3 + x8).toNat)) → (-2147483648 ≤ (x8 + 1) ∧ (x8 + 1) < 2147483648) ∧ wp mX12_phraseTimes 0 rc rs Q 26 [some (vr 89), some (vi x1), some (vr a2), some (vi x3), some (vi x4), some (vi x5), some (vi x6), some (vi (andI x7 0)), some (vi (x8 + 1))] [] h) ∧ ((iH h (93 + x1.toNat) ((x6 + x8).toNat)) = (iH h a2 ((x3 + x8).toNat)) → (-2147483648 ≤ (x8 + 1) ∧ (x8 + 1) < 2147483648) ∧ wp mX12_phraseTimes 0 rc rs Q 26 [some (vr 89), some (vi x1), some (vr a2), some (vi x3), some (vi x4), some (vi x5), some (vi x6), some (vi (andI x7 1)), some (vi (x8 + 1))] [] h))))) : wp mX12_phraseTimes 0 rc rs Q 26 [some (vr 89), some (vi x1), some (vr a2), some (vi x3), some (vi x4), some (vi x5), some (vi x6), some (vi x7), some (vi x8)] [] h :=
  (show wp mX12_phraseTimes 0 rc rs Q 26 [some (vr 89), some (vi x1), some (vr a2), some (vi x3), some (vi x4), some (vi x5), some (vi x6), some (vi x7), some (vi x8)] [] h from xIc k_X12_phraseTimes_26 (And.intro (fun c1 => have v3 := hv.1 c1; (show wp mX12_phraseTimes 0 rc rs Q 70 [some (vr 89), some (vi x1), some (vr a2), some (vi x3), some (vi x4), some (vi x5), some (vi x6), some (vi x7), some (vi x8)] [] h from xIf k_X12_phraseTimes_70 (And.intro (fun c5 => have v7 := v3.1 c5; (show wp mX12_phraseTimes 0 rc rs Q 78 [some (vr 89), some (vi x1), some (vr a2), some (vi x3), some (vi x4), some (vi x5), some (vi x6), some (vi x7), some (vi x8)] [] h from xGo k_X12_phraseTimes_78 (have c9 := v7.1; have v10 := v7.2; (And.intro c9 (And.intro rfl (w_fg [true, true, true, true, true, true, true, false, false] v10)))))) (fun c6 => have v8 := v3.2 c6; (show wp mX12_phraseTimes 0 rc rs Q 75 [some (vr 89), some (vi x1), some (vr a2), some (vi x3), some (vi x4), some (vi x5), some (vi x6), some (vi x7), some (vi x8)] [] h from xGo k_X12_phraseTimes_75 (have c11 := v8.1; have v14 := v8.2; (And.intro c11 (And.intro rfl (have c12 := v14.1; have v13 := v14.2; (And.intro c12 (And.intro rfl (w_fg [true, true, true, true, true, true, true, false, false] v13)))))))))))) (fun c2 => have v4 := hv.2 (Int.not_le.mp c2); (show wp mX12_phraseTimes 0 rc rs Q 33 [some (vr 89), some (vi x1), some (vr a2), some (vi x3), some (vi x4), some (vi x5), some (vi x6), some (vi x7), some (vi x8)] [] h from xIc k_X12_phraseTimes_33 (And.intro (lm_89 hL) (Exists.intro 92 (And.intro (lf_89_3 hL) (have c15 := v4.1; have v32 := v4.2; (And.intro (sdQ (lm_92 hL) c15) (Exists.intro (93 + x1.toNat) (And.intro (lr_words hL (tnl c15)) (have c16 := v32.1; have v31 := v32.2; (And.intro c16 (have c17 := v31.1; have v30 := v31.2; (And.intro (sdI (lk_words hL (tnl c15)) c17) (have c18 := v30.1; have v29 := v30.2; (And.intro c18 (have c19 := v29.1; have v28 := v29.2; (And.intro (sdI hA2 c19) (And.intro (fun c20 => have v22 := v28.1 c20; (show wp mX12_phraseTimes 0 rc rs Q 60 [some (vr 89), some (vi x1), some (vr a2), some (vi x3), some (vi x4), some (vi x5), some (vi x6), some (vi x7), some (vi x8)] [vi x7] h from xGo k_X12_phraseTimes_60 (And.intro rfl (have c24 := v22.1; have v25 := v22.2; (And.intro c24 (And.intro rfl v25)))))) (fun c21 => have v23 := v28.2 (Decidable.not_not.mp c21); (show wp mX12_phraseTimes 0 rc rs Q 56 [some (vr 89), some (vi x1), some (vr a2), some (vi x3), some (vi x4), some (vi x5), some (vi x6), some (vi x7), some (vi x8)] [vi x7] h from xGo k_X12_phraseTimes_56 (show wp mX12_phraseTimes 0 rc rs Q 61 [some (vr 89), some (vi x1), some (vr a2), some (vi x3), some (vi x4), some (vi x5), some (vi x6), some (vi x7), some (vi x8)] [vi 1, vi x7] h from xGo k_X12_phraseTimes_61 (And.intro rfl (have c26 := v23.1; have v27 := v23.2; (And.intro c26 (And.intro rfl v27)))))))))))))))))))))))))))
def b_X12_openViews_0 : List IE := [(.iconst 0, 1, 0, 0, 0, 0), (.istore_n 2, 1, 0, 0, 2, 0), (.iconst 0, 1, 0, 0, 0, 0), (.istore_n 3, 1, 0, 0, 3, 0)]
theorem k_X12_openViews_0 : ckB mX12_openViews 12 0 b_X12_openViews_0 4 = true := by decide +kernel
def b_X12_openViews_4 : List IE := [(.iload_n 3, 1, 0, 0, 3, 0), (.iconst 4, 1, 4, 0, 0, 0)]
theorem k_X12_openViews_4 : ckIc mX12_openViews 12 4 b_X12_openViews_4 6 3 21 27 9 = true := by decide +kernel
def b_X12_openViews_9 : List IE := [(.aload_n 0, 1, 0, 0, 0, 0), (.iload_n 3, 1, 0, 0, 3, 0), (.iload_n 1, 1, 0, 0, 1, 0)]
theorem k_X12_openViews_9 : ckB mX12_openViews 12 9 b_X12_openViews_9 12 = true := by decide +kernel
def b_X12_openViews_15 : List IE := []
theorem k_X12_openViews_15 : ckIf mX12_openViews 12 15 b_X12_openViews_15 15 0 6 21 18 = true := by decide +kernel
def b_X12_openViews_18 : List IE := [(.iinc 2 1, 3, 1, 0, 2, 0), (.iinc 3 1, 3, 1, 0, 3, 0)]
theorem k_X12_openViews_18 : ckGo mX12_openViews 12 18 b_X12_openViews_18 24 (-20) 4 = true := by decide +kernel
def b_X12_openViews_21 : List IE := [(.iinc 3 1, 3, 1, 0, 3, 0)]
theorem k_X12_openViews_21 : ckGo mX12_openViews 12 21 b_X12_openViews_21 24 (-20) 4 = true := by decide +kernel
def b_X12_openViews_27 : List IE := [(.iload_n 2, 1, 0, 0, 2, 0)]
theorem k_X12_openViews_27 : ckI mX12_openViews 12 27 b_X12_openViews_27 28 = true := by decide +kernel
theorem s_X12_openViews_12 : cV mX12_openViews 12 mX12_stands 250 2 12 := ⟨by decide +kernel, ⟨ml_X12_stands, li_RX12_250, im_X12_stands, se_X12_stands⟩, ⟨by decide +kernel, by decide +kernel⟩, by decide +kernel⟩
theorem t_X12_openViews_0 {rc rs : Nat} {Q : Option AV → AH → Prop} {h : AH} {x1 : Int} (hL : LayM h) (hv : wp mX12_openViews 1 rc rs Q 4 [some (vr 89), some (vi x1), some (vi 0), some (vi 0)] [] h) : wp mX12_openViews 1 rc rs Q 0 [some (vr 89), some (vi x1), none, none] [] h :=
  (show wp mX12_openViews 1 rc rs Q 0 [some (vr 89), some (vi x1), none, none] [] h from xB k_X12_openViews_0 (And.intro rfl (And.intro rfl hv)))
theorem e_X12_openViews {mc ms : Nat} {Q : Option AV → AH → Prop} {h : AH} {x1 : Int} (hL : LayM h) (hv : wp mX12_openViews 1 mc ms Q 4 [some (vr 89), some (vi x1), some (vi 0), some (vi 0)] [] h) : Ct 1 mc ms mX12_openViews [vr 89, vi x1] h Q := Ct.of (by decide +kernel) (Nat.le_of_ble_eq_true rfl) (t_X12_openViews_0 hL hv)
theorem t_X12_openViews_4 {rc rs : Nat} {Q : Option AV → AH → Prop} {h : AH} {x1 x2 x3 : Int} (hL : LayM h) (hv : ((4 ≤ x3 → Q (some (vi x2)) h) ∧ (x3 < 4 → (m_std h x3) ∧ ((¬ (m_stands h x3 x1) → (-2147483648 ≤ (x3 + 1) ∧ (x3 + 1) < 2147483648) ∧ wp mX12_openViews 1 rc rs Q 4 [some (vr 89), some (vi x1), some (vi x2), some (vi (x3 + 1))] [] h) ∧ ((m_stands h x3 x1) → (-2147483648 ≤ (x2 + 1) ∧ (x2 + 1) < 2147483648) ∧ (-2147483648 ≤ (x3 + 1) ∧ (x3 + 1) < 2147483648) ∧ wp mX12_openViews 1 rc rs Q 4 [some (vr 89), some (vi x1), some (vi (x2 + 1)), some (vi (x3 + 1))] [] h))))) : wp mX12_openViews 1 rc rs Q 4 [some (vr 89), some (vi x1), some (vi x2), some (vi x3)] [] h :=
  (show wp mX12_openViews 1 rc rs Q 4 [some (vr 89), some (vi x1), some (vi x2), some (vi x3)] [] h from xIc k_X12_openViews_4 (And.intro (fun c1 => have v3 := hv.1 c1; (show wp mX12_openViews 1 rc rs Q 27 [some (vr 89), some (vi x1), some (vi x2), some (vi x3)] [] h from xI k_X12_openViews_27 (And.intro rfl v3))) (fun c2 => have v4 := hv.2 (Int.not_le.mp c2); (show wp mX12_openViews 1 rc rs Q 9 [some (vr 89), some (vi x1), some (vi x2), some (vi x3)] [] h from xcV k_X12_openViews_9 s_X12_openViews_12 (have c15 := v4.1; have v16 := v4.2; (Exists.intro [vi x3, vi x1] (Exists.intro 89 (Exists.intro [] (And.intro (And.intro rfl (And.intro rfl (Nat.le_of_ble_eq_true rfl))) (And.intro (lm_89 hL) (Exists.intro 0 (Exists.intro 0 (Exists.intro 0 (Exists.intro _ (And.intro (c_stands (h := h) hL c15) (And.intro (And.intro (by decide) (And.intro (Nat.zero_le _) (Nat.zero_le _))) (eQP (show wp mX12_openViews 1 rc rs Q 15 [some (vr 89), some (vi x1), some (vi x2), some (vi x3)] [vi (b01 (m_stands h x3 x1))] h from xIf k_X12_openViews_15 (And.intro (fun c5 => have v7 := v16.1 (b01_n.mp c5); (show wp mX12_openViews 1 rc rs Q 21 [some (vr 89), some (vi x1), some (vi x2), some (vi x3)] [] h from xGo k_X12_openViews_21 (have c9 := v7.1; have v10 := v7.2; (And.intro c9 (And.intro rfl v10))))) (fun c6 => have v8 := v16.2 (b01_p.mp c6); (show wp mX12_openViews 1 rc rs Q 18 [some (vr 89), some (vi x1), some (vi x2), some (vi x3)] [] h from xGo k_X12_openViews_18 (have c11 := v8.1; have v14 := v8.2; (And.intro c11 (And.intro rfl (have c12 := v14.1; have v13 := v14.2; (And.intro c12 (And.intro rfl v13)))))))))))))))))))))))))))
def b_X12_segmentPlace_0 : List IE := [(.iconst 0, 1, 0, 0, 0, 0), (.istore_n 2, 1, 0, 0, 2, 0)]
theorem k_X12_segmentPlace_0 : ckB mX12_segmentPlace 12 0 b_X12_segmentPlace_0 2 = true := by decide +kernel
def b_X12_segmentPlace_2 : List IE := [(.iload_n 2, 1, 0, 0, 2, 0), (.aload_n 0, 1, 0, 0, 0, 0), (.getfield 106, 3, 0, 12, 13, 0)]
theorem k_X12_segmentPlace_2 : ckIc mX12_segmentPlace 12 2 b_X12_segmentPlace_2 7 3 79 86 10 = true := by decide +kernel
def b_X12_segmentPlace_10 : List IE := [(.aload_n 0, 1, 0, 0, 0, 0), (.getfield 48, 3, 0, 12, 14, 1), (.iload_n 2, 1, 0, 0, 2, 0), (.iaload, 1, 0, 0, 0, 0), (.istore_n 3, 1, 0, 0, 3, 0), (.iconst 0, 1, 0, 0, 0, 0), (.istore 4, 2, 0, 0, 4, 0)]
theorem k_X12_segmentPlace_10 : ckB mX12_segmentPlace 12 10 b_X12_segmentPlace_10 20 = true := by decide +kernel
def b_X12_segmentPlace_20 : List IE := [(.iload 4, 2, 0, 0, 4, 0), (.aload_n 0, 1, 0, 0, 0, 0), (.getfield 28, 3, 0, 12, 7, 1), (.iload_n 3, 1, 0, 0, 3, 0), (.iaload, 1, 0, 0, 0, 0)]
theorem k_X12_segmentPlace_20 : ckIc mX12_segmentPlace 12 20 b_X12_segmentPlace_20 28 3 52 80 31 = true := by decide +kernel
def b_X12_segmentPlace_31 : List IE := [(.aload_n 0, 1, 0, 0, 0, 0), (.getfield 9, 3, 0, 12, 1, 1), (.aload_n 0, 1, 0, 0, 0, 0), (.getfield 31, 3, 0, 12, 8, 1), (.iload_n 3, 1, 0, 0, 3, 0), (.aaload, 1, 0, 0, 0, 0), (.iload 4, 2, 0, 0, 4, 0), (.iaload, 1, 0, 0, 0, 0), (.iaload, 1, 0, 0, 0, 0), (.iload_n 1, 1, 0, 0, 1, 0)]
theorem k_X12_segmentPlace_31 : ckIc mX12_segmentPlace 12 31 b_X12_segmentPlace_31 46 1 28 74 49 = true := by decide +kernel
def b_X12_segmentPlace_49 : List IE := [(.aload_n 0, 1, 0, 0, 0, 0), (.getfield 21, 3, 0, 12, 4, 1), (.aload_n 0, 1, 0, 0, 0, 0), (.getfield 31, 3, 0, 12, 8, 1), (.iload_n 3, 1, 0, 0, 3, 0), (.aaload, 1, 0, 0, 0, 0), (.iload 4, 2, 0, 0, 4, 0), (.iaload, 1, 0, 0, 0, 0), (.baload, 1, 0, 0, 0, 0)]
theorem k_X12_segmentPlace_49 : ckIf mX12_segmentPlace 12 49 b_X12_segmentPlace_49 63 1 11 74 66 = true := by decide +kernel
def b_X12_segmentPlace_66 : List IE := [(.bipush 100, 2, 100, 0, 0, 0), (.iload_n 2, 1, 0, 0, 2, 0), (.imul, 1, 0, 0, 0, 0), (.iload 4, 2, 0, 0, 4, 0), (.iadd, 1, 0, 0, 0, 0)]
theorem k_X12_segmentPlace_66 : ckI mX12_segmentPlace 12 66 b_X12_segmentPlace_66 73 = true := by decide +kernel
def b_X12_segmentPlace_74 : List IE := [(.iinc 4 1, 3, 1, 0, 4, 0)]
theorem k_X12_segmentPlace_74 : ckGo mX12_segmentPlace 12 74 b_X12_segmentPlace_74 77 (-57) 20 = true := by decide +kernel
def b_X12_segmentPlace_80 : List IE := [(.iinc 2 1, 3, 1, 0, 2, 0)]
theorem k_X12_segmentPlace_80 : ckGo mX12_segmentPlace 12 80 b_X12_segmentPlace_80 83 (-81) 2 = true := by decide +kernel
def b_X12_segmentPlace_86 : List IE := [(.iconst (-1), 1, (-1), 0, 0, 0)]
theorem k_X12_segmentPlace_86 : ckI mX12_segmentPlace 12 86 b_X12_segmentPlace_86 87 = true := by decide +kernel
theorem t_X12_segmentPlace_0 {rc rs : Nat} {Q : Option AV → AH → Prop} {h : AH} {x1 : Int} (hL : LayM h) (hv : wp mX12_segmentPlace 0 rc rs Q 2 [some (vr 89), some (vi x1), some (vi 0), none, none] [] h) : wp mX12_segmentPlace 0 rc rs Q 0 [some (vr 89), some (vi x1), none, none, none] [] h :=
  (show wp mX12_segmentPlace 0 rc rs Q 0 [some (vr 89), some (vi x1), none, none, none] [] h from xB k_X12_segmentPlace_0 (And.intro rfl hv))
theorem e_X12_segmentPlace {mc ms : Nat} {Q : Option AV → AH → Prop} {h : AH} {x1 : Int} (hL : LayM h) (hv : wp mX12_segmentPlace 0 mc ms Q 2 [some (vr 89), some (vi x1), some (vi 0), none, none] [] h) : Ct 0 mc ms mX12_segmentPlace [vr 89, vi x1] h Q := Ct.of (by decide +kernel) (Nat.le_of_ble_eq_true rfl) (t_X12_segmentPlace_0 hL hv)
theorem t_X12_segmentPlace_2 {rc rs : Nat} {Q : Option AV → AH → Prop} {h : AH} {x1 x2 : Int} (hL : LayM h) (hv : (((iH h 89 13) ≤ x2 → Q (some (vi (-1))) h) ∧ (x2 < (iH h 89 13) → (0 ≤ x2 ∧ x2 < 8) ∧ wp mX12_segmentPlace 0 rc rs Q 20 [some (vr 89), some (vi x1), some (vi x2), some (vi (iH h 1155 x2.toNat)), some (vi 0)] [] h))) : wp mX12_segmentPlace 0 rc rs Q 2 [some (vr 89), some (vi x1), some (vi x2), none, none] [] h :=
  (show wp mX12_segmentPlace 0 rc rs Q 2 [some (vr 89), some (vi x1), some (vi x2), none, none] [] h from xIc k_X12_segmentPlace_2 (And.intro (lm_89 hL) (And.intro (fun c1 => have v3 := hv.1 c1; (show wp mX12_segmentPlace 0 rc rs Q 86 [some (vr 89), some (vi x1), some (vi x2), none, none] [] h from xI k_X12_segmentPlace_86 (And.intro rfl v3))) (fun c2 => have v4 := hv.2 (Int.not_le.mp c2); (show wp mX12_segmentPlace 0 rc rs Q 10 [some (vr 89), some (vi x1), some (vi x2), none, none] [] h from xB k_X12_segmentPlace_10 (And.intro (lm_89 hL) (Exists.intro 1155 (And.intro (lf_89_14 hL) (have c5 := v4.1; have v6 := v4.2; (And.intro (sdI (lm_1155 hL) c5) (And.intro rfl (And.intro rfl v6))))))))))))
theorem t_X12_segmentPlace_20 {rc rs : Nat} {Q : Option AV → AH → Prop} {h : AH} {x1 x2 x3 x4 : Int} (hL : LayM h) (hv : (0 ≤ x3 ∧ x3 < 520) ∧ (((iH h 615 x3.toNat) ≤ x4 → (-2147483648 ≤ (x2 + 1) ∧ (x2 + 1) < 2147483648) ∧ wp mX12_segmentPlace 0 rc rs Q 2 [some (vr 89), some (vi x1), some (vi (x2 + 1)), none, none] [] h) ∧ (x4 < (iH h 615 x3.toNat) → (0 ≤ x4 ∧ x4 < 64) ∧ (0 ≤ iH h (617 + x3.toNat) x4.toNat ∧ iH h (617 + x3.toNat) x4.toNat < 520) ∧ (((iH h 90 ((iH h (617 + x3.toNat) x4.toNat).toNat)) ≠ x1 → (-2147483648 ≤ (x4 + 1) ∧ (x4 + 1) < 2147483648) ∧ wp mX12_segmentPlace 0 rc rs Q 20 [some (vr 89), some (vi x1), some (vi x2), some (vi x3), some (vi (x4 + 1))] [] h) ∧ ((iH h 90 ((iH h (617 + x3.toNat) x4.toNat).toNat)) = x1 → (((iH h 613 ((iH h (617 + x3.toNat) x4.toNat).toNat)) ≠ 0 → (-2147483648 ≤ (x4 + 1) ∧ (x4 + 1) < 2147483648) ∧ wp mX12_segmentPlace 0 rc rs Q 20 [some (vr 89), some (vi x1), some (vi x2), some (vi x3), some (vi (x4 + 1))] [] h) ∧ ((iH h 613 ((iH h (617 + x3.toNat) x4.toNat).toNat)) = 0 → (-2147483648 ≤ (100 * x2) ∧ (100 * x2) < 2147483648) ∧ (-2147483648 ≤ ((100 * x2) + x4) ∧ ((100 * x2) + x4) < 2147483648) ∧ Q (some (vi ((100 * x2) + x4))) h))))))) : wp mX12_segmentPlace 0 rc rs Q 20 [some (vr 89), some (vi x1), some (vi x2), some (vi x3), some (vi x4)] [] h :=
  (show wp mX12_segmentPlace 0 rc rs Q 20 [some (vr 89), some (vi x1), some (vi x2), some (vi x3), some (vi x4)] [] h from xIc k_X12_segmentPlace_20 (And.intro (lm_89 hL) (Exists.intro 615 (And.intro (lf_89_7 hL) (have c1 := hv.1; have v32 := hv.2; (And.intro (sdI (lm_615 hL) c1) (And.intro (fun c2 => have v4 := v32.1 c2; (show wp mX12_segmentPlace 0 rc rs Q 80 [some (vr 89), some (vi x1), some (vi x2), some (vi x3), some (vi x4)] [] h from xGo k_X12_segmentPlace_80 (have c6 := v4.1; have v7 := v4.2; (And.intro c6 (And.intro rfl (w_fg [true, true, true, false, false] v7)))))) (fun c3 => have v5 := v32.2 (Int.not_le.mp c3); (show wp mX12_segmentPlace 0 rc rs Q 31 [some (vr 89), some (vi x1), some (vi x2), some (vi x3), some (vi x4)] [] h from xIc k_X12_segmentPlace_31 (And.intro (lm_89 hL) (Exists.intro 90 (And.intro (lf_89_1 hL) (And.intro (lm_89 hL) (Exists.intro 616 (And.intro (lf_89_8 hL) (And.intro (sdQ (lm_616 hL) c1) (Exists.intro (617 + x3.toNat) (And.intro (lr_members hL (tnl c1)) (have c9 := v5.1; have v31 := v5.2; (And.intro (sdI (lk_members hL (tnl c1)) c9) (have c10 := v31.1; have v30 := v31.2; (And.intro (sdI (lm_90 hL) c10) (And.intro (fun c11 => have v13 := v30.1 c11; (show wp mX12_segmentPlace 0 rc rs Q 74 [some (vr 89), some (vi x1), some (vi x2), some (vi x3), some (vi x4)] [] h from xGo k_X12_segmentPlace_74 (have c15 := v13.1; have v16 := v13.2; (And.intro c15 (And.intro rfl v16))))) (fun c12 => have v14 := v30.2 (Decidable.not_not.mp c12); (show wp mX12_segmentPlace 0 rc rs Q 49 [some (vr 89), some (vi x1), some (vi x2), some (vi x3), some (vi x4)] [] h from xIf k_X12_segmentPlace_49 (And.intro (lm_89 hL) (Exists.intro 613 (And.intro (lf_89_4 hL) (And.intro (lm_89 hL) (Exists.intro 616 (And.intro (lf_89_8 hL) (And.intro (sdQ (lm_616 hL) c1) (Exists.intro (617 + x3.toNat) (And.intro (lr_members hL (tnl c1)) (And.intro (sdI (lk_members hL (tnl c1)) c9) (And.intro (sdZ (lm_613 hL) c10) (And.intro (fun c20 => have v22 := v14.1 c20; (show wp mX12_segmentPlace 0 rc rs Q 74 [some (vr 89), some (vi x1), some (vi x2), some (vi x3), some (vi x4)] [] h from xGo k_X12_segmentPlace_74 (have c24 := v22.1; have v25 := v22.2; (And.intro c24 (And.intro rfl v25))))) (fun c21 => have v23 := v14.2 (Decidable.not_not.mp c21); (show wp mX12_segmentPlace 0 rc rs Q 66 [some (vr 89), some (vi x1), some (vi x2), some (vi x3), some (vi x4)] [] h from xI k_X12_segmentPlace_66 (have c26 := v23.1; have v29 := v23.2; (And.intro c26 (have c27 := v29.1; have v28 := v29.2; (And.intro c27 (And.intro rfl v28))))))))))))))))))))))))))))))))))))))))))))
def m_nearP (h : AH) (d a b : Int) (i k : Nat) : Prop := (i : Int) ≠ (k : Int) ∧ max ((i : Int) - (k : Int)) (-((i : Int) - (k : Int))) ≤ 3 ∧ iH h (93 + d.toNat) i = a ∧ iH h (93 + d.toNat) k = b
noncomputable def m_near (h : AH) (d a b : Int) : Int := sumN (fun i => cnt (m_nearP h d a b i) (iH h 91 d.toNat).toNat) (iH h 91 d.toNat).toNat
theorem c_near {h : AH} (hL : LayM h) {d a b : Int} (hd : m_doc h d) : Ct 1 0 0 mX12_near [vr 89, vi d, vi a, vi b] h (QI fun x h' => x = m_near h d a b ∧ h' = h) := by
  have hs := hd.2.1
  have hbd : ∀ i : Nat, 0 ≤ cnt (m_nearP h d a b i) (iH h 91 d.toNat).toNat ∧ cnt (m_nearP h d a b i) (iH h 91 d.toNat).toNat ≤ 12 := fun i => by have := cnt_bd (m_nearP h d a b i) (iH h 91 d.toNat).toNat; omega
  refine e_X12_near hL (up (P := fun i => wp mX12_near 1 _ _ _ 6 [some (vr 89), some (vi d), some (vi a), some (vi b), some (vi (sumN (fun i => cnt (m_nearP h d a b i) (iH h 91 d.toNat).toNat) i)), some (vi i), none] [] h) (iH h 91 d.toNat).toNat ?_ ?_)
  · exact t_X12_near_6 hL ⟨hd.1, fun _ => ⟨_, rfl, rfl, rfl⟩, fun c => absurd c (by omega)⟩
  · intro i hi ih
    have hb := sumN_bd (fun i => cnt (m_nearP h d a b i) (iH h 91 d.toNat).toNat) 12 (by omega) i (fun j _ => hbd j)
    refine t_X12_near_6 hL ⟨hd.1, fun c => absurd c (by omega), fun c => ?_⟩
    have e0 : sumN (fun i => cnt (m_nearP h d a b i) (iH h 91 d.toNat).toNat) i = sumN (fun i => cnt (m_nearP h d a b i) (iH h 91 d.toNat).toNat) i + cnt (m_nearP h d a b i) 0 := by show _ = _ + (0 : Int); omega
    rw [e0]
    refine up (P := fun k => wp mX12_near 1 _ _ _ 20 [some (vr 89), some (vi d), some (vi a), some (vi b), some (vi (sumN (fun i => cnt (m_nearP h d a b i) (iH h 91 d.toNat).toNat) i + cnt (m_nearP h d a b i) k)), some (vi i), some (vi k)] [] h) (iH h 91 d.toNat).toNat ?_ ?_
    · exact t_X12_near_20 hL ⟨hd.1, fun _ => ⟨by omega, ih⟩, fun c => absurd c (by omega)⟩
    · intro k hk ih2
      have hb2 := cnt_bd (m_nearP h d a b i) k
      have no : ¬ m_nearP h d a b i k → wp mX12_near 1 0 0 (QI fun x h' => x = m_near h d a b ∧ h' = h) 20 [some (vr 89), some (vi d), some (vi a), some (vi b), some (vi (sumN (fun i => cnt (m_nearP h d a b i) (iH h 91 d.toNat).toNat) i + cnt (m_nearP h d a b i) k)), some (vi i), some (vi ((k : Int) + 1))] [] h := fun q => by
        rw [← cnt_n (p := m_nearP h d a b i) (n := k) q]; exact ih2
      refine t_X12_near_20 hL ⟨hd.1, fun c => absurd c (by omega), fun c => ⟨fun c2 => ⟨by omega, no fun q => q.1 c2⟩, fun c2 => ⟨by omega, by omega, fun c3 => ⟨by omega, no fun q => by have := q.2.1; omega⟩, fun c3 => ⟨by omega, fun c4 => ⟨by omega, no fun q => c4 q.2.2.1⟩, fun c4 => ⟨by omega, fun c5 => ⟨by omega, no fun q => c5 q.2.2.2⟩, fun c5 => ⟨by omega, by omega, ?_⟩⟩⟩⟩⟩⟩
      rw [Int.add_assoc, ← cnt_s (p := m_nearP h d a b i) (n := k) ⟨c2, c3, c4, c5⟩]; exact ih2
theorem m_near_bd {h : AH} {d a b : Int} (hd : m_doc h d) : 0 ≤ m_near h d a b ∧ m_near h d a b ≤ 144 := by
  have hs := hd.2.1
  have hb := sumN_bd (fun i => cnt (m_nearP h d a b i) (iH h 91 d.toNat).toNat) 12 (by omega) (iH h 91 d.toNat).toNat (fun i _ => by have := cnt_bd (m_nearP h d a b i) (iH h 91 d.toNat).toNat; omega)
  unfold m_near; omega
def m_tbP (h : AH) (d b l : Int) (k : Nat) : Prop := m_beg (iH h (93 + d.toNat) k) b l
noncomputable def m_tb (h : AH) (d b l : Int) : Int := cnt (m_tbP h d b l) (iH h 91 d.toNat).toNat
def m_bl (b l : Int) : Prop := (0 ≤ b ∧ b < 2147483648) ∧ (0 ≤ l ∧ l ≤ 6)
theorem c_timesBegun {h : AH} (hL : LayM h) {d b l : Int} (hd : m_doc h d ∧ m_bl b l) : Ct 2 0 0 mX12_timesBegun [vr 89, vi d, vi b, vi l] h (QI fun x h' => x = m_tb h d b l ∧ h' = h) := by
  have hs := hd.1.2.1
  refine e_X12_timesBegun hL (up (P := fun k => wp mX12_timesBegun 2 _ _ _ 6 [some (vr 89), some (vi d), some (vi b), some (vi l), some (vi (cnt (m_tbP h d b l) k)), some (vi k)] [] h) (iH h 91 d.toNat).toNat ?_ ?_)
  · exact t_X12_timesBegun_6 hL ⟨hd.1.1, fun _ => ⟨_, rfl, rfl, rfl⟩, fun c => absurd c (by omega)⟩
  · intro k hk ih
    have hb := cnt_bd (m_tbP h d b l) k
    refine t_X12_timesBegun_6 hL ⟨hd.1.1, fun c => absurd c (by omega), fun c => ?_⟩
    have hw := hd.1.2.2 k c
    refine ⟨by omega, ⟨⟨by simp only [Int.toNat_natCast]; omega, by simp only [Int.toNat_natCast]; omega⟩, hd.2.1, hd.2.2⟩, fun c2 => ⟨by omega, ?_⟩, fun c2 => ⟨by omega, by omega, ?_⟩⟩
    · rw [← cnt_n (p := m_tbP h d b l) (n := k) c2]; exact ih
    · rw [← cnt_s (p := m_tbP h d b l) (n := k) c2]; exact ih
theorem m_tb_bd {h : AH} {d b l : Int} (hd : m_doc h d) : 0 ≤ m_tb h d b l ∧ m_tb h d b l ≤ 12 := by
  have h1 := cnt_bd (m_tbP h d b l) (iH h 91 d.toNat).toNat
  have h2 := hd.2.1
  unfold m_tb; omega
theorem andI_0 {x : Int} (hx : x = 0 ∨ x = 1) : andI x 0 = 0 := by rcases hx with rfl | rfl <;> decide +kernel
theorem andI_1 {x : Int} (hx : x = 0 ∨ x = 1) : andI x 1 = x := by rcases hx with rfl | rfl <;> decide +kernel
theorem orI_0 {x : Int} (hx : x = 0 ∨ x = 1) : orI x 0 = x := by rcases hx with rfl | rfl <;> decide +kernel
theorem orI_1 {x : Int} (hx : x = 0 ∨ x = 1) : orI x 1 = 1 := by rcases hx with rfl | rfl <;> decide +kernel
def m_phE (h : AH) (d : Int) (a : Nat) (f : Int) (k j : Nat) : Prop := ∀ i, i < j → iH h (93 + d.toNat) (k + i) = iH h a (f.toNat + i)
def m_phP (h : AH) (d : Int) (a : Nat) (f n : Int) (k : Nat) : Prop := m_phE h d a f k n.toNat
noncomputable def m_ph (h : AH) (d : Int) (a : Nat) (f n : Int) : Int := cnt (m_phP h d a f n) (iH h 91 d.toNat - n + 1).toNat
theorem m_ph_bd {h : AH} {d : Int} {a : Nat} {f n : Int} (hd : m_doc h d) (hn : 1 ≤ n) : 0 ≤ m_ph h d a f n ∧ m_ph h d a f n ≤ 12 := by
  have h1 := cnt_bd (m_phP h d a f n) (iH h 91 d.toNat - n + 1).toNat
  have h2 := hd.2.1
  unfold m_ph; omega
theorem c_phraseTimes {h : AH} (hL : LayM h) {a na : Nat} {d f n : Int} (ha : a < nH h ∧ kH h a = (13, na)) (hd : m_doc h d) (hf : 0 ≤ f ∧ 1 ≤ n ∧ n ≤ 6 ∧ f + n ≤ (na : Int) ∧ na ≤ 1000) : Ct 0 0 0 mX12_phraseTimes [vr 89, vi d, vr a, vi f, vi n] h (QI fun x h' => x = m_ph h d a f n ∧ h' = h) := by
  have hs := hd.2.1
  refine e_X12_phraseTimes hL ha (up (P := fun k => wp mX12_phraseTimes 0 _ _ _ 6 [some (vr 89), some (vi d), some (vr a), some (vi f), some (vi n), some (vi (cnt (m_phP h d a f n) k)), some (vi k), none, none] [] h) (iH h 91 d.toNat - n + 1).toNat ?_ ?_)
  · exact t_X12_phraseTimes_6 hL ha ⟨by omega, hd.1, fun _ => ⟨_, rfl, rfl, rfl⟩, fun c => absurd c (by omega)⟩
  · intro k hk ih
    have hb := cnt_bd (m_phP h d a f n) k
    refine t_X12_phraseTimes_6 hL ha ⟨by omega, hd.1, fun c => absurd c (by omega), fun c => ?_⟩
    have e0 : (1 : Int) = b01 (m_phE h d a f k 0) := (b01_t (fun i hi => by omega)).symm
    rw [e0]
    refine up (P := fun j => wp mX12_phraseTimes 0 _ _ _ 26 [some (vr 89), some (vi d), some (vr a), some (vi f), some (vi n), some (vi (cnt (m_phP h d a f n) k)), some (vi k), some (vi (b01 (m_phE h d a f k j))), some (vi j)] [] h) n.toNat ?_ ?_
    · refine t_X12_phraseTimes_26 hL ha ⟨fun _ => ⟨fun c2 => ⟨by omega, ?_⟩, fun c2 => ⟨by omega, by omega, ?_⟩⟩, fun c => absurd c (by omega)⟩
      · rw [← cnt_n (p := m_phP h d a f n) (n := k) (b01_n.mp c2)]; exact ih
      · rw [← cnt_s (p := m_phP h d a f n) (n := k) (b01_p.mp c2)]; exact ih
    · intro j hj ih2
      have e1 : ((k : Int) + (j : Int)).toNat = k + j := by omega
      have e2 : (f + (j : Int)).toNat = f.toNat + j := by omega
      refine t_X12_phraseTimes_26 hL ha ⟨fun c => absurd c (by omega), fun c => ⟨hd.1, by omega, by omega, by omega, by omega, fun c2 => ⟨by omega, ?_⟩, fun c2 => ⟨by omega, ?_⟩⟩⟩
      · rw [e1, e2] at c2
        rw [andI_0 (b01_01 _), show (0 : Int) = b01 (m_phE h d a f k (j + 1)) from (b01_f (fun q => c2 (q j (by omega)))).symm]
        exact ih2
      · rw [e1, e2] at c2
        rw [andI_1 (b01_01 _), show m_phE h d a f k j = m_phE h d a f k (j + 1) from propext ⟨fun q i hi => by
          by_cases e : i = j
          · subst e; exact c2
          · exact q i (by omega), fun q i hi => q i (by omega)⟩]
        exact ih2
noncomputable def m_opv (h : AH) (g : Int) : Int := cnt (fun v => m_stands h v g) 4
theorem c_openViews {h : AH} (hL : LayM h) {g : Int} (hv : ∀ v : Nat, v < 7 → m_std h v) : Ct 1 0 0 mX12_openViews [vr 89, vi g] h (QI fun x h' => x = m_opv h g ∧ h' = h) := by
  refine e_X12_openViews hL (up (P := fun k => wp mX12_openViews 1 _ _ _ 4 [some (vr 89), some (vi g), some (vi (cnt (fun v => m_stands h v g) k)), some (vi k)] [] h) 4 ?_ ?_)
  · exact t_X12_openViews_4 hL ⟨fun _ => ⟨_, rfl, rfl, rfl⟩, fun c => absurd c (by omega)⟩
  · intro k hk ih
    have hb := cnt_bd (fun v => m_stands h v g) k
    refine t_X12_openViews_4 hL ⟨fun c => absurd c (by omega), fun c => ⟨hv k (by omega), fun c2 => ⟨by omega, ?_⟩, fun c2 => ⟨by omega, by omega, ?_⟩⟩⟩
    · rw [← cnt_n (p := fun v => m_stands h v g) (n := k) c2]; exact ih
    · rw [← cnt_s (p := fun v => m_stands h v g) (n := k) c2]; exact ih
def m_spP (h : AH) (key g : Int) (k : Nat) : Prop := iH h 90 (iH h (617 + g.toNat) k).toNat = key ∧ iH h 613 (iH h (617 + g.toNat) k).toNat = 0
noncomputable def m_sp1 (h : AH) (key : Int) (s : Nat) : Int := fst (m_spP h key (iH h 1155 s)) (iH h 615 (iH h 1155 s).toNat).toNat
noncomputable def m_sps (h : AH) (key : Int) : Int := fst (fun s => m_sp1 h key s ≠ -1) (iH h 89 13).toNat
noncomputable def m_sp (h : AH) (key : Int) : Int := if m_sps h key = -1 then -1 else 100 * m_sps h key + m_sp1 h key (m_sps h key).toNat
theorem c_segmentPlace {h : AH} (hL : LayM h) {key : Int} (hn : m_now h) : Ct 0 0 0 mX12_segmentPlace [vr 89, vi key] h (QI fun x h' => x = m_sp h key ∧ h' = h) := by
  have hl := hn.1
  refine e_X12_segmentPlace hL (up (P := fun s => (∀ j, j < s → ¬ m_sp1 h key j ≠ -1) → wp mX12_segmentPlace 0 _ _ _ 2 [some (vr 89), some (vi key), some (vi s), none, none] [] h) (iH h 89 13).toNat ?_ ?_ (fun j hj => by omega))
  · intro hno
    refine t_X12_segmentPlace_2 hL ⟨fun _ => ⟨_, rfl, ?_, rfl⟩, fun c => absurd c (by omega)⟩
    unfold m_sp m_sps
    rw [fst_no hno, if_pos rfl]
  · intro s hs ih hno
    refine t_X12_segmentPlace_2 hL ⟨fun c => absurd c (by omega), fun c => ⟨by omega, ?_⟩⟩
    have hg := hn.2 s c
    have hg2 := hg.2.1
    refine up (P := fun k => (∀ j, j < k → ¬ m_spP h key (iH h 1155 s) j) → wp mX12_segmentPlace 0 _ _ _ 20 [some (vr 89), some (vi key), some (vi s), some (vi (iH h 1155 s)), some (vi k)] [] h) (iH h 615 (iH h 1155 s).toNat).toNat ?_ ?_ (fun j hj => by omega)
    · intro hno2
      refine t_X12_segmentPlace_20 hL ⟨hg.1, fun _ => ⟨by omega, ih fun j hj => ?_⟩, fun c => absurd c (by omega)⟩
      by_cases e : j = s
      · subst e
        exact fun q => q (fst_no hno2)
      · exact hno j (by omega)
    · intro k hk ih2 hno2
      have no : ¬ m_spP h key (iH h 1155 s) k → ∀ j, j < k + 1 → ¬ m_spP h key (iH h 1155 s) j := fun q j hj => by
        by_cases e : j = k
        · subst e; exact q
        · exact hno2 j (by omega)
      refine t_X12_segmentPlace_20 hL ⟨hg.1, fun c => absurd c (by omega), fun c => ⟨by omega, hg.2.2 k c, fun c2 => ⟨by omega, ih2 (no fun q => c2 q.1)⟩, fun c2 => ⟨fun c3 => ⟨by omega, ih2 (no fun q => c3 q.2)⟩, fun c3 => ⟨by omega, by omega, _, rfl, ?_, rfl⟩⟩⟩⟩
      have e1 : m_sp1 h key s = k := fst_at hk hno2 ⟨c2, c3⟩
      have e2 : m_sps h key = s := fst_at hs hno (by rw [e1]; omega)
      unfold m_sp
      rw [e2, if_neg (by omega), show ((s : Int)).toNat = s from rfl, e1]
