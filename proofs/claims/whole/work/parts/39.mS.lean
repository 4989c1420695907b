/-! THE PARSER OF QUERIES, AS A FUNCTION OF THE TAPE: a token stands where its search begins; an answer is a fault's place, or where the next token's search begins, and the operations so far -/
abbrev qL := List (List Int)
abbrev qS := Nat ⊕ (Nat × List (List Int))
noncomputable def q_b (h : AH) (p : Nat) : Nat := d_sk h p
noncomputable def q_we (h : AH) (p : Nat) : Nat := d_we h (q_b h p)
noncomputable def q_v (h : AH) (p : Nat) : Int := m_wf h (q_b h p) (q_we h p) 6
noncomputable def q_e (h : AH) (p : Nat) : Nat := if d_n h ≤ q_b h p then q_b h p else if q_b h p < q_we h p then q_we h p else q_b h p + 1
def q_kw (v : Int) : Int := if v = 224799543 then 2 else if v = 21867813 then 3 else if v = 209249973 then 4 else 1
noncomputable def q_k (h : AH) (p : Nat) : Int := if d_n h ≤ q_b h p then 0 else if q_b h p < q_we h p then (if q_b h p + 6 < q_we h p then 5 else q_kw (q_v h p)) else if iH h 1157 (q_b h p) = 34 ∨ iH h 1157 (q_b h p) = 40 ∨ iH h 1157 (q_b h p) = 41 ∨ iH h 1157 (q_b h p) = 42 ∨ iH h 1157 (q_b h p) = 126 then iH h 1157 (q_b h p) else 5
noncomputable def q_go (h : AH) (p : Nat) (o : qL) : qS := if q_k h p = 5 then .inl (q_b h p) else .inr (p, o)
def q_bd (s : qS) (f : Nat → qL → qS) : qS := match s with
  | .inl e => .inl e
  | .inr x => f x.1 x.2
noncomputable def q_pl (h : AH) (p : Nat) (o : qL) : qS := q_bd (q_go h (q_e h p) o) fun p1 o1 => if q_k h p1 = 42 then q_go h (q_e h p1) (o1 ++ [[1, q_v h p, (q_e h p : Int) - q_b h p]]) else if q_k h p1 = 126 then q_bd (q_go h (q_e h p1) o1) (fun p2 o2 => if q_k h p2 = 1 then q_go h (q_e h p2) (o2 ++ [[2, q_v h p, q_v h p2]]) else .inl (q_b h p2)) else .inr (p1, o1 ++ [[0, q_v h p]])
noncomputable def q_ws (h : AH) : Nat → Nat → List Int → Nat ⊕ (Nat × List Int)
  | 0, p, ws => .inr (p, ws)
  | k + 1, p, ws => if q_k h p = 1 then (if q_k h (q_e h p) = 5 then .inl (q_b h (q_e h p)) else q_ws h k (q_e h p) (ws ++ [q_v h p])) else .inr (p, ws)
noncomputable def q_pf (h : AH) (o : qL) (s : Nat ⊕ (Nat × List Int)) : qS := match s with
  | .inl e => .inl e
  | .inr x => if q_k h x.1 = 34 then q_go h (q_e h x.1) (o ++ [3 :: (x.2.length : Int) :: x.2]) else .inl (q_b h x.1)
noncomputable def q_ph (h : AH) (p : Nat) (o : qL) : qS := q_bd (q_go h (q_e h p) o) fun p1 o1 => if q_k h p1 = 1 then q_pf h o1 (q_ws h 6 p1 []) else .inl (q_b h p1)
noncomputable def q_lp (h : AH) (k m : Int) (f : Nat → qL → qS) : Nat → Nat → qL → qS
  | 0, p, o => .inr (p, o)
  | n + 1, p, o => if q_k h p = k then q_bd (q_bd (q_go h (q_e h p) o) f) (fun p1 o1 => q_lp h k m f n p1 (o1 ++ [[m]])) else .inr (p, o)
noncomputable def q_bo (h : AH) (f : Nat → qL → qS) (p : Nat) (o : qL) : qS := q_bd (f p o) (q_lp h 3 5 f 64)
noncomputable def q_ei (h : AH) (f : Nat → qL → qS) (p : Nat) (o : qL) : qS := q_bd (q_bo h f p o) (q_lp h 2 6 (q_bo h f) 64)
noncomputable def q_o1 (h : AH) (neg br : Nat → qL → qS) (p : Nat) (o : qL) : qS := if q_k h p = 4 then neg p o else if q_k h p = 40 then br p o else if q_k h p = 34 then q_ph h p o else if q_k h p = 1 then q_pl h p o else .inl (q_b h p)
noncomputable def q_ng (h : AH) (f : Nat → qL → qS) (p : Nat) (o : qL) : qS := q_bd (q_bd (q_go h (q_e h p) o) f) fun p1 o1 => .inr (p1, o1 ++ [[4]])
noncomputable def q_br (h : AH) (f : Nat → qL → qS) (p : Nat) (o : qL) : qS := q_bd (q_bd (q_go h (q_e h p) o) (q_ei h f)) fun p1 o1 => if q_k h p1 = 41 then q_go h (q_e h p1) o1 else .inl (q_b h p1)
noncomputable def q_one (h : AH) : Nat → Nat → qL → qS
  | 0 => q_o1 h (fun p _ => .inl (q_b h p)) (fun p _ => .inl (q_b h p))
  | d + 1 => q_o1 h (q_ng h (q_one h d)) (q_br h (q_one h d))
noncomputable def q_all (h : AH) : qS := q_bd (q_bd (q_go h 0 []) (q_ei h (q_one h 4))) fun p o => if q_k h p = 0 then .inr (p, o) else .inl (q_b h p)
/-! operations: their form, their room in the class, heights -/
def q_wd (w : Int) : Prop := 0 < w ∧ w < 387420489
def q_fm (x : List Int) : Prop := (∃ w, x = [0, w] ∧ q_wd w) ∨ (∃ w n, x = [1, w, n] ∧ q_wd w ∧ 1 ≤ n ∧ n ≤ 6) ∨ (∃ w v, x = [2, w, v] ∧ q_wd w ∧ q_wd v) ∨ (∃ ws : List Int, x = 3 :: (ws.length : Int) :: ws ∧ 1 ≤ ws.length ∧ ws.length ≤ 6 ∧ ∀ w ∈ ws, q_wd w) ∨ x = [4] ∨ x = [5] ∨ x = [6]
/-- how many numbers the class's form takes -/
def q_zL (x : List Int) : Nat := if x.length = 2 then 3 else x.length
def q_szL : qL → Nat
  | [] => 0
  | x :: r => q_zL x + q_szL r
theorem q_szL_app : ∀ (a b : qL), q_szL (a ++ b) = q_szL a + q_szL b
  | [], b => by show q_szL b = 0 + q_szL b; omega
  | x :: a, b => by show q_zL x + q_szL (a ++ b) = q_zL x + q_szL a + q_szL b; rw [q_szL_app a b]; omega
def q_dx (x : List Int) : Int := if x.headD 0 ≤ 3 then 1 else if x.headD 0 = 4 then 0 else -1
def q_nd (x : List Int) : Int := if x.headD 0 ≤ 3 then 0 else if x.headD 0 = 4 then 1 else 2
def q_wf : Int → qL → Int → Prop
  | t, [], t' => t = t'
  | t, x :: r, t' => (q_fm x ∧ q_nd x ≤ t ∧ t ≤ 12) ∧ q_wf (t + q_dx x) r t'
theorem q_wf_app : ∀ {a b : qL} {t m t' : Int}, q_wf t a m → q_wf m b t' → q_wf t (a ++ b) t'
  | [], _, _, _, _, h1, h2 => by
    have : _ = _ := h1
    subst this; exact h2
  | _ :: _, _, _, _, _, h1, h2 => ⟨h1.1, q_wf_app h1.2 h2⟩
theorem q_wf_1 {x : List Int} {t t' : Int} (h : q_fm x) (h1 : q_nd x ≤ t ∧ t ≤ 12) (h2 : t' = t + q_dx x) : q_wf t [x] t' := ⟨⟨h, h1⟩, h2.symm⟩
/-- a step's promise: from place p on to p', what it lays -/
def q_P (h : AH) (c : Int) (a : Nat) (p : Nat) (o : qL) (s : qS) : Prop := match s with
  | .inl e => e ≤ d_n h
  | .inr x => p < x.1 ∧ x.1 ≤ d_n h ∧ q_k h x.1 ≠ 5 ∧ ∃ g, x.2 = o ++ g ∧ 2 * q_szL g ≤ 3 * (x.1 - p) + a ∧ ∀ t : Int, 0 ≤ t → t + c ≤ 12 → q_wf t g (t + 1)
theorem q_b_le {h : AH} {p : Nat} (hp : p ≤ d_n h) : q_b h p ≤ d_n h := run_le hp
theorem q_b_ge {h : AH} {p : Nat} : p ≤ q_b h p := run_ge _ _ _
theorem q_e_le {h : AH} {p : Nat} (hp : p ≤ d_n h) : q_e h p ≤ d_n h := by
  have h1 := q_b_le hp
  have h2 : q_we h p ≤ d_n h := run_le h1
  unfold q_e
  split
  · exact h1
  · split
    · exact h2
    · omega
theorem q_k_0 {h : AH} {p : Nat} : q_k h p = 0 ↔ d_n h ≤ q_b h p := by
  unfold q_k q_kw
  constructor
  · intro q
    by_cases c : d_n h ≤ q_b h p
    · exact c
    · exfalso
      rw [if_neg c] at q
      (repeat' split at q) <;> omega
  · intro q; rw [if_pos q]
theorem q_e_gt {h : AH} {p : Nat} (hk : q_k h p ≠ 0) : q_b h p < q_e h p := by
  have h1 : ¬ d_n h ≤ q_b h p := fun q => hk (q_k_0.mpr q)
  unfold q_e
  rw [if_neg h1]
  split
  · assumption
  · omega
theorem q_go_r {h : AH} {p : Nat} {o : qL} {c : Int} {a p0 : Nat} {o0 : qL} (hp : p ≤ d_n h) (k : q_k h p ≠ 5 → q_P h c a p0 o0 (.inr (p, o))) : q_P h c a p0 o0 (q_go h p o) := by
  unfold q_go
  by_cases c : q_k h p = 5
  · rw [if_pos c]; exact q_b_le hp
  · rw [if_neg c]; exact k c
theorem q_bd_go {h : AH} {p : Nat} {o : qL} {c : Int} {a p0 : Nat} {o0 : qL} {f : Nat → qL → qS} (hp : p ≤ d_n h) (k : q_k h p ≠ 5 → q_P h c a p0 o0 (f p o)) : q_P h c a p0 o0 (q_bd (q_go h p o) f) := by
  unfold q_go
  by_cases c : q_k h p = 5
  · rw [if_pos c]; exact q_b_le hp
  · rw [if_neg c]; exact k c
theorem q_bd_P {h : AH} {c c2 : Int} {a a2 p p0 : Nat} {o o0 : qL} {s : qS} {f : Nat → qL → qS} (hs : q_P h c a p o s) (k : ∀ p1 g, p < p1 → p1 ≤ d_n h → q_k h p1 ≠ 5 → 2 * q_szL g ≤ 3 * (p1 - p) + a → (∀ t : Int, 0 ≤ t → t + c ≤ 12 → q_wf t g (t + 1)) → q_P h c2 a2 p0 o0 (f p1 (o ++ g))) : q_P h c2 a2 p0 o0 (q_bd s f) := by
  cases s with
  | inl e => exact hs
  | inr x =>
    obtain ⟨h1, h2, h3, g, h4, h5, h6⟩ := hs
    show q_P h c2 a2 p0 o0 (f x.1 x.2)
    rw [h4]
    exact k x.1 g h1 h2 h3 h5 h6
/-- the value of letters -/
theorem q_wf_lt2 {h : AH} {a : Int} : ∃ d : Int, m_wf h a (a + 1) 6 = d * 14348907 := by
  refine ⟨if a + (0 : Nat) < a + 1 then iH h 1157 (a + (0 : Nat)).toNat - 96 else 0, ?_⟩
  unfold m_wf m_wf m_wf m_wf m_wf m_wf m_wf
  rw [if_neg (show ¬ a + ((5 : Nat) : Int) < a + 1 by omega), if_neg (show ¬ a + ((4 : Nat) : Int) < a + 1 by omega), if_neg (show ¬ a + ((3 : Nat) : Int) < a + 1 by omega), if_neg (show ¬ a + ((2 : Nat) : Int) < a + 1 by omega), if_neg (show ¬ a + ((1 : Nat) : Int) < a + 1 by omega)]
  omega
theorem q_wf_pos {h : AH} {a b : Int} (hl : m_let h a b) (hab : a < b) : ∀ k : Nat, k ≤ 5 → 27 ^ k ≤ m_wf h a b (k + 1)
  | 0, _ => by
    have h2 := hl.2.2 0 (by omega) (by omega)
    show (1 : Int) ≤ 27 * 0 + (if a + ((0 : Nat) : Int) < b then iH h 1157 (a + ((0 : Nat) : Int)).toNat - 96 else 0)
    rw [if_pos (by omega)]
    omega
  | k + 1, hk => by
    have h1 := q_wf_pos hl hab k (by omega)
    have e : m_wf h a b (k + 1 + 1) = 27 * m_wf h a b (k + 1) + (if a + ((k + 1 : Nat) : Int) < b then iH h 1157 (a + ((k + 1 : Nat) : Int)).toNat - 96 else 0) := rfl
    rw [e, Int.pow_succ]
    split
    · have h2 := hl.2.2 (k + 1) (by omega) (by assumption)
      omega
    · omega
def q_tp (h : AH) : Prop := 0 ≤ iH h 89 18 ∧ iH h 89 18 ≤ 64
theorem q_v_wd {h : AH} (ht : q_tp h) {p : Nat} (hp : p ≤ d_n h) (hw : q_b h p < q_we h p) : q_wd (q_v h p) := by
  have hl : m_let h (q_b h p) (q_we h p) := d_word_let ht (q_b_le hp)
  have h1 : (14348907 : Int) ≤ m_wf h (q_b h p) (q_we h p) 6 := q_wf_pos hl (by omega) 5 (by omega)
  have h2 : 0 ≤ m_wf h (q_b h p) (q_we h p) 6 ∧ m_wf h (q_b h p) (q_we h p) 6 < 387420489 := m_wf_bd hl 6 (by omega)
  unfold q_wd q_v
  omega
theorem q_k_w {h : AH} {p : Nat} (hk : 1 ≤ q_k h p ∧ q_k h p ≤ 4) : q_b h p < q_we h p ∧ q_we h p ≤ q_b h p + 6 ∧ q_e h p = q_we h p ∧ q_k h p = q_kw (q_v h p) ∧ q_b h p < d_n h := by
  have h1 : ¬ d_n h ≤ q_b h p := fun q => by rw [q_k_0.mpr q] at hk; omega
  have h2 : q_b h p < q_we h p := by
    refine Classical.byContradiction fun q => ?_
    have e : q_k h p = if iH h 1157 (q_b h p) = 34 ∨ iH h 1157 (q_b h p) = 40 ∨ iH h 1157 (q_b h p) = 41 ∨ iH h 1157 (q_b h p) = 42 ∨ iH h 1157 (q_b h p) = 126 then iH h 1157 (q_b h p) else 5 := by
      unfold q_k; rw [if_neg h1, if_neg q]
    rw [e] at hk
    split at hk <;> omega
  have e : q_k h p = if q_b h p + 6 < q_we h p then 5 else q_kw (q_v h p) := by
    unfold q_k; rw [if_neg h1, if_pos h2]
  have h3 : ¬ q_b h p + 6 < q_we h p := fun q => by rw [e, if_pos q] at hk; omega
  refine ⟨h2, by omega, ?_, by rw [e, if_neg h3], by omega⟩
  unfold q_e
  rw [if_neg h1, if_pos h2]
theorem q_k_2 {h : AH} {p : Nat} (hk : 2 ≤ q_k h p ∧ q_k h p ≤ 4) : q_b h p + 2 ≤ q_e h p := by
  obtain ⟨h1, h2, h3, h4, -⟩ := q_k_w (h := h) (p := p) (by omega)
  refine Classical.byContradiction fun q => ?_
  have e : q_we h p = q_b h p + 1 := by omega
  obtain ⟨d, hd⟩ := q_wf_lt2 (h := h) (a := (q_b h p : Int))
  have e2 : q_v h p = d * 14348907 := by
    unfold q_v; rw [e]; exact hd
  rw [h4, e2] at hk
  unfold q_kw at hk
  rw [if_neg (by omega), if_neg (by omega), if_neg (by omega)] at hk
  omega
theorem q_k_1 {h : AH} (ht : q_tp h) {p : Nat} (hp : p ≤ d_n h) (hk : q_k h p = 1) : q_wd (q_v h p) ∧ q_b h p + 1 ≤ q_e h p ∧ q_e h p ≤ q_b h p + 6 := by
  obtain ⟨h1, h2, h3, h4, -⟩ := q_k_w (h := h) (p := p) (by omega)
  exact ⟨q_v_wd ht hp h1, by omega, by omega⟩
theorem q_P_wk {h : AH} {c c2 : Int} {a a2 p : Nat} {o : qL} {s : qS} (hc : c ≤ c2) (ha : a ≤ a2) (hs : q_P h c a p o s) : q_P h c2 a2 p o s := by
  cases s with
  | inl e => exact hs
  | inr x =>
    obtain ⟨h1, h2, h3, g, h4, h5, h6⟩ := hs
    exact ⟨h1, h2, h3, g, h4, by omega, fun t h7 h8 => h6 t h7 (by omega)⟩
theorem q_pl_P {h : AH} (ht : q_tp h) {p : Nat} {o : qL} (hp : p ≤ d_n h) (hk : q_k h p = 1) : q_P h 1 3 p o (q_pl h p o) := by
  obtain ⟨w1, w2, w3⟩ := q_k_1 ht hp hk
  have b1 := q_b_ge (h := h) (p := p)
  have e1 := q_e_le hp
  unfold q_pl
  refine q_bd_go e1 fun k1 => ?_
  generalize hq : q_e h p = p1 at *
  by_cases c : q_k h p1 = 42
  · rw [if_pos c]
    have b2 := q_b_ge (h := h) (p := p1)
    have g2 := q_e_gt (h := h) (p := p1) (by omega)
    refine q_go_r (q_e_le e1) fun k2 => ⟨by show p < q_e h p1; omega, q_e_le e1, k2, [[1, q_v h p, (p1 : Int) - q_b h p]], rfl, ?_, fun t h1 h2 => q_wf_1 (Or.inr (Or.inl ⟨_, _, rfl, w1, by omega, by omega⟩)) (by show (if (1 : Int) ≤ 3 then (0 : Int) else _) ≤ t ∧ t ≤ 12; rw [if_pos (by omega)]; omega) rfl⟩
    show 2 * 3 ≤ 3 * (q_e h p1 - p) + 3
    omega
  · rw [if_neg c]
    by_cases c2 : q_k h p1 = 126
    · rw [if_pos c2]
      have b2 := q_b_ge (h := h) (p := p1)
      have g2 := q_e_gt (h := h) (p := p1) (by omega)
      have e2 := q_e_le e1
      refine q_bd_go e2 fun k2 => ?_
      by_cases c3 : q_k h (q_e h p1) = 1
      · rw [if_pos c3]
        obtain ⟨v1, v2, v3⟩ := q_k_1 ht e2 c3
        have b3 := q_b_ge (h := h) (p := q_e h p1)
        refine q_go_r (q_e_le e2) fun k3 => ⟨by show p < q_e h (q_e h p1); omega, q_e_le e2, k3, [[2, q_v h p, q_v h (q_e h p1)]], rfl, ?_, fun t h1 h2 => q_wf_1 (Or.inr (Or.inr (Or.inl ⟨_, _, rfl, w1, v1⟩))) (by show (if (2 : Int) ≤ 3 then (0 : Int) else _) ≤ t ∧ t ≤ 12; rw [if_pos (by omega)]; omega) rfl⟩
        show 2 * 3 ≤ 3 * (q_e h (q_e h p1) - p) + 3
        omega
      · rw [if_neg c3]; exact q_b_le e2
    · rw [if_neg c2]
      refine ⟨by show p < p1; omega, e1, k1, [[0, q_v h p]], rfl, ?_, fun t h1 h2 => q_wf_1 (Or.inl ⟨_, rfl, w1⟩) (by show (if (0 : Int) ≤ 3 then (0 : Int) else _) ≤ t ∧ t ≤ 12; rw [if_pos (by omega)]; omega) rfl⟩
      show 2 * 3 ≤ 3 * (p1 - p) + 3
      omega
theorem q_ws_P {h : AH} (ht : q_tp h) : ∀ (k : Nat) (p : Nat) (ws : List Int), p ≤ d_n h → q_k h p ≠ 5 → (match q_ws h k p ws with | .inl e => e ≤ d_n h | .inr x => p ≤ x.1 ∧ x.1 ≤ d_n h ∧ q_k h x.1 ≠ 5 ∧ ∃ g, x.2 = ws ++ g ∧ g.length ≤ k ∧ g.length ≤ x.1 - p ∧ (∀ w ∈ g, q_wd w) ∧ (1 ≤ k → q_k h p = 1 → 1 ≤ g.length))
  | 0, p, ws, hp, h5 => ⟨Nat.le_refl _, hp, h5, [], (List.append_nil _).symm, Nat.le_refl _, Nat.zero_le _, fun w q => absurd q (List.not_mem_nil), fun q => absurd q (by omega)⟩
  | k + 1, p, ws, hp, h5 => by
    unfold q_ws
    by_cases c : q_k h p = 1
    · rw [if_pos c]
      obtain ⟨w1, w2, w3⟩ := q_k_1 ht hp c
      have b1 := q_b_ge (h := h) (p := p)
      have e1 := q_e_le hp
      by_cases c2 : q_k h (q_e h p) = 5
      · rw [if_pos c2]; exact q_b_le e1
      · rw [if_neg c2]
        have ih := q_ws_P ht k (q_e h p) (ws ++ [q_v h p]) e1 c2
        revert ih
        cases q_ws h k (q_e h p) (ws ++ [q_v h p]) with
        | inl e => exact fun ih => ih
        | inr x =>
          rintro ⟨i1, i2, i3, g, i4, i5, i6, i7, -⟩
          refine ⟨by omega, i2, i3, q_v h p :: g, ?_, ?_, ?_, ?_, ?_⟩
          · rw [i4, List.append_assoc]; rfl
          · show g.length + 1 ≤ k + 1; omega
          · show g.length + 1 ≤ x.1 - p; omega
          · intro w hw
            rcases List.mem_cons.mp hw with q | q
            · rw [q]; exact w1
            · exact i7 w q
          · intro _ _; show 1 ≤ g.length + 1; omega
    · rw [if_neg c]
      exact ⟨Nat.le_refl _, hp, h5, [], (List.append_nil _).symm, by show 0 ≤ k + 1; omega, Nat.zero_le _, fun w q => absurd q (List.not_mem_nil), fun _ q => absurd q c⟩
theorem q_zL_ph {ws : List Int} (h : 1 ≤ ws.length) : q_zL (3 :: (ws.length : Int) :: ws) = ws.length + 2 := by
  show (if ws.length + 1 + 1 = 2 then 3 else ws.length + 1 + 1) = _
  rw [if_neg (by omega)]
theorem q_ph_P {h : AH} (ht : q_tp h) {p : Nat} {o : qL} (hp : p ≤ d_n h) (hk : q_k h p ≠ 0) : q_P h 1 3 p o (q_ph h p o) := by
  have b1 := q_b_ge (h := h) (p := p)
  have g1 := q_e_gt hk
  have e1 := q_e_le hp
  unfold q_ph
  refine q_bd_go e1 fun k1 => ?_
  by_cases c : q_k h (q_e h p) = 1
  · rw [if_pos c]
    have hw := q_ws_P ht 6 (q_e h p) [] e1 k1
    revert hw
    cases q_ws h 6 (q_e h p) [] with
    | inl e => exact fun ih => ih
    | inr x =>
      rintro ⟨i1, i2, i3, g, i4, i5, i6, i7, i8⟩
      have i9 := i8 (by omega) c
      have e4 : x.2 = g := by rw [i4]; rfl
      show q_P h 1 3 p o (if q_k h x.1 = 34 then _ else _)
      by_cases c2 : q_k h x.1 = 34
      · rw [if_pos c2, e4]
        have b2 := q_b_ge (h := h) (p := x.1)
        have g2 := q_e_gt (h := h) (p := x.1) (by omega)
        refine q_go_r (q_e_le i2) fun k3 => ⟨by show p < q_e h x.1; omega, q_e_le i2, k3, [3 :: (g.length : Int) :: g], rfl, ?_, fun t h1 h2 => q_wf_1 (Or.inr (Or.inr (Or.inr (Or.inl ⟨g, rfl, i9, i5, i7⟩)))) (by show (if (3 : Int) ≤ 3 then (0 : Int) else _) ≤ t ∧ t ≤ 12; rw [if_pos (by omega)]; omega) rfl⟩
        show 2 * (q_zL (3 :: (g.length : Int) :: g) + 0) ≤ 3 * (q_e h x.1 - p) + 3
        rw [q_zL_ph i9]
        omega
      · rw [if_neg c2]; exact q_b_le i2
  · rw [if_neg c]; exact q_b_le e1
/-- f keeps its promise where a token stands -/
def q_G (h : AH) (c : Int) (a : Nat) (f : Nat → qL → qS) : Prop := ∀ p o, p ≤ d_n h → q_k h p ≠ 5 → q_P h c a p o (f p o)
theorem q_lp_P {h : AH} {k m : Int} {c : Int} {f : Nat → qL → qS} (hf : q_G h c 3 f) (hk : 2 ≤ k ∧ k ≤ 4) (hm : (m = 5 ∨ m = 6) ∧ 1 ≤ c) {p0 : Nat} {o0 : qL} : ∀ (n p : Nat) (g0 : qL), p0 < p → p ≤ d_n h → q_k h p ≠ 5 → 2 * q_szL g0 ≤ 3 * (p - p0) + 3 → (∀ t : Int, 0 ≤ t → t + (c + 1) ≤ 12 → q_wf t g0 (t + 1)) → q_P h (c + 1) 3 p0 o0 (q_lp h k m f n p (o0 ++ g0))
  | 0, p, g0, h1, h2, h3, h4, h5 => ⟨h1, h2, h3, g0, rfl, h4, h5⟩
  | n + 1, p, g0, h1, h2, h3, h4, h5 => by
    unfold q_lp
    by_cases c1 : q_k h p = k
    · rw [if_pos c1]
      have b1 := q_b_ge (h := h) (p := p)
      have g1 := q_k_2 (h := h) (p := p) (by omega)
      have e1 := q_e_le h2
      have key : ∀ s : qS, q_P h c 3 (q_e h p) (o0 ++ g0) s → q_P h (c + 1) 3 p0 o0 (q_bd s (fun p1 o1 => q_lp h k m f n p1 (o1 ++ [[m]]))) := fun s hs => by
        refine q_bd_P hs fun p1 g j1 j2 j3 j4 j5 => ?_
        rw [List.append_assoc, List.append_assoc]
        refine q_lp_P hf hk hm n p1 (g0 ++ (g ++ [[m]])) (by omega) j2 j3 ?_ fun t t1 t2 => ?_
        · rw [q_szL_app, q_szL_app]
          have : q_szL [[m]] = 1 := rfl
          omega
        · refine q_wf_app (h5 t t1 t2) (q_wf_app (j5 (t + 1) (by omega) (by omega)) (q_wf_1 ?_ ?_ ?_))
          · rcases hm.1 with q | q <;> subst q
            · exact Or.inr (Or.inr (Or.inr (Or.inr (Or.inr (Or.inl rfl)))))
            · exact Or.inr (Or.inr (Or.inr (Or.inr (Or.inr (Or.inr rfl)))))
          · have : q_nd [m] = 2 := by rcases hm.1 with q | q <;> subst q <;> rfl
            omega
          · have : q_dx [m] = -1 := by rcases hm.1 with q | q <;> subst q <;> rfl
            omega
      refine key _ ?_
      unfold q_go
      by_cases c5 : q_k h (q_e h p) = 5
      · rw [if_pos c5]; exact q_b_le e1
      · rw [if_neg c5]; exact hf _ _ e1 c5
    · rw [if_neg c1]; exact ⟨h1, h2, h3, g0, rfl, h4, h5⟩
theorem q_bo_P {h : AH} {c : Int} {f : Nat → qL → qS} (hf : q_G h c 3 f) (hc : 1 ≤ c) : q_G h (c + 1) 3 (q_bo h f) := fun p o hp hk =>
  q_bd_P (hf p o hp hk) fun p1 g j1 j2 j3 j4 j5 => q_lp_P hf (by omega) ⟨Or.inl rfl, hc⟩ 64 p1 g j1 j2 j3 j4 fun t t1 t2 => j5 t t1 (by omega)
theorem q_ei_P {h : AH} {c : Int} {f : Nat → qL → qS} (hf : q_G h c 3 f) (hc : 1 ≤ c) : q_G h (c + 2) 3 (q_ei h f) := fun p o hp hk =>
  q_bd_P (q_bo_P hf hc p o hp hk) fun p1 g j1 j2 j3 j4 j5 => by
    have := q_lp_P (k := 2) (m := 6) (p0 := p) (o0 := o) (q_bo_P hf hc) (by omega) ⟨Or.inr rfl, by omega⟩ 64 p1 g j1 j2 j3 j4 fun t t1 t2 => j5 t t1 (by omega)
    rw [show c + 1 + 1 = c + 2 by omega] at this
    exact this
theorem q_go_f {h : AH} {c c2 : Int} {a a2 p p0 : Nat} {o o0 : qL} {f k : Nat → qL → qS} (hp : p ≤ d_n h) (hf : q_G h c a f) (hk : ∀ p1 g, p < p1 → p1 ≤ d_n h → q_k h p1 ≠ 5 → 2 * q_szL g ≤ 3 * (p1 - p) + a → (∀ t : Int, 0 ≤ t → t + c ≤ 12 → q_wf t g (t + 1)) → q_P h c2 a2 p0 o0 (k p1 (o ++ g))) : q_P h c2 a2 p0 o0 (q_bd (q_bd (q_go h p o) f) k) := by
  unfold q_go
  by_cases c5 : q_k h p = 5
  · rw [if_pos c5]; exact q_b_le hp
  · rw [if_neg c5]; exact q_bd_P (hf _ _ hp c5) hk
theorem q_o1_P {h : AH} (ht : q_tp h) {c : Int} {ng br : Nat → qL → qS} (hc : 1 ≤ c) (h1 : ∀ p o, p ≤ d_n h → q_k h p = 4 → q_P h c 3 p o (ng p o)) (h2 : ∀ p o, p ≤ d_n h → q_k h p = 40 → q_P h c 3 p o (br p o)) : q_G h c 3 (q_o1 h ng br) := fun p o hp _ => by
  unfold q_o1
  by_cases c1 : q_k h p = 4
  · rw [if_pos c1]; exact h1 p o hp c1
  · rw [if_neg c1]
    by_cases c2 : q_k h p = 40
    · rw [if_pos c2]; exact h2 p o hp c2
    · rw [if_neg c2]
      by_cases c3 : q_k h p = 34
      · rw [if_pos c3]; exact q_P_wk hc (Nat.le_refl _) (q_ph_P ht hp (by omega))
      · rw [if_neg c3]
        by_cases c4 : q_k h p = 1
        · rw [if_pos c4]; exact q_P_wk hc (Nat.le_refl _) (q_pl_P ht hp c4)
        · rw [if_neg c4]; exact q_b_le hp
theorem q_one_P {h : AH} (ht : q_tp h) : ∀ d : Nat, q_G h (1 + 2 * (d : Int)) 3 (q_one h d)
  | 0 => q_o1_P ht (by omega) (fun _ _ hp _ => q_b_le hp) (fun _ _ hp _ => q_b_le hp)
  | d + 1 => by
    have ih := q_one_P ht d
    refine q_o1_P ht (by omega) (fun p o hp hk => ?_) (fun p o hp hk => ?_)
    · have b1 := q_b_ge (h := h) (p := p)
      have g1 := q_k_2 (h := h) (p := p) (by omega)
      refine q_go_f (q_e_le hp) ih fun p1 g j1 j2 j3 j4 j5 => ⟨by show p < p1; omega, j2, j3, g ++ [[4]], List.append_assoc _ _ _, ?_, fun t t1 t2 => q_wf_app (j5 t t1 (by omega)) (q_wf_1 (Or.inr (Or.inr (Or.inr (Or.inr (Or.inl rfl))))) (by show (if (4 : Int) ≤ 3 then (0 : Int) else if (4 : Int) = 4 then 1 else 2) ≤ t + 1 ∧ t + 1 ≤ 12; rw [if_neg (by omega), if_pos rfl]; omega) (by show t + 1 = t + 1 + (if (4 : Int) ≤ 3 then (1 : Int) else if (4 : Int) = 4 then 0 else -1); rw [if_neg (by omega), if_pos rfl]; omega))⟩
      rw [q_szL_app]
      have : q_szL [[4]] = 1 := rfl
      show 2 * (q_szL g + q_szL [[4]]) ≤ 3 * (p1 - p) + 3
      omega
    · have b1 := q_b_ge (h := h) (p := p)
      have g1 := q_e_gt (h := h) (p := p) (by omega)
      refine q_go_f (q_e_le hp) (q_ei_P ih (by omega)) fun p1 g j1 j2 j3 j4 j5 => ?_
      by_cases c : q_k h p1 = 41
      · rw [if_pos c]
        have b2 := q_b_ge (h := h) (p := p1)
        have g2 := q_e_gt (h := h) (p := p1) (by omega)
        exact q_go_r (q_e_le j2) fun k3 => ⟨by show p < q_e h p1; omega, q_e_le j2, k3, g, rfl, by show 2 * q_szL g ≤ 3 * (q_e h p1 - p) + 3; omega, fun t t1 t2 => j5 t t1 (by omega)⟩
      · rw [if_neg c]; exact q_b_le j2
theorem q_all_P {h : AH} (ht : q_tp h) : match q_all h with | .inl e => e ≤ d_n h | .inr x => q_szL x.2 ≤ 97 ∧ q_wf 0 x.2 1 := by
  have hn : d_n h ≤ 64 := by have := ht.2; unfold d_n; omega
  have e5 : ∀ s : qS, q_P h 11 3 0 [] s → (match q_bd s (fun p o => if q_k h p = 0 then .inr (p, o) else .inl (q_b h p)) with | .inl e => e ≤ d_n h | .inr x => q_szL x.2 ≤ 97 ∧ q_wf 0 x.2 1) := fun s hs => by
    cases s with
    | inl e => exact hs
    | inr x =>
      obtain ⟨h1, h2, h3, g, h4, h5, h6⟩ := hs
      show (match (if q_k h x.1 = 0 then (.inr (x.1, x.2) : qS) else .inl (q_b h x.1)) with | .inl e => e ≤ d_n h | .inr x => q_szL x.2 ≤ 97 ∧ q_wf 0 x.2 1)
      by_cases c : q_k h x.1 = 0
      · rw [if_pos c]
        show q_szL x.2 ≤ 97 ∧ q_wf 0 x.2 1
        rw [h4, List.nil_append]
        exact ⟨by omega, h6 0 (by omega) (by omega)⟩
      · rw [if_neg c]; exact q_b_le h2
  unfold q_all
  refine e5 _ ?_
  unfold q_go
  by_cases c5 : q_k h 0 = 5
  · rw [if_pos c5]; exact q_b_le (Nat.zero_le _)
  · rw [if_neg c5]; exact q_ei_P (q_one_P ht 4) (by omega) 0 [] (Nat.zero_le _) c5
