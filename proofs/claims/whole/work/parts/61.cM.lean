/-! THE CLASS: THE READER'S STATES; WORDS AND PHRASES -/
section
theorem spnI_e {n : Int} (h : 1 ≤ n ∧ n ≤ 6) : spnI n = 27 ^ (6 - n).toNat := by
  rcases (show n = 1 ∨ n = 2 ∨ n = 3 ∨ n = 4 ∨ n = 5 ∨ n = 6 by omega) with rfl | rfl | rfl | rfl | rfl | rfl <;> decide +kernel
/-- how many words the phrases have -/
def qw1 (x : List Int) : Nat := if x.headD 0 = 3 then x.length - 2 else 0
def qw : qL → Nat
  | [] => 0
  | x :: r => qw1 x + qw r
theorem qw_app : ∀ (a b : qL), qw (a ++ b) = qw a + qw b
  | [], b => by show qw b = 0 + qw b; omega
  | x :: a, b => by show qw1 x + qw (a ++ b) = qw1 x + qw a + qw b; rw [qw_app a b]; omega
theorem qw_snoc (o : qL) (x : List Int) : qw (o ++ [x]) = qw o + qw1 x := by
  rw [qw_app]; rfl
theorem qw1_ph {n : Int} {ws : List Int} : qw1 (3 :: n :: ws) = ws.length := by
  show (if (3 : Int) = 3 then (3 :: n :: ws).length - 2 else 0) = _
  rw [if_pos rfl]; rfl
theorem qw1_n {a : Int} {r : List Int} (h : a ≠ 3) : qw1 (a :: r) = 0 := by
  unfold qw1
  exact if_neg h
/-- an operation in the class's rows -/
def opS (x : List Int) : Int := if x.headD 0 ≤ 1 then 0 else x.headD 0 - 1
def opA (f : Nat) (x : List Int) : Int := if x.headD 0 = 3 then f else if 4 ≤ x.headD 0 then 0 else x.getD 1 0
def opB (x : List Int) : Int := if x.headD 0 = 0 then x.getD 1 0 + 1 else if x.headD 0 = 1 then x.getD 1 0 + 27 ^ (6 - x.getD 2 0).toNat else if x.headD 0 = 2 then x.getD 2 0 else if x.headD 0 = 3 then x.getD 1 0 else 0
def oT (T : Nat → Nat → Int) (j f : Nat) (x : List Int) : Prop := T 1 j = opS x ∧ T 2 j = opA f x ∧ T 3 j = opB x ∧ (x.headD 0 = 3 → ∀ i, i + 2 < x.length → T 4 (f + i) = x.getD (i + 2) 0)
/-- all operations so far; words of a phrase that is being read -/
def pT (o : qL) (ws : List Int) (T : Nat → Nat → Int) : Prop := T 0 3 = (o.length : Int) ∧ T 0 5 = ((qw o + ws.length : Nat) : Int) ∧ (∀ i, i < ws.length → T 4 (qw o + i) = ws.getD i 0) ∧ ∀ pre x post, o = pre ++ x :: post → oT T pre.length (qw pre) x
theorem oT_cg {T T' : Nat → Nat → Int} {j f : Nat} {x : List Int} (e1 : T' 1 j = T 1 j) (e2 : T' 2 j = T 2 j) (e3 : T' 3 j = T 3 j) (e4 : ∀ i, i < qw1 x → T' 4 (f + i) = T 4 (f + i)) (hx : oT T j f x) : oT T' j f x := by
  obtain ⟨o1, o2, o3, o4⟩ := hx
  refine ⟨e1.trans o1, e2.trans o2, e3.trans o3, fun c i hi => ?_⟩
  rw [e4 i (by unfold qw1; rw [if_pos c]; omega)]
  exact o4 c i hi
theorem pT_snoc {o : qL} {ws x : List Int} {T : Nat → Nat → Int} (hr : pT o ws T) (hx : qw1 x = ws.length) (hy : x.headD 0 = 3 → ∀ i, i + 2 < x.length → x.getD (i + 2) 0 = ws.getD i 0) : pT (o ++ [x]) [] (tPut T (opS x) (opA (qw o) x) (opB x)) := by
  obtain ⟨r0, r5, rws, ro⟩ := hr
  have en : (T 0 3).toNat = o.length := by omega
  have t1 : ∀ j, tPut T (opS x) (opA (qw o) x) (opB x) 1 j = if j = o.length then opS x else T 1 j := fun j => by
    unfold tPut
    rw [u2_ne (by decide), u2_ne (by decide), u2_ne (by decide), en]
    unfold u2; rw [if_pos rfl]
  have t2 : ∀ j, tPut T (opS x) (opA (qw o) x) (opB x) 2 j = if j = o.length then opA (qw o) x else T 2 j := fun j => by
    unfold tPut
    rw [u2_ne (by decide), u2_ne (by decide), en]
    by_cases c : j = o.length
    · subst c; rw [u2_eq, if_pos rfl]
    · rw [u2_nk c, u2_ne (by decide), if_neg c]
  have t3 : ∀ j, tPut T (opS x) (opA (qw o) x) (opB x) 3 j = if j = o.length then opB x else T 3 j := fun j => by
    unfold tPut
    rw [u2_ne (by decide), en]
    by_cases c : j = o.length
    · subst c; rw [u2_eq, if_pos rfl]
    · rw [u2_nk c, u2_ne (by decide), u2_ne (by decide), if_neg c]
  have t4 : ∀ j, tPut T (opS x) (opA (qw o) x) (opB x) 4 j = T 4 j := fun j => by
    unfold tPut
    rw [u2_ne (by decide), u2_ne (by decide), u2_ne (by decide), u2_ne (by decide)]
  have t5 : tPut T (opS x) (opA (qw o) x) (opB x) 0 5 = T 0 5 := by
    unfold tPut
    rw [u2_nk (by decide), u2_ne (by decide), u2_ne (by decide), u2_ne (by decide)]
  have t0 : tPut T (opS x) (opA (qw o) x) (opB x) 0 3 = T 0 3 + 1 := by
    unfold tPut
    rw [u2_eq]
  refine ⟨by rw [t0, r0, List.length_append]; rfl, by rw [t5, r5, qw_snoc, hx]; rfl, fun i hi => absurd hi (Nat.not_lt_zero _), fun pre y post e => ?_⟩
  rcases List.eq_nil_or_concat post with rfl | ⟨L, b, rfl⟩
  · obtain ⟨e1, e2⟩ := List.append_inj' e rfl
    have e3 : x = y := (List.cons.inj e2).1
    subst e3
    subst e1
    refine ⟨by rw [t1, if_pos rfl], by rw [t2, if_pos rfl], by rw [t3, if_pos rfl], fun c i hi => ?_⟩
    rw [t4, hy c i hi]
    exact rws i (by unfold qw1 at hx; rw [if_pos c] at hx; omega)
  · have e' : o ++ [x] = (pre ++ y :: L) ++ [b] := by rw [e]; simp
    obtain ⟨e1, -⟩ := List.append_inj' e' rfl
    have hl : pre.length < o.length := by
      rw [e1, List.length_append]
      show pre.length < pre.length + (L.length + 1)
      omega
    exact oT_cg (by rw [t1, if_neg (by omega)]) (by rw [t2, if_neg (by omega)]) (by rw [t3, if_neg (by omega)]) (fun i _ => t4 _) (ro pre y L e1)
theorem pT_w {o : qL} {ws : List Int} {w : Int} {T : Nat → Nat → Int} (hr : pT o ws T) : pT o (ws ++ [w]) (u2 (u2 T 4 (T 0 5).toNat w) 0 5 (T 0 5 + 1)) := by
  obtain ⟨r0, r5, rws, ro⟩ := hr
  have en : (T 0 5).toNat = qw o + ws.length := by omega
  have el : (ws ++ [w]).length = ws.length + 1 := by simp
  have t4 : ∀ j, u2 (u2 T 4 (T 0 5).toNat w) 0 5 (T 0 5 + 1) 4 j = if j = qw o + ws.length then w else T 4 j := fun j => by
    rw [u2_ne (by decide), en]
    unfold u2; rw [if_pos rfl]
  have ti : ∀ i j, i = 1 ∨ i = 2 ∨ i = 3 → u2 (u2 T 4 (T 0 5).toNat w) 0 5 (T 0 5 + 1) i j = T i j := fun i j hi => by
    rw [u2_ne (by omega), u2_ne (by omega)]
  refine ⟨by rw [u2_nk (by decide), u2_ne (by decide)]; exact r0, by rw [u2_eq, r5, el]; omega, fun i hi => ?_, fun pre y post e => ?_⟩
  · rw [t4]
    by_cases c : i = ws.length
    · subst c
      rw [if_pos rfl]
      simp [List.getD_eq_getElem?_getD]
    · have hi' : i < ws.length := by omega
      rw [if_neg (by omega), rws i hi', List.getD_eq_getElem?_getD, List.getD_eq_getElem?_getD, List.getElem?_append_left hi']
  · have hq : qw pre + qw1 y ≤ qw o := by
      rw [e, qw_app]
      show _ ≤ qw pre + (qw1 y + qw post)
      omega
    exact oT_cg (ti 1 _ (by omega)) (ti 2 _ (by omega)) (ti 3 _ (by omega)) (fun i hi => by rw [t4, if_neg (by omega)]) (ro pre y post e)
/-! room: no more operations than bytes, no more words in phrases -/
def nM (k p : Nat) (o : qL) : Prop := o.length + k ≤ p ∧ qw o + k ≤ p
theorem nM_le {k k' p p' : Nat} {o : qL} (h : nM k p o) (q : p + k' ≤ p' + k) : nM k' p' o := by
  obtain ⟨h1, h2⟩ := h
  exact ⟨by omega, by omega⟩
theorem nM_s {k p : Nat} {o : qL} {a : Int} {r : List Int} (ha : a ≠ 3) (h : nM (k + 1) p o) : nM k p (o ++ [a :: r]) := by
  obtain ⟨h1, h2⟩ := h
  refine ⟨?_, ?_⟩
  · rw [List.length_append]; show o.length + 1 + k ≤ p; omega
  · rw [qw_snoc, qw1_n ha]; omega
def qN (k : Nat) (s : qS) : Prop := match s with
  | .inl _ => True
  | .inr x => nM k x.1 x.2
def fN (f : Nat → qL → qS) : Prop := ∀ k p o, nM k p o → qN k (f p o)
variable {g : AH}
theorem q_e_ge {p : Nat} : p ≤ q_e g p := by
  have := q_b_ge (h := g) (p := p)
  unfold q_e
  split
  · exact this
  · split <;> omega
theorem qN_go {k p : Nat} {o : qL} (h : nM k p o) : qN k (q_go g p o) := by
  unfold q_go; split
  · trivial
  · exact h
theorem qN_bd {j k : Nat} {s : qS} {f : Nat → qL → qS} (hs : qN j s) (hf : ∀ p o, nM j p o → qN k (f p o)) : qN k (q_bd s f) := by
  cases s with
  | inl e => trivial
  | inr x => exact hf x.1 x.2 hs
theorem qN_pl {k p : Nat} {o : qL} (hk : q_k g p = 1) (h : nM k p o) : qN k (q_pl g p o) := by
  obtain ⟨w1, w2, w3, -⟩ := q_k_w (h := g) (p := p) (by omega)
  have b1 := q_b_ge (h := g) (p := p)
  refine qN_bd (qN_go (k := k + 1) (nM_le h (by omega))) fun p1 o1 h1 => ?_
  split
  · exact qN_go (nM_s (by decide) (nM_le h1 (by have := q_e_ge (g := g) (p := p1); omega)))
  · split
    · refine qN_bd (qN_go (k := k + 1) (nM_le h1 (by have := q_e_ge (g := g) (p := p1); omega))) fun p2 o2 h2 => ?_
      split
      · exact qN_go (nM_s (by decide) (nM_le h2 (by have := q_e_ge (g := g) (p := p2); omega)))
      · trivial
    · exact nM_s (by decide) h1
theorem q_ws_len : ∀ (k p : Nat) (ws : List Int), match q_ws g k p ws with | .inl _ => True | .inr x => x.2.length + p ≤ ws.length + x.1
  | 0, p, ws => Nat.le_refl _
  | k + 1, p, ws => by
    unfold q_ws
    by_cases c : q_k g p = 1
    · rw [if_pos c]
      by_cases c2 : q_k g (q_e g p) = 5
      · rw [if_pos c2]; trivial
      · rw [if_neg c2]
        obtain ⟨w1, w2, w3, -⟩ := q_k_w (h := g) (p := p) (by omega)
        have b1 := q_b_ge (h := g) (p := p)
        have ih := q_ws_len k (q_e g p) (ws ++ [q_v g p])
        revert ih
        cases q_ws g k (q_e g p) (ws ++ [q_v g p]) with
        | inl e => exact fun ih => ih
        | inr x =>
          intro ih
          have el : (ws ++ [q_v g p]).length = ws.length + 1 := by simp
          have ih : x.2.length + q_e g p ≤ (ws ++ [q_v g p]).length + x.1 := ih
          show x.2.length + p ≤ ws.length + x.1
          omega
    · rw [if_neg c]; exact Nat.le_of_eq (Nat.add_comm _ _ ▸ rfl)
theorem qN_ph {k p : Nat} {o : qL} (hk : q_k g p ≠ 0) (h : nM k p o) : qN k (q_ph g p o) := by
  have b1 := q_b_ge (h := g) (p := p)
  have b2 := q_e_gt hk
  refine qN_bd (qN_go (k := k + 1) (nM_le h (by omega))) fun p1 o1 h1 => ?_
  split
  · have hw := q_ws_len (g := g) 6 p1 []
    revert hw
    cases q_ws g 6 p1 [] with
    | inl e => exact fun _ => trivial
    | inr x =>
      intro hw
      have hw : x.2.length + p1 ≤ 0 + x.1 := hw
      show qN k (if q_k g x.1 = 34 then _ else _)
      split
      · have e1 := q_e_ge (g := g) (p := x.1)
        obtain ⟨h2, h3⟩ := h1
        refine qN_go ⟨?_, ?_⟩
        · rw [List.length_append]; show o1.length + 1 + k ≤ _; omega
        · rw [qw_snoc, qw1_ph]; omega
      · trivial
  · trivial
theorem qN_lp {k m : Int} {f : Nat → qL → qS} (hm : m ≠ 3) (hk : 2 ≤ k ∧ k ≤ 4) (hf : fN f) : ∀ n, fN (q_lp g k m f n)
  | 0 => fun j p o h => h
  | n + 1 => fun j p o h => by
    unfold q_lp
    split
    · rename_i c
      have b1 := q_b_ge (h := g) (p := p)
      have b2 := q_k_2 (h := g) (p := p) (by omega)
      exact qN_bd (j := j + 1) (qN_bd (j := j + 1) (qN_go (nM_le h (by omega))) (fun p1 o1 h1 => hf _ _ _ h1)) fun p1 o1 h1 => qN_lp hm hk hf n j p1 _ (nM_s hm h1)
    · exact h
theorem qN_bo {f : Nat → qL → qS} (hf : fN f) : fN (q_bo g f) := fun j p o h => qN_bd (hf j p o h) (fun p1 o1 h1 => qN_lp (by decide) (by decide) hf 64 j p1 o1 h1)
theorem qN_ei {f : Nat → qL → qS} (hf : fN f) : fN (q_ei g f) := fun j p o h => qN_bd (qN_bo hf j p o h) (fun p1 o1 h1 => qN_lp (by decide) (by decide) (qN_bo hf) 64 j p1 o1 h1)
theorem qN_o1 {ng br : Nat → qL → qS} (h1 : ∀ j p o, q_k g p = 4 → nM j p o → qN j (ng p o)) (h2 : ∀ j p o, q_k g p = 40 → nM j p o → qN j (br p o)) : fN (q_o1 g ng br) := fun j p o h => by
  unfold q_o1
  split
  · rename_i c; exact h1 j p o c h
  · split
    · rename_i c; exact h2 j p o c h
    · split
      · rename_i c; exact qN_ph (by omega) h
      · split
        · rename_i c; exact qN_pl c h
        · trivial
theorem qN_one (g : AH) : ∀ d, fN (q_one g d)
  | 0 => qN_o1 (fun _ _ _ _ _ => trivial) (fun _ _ _ _ _ => trivial)
  | d + 1 => qN_o1 (fun j p o c h => by
      have b1 := q_b_ge (h := g) (p := p)
      have b2 := q_k_2 (h := g) (p := p) (by omega)
      exact qN_bd (j := j + 1) (qN_bd (j := j + 1) (qN_go (nM_le h (by omega))) (fun p1 o1 h1 => qN_one g d _ _ _ h1)) fun p1 o1 h1 => nM_s (by decide) h1) (fun j p o c h => by
      have b1 := q_e_ge (g := g) (p := p)
      refine qN_bd (j := j) (qN_bd (j := j) (qN_go (nM_le h (by omega))) (fun p1 o1 h1 => qN_ei (qN_one g d) _ _ _ h1)) fun p1 o1 h1 => ?_
      split
      · exact qN_go (nM_le h1 (by have := q_e_ge (g := g) (p := p1); omega))
      · trivial)
/-! states -/
/-- a good state: the token at p is read, nothing is wrong -/
def gS (h g : AH) (a : Nat) (op : Int) (p : Nat) (o : qL) (ws : List Int) (h' : AH) : Prop := ∃ F T, h' = hR h a F T ∧ tokL g p F ∧ F 6 = op ∧ F 7 = -1 ∧ p ≤ d_n g ∧ pT o ws T
/-- a bad one: the fault is noted, or the token is a wrong one -/
def bS (h : AH) (a : Nat) (op : Int) (e : Nat) (h' : AH) : Prop := ∃ F T, h' = hR h a F T ∧ (F 7 = e ∨ (F 7 = -1 ∧ F 2 = 5 ∧ F 3 = e)) ∧ (op ≤ F 6 ∧ F 6 ≤ 4) ∧ 0 ≤ T 0 3
def rS (h g : AH) (a : Nat) (op : Int) (s : qS) (h' : AH) : Prop := match s with
  | .inl e => bS h a op e h'
  | .inr x => gS h g a op x.1 x.2 [] h' ∧ q_k g x.1 ≠ 5
variable {h h' : AH} {a : Nat} {op : Int} {p : Nat} {o : qL} {ws : List Int}
theorem gS_L (hb : bR h g a) (s : gS h g a op p o ws h') : LayL h' ∧ rH h' 20 1 = some a := by
  obtain ⟨F, T, rfl, -⟩ := s; exact ⟨bR_L hb, bR_q hb⟩
theorem bS_L (hb : bR h g a) {e : Nat} (s : bS h a op e h') : LayL h' ∧ rH h' 20 1 = some a := by
  obtain ⟨F, T, rfl, -⟩ := s; exact ⟨bR_L hb, bR_q hb⟩
theorem rS_L (hb : bR h g a) {s : qS} (r : rS h g a op s h') : LayL h' ∧ rH h' 20 1 = some a := by
  cases s with
  | inl e => exact bS_L hb r
  | inr x => exact gS_L hb r.1
theorem gS_f (s : gS h g a op p o ws h') : iH h' 20 2 = q_k g p ∧ iH h' 20 3 = q_b g p ∧ iH h' 20 4 = q_e g p ∧ (q_k g p = 1 → iH h' 20 5 = q_v g p) ∧ iH h' 20 6 = op ∧ iH h' 20 7 = -1 ∧ p ≤ d_n g := by
  obtain ⟨F, T, rfl, ⟨t1, t2, t3, t4⟩, f6, f7, hp, -⟩ := s
  rw [hr_F (by omega), hr_F (by omega), hr_F (by omega), hr_F (by omega), hr_F (by omega), hr_F (by omega)]
  exact ⟨t1, t2, t3, t4, f6, f7, hp⟩
theorem bS_f {e : Nat} (s : bS h a op e h') : (op ≤ iH h' 20 6 ∧ iH h' 20 6 ≤ 4) ∧ (iH h' 20 7 = e ∨ (iH h' 20 7 = -1 ∧ iH h' 20 2 = 5)) := by
  obtain ⟨F, T, rfl, f1, f2, -⟩ := s
  rw [hr_F (by omega), hr_F (by omega), hr_F (by omega)]
  exact ⟨f2, f1.elim Or.inl (fun q => Or.inr ⟨q.1, q.2.1⟩)⟩
theorem bS_m {op2 : Int} {e : Nat} (ho : op2 ≤ op) (s : bS h a op e h') : bS h a op2 e h' := by
  obtain ⟨F, T, rfl, f1, f2, f3⟩ := s
  exact ⟨F, T, rfl, f1, by omega, f3⟩
theorem pT_0 {T : Nat → Nat → Int} (hr : pT o ws T) : 0 ≤ T 0 3 := by have := hr.1; omega
theorem gS_5 (ho : op ≤ 4) (hk : q_k g p = 5) (s : gS h g a op p o ws h') : bS h a op (q_b g p) h' := by
  obtain ⟨F, T, rfl, ⟨t1, t2, t3, t4⟩, f6, f7, hp, hr⟩ := s
  exact ⟨F, T, rfl, Or.inr ⟨f7, by omega, t2⟩, by omega, pT_0 hr⟩
theorem gS_go (ho : op ≤ 4) (s : gS h g a op p o [] h') : rS h g a op (q_go g p o) h' := by
  by_cases c : q_k g p = 5
  · rw [go_E c]; exact gS_5 ho c s
  · rw [go_G c]; exact ⟨s, c⟩
theorem cn_g (hb : bR h g a) (s : gS h g a op p o ws h') : Ct 1 0 0 mX6_next [vr 20] h' (QV (gS h g a op (q_e g p) o ws)) := by
  obtain ⟨F, T, rfl, ⟨t1, t2, t3, t4⟩, f6, f7, hp, hr⟩ := s
  refine Ct.mono (fun x y q => ?_) (l_next hb (p := q_e g p) ⟨t3, q_e_le hp⟩)
  obtain ⟨rfl, F', rfl, k1, k2, k3⟩ := q
  exact ⟨rfl, F', T, rfl, k1, by omega, by omega, q_e_le hp, hr⟩
theorem cp_g (hb : bR h g a) (hl : o.length < 64) {x : List Int} {u v w : Int} (s : gS h g a op p o ws h') (hx : qw1 x = ws.length) (hy : x.headD 0 = 3 → ∀ i, i + 2 < x.length → x.getD (i + 2) 0 = ws.getD i 0) (e1 : u = opS x) (e2 : v = opA (qw o) x) (e3 : w = opB x) : Ct 0 0 0 mX5_put [vr a, vi u, vi v, vi w] h' (QV (gS h g a op p (o ++ [x]) [])) := by
  subst e1 e2 e3
  obtain ⟨F, T, rfl, t, f6, f7, hp, hr⟩ := s
  refine Ct.mono (fun x y q => ?_) (l_put hb (pT_0 hr))
  obtain ⟨rfl, q⟩ := q
  rw [if_pos (by have := hr.1; omega)] at q
  exact ⟨rfl, F, _, q, t, f6, f7, hp, pT_snoc hr hx hy⟩
/-- an operation that is no phrase -/
theorem cp_n (hb : bR h g a) (hl : o.length < 64) {b : Int} {r : List Int} {u v w : Int} (s : gS h g a op p o [] h') (hn : b ≠ 3) (e1 : u = opS (b :: r)) (e2 : v = opA (qw o) (b :: r)) (e3 : w = opB (b :: r)) : Ct 0 0 0 mX5_put [vr a, vi u, vi v, vi w] h' (QV (gS h g a op p (o ++ [b :: r]) [])) :=
  cp_g hb hl s (qw1_n hn) (fun c => absurd c hn) e1 e2 e3
theorem cp_b (hb : bR h g a) {u v w : Int} {e : Nat} (s : bS h a op e h') : Ct 0 0 0 mX5_put [vr a, vi u, vi v, vi w] h' (QV (bS h a op e)) := by
  obtain ⟨F, T, rfl, f1, f2, f3⟩ := s
  refine Ct.mono (fun x y q => ?_) (l_put hb f3)
  obtain ⟨rfl, q⟩ := q
  by_cases c : T 0 3 < 64
  · rw [if_pos c] at q
    refine ⟨rfl, F, _, q, f1, f2, ?_⟩
    unfold tPut
    rw [u2_eq]; omega
  · rw [if_neg c] at q; exact ⟨rfl, F, T, q, f1, f2, f3⟩
theorem cw_g (hb : bR h g a) (hl : qw o + ws.length < 64) {w : Int} (s : gS h g a op p o ws h') : Ct 0 0 0 mX5_putPhraseWord [vr a, vi w] h' (QV (gS h g a op p o (ws ++ [w]))) := by
  obtain ⟨F, T, rfl, t, f6, f7, hp, hr⟩ := s
  have r5 := hr.2.1
  refine Ct.mono (fun x y q => ?_) (l_putW hb (by omega))
  obtain ⟨rfl, q⟩ := q
  rw [if_pos (by omega)] at q
  exact ⟨rfl, F, _, q, t, f6, f7, hp, pT_w hr⟩
theorem cr_g (hb : bR h g a) (ho : op ≤ 4) (s : gS h g a op p o ws h') : Ct 0 0 0 mX6_refuse [vr 20] h' (QV (bS h a op (q_b g p))) := by
  obtain ⟨F, T, rfl, ⟨t1, t2, t3, t4⟩, f6, f7, hp, hr⟩ := s
  refine Ct.mono (fun x y q => ?_) (l_refuse hb)
  obtain ⟨rfl, q⟩ := q
  rw [if_pos f7] at q
  exact ⟨rfl, _, T, q, Or.inl (by simp [updF]; exact t2), by simp [updF]; omega, pT_0 hr⟩
theorem cr_b (hb : bR h g a) {e : Nat} (s : bS h a op e h') : Ct 0 0 0 mX6_refuse [vr 20] h' (QV (bS h a op e)) := by
  obtain ⟨F, T, rfl, f1, f2, f3⟩ := s
  refine Ct.mono (fun x y q => ?_) (l_refuse hb)
  obtain ⟨rfl, q⟩ := q
  rcases f1 with f1 | ⟨f1, f4, f5⟩
  · rw [if_neg (by omega)] at q; exact ⟨rfl, F, T, q, Or.inl f1, f2, f3⟩
  · rw [if_pos f1] at q
    exact ⟨rfl, _, T, q, Or.inl (by simp [updF]; exact f5), by simp [updF]; omega, f3⟩
/-- after a fault is noted: it stays -/
theorem cr_n (hb : bR h g a) {e : Nat} (s : bS h a op e h') : Ct 0 0 0 mX6_refuse [vr 20] h' (QV fun h2 => bS h a op e h2 ∧ iH h2 20 7 = e) := by
  obtain ⟨F, T, rfl, f1, f2, f3⟩ := s
  refine Ct.mono (fun x y q => ?_) (l_refuse hb)
  obtain ⟨rfl, q⟩ := q
  rcases f1 with f1 | ⟨f1, f4, f5⟩
  · rw [if_neg (by omega)] at q
    refine ⟨rfl, ⟨F, T, q, Or.inl f1, f2, f3⟩, ?_⟩
    rw [q, hr_F (by omega)]; exact f1
  · rw [if_pos f1] at q
    refine ⟨rfl, ⟨_, T, q, Or.inl (by simp [updF]; exact f5), by simp [updF]; omega, f3⟩, ?_⟩
    rw [q, hr_F (by omega)]; simp [updF]; exact f5
theorem op_0 {w : Int} {f : Nat} : (0 : Int) = opS [0, w] ∧ w = opA f [0, w] ∧ w + 1 = opB [0, w] := ⟨by simp [opS], by simp [opA], by simp [opB]⟩
theorem op_1 {w n : Int} {f : Nat} : (0 : Int) = opS [1, w, n] ∧ w = opA f [1, w, n] ∧ w + 27 ^ (6 - n).toNat = opB [1, w, n] := ⟨by simp [opS], by simp [opA], by simp [opB]⟩
theorem op_2 {w v : Int} {f : Nat} : (1 : Int) = opS [2, w, v] ∧ w = opA f [2, w, v] ∧ v = opB [2, w, v] := ⟨by simp [opS], by simp [opA], by simp [opB]⟩
theorem op_3 {n : Int} {r : List Int} {f : Nat} : (2 : Int) = opS (3 :: n :: r) ∧ (f : Int) = opA f (3 :: n :: r) ∧ n = opB (3 :: n :: r) := ⟨by simp [opS], by simp [opA], by simp [opB]⟩
theorem op_4 {f : Nat} : (3 : Int) = opS [4] ∧ (0 : Int) = opA f [4] ∧ (0 : Int) = opB [4] := ⟨by simp [opS], by simp [opA], by simp [opB]⟩
theorem op_5 {f : Nat} : (4 : Int) = opS [5] ∧ (0 : Int) = opA f [5] ∧ (0 : Int) = opB [5] := ⟨by simp [opS], by simp [opA], by simp [opB]⟩
theorem op_6 {f : Nat} : (5 : Int) = opS [6] ∧ (0 : Int) = opA f [6] ∧ (0 : Int) = opB [6] := ⟨by simp [opS], by simp [opA], by simp [opB]⟩
end
def b_X5_putPhrase_0 : List IE := [(.aload_n 0, 1, 0, 0, 0, 0), (.iconst 2, 1, 2, 0, 0, 0), (.aload_n 0, 1, 0, 0, 0, 0), (.getfield 31, 3, 0, 5, 5, 0), (.iload_n 1, 1, 0, 0, 1, 0), (.isub, 1, 0, 0, 0, 0), (.iload_n 1, 1, 0, 0, 1, 0)]
theorem k_X5_putPhrase_0 : ckB mX5_putPhrase 5 0 b_X5_putPhrase_0 9 = true := by decide +kernel
def b_X5_putPhrase_12 : List IE := []
theorem k_X5_putPhrase_12 : ckV mX5_putPhrase 5 12 b_X5_putPhrase_12 12 = true := by decide +kernel
theorem s_X5_putPhrase_9 : cV mX5_putPhrase 9 mX5_put 34 3 5 := ⟨by decide +kernel, ⟨ml_X5_put, li_RX5_34, im_X5_put, se_X5_put⟩, ⟨by decide +kernel, by decide +kernel⟩, by decide +kernel⟩
theorem t_X5_putPhrase_0 {rc rs : Nat} {Q : Option AV → AH → Prop} {h : AH} {a0 : Nat} {x1 : Int} (hL : LayL h) (hA0 : iQu a0) (hv : (-2147483648 ≤ (iH h a0 5 - x1) ∧ (iH h a0 5 - x1) < 2147483648) ∧ (∃ P4 : AH → Prop, Ct 0 0 0 mX5_put [vr a0, vi 2, vi (iH h a0 5 - x1), vi x1] h (QV P4) ∧ ∀ h2 : AH, P4 h2 → LayL h2 ∧ Q none h2)) : wp mX5_putPhrase 1 rc rs Q 0 [some (vr a0), some (vi x1)] [] h :=
  (show wp mX5_putPhrase 1 rc rs Q 0 [some (vr a0), some (vi x1)] [] h from xcV k_X5_putPhrase_0 s_X5_putPhrase_9 (And.intro (qu_o hL hA0) (have c1 := hv.1; have v9 := hv.2; (And.intro c1 (Exists.elim v9 (fun P4 v5 => (Exists.intro [vi 2, vi (iH h a0 5 - x1), vi x1] (Exists.intro a0 (Exists.intro [] (And.intro (And.intro rfl (And.intro rfl (Nat.le_of_ble_eq_true rfl))) (And.intro (qu_o hL hA0) (Exists.intro 0 (Exists.intro 0 (Exists.intro 0 (Exists.intro (QV P4) (And.intro v5.1 (And.intro (And.intro (by decide) (And.intro (Nat.zero_le _) (Nat.zero_le _))) (eQV (fun h2 e7 => have v6 := v5.2 h2 e7; have hL := v6.1; have v6 := v6.2; (show wp mX5_putPhrase 1 rc rs Q 12 [some (vr a0), some (vi x1)] [] h2 from xV k_X5_putPhrase_12 (And.intro rfl v6)))))))))))))))))))))
theorem e_X5_putPhrase {mc ms : Nat} {Q : Option AV → AH → Prop} {h : AH} {a0 : Nat} {x1 : Int} (hL : LayL h) (hA0 : iQu a0) (hv : (-2147483648 ≤ (iH h a0 5 - x1) ∧ (iH h a0 5 - x1) < 2147483648) ∧ (∃ P4 : AH → Prop, Ct 0 0 0 mX5_put [vr a0, vi 2, vi (iH h a0 5 - x1), vi x1] h (QV P4) ∧ ∀ h2 : AH, P4 h2 → LayL h2 ∧ Q none h2)) : Ct 1 mc ms mX5_putPhrase [vr a0, vi x1] h Q := Ct.of (by decide +kernel) (Nat.le_of_ble_eq_true rfl) (t_X5_putPhrase_0 hL hA0 hv)
def b_X6_readWord_0 : List IE := [(.aload_n 0, 1, 0, 0, 0, 0), (.getfield 65, 3, 0, 6, 5, 0), (.istore_n 1, 1, 0, 0, 1, 0), (.aload_n 0, 1, 0, 0, 0, 0), (.getfield 31, 3, 0, 6, 4, 0), (.aload_n 0, 1, 0, 0, 0, 0), (.getfield 46, 3, 0, 6, 3, 0), (.isub, 1, 0, 0, 0, 0), (.istore_n 2, 1, 0, 0, 2, 0), (.aload_n 0, 1, 0, 0, 0, 0)]
theorem k_X6_readWord_0 : ckB mX6_readWord 6 0 b_X6_readWord_0 16 = true := by decide +kernel
def b_X6_readWord_19 : List IE := [(.aload_n 0, 1, 0, 0, 0, 0), (.getfield 40, 3, 0, 6, 2, 0), (.bipush 42, 2, 42, 0, 0, 0)]
theorem k_X6_readWord_19 : ckIc mX6_readWord 6 19 b_X6_readWord_19 25 1 24 49 28 = true := by decide +kernel
def b_X6_readWord_28 : List IE := [(.aload_n 0, 1, 0, 0, 0, 0), (.getfield 15, 3, 0, 6, 1, 1), (.iconst 0, 1, 0, 0, 0, 0), (.iload_n 1, 1, 0, 0, 1, 0), (.iload_n 1, 1, 0, 0, 1, 0)]
theorem k_X6_readWord_28 : ckGsSPANS mX6_readWord 6 28 b_X6_readWord_28 35 97 2 40 = true := by decide +kernel
def b_X6_readWord_40 : List IE := [(.iadd, 1, 0, 0, 0, 0)]
theorem k_X6_readWord_40 : ckB mX6_readWord 6 40 b_X6_readWord_40 41 = true := by decide +kernel
def b_X6_readWord_44 : List IE := [(.aload_n 0, 1, 0, 0, 0, 0)]
theorem k_X6_readWord_44 : ckB mX6_readWord 6 44 b_X6_readWord_44 45 = true := by decide +kernel
def b_X6_readWord_48 : List IE := []
theorem k_X6_readWord_48 : ckV mX6_readWord 6 48 b_X6_readWord_48 48 = true := by decide +kernel
def b_X6_readWord_49 : List IE := [(.aload_n 0, 1, 0, 0, 0, 0), (.getfield 40, 3, 0, 6, 2, 0), (.bipush 126, 2, 126, 0, 0, 0)]
theorem k_X6_readWord_49 : ckIc mX6_readWord 6 49 b_X6_readWord_49 55 0 16 71 58 = true := by decide +kernel
def b_X6_readWord_58 : List IE := [(.aload_n 0, 1, 0, 0, 0, 0), (.getfield 15, 3, 0, 6, 1, 1), (.iconst 0, 1, 0, 0, 0, 0), (.iload_n 1, 1, 0, 0, 1, 0), (.iload_n 1, 1, 0, 0, 1, 0), (.iconst 1, 1, 1, 0, 0, 0), (.iadd, 1, 0, 0, 0, 0)]
theorem k_X6_readWord_58 : ckB mX6_readWord 6 58 b_X6_readWord_58 67 = true := by decide +kernel
def b_X6_readWord_70 : List IE := []
theorem k_X6_readWord_70 : ckV mX6_readWord 6 70 b_X6_readWord_70 70 = true := by decide +kernel
def b_X6_readWord_71 : List IE := [(.aload_n 0, 1, 0, 0, 0, 0)]
theorem k_X6_readWord_71 : ckB mX6_readWord 6 71 b_X6_readWord_71 72 = true := by decide +kernel
def b_X6_readWord_75 : List IE := [(.aload_n 0, 1, 0, 0, 0, 0), (.getfield 40, 3, 0, 6, 2, 0), (.iconst 1, 1, 1, 0, 0, 0)]
theorem k_X6_readWord_75 : ckIc mX6_readWord 6 75 b_X6_readWord_75 80 0 8 88 83 = true := by decide +kernel
def b_X6_readWord_83 : List IE := [(.aload_n 0, 1, 0, 0, 0, 0)]
theorem k_X6_readWord_83 : ckB mX6_readWord 6 83 b_X6_readWord_83 84 = true := by decide +kernel
def b_X6_readWord_87 : List IE := []
theorem k_X6_readWord_87 : ckV mX6_readWord 6 87 b_X6_readWord_87 87 = true := by decide +kernel
def b_X6_readWord_88 : List IE := [(.aload_n 0, 1, 0, 0, 0, 0), (.getfield 15, 3, 0, 6, 1, 1), (.iconst 1, 1, 1, 0, 0, 0), (.iload_n 1, 1, 0, 0, 1, 0), (.aload_n 0, 1, 0, 0, 0, 0), (.getfield 65, 3, 0, 6, 5, 0)]
theorem k_X6_readWord_88 : ckB mX6_readWord 6 88 b_X6_readWord_88 98 = true := by decide +kernel
def b_X6_readWord_101 : List IE := [(.aload_n 0, 1, 0, 0, 0, 0)]
theorem k_X6_readWord_101 : ckB mX6_readWord 6 101 b_X6_readWord_101 102 = true := by decide +kernel
def b_X6_readWord_105 : List IE := []
theorem k_X6_readWord_105 : ckV mX6_readWord 6 105 b_X6_readWord_105 105 = true := by decide +kernel
theorem s_X6_readWord_16 : cV mX6_readWord 16 mX6_next 34 0 6 := ⟨by decide +kernel, ⟨ml_X6_next, li_RX6_34, im_X6_next, se_X6_next⟩, ⟨by decide +kernel, by decide +kernel⟩, by decide +kernel⟩
theorem s_X6_readWord_41 : cV mX6_readWord 41 mX5_put 78 3 5 := ⟨by decide +kernel, ⟨ml_X5_put, li_RX6_78, im_X5_put, se_X5_put⟩, ⟨by decide +kernel, by decide +kernel⟩, by decide +kernel⟩
theorem s_X6_readWord_45 : cV mX6_readWord 45 mX6_next 34 0 6 := ⟨by decide +kernel, ⟨ml_X6_next, li_RX6_34, im_X6_next, se_X6_next⟩, ⟨by decide +kernel, by decide +kernel⟩, by decide +kernel⟩
theorem s_X6_readWord_67 : cV mX6_readWord 67 mX5_put 78 3 5 := ⟨by decide +kernel, ⟨ml_X5_put, li_RX6_78, im_X5_put, se_X5_put⟩, ⟨by decide +kernel, by decide +kernel⟩, by decide +kernel⟩
theorem s_X6_readWord_72 : cV mX6_readWord 72 mX6_next 34 0 6 := ⟨by decide +kernel, ⟨ml_X6_next, li_RX6_34, im_X6_next, se_X6_next⟩, ⟨by decide +kernel, by decide +kernel⟩, by decide +kernel⟩
theorem s_X6_readWord_84 : cV mX6_readWord 84 mX6_refuse 43 0 6 := ⟨by decide +kernel, ⟨ml_X6_refuse, li_RX6_43, im_X6_refuse, se_X6_refuse⟩, ⟨by decide +kernel, by decide +kernel⟩, by decide +kernel⟩
theorem s_X6_readWord_98 : cV mX6_readWord 98 mX5_put 78 3 5 := ⟨by decide +kernel, ⟨ml_X5_put, li_RX6_78, im_X5_put, se_X5_put⟩, ⟨by decide +kernel, by decide +kernel⟩, by decide +kernel⟩
theorem s_X6_readWord_102 : cV mX6_readWord 102 mX6_next 34 0 6 := ⟨by decide +kernel, ⟨ml_X6_next, li_RX6_34, im_X6_next, se_X6_next⟩, ⟨by decide +kernel, by decide +kernel⟩, by decide +kernel⟩
theorem t_X6_readWord_0 {rc rs : Nat} {Q : Option AV → AH → Prop} {h : AH}  (hL : LayL h) (hv : (-2147483648 ≤ (iH h 20 4 - iH h 20 3) ∧ (iH h 20 4 - iH h 20 3) < 2147483648) ∧ (∃ P4 : AH → Prop, Ct 1 0 0 mX6_next [vr 20] h (QV P4) ∧ ∀ h2 : AH, P4 h2 → LayL h2 ∧ (((iH h2 20 2) ≠ 42 → (((iH h2 20 2) = 126 → (∃ P15 : AH → Prop, Ct 1 0 0 mX6_next [vr 20] h2 (QV P15) ∧ ∀ h13 : AH, P15 h13 → LayL h13 ∧ (((iH h13 20 2) = 1 → (∃ q20, (rH h13 20 1 = some q20 ∧ iQu q20) ∧ (∃ P24 : AH → Prop, Ct 0 0 0 mX5_put [vr q20, vi 1, vi (iH h 20 5), vi (iH h13 20 5)] h13 (QV P24) ∧ ∀ h22 : AH, P24 h22 → LayL h22 ∧ (∃ P27 : AH → Prop, Ct 1 0 0 mX6_next [vr 20] h22 (QV P27) ∧ ∀ h25 : AH, P27 h25 → LayL h25 ∧ Q none h25)))) ∧ ((iH h13 20 2) ≠ 1 → (∃ P40 : AH → Prop, Ct 0 0 0 mX6_refuse [vr 20] h13 (QV P40) ∧ ∀ h38 : AH, P40 h38 → LayL h38 ∧ Q none h38))))) ∧ ((iH h2 20 2) ≠ 126 → (∃ q49, (rH h2 20 1 = some q49 ∧ iQu q49) ∧ (-2147483648 ≤ (iH h 20 5 + 1) ∧ (iH h 20 5 + 1) < 2147483648) ∧ (∃ P54 : AH → Prop, Ct 0 0 0 mX5_put [vr q49, vi 0, vi (iH h 20 5), vi (iH h 20 5 + 1)] h2 (QV P54) ∧ ∀ h52 : AH, P54 h52 → LayL h52 ∧ Q none h52))))) ∧ ((iH h2 20 2) = 42 → (∃ q62, (rH h2 20 1 = some q62 ∧ iQu q62) ∧ (0 ≤ (iH h 20 4 - iH h 20 3) ∧ (iH h 20 4 - iH h 20 3) < 7) ∧ (-2147483648 ≤ (iH h 20 5 + (spnI (iH h 20 4 - iH h 20 3))) ∧ (iH h 20 5 + (spnI (iH h 20 4 - iH h 20 3))) < 2147483648) ∧ (∃ P67 : AH → Prop, Ct 0 0 0 mX5_put [vr q62, vi 0, vi (iH h 20 5), vi (iH h 20 5 + (spnI (iH h 20 4 - iH h 20 3)))] h2 (QV P67) ∧ ∀ h65 : AH, P67 h65 → LayL h65 ∧ (∃ P70 : AH → Prop, Ct 1 0 0 mX6_next [vr 20] h65 (QV P70) ∧ ∀ h68 : AH, P70 h68 → LayL h68 ∧ Q none h68))))))) : wp mX6_readWord 2 rc rs Q 0 [some (vr 20), none, none] [] h :=
  (show wp mX6_readWord 2 rc rs Q 0 [some (vr 20), none, none] [] h from xcV k_X6_readWord_0 s_X6_readWord_16 (And.intro (ll_20 hL) (And.intro rfl (And.intro (ll_20 hL) (And.intro (ll_20 hL) (have c1 := hv.1; have v88 := hv.2; (And.intro c1 (And.intro rfl (Exists.elim v88 (fun P4 v84 => (Exists.intro [] (Exists.intro 20 (Exists.intro [] (And.intro (And.intro rfl (And.intro rfl (Nat.le_of_ble_eq_true rfl))) (And.intro (ll_20 hL) (Exists.intro 1 (Exists.intro 0 (Exists.intro 0 (Exists.intro (QV P4) (And.intro v84.1 (And.intro (And.intro (by decide) (And.intro (Nat.zero_le _) (Nat.zero_le _))) (eQV (fun h2 e86 => have v85 := v84.2 h2 e86; have hL := v85.1; have v85 := v85.2; (show wp mX6_readWord 2 rc rs Q 19 [some (vr 20), some (vi (iH h 20 5)), some (vi (iH h 20 4 - iH h 20 3))] [] h2 from xIc k_X6_readWord_19 (And.intro (ll_20 hL) (And.intro (fun c5 => have v7 := v85.1 c5; (show wp mX6_readWord 2 rc rs Q 49 [some (vr 20), some (vi (iH h 20 5)), some (vi (iH h 20 4 - iH h 20 3))] [] h2 from xIc k_X6_readWord_49 (And.intro (ll_20 hL) (And.intro (fun c9 => have v11 := v7.1 c9; (show wp mX6_readWord 2 rc rs Q 71 [some (vr 20), some (vi (iH h 20 5)), some (vi (iH h 20 4 - iH h 20 3))] [] h2 from xcV k_X6_readWord_71 s_X6_readWord_72 (Exists.elim v11 (fun P15 v45 => (Exists.intro [] (Exists.intro 20 (Exists.intro [] (And.intro (And.intro rfl (And.intro rfl (Nat.le_of_ble_eq_true rfl))) (And.intro (ll_20 hL) (Exists.intro 1 (Exists.intro 0 (Exists.intro 0 (Exists.intro (QV P15) (And.intro v45.1 (And.intro (And.intro (by decide) (And.intro (Nat.zero_le _) (Nat.zero_le _))) (eQV (fun h13 e47 => have v46 := v45.2 h13 e47; have hL := v46.1; have v46 := v46.2; (show wp mX6_readWord 2 rc rs Q 75 [some (vr 20), some (vi (iH h 20 5)), some (vi (iH h 20 4 - iH h 20 3))] [] h13 from xIc k_X6_readWord_75 (And.intro (ll_20 hL) (And.intro (fun c16 => have v18 := v46.1 c16; (show wp mX6_readWord 2 rc rs Q 88 [some (vr 20), some (vi (iH h 20 5)), some (vi (iH h 20 4 - iH h 20 3))] [] h13 from xcV k_X6_readWord_88 s_X6_readWord_98 (And.intro (ll_20 hL) (Exists.elim v18 (fun q20 v36 => have c21 := v36.1; have v37 := v36.2; (Exists.intro _ (And.intro c21.1 (And.intro (ll_20 hL) (Exists.elim v37 (fun P24 v32 => (Exists.intro [vi 1, vi (iH h 20 5), vi (iH h13 20 5)] (Exists.intro q20 (Exists.intro [] (And.intro (And.intro rfl (And.intro rfl (Nat.le_of_ble_eq_true rfl))) (And.intro (qu_o hL c21.2) (Exists.intro 0 (Exists.intro 0 (Exists.intro 0 (Exists.intro (QV P24) (And.intro v32.1 (And.intro (And.intro (by decide) (And.intro (Nat.zero_le _) (Nat.zero_le _))) (eQV (fun h22 e34 => have v33 := v32.2 h22 e34; have hL := v33.1; have v33 := v33.2; (show wp mX6_readWord 2 rc rs Q 101 [some (vr 20), some (vi (iH h 20 5)), some (vi (iH h 20 4 - iH h 20 3))] [] h22 from xcV k_X6_readWord_101 s_X6_readWord_102 (Exists.elim v33 (fun P27 v28 => (Exists.intro [] (Exists.intro 20 (Exists.intro [] (And.intro (And.intro rfl (And.intro rfl (Nat.le_of_ble_eq_true rfl))) (And.intro (ll_20 hL) (Exists.intro 1 (Exists.intro 0 (Exists.intro 0 (Exists.intro (QV P27) (And.intro v28.1 (And.intro (And.intro (by decide) (And.intro (Nat.zero_le _) (Nat.zero_le _))) (eQV (fun h25 e30 => have v29 := v28.2 h25 e30; have hL := v29.1; have v29 := v29.2; (show wp mX6_readWord 2 rc rs Q 105 [some (vr 20), some (vi (iH h 20 5)), some (vi (iH h 20 4 - iH h 20 3))] [] h25 from xV k_X6_readWord_105 (And.intro rfl v29))))))))))))))))))))))))))))))))))))))))) (fun c17 => have v19 := v46.2 c17; (show wp mX6_readWord 2 rc rs Q 83 [some (vr 20), some (vi (iH h 20 5)), some (vi (iH h 20 4 - iH h 20 3))] [] h13 from xcV k_X6_readWord_83 s_X6_readWord_84 (Exists.elim v19 (fun P40 v41 => (Exists.intro [] (Exists.intro 20 (Exists.intro [] (And.intro (And.intro rfl (And.intro rfl (Nat.le_of_ble_eq_true rfl))) (And.intro (ll_20 hL) (Exists.intro 0 (Exists.intro 0 (Exists.intro 0 (Exists.intro (QV P40) (And.intro v41.1 (And.intro (And.intro (by decide) (And.intro (Nat.zero_le _) (Nat.zero_le _))) (eQV (fun h38 e43 => have v42 := v41.2 h38 e43; have hL := v42.1; have v42 := v42.2; (show wp mX6_readWord 2 rc rs Q 87 [some (vr 20), some (vi (iH h 20 5)), some (vi (iH h 20 4 - iH h 20 3))] [] h38 from xV k_X6_readWord_87 (And.intro rfl v42))))))))))))))))))))))))))))))))))))))) (fun c10 => have v12 := v7.2 c10; (show wp mX6_readWord 2 rc rs Q 58 [some (vr 20), some (vi (iH h 20 5)), some (vi (iH h 20 4 - iH h 20 3))] [] h2 from xcV k_X6_readWord_58 s_X6_readWord_67 (And.intro (ll_20 hL) (Exists.elim v12 (fun q49 v60 => have c50 := v60.1; have v61 := v60.2; (Exists.intro _ (And.intro c50.1 (have c51 := v61.1; have v59 := v61.2; (And.intro c51 (Exists.elim v59 (fun P54 v55 => (Exists.intro [vi 0, vi (iH h 20 5), vi (iH h 20 5 + 1)] (Exists.intro q49 (Exists.intro [] (And.intro (And.intro rfl (And.intro rfl (Nat.le_of_ble_eq_true rfl))) (And.intro (qu_o hL c50.2) (Exists.intro 0 (Exists.intro 0 (Exists.intro 0 (Exists.intro (QV P54) (And.intro v55.1 (And.intro (And.intro (by decide) (And.intro (Nat.zero_le _) (Nat.zero_le _))) (eQV (fun h52 e57 => have v56 := v55.2 h52 e57; have hL := v56.1; have v56 := v56.2; (show wp mX6_readWord 2 rc rs Q 70 [some (vr 20), some (vi (iH h 20 5)), some (vi (iH h 20 4 - iH h 20 3))] [] h52 from xV k_X6_readWord_70 (And.intro rfl v56)))))))))))))))))))))))))))))) (fun c6 => have v8 := v85.2 (Decidable.not_not.mp c6); (show wp mX6_readWord 2 rc rs Q 28 [some (vr 20), some (vi (iH h 20 5)), some (vi (iH h 20 4 - iH h 20 3))] [] h2 from xGsSPANS k_X6_readWord_28 (And.intro (ll_20 hL) (Exists.elim v8 (fun q62 v82 => have c63 := v82.1; have v83 := v82.2; (Exists.intro _ (And.intro c63.1 (have c80 := v83.1; have v81 := v83.2; Exists.intro _ (And.intro rfl (And.intro c80 (show wp mX6_readWord 2 rc rs Q 40 [some (vr 20), some (vi (iH h 20 5)), some (vi (iH h 20 4 - iH h 20 3))] [vi (spnI (iH h 20 4 - iH h 20 3)), vi (iH h 20 5), vi (iH h 20 5), vi 0, vr q62] h2 from xcV k_X6_readWord_40 s_X6_readWord_41 (have c64 := v81.1; have v79 := v81.2; (And.intro c64 (Exists.elim v79 (fun P67 v75 => (Exists.intro [vi 0, vi (iH h 20 5), vi (iH h 20 5 + (spnI (iH h 20 4 - iH h 20 3)))] (Exists.intro q62 (Exists.intro [] (And.intro (And.intro rfl (And.intro rfl (Nat.le_of_ble_eq_true rfl))) (And.intro (qu_o hL c63.2) (Exists.intro 0 (Exists.intro 0 (Exists.intro 0 (Exists.intro (QV P67) (And.intro v75.1 (And.intro (And.intro (by decide) (And.intro (Nat.zero_le _) (Nat.zero_le _))) (eQV (fun h65 e77 => have v76 := v75.2 h65 e77; have hL := v76.1; have v76 := v76.2; (show wp mX6_readWord 2 rc rs Q 44 [some (vr 20), some (vi (iH h 20 5)), some (vi (iH h 20 4 - iH h 20 3))] [] h65 from xcV k_X6_readWord_44 s_X6_readWord_45 (Exists.elim v76 (fun P70 v71 => (Exists.intro [] (Exists.intro 20 (Exists.intro [] (And.intro (And.intro rfl (And.intro rfl (Nat.le_of_ble_eq_true rfl))) (And.intro (ll_20 hL) (Exists.intro 1 (Exists.intro 0 (Exists.intro 0 (Exists.intro (QV P70) (And.intro v71.1 (And.intro (And.intro (by decide) (And.intro (Nat.zero_le _) (Nat.zero_le _))) (eQV (fun h68 e73 => have v72 := v71.2 h68 e73; have hL := v72.1; have v72 := v72.2; (show wp mX6_readWord 2 rc rs Q 48 [some (vr 20), some (vi (iH h 20 5)), some (vi (iH h 20 4 - iH h 20 3))] [] h68 from xV k_X6_readWord_48 (And.intro rfl v72))))))))))))))))))))))))))))))))))))))))))))))))))))))))))))))))))))))))
theorem e_X6_readWord {mc ms : Nat} {Q : Option AV → AH → Prop} {h : AH}  (hL : LayL h) (hv : (-2147483648 ≤ (iH h 20 4 - iH h 20 3) ∧ (iH h 20 4 - iH h 20 3) < 2147483648) ∧ (∃ P4 : AH → Prop, Ct 1 0 0 mX6_next [vr 20] h (QV P4) ∧ ∀ h2 : AH, P4 h2 → LayL h2 ∧ (((iH h2 20 2) ≠ 42 → (((iH h2 20 2) = 126 → (∃ P15 : AH → Prop, Ct 1 0 0 mX6_next [vr 20] h2 (QV P15) ∧ ∀ h13 : AH, P15 h13 → LayL h13 ∧ (((iH h13 20 2) = 1 → (∃ q20, (rH h13 20 1 = some q20 ∧ iQu q20) ∧ (∃ P24 : AH → Prop, Ct 0 0 0 mX5_put [vr q20, vi 1, vi (iH h 20 5), vi (iH h13 20 5)] h13 (QV P24) ∧ ∀ h22 : AH, P24 h22 → LayL h22 ∧ (∃ P27 : AH → Prop, Ct 1 0 0 mX6_next [vr 20] h22 (QV P27) ∧ ∀ h25 : AH, P27 h25 → LayL h25 ∧ Q none h25)))) ∧ ((iH h13 20 2) ≠ 1 → (∃ P40 : AH → Prop, Ct 0 0 0 mX6_refuse [vr 20] h13 (QV P40) ∧ ∀ h38 : AH, P40 h38 → LayL h38 ∧ Q none h38))))) ∧ ((iH h2 20 2) ≠ 126 → (∃ q49, (rH h2 20 1 = some q49 ∧ iQu q49) ∧ (-2147483648 ≤ (iH h 20 5 + 1) ∧ (iH h 20 5 + 1) < 2147483648) ∧ (∃ P54 : AH → Prop, Ct 0 0 0 mX5_put [vr q49, vi 0, vi (iH h 20 5), vi (iH h 20 5 + 1)] h2 (QV P54) ∧ ∀ h52 : AH, P54 h52 → LayL h52 ∧ Q none h52))))) ∧ ((iH h2 20 2) = 42 → (∃ q62, (rH h2 20 1 = some q62 ∧ iQu q62) ∧ (0 ≤ (iH h 20 4 - iH h 20 3) ∧ (iH h 20 4 - iH h 20 3) < 7) ∧ (-2147483648 ≤ (iH h 20 5 + (spnI (iH h 20 4 - iH h 20 3))) ∧ (iH h 20 5 + (spnI (iH h 20 4 - iH h 20 3))) < 2147483648) ∧ (∃ P67 : AH → Prop, Ct 0 0 0 mX5_put [vr q62, vi 0, vi (iH h 20 5), vi (iH h 20 5 + (spnI (iH h 20 4 - iH h 20 3)))] h2 (QV P67) ∧ ∀ h65 : AH, P67 h65 → LayL h65 ∧ (∃ P70 : AH → Prop, Ct 1 0 0 mX6_next [vr 20] h65 (QV P70) ∧ ∀ h68 : AH, P70 h68 → LayL h68 ∧ Q none h68))))))) : Ct 2 mc ms mX6_readWord [vr 20] h Q := Ct.of (by decide +kernel) (Nat.le_of_ble_eq_true rfl) (t_X6_readWord_0 hL hv)
def b_X6_readPhrase_0 : List IE := [(.iconst 0, 1, 0, 0, 0, 0), (.istore_n 1, 1, 0, 0, 1, 0), (.aload_n 0, 1, 0, 0, 0, 0)]
theorem k_X6_readPhrase_0 : ckB mX6_readPhrase 6 0 b_X6_readPhrase_0 3 = true := by decide +kernel
def b_X6_readPhrase_6 : List IE := [(.iload_n 1, 1, 0, 0, 1, 0), (.bipush 6, 2, 6, 0, 0, 0)]
theorem k_X6_readPhrase_6 : ckIc mX6_readPhrase 6 6 b_X6_readPhrase_6 9 3 32 41 12 = true := by decide +kernel
def b_X6_readPhrase_12 : List IE := [(.aload_n 0, 1, 0, 0, 0, 0), (.getfield 40, 3, 0, 6, 2, 0), (.iconst 1, 1, 1, 0, 0, 0)]
theorem k_X6_readPhrase_12 : ckIc mX6_readPhrase 6 12 b_X6_readPhrase_12 17 1 24 41 20 = true := by decide +kernel
def b_X6_readPhrase_20 : List IE := [(.aload_n 0, 1, 0, 0, 0, 0), (.getfield 15, 3, 0, 6, 1, 1), (.aload_n 0, 1, 0, 0, 0, 0), (.getfield 65, 3, 0, 6, 5, 0)]
theorem k_X6_readPhrase_20 : ckB mX6_readPhrase 6 20 b_X6_readPhrase_20 28 = true := by decide +kernel
def b_X6_readPhrase_31 : List IE := [(.iinc 1 1, 3, 1, 0, 1, 0), (.aload_n 0, 1, 0, 0, 0, 0)]
theorem k_X6_readPhrase_31 : ckB mX6_readPhrase 6 31 b_X6_readPhrase_31 35 = true := by decide +kernel
def b_X6_readPhrase_38 : List IE := []
theorem k_X6_readPhrase_38 : ckGo mX6_readPhrase 6 38 b_X6_readPhrase_38 38 (-32) 6 = true := by decide +kernel
def b_X6_readPhrase_41 : List IE := [(.iload_n 1, 1, 0, 0, 1, 0)]
theorem k_X6_readPhrase_41 : ckIf mX6_readPhrase 6 41 b_X6_readPhrase_41 42 0 12 54 45 = true := by decide +kernel
def b_X6_readPhrase_45 : List IE := [(.aload_n 0, 1, 0, 0, 0, 0), (.getfield 40, 3, 0, 6, 2, 0), (.bipush 34, 2, 34, 0, 0, 0)]
theorem k_X6_readPhrase_45 : ckIc mX6_readPhrase 6 45 b_X6_readPhrase_45 51 0 8 59 54 = true := by decide +kernel
def b_X6_readPhrase_54 : List IE := [(.aload_n 0, 1, 0, 0, 0, 0)]
theorem k_X6_readPhrase_54 : ckB mX6_readPhrase 6 54 b_X6_readPhrase_54 55 = true := by decide +kernel
def b_X6_readPhrase_58 : List IE := []
theorem k_X6_readPhrase_58 : ckV mX6_readPhrase 6 58 b_X6_readPhrase_58 58 = true := by decide +kernel
def b_X6_readPhrase_59 : List IE := [(.aload_n 0, 1, 0, 0, 0, 0), (.getfield 15, 3, 0, 6, 1, 1), (.iload_n 1, 1, 0, 0, 1, 0)]
theorem k_X6_readPhrase_59 : ckB mX6_readPhrase 6 59 b_X6_readPhrase_59 64 = true := by decide +kernel
def b_X6_readPhrase_67 : List IE := [(.aload_n 0, 1, 0, 0, 0, 0)]
theorem k_X6_readPhrase_67 : ckB mX6_readPhrase 6 67 b_X6_readPhrase_67 68 = true := by decide +kernel
def b_X6_readPhrase_71 : List IE := []
theorem k_X6_readPhrase_71 : ckV mX6_readPhrase 6 71 b_X6_readPhrase_71 71 = true := by decide +kernel
theorem s_X6_readPhrase_3 : cV mX6_readPhrase 3 mX6_next 34 0 6 := ⟨by decide +kernel, ⟨ml_X6_next, li_RX6_34, im_X6_next, se_X6_next⟩, ⟨by decide +kernel, by decide +kernel⟩, by decide +kernel⟩
theorem s_X6_readPhrase_28 : cV mX6_readPhrase 28 mX5_putPhraseWord 100 1 5 := ⟨by decide +kernel, ⟨ml_X5_putPhraseWord, li_RX6_100, im_X5_putPhraseWord, se_X5_putPhraseWord⟩, ⟨by decide +kernel, by decide +kernel⟩, by decide +kernel⟩
theorem s_X6_readPhrase_35 : cV mX6_readPhrase 35 mX6_next 34 0 6 := ⟨by decide +kernel, ⟨ml_X6_next, li_RX6_34, im_X6_next, se_X6_next⟩, ⟨by decide +kernel, by decide +kernel⟩, by decide +kernel⟩
theorem s_X6_readPhrase_55 : cV mX6_readPhrase 55 mX6_refuse 43 0 6 := ⟨by decide +kernel, ⟨ml_X6_refuse, li_RX6_43, im_X6_refuse, se_X6_refuse⟩, ⟨by decide +kernel, by decide +kernel⟩, by decide +kernel⟩
theorem s_X6_readPhrase_64 : cV mX6_readPhrase 64 mX5_putPhrase 104 1 5 := ⟨by decide +kernel, ⟨ml_X5_putPhrase, li_RX6_104, im_X5_putPhrase, se_X5_putPhrase⟩, ⟨by decide +kernel, by decide +kernel⟩, by decide +kernel⟩
theorem s_X6_readPhrase_68 : cV mX6_readPhrase 68 mX6_next 34 0 6 := ⟨by decide +kernel, ⟨ml_X6_next, li_RX6_34, im_X6_next, se_X6_next⟩, ⟨by decide +kernel, by decide +kernel⟩, by decide +kernel⟩
theorem t_X6_readPhrase_0 {rc rs : Nat} {Q : Option AV → AH → Prop} {h : AH}  (hL : LayL h) (hv : (∃ P3 : AH → Prop, Ct 1 0 0 mX6_next [vr 20] h (QV P3) ∧ ∀ h1 : AH, P3 h1 → LayL h1 ∧ wp mX6_readPhrase 2 rc rs Q 6 [some (vr 20), some (vi 0)] [] h1)) : wp mX6_readPhrase 2 rc rs Q 0 [some (vr 20), none] [] h :=
  (show wp mX6_readPhrase 2 rc rs Q 0 [some (vr 20), none] [] h from xcV k_X6_readPhrase_0 s_X6_readPhrase_3 (And.intro rfl (Exists.elim hv (fun P3 v4 => (Exists.intro [] (Exists.intro 20 (Exists.intro [] (And.intro (And.intro rfl (And.intro rfl (Nat.le_of_ble_eq_true rfl))) (And.intro (ll_20 hL) (Exists.intro 1 (Exists.intro 0 (Exists.intro 0 (Exists.intro (QV P3) (And.intro v4.1 (And.intro (And.intro (by decide) (And.intro (Nat.zero_le _) (Nat.zero_le _))) (eQV (fun h1 e6 => have v5 := v4.2 h1 e6; have hL := v5.1; have v5 := v5.2; v5)))))))))))))))))
theorem e_X6_readPhrase {mc ms : Nat} {Q : Option AV → AH → Prop} {h : AH}  (hL : LayL h) (hv : (∃ P3 : AH → Prop, Ct 1 0 0 mX6_next [vr 20] h (QV P3) ∧ ∀ h1 : AH, P3 h1 → LayL h1 ∧ wp mX6_readPhrase 2 mc ms Q 6 [some (vr 20), some (vi 0)] [] h1)) : Ct 2 mc ms mX6_readPhrase [vr 20] h Q := Ct.of (by decide +kernel) (Nat.le_of_ble_eq_true rfl) (t_X6_readPhrase_0 hL hv)
theorem t_X6_readPhrase_6 {rc rs : Nat} {Q : Option AV → AH → Prop} {h : AH} {x1 : Int} (hL : LayL h) (hv : ((6 ≤ x1 → ((x1 = 0 → (∃ P11 : AH → Prop, Ct 0 0 0 mX6_refuse [vr 20] h (QV P11) ∧ ∀ h9 : AH, P11 h9 → LayL h9 ∧ Q none h9)) ∧ (x1 ≠ 0 → (((iH h 20 2) = 34 → (∃ q20, (rH h 20 1 = some q20 ∧ iQu q20) ∧ (∃ P24 : AH → Prop, Ct 1 0 0 mX5_putPhrase [vr q20, vi x1] h (QV P24) ∧ ∀ h22 : AH, P24 h22 → LayL h22 ∧ (∃ P27 : AH → Prop, Ct 1 0 0 mX6_next [vr 20] h22 (QV P27) ∧ ∀ h25 : AH, P27 h25 → LayL h25 ∧ Q none h25)))) ∧ ((iH h 20 2) ≠ 34 → (∃ P40 : AH → Prop, Ct 0 0 0 mX6_refuse [vr 20] h (QV P40) ∧ ∀ h38 : AH, P40 h38 → LayL h38 ∧ Q none h38)))))) ∧ (x1 < 6 → (((iH h 20 2) ≠ 1 → ((x1 = 0 → (∃ P55 : AH → Prop, Ct 0 0 0 mX6_refuse [vr 20] h (QV P55) ∧ ∀ h53 : AH, P55 h53 → LayL h53 ∧ Q none h53)) ∧ (x1 ≠ 0 → (((iH h 20 2) = 34 → (∃ q64, (rH h 20 1 = some q64 ∧ iQu q64) ∧ (∃ P68 : AH → Prop, Ct 1 0 0 mX5_putPhrase [vr q64, vi x1] h (QV P68) ∧ ∀ h66 : AH, P68 h66 → LayL h66 ∧ (∃ P71 : AH → Prop, Ct 1 0 0 mX6_next [vr 20] h66 (QV P71) ∧ ∀ h69 : AH, P71 h69 → LayL h69 ∧ Q none h69)))) ∧ ((iH h 20 2) ≠ 34 → (∃ P84 : AH → Prop, Ct 0 0 0 mX6_refuse [vr 20] h (QV P84) ∧ ∀ h82 : AH, P84 h82 → LayL h82 ∧ Q none h82)))))) ∧ ((iH h 20 2) = 1 → (∃ q89, (rH h 20 1 = some q89 ∧ iQu q89) ∧ (∃ P93 : AH → Prop, Ct 0 0 0 mX5_putPhraseWord [vr q89, vi (iH h 20 5)] h (QV P93) ∧ ∀ h91 : AH, P93 h91 → LayL h91 ∧ (-2147483648 ≤ (x1 + 1) ∧ (x1 + 1) < 2147483648) ∧ (∃ P97 : AH → Prop, Ct 1 0 0 mX6_next [vr 20] h91 (QV P97) ∧ ∀ h95 : AH, P97 h95 → LayL h95 ∧ wp mX6_readPhrase 2 rc rs Q 6 [some (vr 20), some (vi (x1 + 1))] [] h95)))))))) : wp mX6_readPhrase 2 rc rs Q 6 [some (vr 20), some (vi x1)] [] h :=
  (show wp mX6_readPhrase 2 rc rs Q 6 [some (vr 20), some (vi x1)] [] h from xIc k_X6_readPhrase_6 (And.intro (fun c1 => have v3 := hv.1 c1; (show wp mX6_readPhrase 2 rc rs Q 41 [some (vr 20), some (vi x1)] [] h from xIf k_X6_readPhrase_41 (And.intro (fun c5 => have v7 := v3.1 c5; (show wp mX6_readPhrase 2 rc rs Q 54 [some (vr 20), some (vi x1)] [] h from xcV k_X6_readPhrase_54 s_X6_readPhrase_55 (Exists.elim v7 (fun P11 v12 => (Exists.intro [] (Exists.intro 20 (Exists.intro [] (And.intro (And.intro rfl (And.intro rfl (Nat.le_of_ble_eq_true rfl))) (And.intro (ll_20 hL) (Exists.intro 0 (Exists.intro 0 (Exists.intro 0 (Exists.intro (QV P11) (And.intro v12.1 (And.intro (And.intro (by decide) (And.intro (Nat.zero_le _) (Nat.zero_le _))) (eQV (fun h9 e14 => have v13 := v12.2 h9 e14; have hL := v13.1; have v13 := v13.2; (show wp mX6_readPhrase 2 rc rs Q 58 [some (vr 20), some (vi x1)] [] h9 from xV k_X6_readPhrase_58 (And.intro rfl v13))))))))))))))))))) (fun c6 => have v8 := v3.2 c6; (show wp mX6_readPhrase 2 rc rs Q 45 [some (vr 20), some (vi x1)] [] h from xIc k_X6_readPhrase_45 (And.intro (ll_20 hL) (And.intro (fun c16 => have v18 := v8.1 c16; (show wp mX6_readPhrase 2 rc rs Q 59 [some (vr 20), some (vi x1)] [] h from xcV k_X6_readPhrase_59 s_X6_readPhrase_64 (And.intro (ll_20 hL) (Exists.elim v18 (fun q20 v36 => have c21 := v36.1; have v37 := v36.2; (Exists.intro _ (And.intro c21.1 (Exists.elim v37 (fun P24 v32 => (Exists.intro [vi x1] (Exists.intro q20 (Exists.intro [] (And.intro (And.intro rfl (And.intro rfl (Nat.le_of_ble_eq_true rfl))) (And.intro (qu_o hL c21.2) (Exists.intro 1 (Exists.intro 0 (Exists.intro 0 (Exists.intro (QV P24) (And.intro v32.1 (And.intro (And.intro (by decide) (And.intro (Nat.zero_le _) (Nat.zero_le _))) (eQV (fun h22 e34 => have v33 := v32.2 h22 e34; have hL := v33.1; have v33 := v33.2; (show wp mX6_readPhrase 2 rc rs Q 67 [some (vr 20), some (vi x1)] [] h22 from xcV k_X6_readPhrase_67 s_X6_readPhrase_68 (Exists.elim v33 (fun P27 v28 => (Exists.intro [] (Exists.intro 20 (Exists.intro [] (And.intro (And.intro rfl (And.intro rfl (Nat.le_of_ble_eq_true rfl))) (And.intro (ll_20 hL) (Exists.intro 1 (Exists.intro 0 (Exists.intro 0 (Exists.intro (QV P27) (And.intro v28.1 (And.intro (And.intro (by decide) (And.intro (Nat.zero_le _) (Nat.zero_le _))) (eQV (fun h25 e30 => have v29 := v28.2 h25 e30; have hL := v29.1; have v29 := v29.2; (show wp mX6_readPhrase 2 rc rs Q 71 [some (vr 20), some (vi x1)] [] h25 from xV k_X6_readPhrase_71 (And.intro rfl v29)))))))))))))))))))))))))))))))))))))))) (fun c17 => have v19 := v8.2 c17; (show wp mX6_readPhrase 2 rc rs Q 54 [some (vr 20), some (vi x1)] [] h from xcV k_X6_readPhrase_54 s_X6_readPhrase_55 (Exists.elim v19 (fun P40 v41 => (Exists.intro [] (Exists.intro 20 (Exists.intro [] (And.intro (And.intro rfl (And.intro rfl (Nat.le_of_ble_eq_true rfl))) (And.intro (ll_20 hL) (Exists.intro 0 (Exists.intro 0 (Exists.intro 0 (Exists.intro (QV P40) (And.intro v41.1 (And.intro (And.intro (by decide) (And.intro (Nat.zero_le _) (Nat.zero_le _))) (eQV (fun h38 e43 => have v42 := v41.2 h38 e43; have hL := v42.1; have v42 := v42.2; (show wp mX6_readPhrase 2 rc rs Q 58 [some (vr 20), some (vi x1)] [] h38 from xV k_X6_readPhrase_58 (And.intro rfl v42)))))))))))))))))))))))))) (fun c2 => have v4 := hv.2 (Int.not_le.mp c2); (show wp mX6_readPhrase 2 rc rs Q 12 [some (vr 20), some (vi x1)] [] h from xIc k_X6_readPhrase_12 (And.intro (ll_20 hL) (And.intro (fun c45 => have v47 := v4.1 c45; (show wp mX6_readPhrase 2 rc rs Q 41 [some (vr 20), some (vi x1)] [] h from xIf k_X6_readPhrase_41 (And.intro (fun c49 => have v51 := v47.1 c49; (show wp mX6_readPhrase 2 rc rs Q 54 [some (vr 20), some (vi x1)] [] h from xcV k_X6_readPhrase_54 s_X6_readPhrase_55 (Exists.elim v51 (fun P55 v56 => (Exists.intro [] (Exists.intro 20 (Exists.intro [] (And.intro (And.intro rfl (And.intro rfl (Nat.le_of_ble_eq_true rfl))) (And.intro (ll_20 hL) (Exists.intro 0 (Exists.intro 0 (Exists.intro 0 (Exists.intro (QV P55) (And.intro v56.1 (And.intro (And.intro (by decide) (And.intro (Nat.zero_le _) (Nat.zero_le _))) (eQV (fun h53 e58 => have v57 := v56.2 h53 e58; have hL := v57.1; have v57 := v57.2; (show wp mX6_readPhrase 2 rc rs Q 58 [some (vr 20), some (vi x1)] [] h53 from xV k_X6_readPhrase_58 (And.intro rfl v57))))))))))))))))))) (fun c50 => have v52 := v47.2 c50; (show wp mX6_readPhrase 2 rc rs Q 45 [some (vr 20), some (vi x1)] [] h from xIc k_X6_readPhrase_45 (And.intro (ll_20 hL) (And.intro (fun c60 => have v62 := v52.1 c60; (show wp mX6_readPhrase 2 rc rs Q 59 [some (vr 20), some (vi x1)] [] h from xcV k_X6_readPhrase_59 s_X6_readPhrase_64 (And.intro (ll_20 hL) (Exists.elim v62 (fun q64 v80 => have c65 := v80.1; have v81 := v80.2; (Exists.intro _ (And.intro c65.1 (Exists.elim v81 (fun P68 v76 => (Exists.intro [vi x1] (Exists.intro q64 (Exists.intro [] (And.intro (And.intro rfl (And.intro rfl (Nat.le_of_ble_eq_true rfl))) (And.intro (qu_o hL c65.2) (Exists.intro 1 (Exists.intro 0 (Exists.intro 0 (Exists.intro (QV P68) (And.intro v76.1 (And.intro (And.intro (by decide) (And.intro (Nat.zero_le _) (Nat.zero_le _))) (eQV (fun h66 e78 => have v77 := v76.2 h66 e78; have hL := v77.1; have v77 := v77.2; (show wp mX6_readPhrase 2 rc rs Q 67 [some (vr 20), some (vi x1)] [] h66 from xcV k_X6_readPhrase_67 s_X6_readPhrase_68 (Exists.elim v77 (fun P71 v72 => (Exists.intro [] (Exists.intro 20 (Exists.intro [] (And.intro (And.intro rfl (And.intro rfl (Nat.le_of_ble_eq_true rfl))) (And.intro (ll_20 hL) (Exists.intro 1 (Exists.intro 0 (Exists.intro 0 (Exists.intro (QV P71) (And.intro v72.1 (And.intro (And.intro (by decide) (And.intro (Nat.zero_le _) (Nat.zero_le _))) (eQV (fun h69 e74 => have v73 := v72.2 h69 e74; have hL := v73.1; have v73 := v73.2; (show wp mX6_readPhrase 2 rc rs Q 71 [some (vr 20), some (vi x1)] [] h69 from xV k_X6_readPhrase_71 (And.intro rfl v73)))))))))))))))))))))))))))))))))))))))) (fun c61 => have v63 := v52.2 c61; (show wp mX6_readPhrase 2 rc rs Q 54 [some (vr 20), some (vi x1)] [] h from xcV k_X6_readPhrase_54 s_X6_readPhrase_55 (Exists.elim v63 (fun P84 v85 => (Exists.intro [] (Exists.intro 20 (Exists.intro [] (And.intro (And.intro rfl (And.intro rfl (Nat.le_of_ble_eq_true rfl))) (And.intro (ll_20 hL) (Exists.intro 0 (Exists.intro 0 (Exists.intro 0 (Exists.intro (QV P84) (And.intro v85.1 (And.intro (And.intro (by decide) (And.intro (Nat.zero_le _) (Nat.zero_le _))) (eQV (fun h82 e87 => have v86 := v85.2 h82 e87; have hL := v86.1; have v86 := v86.2; (show wp mX6_readPhrase 2 rc rs Q 58 [some (vr 20), some (vi x1)] [] h82 from xV k_X6_readPhrase_58 (And.intro rfl v86)))))))))))))))))))))))))) (fun c46 => have v48 := v4.2 (Decidable.not_not.mp c46); (show wp mX6_readPhrase 2 rc rs Q 20 [some (vr 20), some (vi x1)] [] h from xcV k_X6_readPhrase_20 s_X6_readPhrase_28 (And.intro (ll_20 hL) (Exists.elim v48 (fun q89 v107 => have c90 := v107.1; have v108 := v107.2; (Exists.intro _ (And.intro c90.1 (And.intro (ll_20 hL) (Exists.elim v108 (fun P93 v103 => (Exists.intro [vi (iH h 20 5)] (Exists.intro q89 (Exists.intro [] (And.intro (And.intro rfl (And.intro rfl (Nat.le_of_ble_eq_true rfl))) (And.intro (qu_o hL c90.2) (Exists.intro 0 (Exists.intro 0 (Exists.intro 0 (Exists.intro (QV P93) (And.intro v103.1 (And.intro (And.intro (by decide) (And.intro (Nat.zero_le _) (Nat.zero_le _))) (eQV (fun h91 e105 => have v104 := v103.2 h91 e105; have hL := v104.1; have v104 := v104.2; (show wp mX6_readPhrase 2 rc rs Q 31 [some (vr 20), some (vi x1)] [] h91 from xcV k_X6_readPhrase_31 s_X6_readPhrase_35 (have c94 := v104.1; have v102 := v104.2; (And.intro c94 (And.intro rfl (Exists.elim v102 (fun P97 v98 => (Exists.intro [] (Exists.intro 20 (Exists.intro [] (And.intro (And.intro rfl (And.intro rfl (Nat.le_of_ble_eq_true rfl))) (And.intro (ll_20 hL) (Exists.intro 1 (Exists.intro 0 (Exists.intro 0 (Exists.intro (QV P97) (And.intro v98.1 (And.intro (And.intro (by decide) (And.intro (Nat.zero_le _) (Nat.zero_le _))) (eQV (fun h95 e100 => have v99 := v98.2 h95 e100; have hL := v99.1; have v99 := v99.2; (show wp mX6_readPhrase 2 rc rs Q 38 [some (vr 20), some (vi (x1 + 1))] [] h95 from xGo k_X6_readPhrase_38 v99)))))))))))))))))))))))))))))))))))))))))))))))))
section
variable {h g h' : AH} {a : Nat} {op : Int} {p : Nat}
theorem cpp_g (hb : bR h g a) {o : qL} {ws : List Int} (hl : o.length < 64) (h6 : ws.length ≤ 6) (hq : qw o < 64) (s : gS h g a op p o ws h') : Ct 1 0 0 mX5_putPhrase [vr a, vi ws.length] h' (QV (gS h g a op p (o ++ [3 :: (ws.length : Int) :: ws]) [])) := by
  have q5 : iH h' a 5 = ((qw o + ws.length : Nat) : Int) := by
    obtain ⟨F, T, rfl, t, f6, f7, hp, hr⟩ := s
    rw [hr_0 hb.2.1]; exact hr.2.1
  have q6 : iH h' a 5 - (ws.length : Int) = (qw o : Int) := by omega
  refine e_X5_putPhrase (gS_L hb s).1 hb.2.1 ?_
  rw [q6]
  refine ⟨by omega, _, cp_g hb hl s qw1_ph (fun _ i hi => rfl) (op_3 (f := 0)).1 op_3.2.1 (op_3 (f := 0)).2.2, fun h2 s2 => ⟨(gS_L hb s2).1, rfl, s2⟩⟩
theorem l_readWord (hb : bR h g a) (ho : op ≤ 4) {o : qL} (hk : q_k g p = 1) (hs : nM 0 p o) (s : gS h g a op p o [] h') : Ct 2 0 0 mX6_readWord [vr 20] h' (QV (rS h g a op (q_pl g p o))) := by
  obtain ⟨f2, f3, f4, f5, f6, f7, hp⟩ := gS_f s
  have h64 : d_n g ≤ 64 := by have := hb.2.2.2.2.2; unfold d_n; omega
  have hk1 := q_k_1 hb.2.2.2.2 hp hk
  have ew := f5 hk
  have b1 := q_b_ge (h := g) (p := p)
  have e1 := q_e_le hp
  have hl : o.length < 64 := by have := hs.1; omega
  refine e_X6_readWord (gS_L hb s).1 ?_
  rw [f3, f4, ew]
  have hw := hk1.1.2
  have hw0 := hk1.1.1
  refine ⟨by omega, _, cn_g hb s, fun h2 s2 => ⟨(gS_L hb s2).1, ?_⟩⟩
  have g2 := gS_f s2
  unfold q_pl
  rw [g2.1]
  have sp := spnI_e (n := (q_e g p : Int) - q_b g p) (by omega)
  have ppos : (0 : Int) < 27 ^ (6 - ((q_e g p : Int) - q_b g p)).toNat := Int.pow_pos (by omega)
  have pbd : (27 : Int) ^ (6 - ((q_e g p : Int) - q_b g p)).toNat ≤ 27 ^ 5 := by
    rcases (show (6 - ((q_e g p : Int) - q_b g p)).toNat = 0 ∨ (6 - ((q_e g p : Int) - q_b g p)).toNat = 1 ∨ (6 - ((q_e g p : Int) - q_b g p)).toNat = 2 ∨ (6 - ((q_e g p : Int) - q_b g p)).toNat = 3 ∨ (6 - ((q_e g p : Int) - q_b g p)).toNat = 4 ∨ (6 - ((q_e g p : Int) - q_b g p)).toNat = 5 by omega) with q | q | q | q | q | q <;> rw [q] <;> decide
  refine ⟨fun c => ⟨fun c2 => ⟨_, cn_g hb s2, fun h3 s3 => ⟨(gS_L hb s3).1, ?_⟩⟩, fun c2 => ⟨a, ⟨(gS_L hb s2).2, hb.2.1⟩, by omega, _, cp_n hb hl s2 (by decide) (op_0 (f := 0)).1 op_0.2.1 (op_0 (f := 0)).2.2, fun h3 s3 => ⟨(gS_L hb s3).1, rfl, ?_⟩⟩⟩, fun c => ⟨a, ⟨(gS_L hb s2).2, hb.2.1⟩, by omega, by rw [sp]; omega, _, cp_n hb hl s2 (show (1 : Int) ≠ 3 by decide) (op_1 (f := 0)).1 op_1.2.1 (by rw [sp]; exact (op_1 (f := 0)).2.2), fun h3 s3 => ⟨(gS_L hb s3).1, _, cn_g hb s3, fun h4 s4 => ⟨(gS_L hb s4).1, rfl, ?_⟩⟩⟩⟩
  · -- ~
    have g3 := gS_f s3
    rw [g3.1, go_G (by omega)]
    have e0 : q_bd (.inr (q_e g p, o)) (fun p1 o1 => if q_k g p1 = 42 then q_go g (q_e g p1) (o1 ++ [[1, q_v g p, (q_e g p : Int) - q_b g p]]) else if q_k g p1 = 126 then q_bd (q_go g (q_e g p1) o1) (fun p2 o2 => if q_k g p2 = 1 then q_go g (q_e g p2) (o2 ++ [[2, q_v g p, q_v g p2]]) else .inl (q_b g p2)) else .inr (p1, o1 ++ [[0, q_v g p]])) = q_bd (q_go g (q_e g (q_e g p)) o) (fun p2 o2 => if q_k g p2 = 1 then q_go g (q_e g p2) (o2 ++ [[2, q_v g p, q_v g p2]]) else .inl (q_b g p2)) := by
      show (if q_k g (q_e g p) = 42 then _ else if q_k g (q_e g p) = 126 then _ else _) = _
      rw [if_neg c, if_pos c2]
    rw [e0]
    refine ⟨fun c3 => ?_, fun c3 => ⟨_, cr_g hb ho s3, fun h4 s4 => ⟨(bS_L hb s4).1, rfl, ?_⟩⟩⟩
    · rw [g3.2.2.2.1 c3, go_G (by omega)]
      refine ⟨a, ⟨(gS_L hb s3).2, hb.2.1⟩, _, cp_n hb hl s3 (show (2 : Int) ≠ 3 by decide) (op_2 (f := 0)).1 op_2.2.1 (op_2 (f := 0)).2.2, fun h4 s4 => ⟨(gS_L hb s4).1, _, cn_g hb s4, fun h5 s5 => ⟨(gS_L hb s5).1, rfl, ?_⟩⟩⟩
      show rS h g a op (if q_k g (q_e g (q_e g p)) = 1 then q_go g (q_e g (q_e g (q_e g p))) (o ++ [[2, q_v g p, q_v g (q_e g (q_e g p))]]) else _) h5
      rw [if_pos c3]
      exact gS_go ho s5
    · by_cases c5 : q_k g (q_e g (q_e g p)) = 5
      · rw [go_E c5]; exact s4
      · rw [go_G c5]
        show rS h g a op (if q_k g (q_e g (q_e g p)) = 1 then _ else .inl (q_b g (q_e g (q_e g p)))) h4
        rw [if_neg c3]; exact s4
  · -- a word alone
    by_cases c5 : q_k g (q_e g p) = 5
    · rw [go_E c5]
      exact gS_5 ho c5 s3
    · rw [go_G c5]
      show rS h g a op (if q_k g (q_e g p) = 42 then _ else if q_k g (q_e g p) = 126 then _ else .inr (q_e g p, o ++ [[0, q_v g p]])) h3
      rw [if_neg c, if_neg c2]
      exact ⟨s3, c5⟩
  · -- *
    rw [go_G (by omega)]
    show rS h g a op (if q_k g (q_e g p) = 42 then q_go g (q_e g (q_e g p)) (o ++ [[1, q_v g p, (q_e g p : Int) - q_b g p]]) else _) h4
    rw [if_pos c]
    exact gS_go ho s4
/-- words of a phrase, one by one -/
theorem l_phraseL (hb : bR h g a) (ho : op ≤ 4) {o : qL} (hl : o.length < 64) : ∀ (k p : Nat) (ws : List Int) (h' : AH), ws.length + k = 6 → (k = 6 → q_k g p = 1) → qw o + ws.length + 1 ≤ p → gS h g a op p o ws h' → wp mX6_readPhrase 2 0 0 (QV (rS h g a op (q_pf g o (q_ws g k p ws)))) 6 [some (vr 20), some (vi ws.length)] [] h'
  | k, p, ws, h', hk, h6, hq, s => by
    obtain ⟨f2, f3, f4, f5, f6, f7, hp⟩ := gS_f s
    have h64 : d_n g ≤ 64 := by have := hb.2.2.2.2.2; unfold d_n; omega
    have tail : 1 ≤ ws.length → q_ws g k p ws = .inr (p, ws) → (((ws.length : Int) = 0 → (∃ P11 : AH → Prop, Ct 0 0 0 mX6_refuse [vr 20] h' (QV P11) ∧ ∀ h9 : AH, P11 h9 → LayL h9 ∧ (QV (rS h g a op (q_pf g o (q_ws g k p ws)))) none h9)) ∧ ((ws.length : Int) ≠ 0 → (((iH h' 20 2) = 34 → (∃ q20, (rH h' 20 1 = some q20 ∧ iQu q20) ∧ (∃ P24 : AH → Prop, Ct 1 0 0 mX5_putPhrase [vr q20, vi ws.length] h' (QV P24) ∧ ∀ h22 : AH, P24 h22 → LayL h22 ∧ (∃ P27 : AH → Prop, Ct 1 0 0 mX6_next [vr 20] h22 (QV P27) ∧ ∀ h25 : AH, P27 h25 → LayL h25 ∧ (QV (rS h g a op (q_pf g o (q_ws g k p ws)))) none h25)))) ∧ ((iH h' 20 2) ≠ 34 → (∃ P40 : AH → Prop, Ct 0 0 0 mX6_refuse [vr 20] h' (QV P40) ∧ ∀ h38 : AH, P40 h38 → LayL h38 ∧ (QV (rS h g a op (q_pf g o (q_ws g k p ws)))) none h38))))) := by
      intro h1 ew
      rw [f2, ew]
      refine ⟨fun c => absurd c (by omega), fun _ => ⟨fun c2 => ⟨a, ⟨(gS_L hb s).2, hb.2.1⟩, _, cpp_g hb hl (by omega) (by omega) s, fun h2 s2 => ⟨(gS_L hb s2).1, _, cn_g hb s2, fun h3 s3 => ⟨(gS_L hb s3).1, rfl, ?_⟩⟩⟩, fun c2 => ⟨_, cr_g hb ho s, fun h3 s3 => ⟨(bS_L hb s3).1, rfl, ?_⟩⟩⟩⟩
      · show rS h g a op (if q_k g p = 34 then q_go g (q_e g p) (o ++ [3 :: (ws.length : Int) :: ws]) else _) h3
        rw [if_pos c2]
        exact gS_go ho s3
      · show rS h g a op (if q_k g p = 34 then _ else .inl (q_b g p)) h3
        rw [if_neg c2]; exact s3
    refine t_X6_readPhrase_6 (gS_L hb s).1 ⟨fun c => ?_, fun c => ⟨fun c2 => ?_, fun c2 => ?_⟩⟩
    · match k, hk with
      | 0, hk => exact tail (by omega) rfl
      | k + 1, hk => omega
    · rw [f2] at c2
      match k, hk, h6, tail with
      | 0, hk, _, _ => omega
      | k + 1, hk, h6, tail =>
        have ew : q_ws g (k + 1) p ws = .inr (p, ws) := by unfold q_ws; rw [if_neg c2]
        exact tail (Nat.pos_of_ne_zero fun q => c2 (h6 (by omega))) ew
    · rw [f2] at c2
      match k, hk with
      | 0, hk => omega
      | k + 1, hk =>
        rw [f5 c2]
        have hk1 := q_k_1 hb.2.2.2.2 hp c2
        have b1 := q_b_ge (h := g) (p := p)
        have el : (ws.length : Int) + 1 = ((ws ++ [q_v g p]).length : Int) := by simp
        have eln : (ws ++ [q_v g p]).length = ws.length + 1 := by simp
        refine ⟨a, ⟨(gS_L hb s).2, hb.2.1⟩, _, cw_g hb (by omega) s, fun h2 s2 => ⟨(gS_L hb s2).1, by omega, _, cn_g hb s2, fun h3 s3 => ⟨(gS_L hb s3).1, ?_⟩⟩⟩
        rw [el]
        by_cases c5 : q_k g (q_e g p) = 5
        · have ew : q_ws g (k + 1) p ws = .inl (q_b g (q_e g p)) := by unfold q_ws; rw [if_pos c2, if_pos c5]
          rw [ew]
          have g3 := gS_f s3
          refine t_X6_readPhrase_6 (gS_L hb s3).1 ?_
          rw [g3.1, c5]
          have ref : ∃ P11 : AH → Prop, Ct 0 0 0 mX6_refuse [vr 20] h3 (QV P11) ∧ ∀ h9 : AH, P11 h9 → LayL h9 ∧ (QV (rS h g a op (q_pf g o (.inl (q_b g (q_e g p)))))) none h9 := ⟨_, cr_g hb ho s3, fun h4 s4 => ⟨(bS_L hb s4).1, rfl, s4⟩⟩
          exact ⟨fun _ => ⟨fun _ => ref, fun _ => ⟨fun q => absurd q (by decide), fun _ => ref⟩⟩, fun _ => ⟨fun _ => ⟨fun _ => ref, fun _ => ⟨fun q => absurd q (by decide), fun _ => ref⟩⟩, fun q => absurd q (by decide)⟩⟩
        · have ew : q_ws g (k + 1) p ws = q_ws g k (q_e g p) (ws ++ [q_v g p]) := by
            show (if q_k g p = 1 then (if q_k g (q_e g p) = 5 then _ else q_ws g k (q_e g p) (ws ++ [q_v g p])) else _) = _
            rw [if_pos c2, if_neg c5]
          rw [ew]
          exact l_phraseL hb ho hl k (q_e g p) (ws ++ [q_v g p]) h3 (by omega) (fun q => by omega) (by omega) s3
termination_by k => k
theorem l_readPhrase (hb : bR h g a) (ho : op ≤ 4) {o : qL} (hk : q_k g p ≠ 0) (hs : nM 0 p o) (s : gS h g a op p o [] h') : Ct 2 0 0 mX6_readPhrase [vr 20] h' (QV (rS h g a op (q_ph g p o))) := by
  obtain ⟨f2, f3, f4, f5, f6, f7, hp⟩ := gS_f s
  have h64 : d_n g ≤ 64 := by have := hb.2.2.2.2.2; unfold d_n; omega
  have b1 := q_b_ge (h := g) (p := p)
  have b2 := q_e_gt hk
  have e1 := q_e_le hp
  obtain ⟨hs1, hs2⟩ := hs
  refine e_X6_readPhrase (gS_L hb s).1 ⟨_, cn_g hb s, fun h4 s4 => ⟨(gS_L hb s4).1, ?_⟩⟩
  have g4 := gS_f s4
  unfold q_ph
  by_cases c1 : q_k g (q_e g p) = 1
  · rw [go_G (by omega)]
    show wp _ _ _ _ (QV (rS h g a op (if q_k g (q_e g p) = 1 then q_pf g o (q_ws g 6 (q_e g p) []) else _))) _ _ _ _
    rw [if_pos c1]
    exact l_phraseL hb ho (by omega) 6 (q_e g p) [] h4 rfl (fun _ => c1) (by show qw o + 0 + 1 ≤ q_e g p; omega) s4
  · have er : q_bd (q_go g (q_e g p) o) (fun p1 o1 => if q_k g p1 = 1 then q_pf g o1 (q_ws g 6 p1 []) else .inl (q_b g p1)) = .inl (q_b g (q_e g p)) := by
      by_cases c5 : q_k g (q_e g p) = 5
      · rw [go_E c5]; rfl
      · rw [go_G c5]
        show (if q_k g (q_e g p) = 1 then _ else _) = _
        rw [if_neg c1]
    rw [er]
    refine t_X6_readPhrase_6 (gS_L hb s4).1 ?_
    rw [g4.1]
    have ref : ∃ P11 : AH → Prop, Ct 0 0 0 mX6_refuse [vr 20] h4 (QV P11) ∧ ∀ h9 : AH, P11 h9 → LayL h9 ∧ (QV (rS h g a op (.inl (q_b g (q_e g p))))) none h9 := ⟨_, cr_g hb ho s4, fun h5 s5 => ⟨(bS_L hb s5).1, rfl, s5⟩⟩
    exact ⟨fun c => absurd c (by decide), fun _ => ⟨fun _ => ⟨fun _ => ref, fun c => absurd rfl c⟩, fun c => absurd c c1⟩⟩
end
