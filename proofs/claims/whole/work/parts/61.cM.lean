/-! THE CLASS: THE READER'S STATES; WORDS AND PHRASES -/
section
/-- the reference's operations, the class's way -/
def tr (x : List Int) : List Int := match x with
  | [] => []
  | [_, w] => [0, w, w + 1]
  | a :: r => if a = 1 then (match r with
    | [w, n] => [0, w, w + 27 ^ (6 - n).toNat]
    | _ => (a - 1) :: r) else (a - 1) :: r
def trL (o : qL) : List Int := (o.map tr).flatten
theorem tr_len (x : List Int) : (tr x).length = q_zL x := by
  match x with
  | [] => rfl
  | [y] =>
    show (if y = 1 then [y - 1] else [y - 1]).length = 1
    split <;> rfl
  | [_, _] => rfl
  | a :: b :: c :: r =>
    have e : q_zL (a :: b :: c :: r) = (a :: b :: c :: r).length := by unfold q_zL; rw [if_neg (by simp)]
    rw [e]
    unfold tr
    dsimp only
    by_cases h : a = 1
    · rw [if_pos h]
      match r with
      | [] => rfl
      | _ :: _ => rfl
    · rw [if_neg h]; rfl
theorem tr_ph {n w : Int} {ws : List Int} : tr (3 :: n :: w :: ws) = 2 :: n :: w :: ws := by
  unfold tr
  dsimp only
  rw [if_neg (by decide)]
  rfl
theorem trL_len : ∀ o : qL, (trL o).length = q_szL o
  | [] => rfl
  | x :: o => by
    have ih := trL_len o
    have e : trL (x :: o) = tr x ++ trL o := rfl
    rw [e, List.length_append, ih, tr_len]; rfl
theorem trL_app (a b : qL) : trL (a ++ b) = trL a ++ trL b := by unfold trL; rw [List.map_append, List.flatten_append]
theorem trL_1 (x : List Int) : trL [x] = tr x := by unfold trL; simp
theorem spnI_e {n : Int} (h : 1 ≤ n ∧ n ≤ 6) : spnI n = 27 ^ (6 - n).toNat := by
  rcases (show n = 1 ∨ n = 2 ∨ n = 3 ∨ n = 4 ∨ n = 5 ∨ n = 6 by omega) with rfl | rfl | rfl | rfl | rfl | rfl <;> decide +kernel
/-- a good state: the token at p is read, nothing is wrong -/
def gS (h g : AH) (a : Nat) (op : Int) (p : Nat) (l : List Int) (h' : AH) : Prop := ∃ F n S, h' = hR h a F n S ∧ tokL g p F ∧ F 6 = op ∧ F 7 = -1 ∧ p ≤ d_n g ∧ pRL l n S
/-- a bad one: the fault is noted, or the token is a wrong one -/
def bS (h : AH) (a : Nat) (op : Int) (e : Nat) (h' : AH) : Prop := ∃ F n S, h' = hR h a F n S ∧ (F 7 = e ∨ (F 7 = -1 ∧ F 2 = 5 ∧ F 3 = e)) ∧ (op ≤ F 6 ∧ F 6 ≤ 4) ∧ (0 ≤ n ∧ n ≤ 128)
def rS (h g : AH) (a : Nat) (op : Int) (s : qS) (h' : AH) : Prop := match s with
  | .inl e => bS h a op e h'
  | .inr x => gS h g a op x.1 (trL x.2) h' ∧ q_k g x.1 ≠ 5
variable {h g h' : AH} {a : Nat} {op : Int} {p : Nat} {l : List Int}
theorem gS_L (hb : bR h g a) (s : gS h g a op p l h') : LayL h' ∧ rH h' 20 1 = some a := by
  obtain ⟨F, n, S, rfl, -⟩ := s; exact ⟨bR_L hb, bR_q hb⟩
theorem bS_L (hb : bR h g a) {e : Nat} (s : bS h a op e h') : LayL h' ∧ rH h' 20 1 = some a := by
  obtain ⟨F, n, S, rfl, -⟩ := s; exact ⟨bR_L hb, bR_q hb⟩
theorem rS_L (hb : bR h g a) {s : qS} (r : rS h g a op s h') : LayL h' ∧ rH h' 20 1 = some a := by
  cases s with
  | inl e => exact bS_L hb r
  | inr x => exact gS_L hb r.1
theorem gS_f (s : gS h g a op p l h') : iH h' 20 2 = q_k g p ∧ iH h' 20 3 = q_b g p ∧ iH h' 20 4 = q_e g p ∧ (q_k g p = 1 → iH h' 20 5 = q_v g p) ∧ iH h' 20 6 = op ∧ iH h' 20 7 = -1 ∧ p ≤ d_n g := by
  obtain ⟨F, n, S, rfl, ⟨t1, t2, t3, t4⟩, f6, f7, hp, -⟩ := s
  rw [hr_F (by omega), hr_F (by omega), hr_F (by omega), hr_F (by omega), hr_F (by omega), hr_F (by omega)]
  exact ⟨t1, t2, t3, t4, f6, f7, hp⟩
theorem bS_f {e : Nat} (s : bS h a op e h') : (op ≤ iH h' 20 6 ∧ iH h' 20 6 ≤ 4) ∧ (iH h' 20 7 = e ∨ (iH h' 20 7 = -1 ∧ iH h' 20 2 = 5)) := by
  obtain ⟨F, n, S, rfl, f1, f2, -⟩ := s
  rw [hr_F (by omega), hr_F (by omega), hr_F (by omega)]
  exact ⟨f2, f1.elim Or.inl (fun q => Or.inr ⟨q.1, q.2.1⟩)⟩
theorem bS_m {op2 : Int} {e : Nat} (ho : op2 ≤ op) (s : bS h a op e h') : bS h a op2 e h' := by
  obtain ⟨F, n, S, rfl, f1, f2, f3⟩ := s
  exact ⟨F, n, S, rfl, f1, by omega, f3⟩
theorem gS_5 (ho : op ≤ 4) (hl : l.length ≤ 128) (hk : q_k g p = 5) (s : gS h g a op p l h') : bS h a op (q_b g p) h' := by
  obtain ⟨F, n, S, rfl, ⟨t1, t2, t3, t4⟩, f6, f7, hp, hr⟩ := s
  exact ⟨F, n, S, rfl, Or.inr ⟨f7, by omega, t2⟩, by omega, by have := hr.1; omega⟩
theorem gS_go {o : qL} (ho : op ≤ 4) (hl : q_szL o ≤ 128) (s : gS h g a op p (trL o) h') : rS h g a op (q_go g p o) h' := by
  by_cases c : q_k g p = 5
  · rw [go_E c]; exact gS_5 ho (by rw [trL_len]; exact hl) c s
  · rw [go_G c]; exact ⟨s, c⟩
theorem cn_g (hb : bR h g a) (s : gS h g a op p l h') : Ct 1 0 0 mX6_next [vr 20] h' (QV (gS h g a op (q_e g p) l)) := by
  obtain ⟨F, n, S, rfl, ⟨t1, t2, t3, t4⟩, f6, f7, hp, hr⟩ := s
  refine Ct.mono (fun x y q => ?_) (l_next hb (p := q_e g p) ⟨t3, q_e_le hp⟩)
  obtain ⟨rfl, F', rfl, k1, k2, k3⟩ := q
  exact ⟨rfl, F', n, S, rfl, k1, by omega, by omega, q_e_le hp, hr⟩
theorem cp_g (hb : bR h g a) (hl : l.length < 128) {v : Int} (s : gS h g a op p l h') : Ct 0 0 0 mX5_put [vr a, vi v] h' (QV (gS h g a op p (l ++ [v]))) := by
  obtain ⟨F, n, S, rfl, t, f6, f7, hp, hr⟩ := s
  have hn := hr.1
  refine Ct.mono (fun x y q => ?_) (l_put hb (by omega))
  obtain ⟨rfl, q⟩ := q
  rw [if_pos (by omega)] at q
  exact ⟨rfl, F, n + 1, _, q, t, f6, f7, hp, pRL_snoc hr⟩
theorem cp_b (hb : bR h g a) {v : Int} {e : Nat} (s : bS h a op e h') : Ct 0 0 0 mX5_put [vr a, vi v] h' (QV (bS h a op e)) := by
  obtain ⟨F, n, S, rfl, f1, f2, f3⟩ := s
  refine Ct.mono (fun x y q => ?_) (l_put hb f3.1)
  obtain ⟨rfl, q⟩ := q
  by_cases c : n < 128
  · rw [if_pos c] at q; exact ⟨rfl, F, n + 1, _, q, f1, f2, by omega⟩
  · rw [if_neg c] at q; exact ⟨rfl, F, n, S, q, f1, f2, f3⟩
theorem cr_g (hb : bR h g a) (ho : op ≤ 4) (hl : l.length ≤ 128) (s : gS h g a op p l h') : Ct 0 0 0 mX6_refuse [vr 20] h' (QV (bS h a op (q_b g p))) := by
  obtain ⟨F, n, S, rfl, ⟨t1, t2, t3, t4⟩, f6, f7, hp, hr⟩ := s
  refine Ct.mono (fun x y q => ?_) (l_refuse hb)
  obtain ⟨rfl, q⟩ := q
  rw [if_pos f7] at q
  exact ⟨rfl, _, n, S, q, Or.inl (by simp [updF]; exact t2), by simp [updF]; omega, by have := hr.1; omega⟩
theorem cr_b (hb : bR h g a) {e : Nat} (s : bS h a op e h') : Ct 0 0 0 mX6_refuse [vr 20] h' (QV (bS h a op e)) := by
  obtain ⟨F, n, S, rfl, f1, f2, f3⟩ := s
  refine Ct.mono (fun x y q => ?_) (l_refuse hb)
  obtain ⟨rfl, q⟩ := q
  rcases f1 with f1 | ⟨f1, f4, f5⟩
  · rw [if_neg (by omega)] at q; exact ⟨rfl, F, n, S, q, Or.inl f1, f2, f3⟩
  · rw [if_pos f1] at q
    exact ⟨rfl, _, n, S, q, Or.inl (by simp [updF]; exact f5), by simp [updF]; omega, f3⟩
/-- after a fault is noted: it stays -/
theorem cr_n (hb : bR h g a) {e : Nat} (s : bS h a op e h') : Ct 0 0 0 mX6_refuse [vr 20] h' (QV fun h2 => bS h a op e h2 ∧ iH h2 20 7 = e) := by
  obtain ⟨F, n, S, rfl, f1, f2, f3⟩ := s
  refine Ct.mono (fun x y q => ?_) (l_refuse hb)
  obtain ⟨rfl, q⟩ := q
  rcases f1 with f1 | ⟨f1, f4, f5⟩
  · rw [if_neg (by omega)] at q
    refine ⟨rfl, ⟨F, n, S, q, Or.inl f1, f2, f3⟩, ?_⟩
    rw [q, hr_F (by omega)]; exact f1
  · rw [if_pos f1] at q
    refine ⟨rfl, ⟨_, n, S, q, Or.inl (by simp [updF]; exact f5), by simp [updF]; omega, f3⟩, ?_⟩
    rw [q, hr_F (by omega)]; simp [updF]; exact f5
end
def b_X5_put__0 : List IE := [(.aload_n 0, 1, 0, 0, 0, 0), (.iload_n 1, 1, 0, 0, 1, 0)]
theorem k_X5_put__0 : ckB mX5_put_ 5 0 b_X5_put__0 2 = true := by decide +kernel
def b_X5_put__5 : List IE := [(.aload_n 0, 1, 0, 0, 0, 0), (.iload_n 2, 1, 0, 0, 2, 0)]
theorem k_X5_put__5 : ckB mX5_put_ 5 5 b_X5_put__5 7 = true := by decide +kernel
def b_X5_put__10 : List IE := [(.aload_n 0, 1, 0, 0, 0, 0), (.iload_n 3, 1, 0, 0, 3, 0)]
theorem k_X5_put__10 : ckB mX5_put_ 5 10 b_X5_put__10 12 = true := by decide +kernel
def b_X5_put__15 : List IE := []
theorem k_X5_put__15 : ckV mX5_put_ 5 15 b_X5_put__15 15 = true := by decide +kernel
theorem s_X5_put__2 : cV mX5_put_ 2 mX5_put 22 1 5 := ⟨by decide +kernel, ⟨ml_X5_put, li_RX5_22, im_X5_put, se_X5_put⟩, ⟨by decide +kernel, by decide +kernel⟩, by decide +kernel⟩
theorem s_X5_put__7 : cV mX5_put_ 7 mX5_put 22 1 5 := ⟨by decide +kernel, ⟨ml_X5_put, li_RX5_22, im_X5_put, se_X5_put⟩, ⟨by decide +kernel, by decide +kernel⟩, by decide +kernel⟩
theorem s_X5_put__12 : cV mX5_put_ 12 mX5_put 22 1 5 := ⟨by decide +kernel, ⟨ml_X5_put, li_RX5_22, im_X5_put, se_X5_put⟩, ⟨by decide +kernel, by decide +kernel⟩, by decide +kernel⟩
theorem t_X5_put__0 {rc rs : Nat} {Q : Option AV → AH → Prop} {h : AH} {a0 : Nat} {x1 x2 x3 : Int} (hL : LayL h) (hA0 : iQu a0) (hv : (∃ P3 : AH → Prop, Ct 0 0 0 mX5_put [vr a0, vi x1] h (QV P3) ∧ ∀ h1 : AH, P3 h1 → LayL h1 ∧ (∃ P6 : AH → Prop, Ct 0 0 0 mX5_put [vr a0, vi x2] h1 (QV P6) ∧ ∀ h4 : AH, P6 h4 → LayL h4 ∧ (∃ P9 : AH → Prop, Ct 0 0 0 mX5_put [vr a0, vi x3] h4 (QV P9) ∧ ∀ h7 : AH, P9 h7 → LayL h7 ∧ Q none h7)))) : wp mX5_put_ 1 rc rs Q 0 [some (vr a0), some (vi x1), some (vi x2), some (vi x3)] [] h :=
  (show wp mX5_put_ 1 rc rs Q 0 [some (vr a0), some (vi x1), some (vi x2), some (vi x3)] [] h from xcV k_X5_put__0 s_X5_put__2 (Exists.elim hv (fun P3 v18 => (Exists.intro [vi x1] (Exists.intro a0 (Exists.intro [] (And.intro (And.intro rfl (And.intro rfl (Nat.le_of_ble_eq_true rfl))) (And.intro (qu_o hL hA0) (Exists.intro 0 (Exists.intro 0 (Exists.intro 0 (Exists.intro (QV P3) (And.intro v18.1 (And.intro (And.intro (by decide) (And.intro (Nat.zero_le _) (Nat.zero_le _))) (eQV (fun h1 e20 => have v19 := v18.2 h1 e20; have hL := v19.1; have v19 := v19.2; (show wp mX5_put_ 1 rc rs Q 5 [some (vr a0), some (vi x1), some (vi x2), some (vi x3)] [] h1 from xcV k_X5_put__5 s_X5_put__7 (Exists.elim v19 (fun P6 v14 => (Exists.intro [vi x2] (Exists.intro a0 (Exists.intro [] (And.intro (And.intro rfl (And.intro rfl (Nat.le_of_ble_eq_true rfl))) (And.intro (qu_o hL hA0) (Exists.intro 0 (Exists.intro 0 (Exists.intro 0 (Exists.intro (QV P6) (And.intro v14.1 (And.intro (And.intro (by decide) (And.intro (Nat.zero_le _) (Nat.zero_le _))) (eQV (fun h4 e16 => have v15 := v14.2 h4 e16; have hL := v15.1; have v15 := v15.2; (show wp mX5_put_ 1 rc rs Q 10 [some (vr a0), some (vi x1), some (vi x2), some (vi x3)] [] h4 from xcV k_X5_put__10 s_X5_put__12 (Exists.elim v15 (fun P9 v10 => (Exists.intro [vi x3] (Exists.intro a0 (Exists.intro [] (And.intro (And.intro rfl (And.intro rfl (Nat.le_of_ble_eq_true rfl))) (And.intro (qu_o hL hA0) (Exists.intro 0 (Exists.intro 0 (Exists.intro 0 (Exists.intro (QV P9) (And.intro v10.1 (And.intro (And.intro (by decide) (And.intro (Nat.zero_le _) (Nat.zero_le _))) (eQV (fun h7 e12 => have v11 := v10.2 h7 e12; have hL := v11.1; have v11 := v11.2; (show wp mX5_put_ 1 rc rs Q 15 [some (vr a0), some (vi x1), some (vi x2), some (vi x3)] [] h7 from xV k_X5_put__15 (And.intro rfl v11))))))))))))))))))))))))))))))))))))))))))))))))))
theorem e_X5_put_ {mc ms : Nat} {Q : Option AV → AH → Prop} {h : AH} {a0 : Nat} {x1 x2 x3 : Int} (hL : LayL h) (hA0 : iQu a0) (hv : (∃ P3 : AH → Prop, Ct 0 0 0 mX5_put [vr a0, vi x1] h (QV P3) ∧ ∀ h1 : AH, P3 h1 → LayL h1 ∧ (∃ P6 : AH → Prop, Ct 0 0 0 mX5_put [vr a0, vi x2] h1 (QV P6) ∧ ∀ h4 : AH, P6 h4 → LayL h4 ∧ (∃ P9 : AH → Prop, Ct 0 0 0 mX5_put [vr a0, vi x3] h4 (QV P9) ∧ ∀ h7 : AH, P9 h7 → LayL h7 ∧ Q none h7)))) : Ct 1 mc ms mX5_put_ [vr a0, vi x1, vi x2, vi x3] h Q := Ct.of (by decide +kernel) (Nat.le_of_ble_eq_true rfl) (t_X5_put__0 hL hA0 hv)
def b_X6_readWord_0 : List IE := [(.aload_n 0, 1, 0, 0, 0, 0), (.getfield 63, 3, 0, 6, 5, 0), (.istore_n 1, 1, 0, 0, 1, 0), (.aload_n 0, 1, 0, 0, 0, 0), (.getfield 31, 3, 0, 6, 4, 0), (.aload_n 0, 1, 0, 0, 0, 0), (.getfield 46, 3, 0, 6, 3, 0), (.isub, 1, 0, 0, 0, 0), (.istore_n 2, 1, 0, 0, 2, 0), (.aload_n 0, 1, 0, 0, 0, 0)]
theorem k_X6_readWord_0 : ckB mX6_readWord 6 0 b_X6_readWord_0 16 = true := by decide +kernel
def b_X6_readWord_19 : List IE := [(.aload_n 0, 1, 0, 0, 0, 0), (.getfield 40, 3, 0, 6, 2, 0), (.bipush 42, 2, 42, 0, 0, 0)]
theorem k_X6_readWord_19 : ckIc mX6_readWord 6 19 b_X6_readWord_19 25 1 24 49 28 = true := by decide +kernel
def b_X6_readWord_28 : List IE := [(.aload_n 0, 1, 0, 0, 0, 0), (.getfield 15, 3, 0, 6, 1, 1), (.iconst 0, 1, 0, 0, 0, 0), (.iload_n 1, 1, 0, 0, 1, 0), (.iload_n 1, 1, 0, 0, 1, 0)]
theorem k_X6_readWord_28 : ckGsSPANS mX6_readWord 6 28 b_X6_readWord_28 35 95 2 40 = true := by decide +kernel
def b_X6_readWord_40 : List IE := [(.iadd, 1, 0, 0, 0, 0)]
theorem k_X6_readWord_40 : ckB mX6_readWord 6 40 b_X6_readWord_40 41 = true := by decide +kernel
def b_X6_readWord_44 : List IE := [(.aload_n 0, 1, 0, 0, 0, 0)]
theorem k_X6_readWord_44 : ckB mX6_readWord 6 44 b_X6_readWord_44 45 = true := by decide +kernel
def b_X6_readWord_48 : List IE := []
theorem k_X6_readWord_48 : ckV mX6_readWord 6 48 b_X6_readWord_48 48 = true := by decide +kernel
def b_X6_readWord_49 : List IE := [(.aload_n 0, 1, 0, 0, 0, 0), (.getfield 40, 3, 0, 6, 2, 0), (.bipush 126, 2, 126, 0, 0, 0)]
theorem k_X6_readWord_49 : ckIc mX6_readWord 6 49 b_X6_readWord_49 55 0 16 71 58 = true := by decide +kernel
def b_X6_readWord_58 : List IE := [(.aload_n 0, 1, 0, 0, 0, 0), (.getfield 15, 3, 0, 6, 1, 1), (.iconst 0, 1, 0, 0, 0, 0), (.iload_n 1, 1, 0, 0, 1, 0), (.iload_n 1, 1, 0, 0, 1, 0), (.iconst 1, 1, 1, 0, 0, 0), (.iadd, 1, 0, 0, 0, 0)]
theorem k_X6_readWord_58 : ckB mX6_readWord 6 58 b_X6_readWord_58 67 = true := by decide +kernel
def b_X6_readWord_70 : List IE := []
theorem k_X6_readWord_70 : ckV mX6_readWord 6 70 b_X6_readWord_70 70 = true := by decide +kernel
def b_X6_readWord_71 : List IE := [(.aload_n 0, 1, 0, 0, 0, 0)]
theorem k_X6_readWord_71 : ckB mX6_readWord 6 71 b_X6_readWord_71 72 = true := by decide +kernel
def b_X6_readWord_75 : List IE := [(.aload_n 0, 1, 0, 0, 0, 0), (.getfield 40, 3, 0, 6, 2, 0), (.iconst 1, 1, 1, 0, 0, 0)]
theorem k_X6_readWord_75 : ckIc mX6_readWord 6 75 b_X6_readWord_75 80 0 8 88 83 = true := by decide +kernel
def b_X6_readWord_83 : List IE := [(.aload_n 0, 1, 0, 0, 0, 0)]
theorem k_X6_readWord_83 : ckB mX6_readWord 6 83 b_X6_readWord_83 84 = true := by decide +kernel
def b_X6_readWord_87 : List IE := []
theorem k_X6_readWord_87 : ckV mX6_readWord 6 87 b_X6_readWord_87 87 = true := by decide +kernel
def b_X6_readWord_88 : List IE := [(.aload_n 0, 1, 0, 0, 0, 0), (.getfield 15, 3, 0, 6, 1, 1), (.iconst 1, 1, 1, 0, 0, 0), (.iload_n 1, 1, 0, 0, 1, 0), (.aload_n 0, 1, 0, 0, 0, 0), (.getfield 63, 3, 0, 6, 5, 0)]
theorem k_X6_readWord_88 : ckB mX6_readWord 6 88 b_X6_readWord_88 98 = true := by decide +kernel
def b_X6_readWord_101 : List IE := [(.aload_n 0, 1, 0, 0, 0, 0)]
theorem k_X6_readWord_101 : ckB mX6_readWord 6 101 b_X6_readWord_101 102 = true := by decide +kernel
def b_X6_readWord_105 : List IE := []
theorem k_X6_readWord_105 : ckV mX6_readWord 6 105 b_X6_readWord_105 105 = true := by decide +kernel
theorem s_X6_readWord_16 : cV mX6_readWord 16 mX6_next 34 0 6 := ⟨by decide +kernel, ⟨ml_X6_next, li_RX6_34, im_X6_next, se_X6_next⟩, ⟨by decide +kernel, by decide +kernel⟩, by decide +kernel⟩
theorem s_X6_readWord_41 : cV mX6_readWord 41 mX5_put_ 98 3 5 := ⟨by decide +kernel, ⟨ml_X5_put_, li_RX6_98, im_X5_put_, se_X5_put_⟩, ⟨by decide +kernel, by decide +kernel⟩, by decide +kernel⟩
theorem s_X6_readWord_45 : cV mX6_readWord 45 mX6_next 34 0 6 := ⟨by decide +kernel, ⟨ml_X6_next, li_RX6_34, im_X6_next, se_X6_next⟩, ⟨by decide +kernel, by decide +kernel⟩, by decide +kernel⟩
theorem s_X6_readWord_67 : cV mX6_readWord 67 mX5_put_ 98 3 5 := ⟨by decide +kernel, ⟨ml_X5_put_, li_RX6_98, im_X5_put_, se_X5_put_⟩, ⟨by decide +kernel, by decide +kernel⟩, by decide +kernel⟩
theorem s_X6_readWord_72 : cV mX6_readWord 72 mX6_next 34 0 6 := ⟨by decide +kernel, ⟨ml_X6_next, li_RX6_34, im_X6_next, se_X6_next⟩, ⟨by decide +kernel, by decide +kernel⟩, by decide +kernel⟩
theorem s_X6_readWord_84 : cV mX6_readWord 84 mX6_refuse 43 0 6 := ⟨by decide +kernel, ⟨ml_X6_refuse, li_RX6_43, im_X6_refuse, se_X6_refuse⟩, ⟨by decide +kernel, by decide +kernel⟩, by decide +kernel⟩
theorem s_X6_readWord_98 : cV mX6_readWord 98 mX5_put_ 98 3 5 := ⟨by decide +kernel, ⟨ml_X5_put_, li_RX6_98, im_X5_put_, se_X5_put_⟩, ⟨by decide +kernel, by decide +kernel⟩, by decide +kernel⟩
theorem s_X6_readWord_102 : cV mX6_readWord 102 mX6_next 34 0 6 := ⟨by decide +kernel, ⟨ml_X6_next, li_RX6_34, im_X6_next, se_X6_next⟩, ⟨by decide +kernel, by decide +kernel⟩, by decide +kernel⟩
theorem t_X6_readWord_0 {rc rs : Nat} {Q : Option AV → AH → Prop} {h : AH}  (hL : LayL h) (hv : (-2147483648 ≤ (iH h 20 4 - iH h 20 3) ∧ (iH h 20 4 - iH h 20 3) < 2147483648) ∧ (∃ P4 : AH → Prop, Ct 1 0 0 mX6_next [vr 20] h (QV P4) ∧ ∀ h2 : AH, P4 h2 → LayL h2 ∧ (((iH h2 20 2) ≠ 42 → (((iH h2 20 2) = 126 → (∃ P15 : AH → Prop, Ct 1 0 0 mX6_next [vr 20] h2 (QV P15) ∧ ∀ h13 : AH, P15 h13 → LayL h13 ∧ (((iH h13 20 2) = 1 → (∃ q20, (rH h13 20 1 = some q20 ∧ iQu q20) ∧ (∃ P24 : AH → Prop, Ct 1 0 0 mX5_put_ [vr q20, vi 1, vi (iH h 20 5), vi (iH h13 20 5)] h13 (QV P24) ∧ ∀ h22 : AH, P24 h22 → LayL h22 ∧ (∃ P27 : AH → Prop, Ct 1 0 0 mX6_next [vr 20] h22 (QV P27) ∧ ∀ h25 : AH, P27 h25 → LayL h25 ∧ Q none h25)))) ∧ ((iH h13 20 2) ≠ 1 → (∃ P40 : AH → Prop, Ct 0 0 0 mX6_refuse [vr 20] h13 (QV P40) ∧ ∀ h38 : AH, P40 h38 → LayL h38 ∧ Q none h38))))) ∧ ((iH h2 20 2) ≠ 126 → (∃ q49, (rH h2 20 1 = some q49 ∧ iQu q49) ∧ (-2147483648 ≤ (iH h 20 5 + 1) ∧ (iH h 20 5 + 1) < 2147483648) ∧ (∃ P54 : AH → Prop, Ct 1 0 0 mX5_put_ [vr q49, vi 0, vi (iH h 20 5), vi (iH h 20 5 + 1)] h2 (QV P54) ∧ ∀ h52 : AH, P54 h52 → LayL h52 ∧ Q none h52))))) ∧ ((iH h2 20 2) = 42 → (∃ q62, (rH h2 20 1 = some q62 ∧ iQu q62) ∧ (0 ≤ (iH h 20 4 - iH h 20 3) ∧ (iH h 20 4 - iH h 20 3) < 7) ∧ (-2147483648 ≤ (iH h 20 5 + (spnI (iH h 20 4 - iH h 20 3))) ∧ (iH h 20 5 + (spnI (iH h 20 4 - iH h 20 3))) < 2147483648) ∧ (∃ P67 : AH → Prop, Ct 1 0 0 mX5_put_ [vr q62, vi 0, vi (iH h 20 5), vi (iH h 20 5 + (spnI (iH h 20 4 - iH h 20 3)))] h2 (QV P67) ∧ ∀ h65 : AH, P67 h65 → LayL h65 ∧ (∃ P70 : AH → Prop, Ct 1 0 0 mX6_next [vr 20] h65 (QV P70) ∧ ∀ h68 : AH, P70 h68 → LayL h68 ∧ Q none h68))))))) : wp mX6_readWord 2 rc rs Q 0 [some (vr 20), none, none] [] h :=
  (show wp mX6_readWord 2 rc rs Q 0 [some (vr 20), none, none] [] h from xcV k_X6_readWord_0 s_X6_readWord_16 (And.intro (ll_20 hL) (And.intro rfl (And.intro (ll_20 hL) (And.intro (ll_20 hL) (have c1 := hv.1; have v88 := hv.2; (And.intro c1 (And.intro rfl (Exists.elim v88 (fun P4 v84 => (Exists.intro [] (Exists.intro 20 (Exists.intro [] (And.intro (And.intro rfl (And.intro rfl (Nat.le_of_ble_eq_true rfl))) (And.intro (ll_20 hL) (Exists.intro 1 (Exists.intro 0 (Exists.intro 0 (Exists.intro (QV P4) (And.intro v84.1 (And.intro (And.intro (by decide) (And.intro (Nat.zero_le _) (Nat.zero_le _))) (eQV (fun h2 e86 => have v85 := v84.2 h2 e86; have hL := v85.1; have v85 := v85.2; (show wp mX6_readWord 2 rc rs Q 19 [some (vr 20), some (vi (iH h 20 5)), some (vi (iH h 20 4 - iH h 20 3))] [] h2 from xIc k_X6_readWord_19 (And.intro (ll_20 hL) (And.intro (fun c5 => have v7 := v85.1 c5; (show wp mX6_readWord 2 rc rs Q 49 [some (vr 20), some (vi (iH h 20 5)), some (vi (iH h 20 4 - iH h 20 3))] [] h2 from xIc k_X6_readWord_49 (And.intro (ll_20 hL) (And.intro (fun c9 => have v11 := v7.1 c9; (show wp mX6_readWord 2 rc rs Q 71 [some (vr 20), some (vi (iH h 20 5)), some (vi (iH h 20 4 - iH h 20 3))] [] h2 from xcV k_X6_readWord_71 s_X6_readWord_72 (Exists.elim v11 (fun P15 v45 => (Exists.intro [] (Exists.intro 20 (Exists.intro [] (And.intro (And.intro rfl (And.intro rfl (Nat.le_of_ble_eq_true rfl))) (And.intro (ll_20 hL) (Exists.intro 1 (Exists.intro 0 (Exists.intro 0 (Exists.intro (QV P15) (And.intro v45.1 (And.intro (And.intro (by decide) (And.intro (Nat.zero_le _) (Nat.zero_le _))) (eQV (fun h13 e47 => have v46 := v45.2 h13 e47; have hL := v46.1; have v46 := v46.2; (show wp mX6_readWord 2 rc rs Q 75 [some (vr 20), some (vi (iH h 20 5)), some (vi (iH h 20 4 - iH h 20 3))] [] h13 from xIc k_X6_readWord_75 (And.intro (ll_20 hL) (And.intro (fun c16 => have v18 := v46.1 c16; (show wp mX6_readWord 2 rc rs Q 88 [some (vr 20), some (vi (iH h 20 5)), some (vi (iH h 20 4 - iH h 20 3))] [] h13 from xcV k_X6_readWord_88 s_X6_readWord_98 (And.intro (ll_20 hL) (Exists.elim v18 (fun q20 v36 => have c21 := v36.1; have v37 := v36.2; (Exists.intro _ (And.intro c21.1 (And.intro (ll_20 hL) (Exists.elim v37 (fun P24 v32 => (Exists.intro [vi 1, vi (iH h 20 5), vi (iH h13 20 5)] (Exists.intro q20 (Exists.intro [] (And.intro (And.intro rfl (And.intro rfl (Nat.le_of_ble_eq_true rfl))) (And.intro (qu_o hL c21.2) (Exists.intro 1 (Exists.intro 0 (Exists.intro 0 (Exists.intro (QV P24) (And.intro v32.1 (And.intro (And.intro (by decide) (And.intro (Nat.zero_le _) (Nat.zero_le _))) (eQV (fun h22 e34 => have v33 := v32.2 h22 e34; have hL := v33.1; have v33 := v33.2; (show wp mX6_readWord 2 rc rs Q 101 [some (vr 20), some (vi (iH h 20 5)), some (vi (iH h 20 4 - iH h 20 3))] [] h22 from xcV k_X6_readWord_101 s_X6_readWord_102 (Exists.elim v33 (fun P27 v28 => (Exists.intro [] (Exists.intro 20 (Exists.intro [] (And.intro (And.intro rfl (And.intro rfl (Nat.le_of_ble_eq_true rfl))) (And.intro (ll_20 hL) (Exists.intro 1 (Exists.intro 0 (Exists.intro 0 (Exists.intro (QV P27) (And.intro v28.1 (And.intro (And.intro (by decide) (And.intro (Nat.zero_le _) (Nat.zero_le _))) (eQV (fun h25 e30 => have v29 := v28.2 h25 e30; have hL := v29.1; have v29 := v29.2; (show wp mX6_readWord 2 rc rs Q 105 [some (vr 20), some (vi (iH h 20 5)), some (vi (iH h 20 4 - iH h 20 3))] [] h25 from xV k_X6_readWord_105 (And.intro rfl v29))))))))))))))))))))))))))))))))))))))))) (fun c17 => have v19 := v46.2 c17; (show wp mX6_readWord 2 rc rs Q 83 [some (vr 20), some (vi (iH h 20 5)), some (vi (iH h 20 4 - iH h 20 3))] [] h13 from xcV k_X6_readWord_83 s_X6_readWord_84 (Exists.elim v19 (fun P40 v41 => (Exists.intro [] (Exists.intro 20 (Exists.intro [] (And.intro (And.intro rfl (And.intro rfl (Nat.le_of_ble_eq_true rfl))) (And.intro (ll_20 hL) (Exists.intro 0 (Exists.intro 0 (Exists.intro 0 (Exists.intro (QV P40) (And.intro v41.1 (And.intro (And.intro (by decide) (And.intro (Nat.zero_le _) (Nat.zero_le _))) (eQV (fun h38 e43 => have v42 := v41.2 h38 e43; have hL := v42.1; have v42 := v42.2; (show wp mX6_readWord 2 rc rs Q 87 [some (vr 20), some (vi (iH h 20 5)), some (vi (iH h 20 4 - iH h 20 3))] [] h38 from xV k_X6_readWord_87 (And.intro rfl v42))))))))))))))))))))))))))))))))))))))) (fun c10 => have v12 := v7.2 c10; (show wp mX6_readWord 2 rc rs Q 58 [some (vr 20), some (vi (iH h 20 5)), some (vi (iH h 20 4 - iH h 20 3))] [] h2 from xcV k_X6_readWord_58 s_X6_readWord_67 (And.intro (ll_20 hL) (Exists.elim v12 (fun q49 v60 => have c50 := v60.1; have v61 := v60.2; (Exists.intro _ (And.intro c50.1 (have c51 := v61.1; have v59 := v61.2; (And.intro c51 (Exists.elim v59 (fun P54 v55 => (Exists.intro [vi 0, vi (iH h 20 5), vi (iH h 20 5 + 1)] (Exists.intro q49 (Exists.intro [] (And.intro (And.intro rfl (And.intro rfl (Nat.le_of_ble_eq_true rfl))) (And.intro (qu_o hL c50.2) (Exists.intro 1 (Exists.intro 0 (Exists.intro 0 (Exists.intro (QV P54) (And.intro v55.1 (And.intro (And.intro (by decide) (And.intro (Nat.zero_le _) (Nat.zero_le _))) (eQV (fun h52 e57 => have v56 := v55.2 h52 e57; have hL := v56.1; have v56 := v56.2; (show wp mX6_readWord 2 rc rs Q 70 [some (vr 20), some (vi (iH h 20 5)), some (vi (iH h 20 4 - iH h 20 3))] [] h52 from xV k_X6_readWord_70 (And.intro rfl v56)))))))))))))))))))))))))))))) (fun c6 => have v8 := v85.2 (Decidable.not_not.mp c6); (show wp mX6_readWord 2 rc rs Q 28 [some (vr 20), some (vi (iH h 20 5)), some (vi (iH h 20 4 - iH h 20 3))] [] h2 from xGsSPANS k_X6_readWord_28 (And.intro (ll_20 hL) (Exists.elim v8 (fun q62 v82 => have c63 := v82.1; have v83 := v82.2; (Exists.intro _ (And.intro c63.1 (have c80 := v83.1; have v81 := v83.2; Exists.intro _ (And.intro rfl (And.intro c80 (show wp mX6_readWord 2 rc rs Q 40 [some (vr 20), some (vi (iH h 20 5)), some (vi (iH h 20 4 - iH h 20 3))] [vi (spnI (iH h 20 4 - iH h 20 3)), vi (iH h 20 5), vi (iH h 20 5), vi 0, vr q62] h2 from xcV k_X6_readWord_40 s_X6_readWord_41 (have c64 := v81.1; have v79 := v81.2; (And.intro c64 (Exists.elim v79 (fun P67 v75 => (Exists.intro [vi 0, vi (iH h 20 5), vi (iH h 20 5 + (spnI (iH h 20 4 - iH h 20 3)))] (Exists.intro q62 (Exists.intro [] (And.intro (And.intro rfl (And.intro rfl (Nat.le_of_ble_eq_true rfl))) (And.intro (qu_o hL c63.2) (Exists.intro 1 (Exists.intro 0 (Exists.intro 0 (Exists.intro (QV P67) (And.intro v75.1 (And.intro (And.intro (by decide) (And.intro (Nat.zero_le _) (Nat.zero_le _))) (eQV (fun h65 e77 => have v76 := v75.2 h65 e77; have hL := v76.1; have v76 := v76.2; (show wp mX6_readWord 2 rc rs Q 44 [some (vr 20), some (vi (iH h 20 5)), some (vi (iH h 20 4 - iH h 20 3))] [] h65 from xcV k_X6_readWord_44 s_X6_readWord_45 (Exists.elim v76 (fun P70 v71 => (Exists.intro [] (Exists.intro 20 (Exists.intro [] (And.intro (And.intro rfl (And.intro rfl (Nat.le_of_ble_eq_true rfl))) (And.intro (ll_20 hL) (Exists.intro 1 (Exists.intro 0 (Exists.intro 0 (Exists.intro (QV P70) (And.intro v71.1 (And.intro (And.intro (by decide) (And.intro (Nat.zero_le _) (Nat.zero_le _))) (eQV (fun h68 e73 => have v72 := v71.2 h68 e73; have hL := v72.1; have v72 := v72.2; (show wp mX6_readWord 2 rc rs Q 48 [some (vr 20), some (vi (iH h 20 5)), some (vi (iH h 20 4 - iH h 20 3))] [] h68 from xV k_X6_readWord_48 (And.intro rfl v72))))))))))))))))))))))))))))))))))))))))))))))))))))))))))))))))))))))))
theorem e_X6_readWord {mc ms : Nat} {Q : Option AV → AH → Prop} {h : AH}  (hL : LayL h) (hv : (-2147483648 ≤ (iH h 20 4 - iH h 20 3) ∧ (iH h 20 4 - iH h 20 3) < 2147483648) ∧ (∃ P4 : AH → Prop, Ct 1 0 0 mX6_next [vr 20] h (QV P4) ∧ ∀ h2 : AH, P4 h2 → LayL h2 ∧ (((iH h2 20 2) ≠ 42 → (((iH h2 20 2) = 126 → (∃ P15 : AH → Prop, Ct 1 0 0 mX6_next [vr 20] h2 (QV P15) ∧ ∀ h13 : AH, P15 h13 → LayL h13 ∧ (((iH h13 20 2) = 1 → (∃ q20, (rH h13 20 1 = some q20 ∧ iQu q20) ∧ (∃ P24 : AH → Prop, Ct 1 0 0 mX5_put_ [vr q20, vi 1, vi (iH h 20 5), vi (iH h13 20 5)] h13 (QV P24) ∧ ∀ h22 : AH, P24 h22 → LayL h22 ∧ (∃ P27 : AH → Prop, Ct 1 0 0 mX6_next [vr 20] h22 (QV P27) ∧ ∀ h25 : AH, P27 h25 → LayL h25 ∧ Q none h25)))) ∧ ((iH h13 20 2) ≠ 1 → (∃ P40 : AH → Prop, Ct 0 0 0 mX6_refuse [vr 20] h13 (QV P40) ∧ ∀ h38 : AH, P40 h38 → LayL h38 ∧ Q none h38))))) ∧ ((iH h2 20 2) ≠ 126 → (∃ q49, (rH h2 20 1 = some q49 ∧ iQu q49) ∧ (-2147483648 ≤ (iH h 20 5 + 1) ∧ (iH h 20 5 + 1) < 2147483648) ∧ (∃ P54 : AH → Prop, Ct 1 0 0 mX5_put_ [vr q49, vi 0, vi (iH h 20 5), vi (iH h 20 5 + 1)] h2 (QV P54) ∧ ∀ h52 : AH, P54 h52 → LayL h52 ∧ Q none h52))))) ∧ ((iH h2 20 2) = 42 → (∃ q62, (rH h2 20 1 = some q62 ∧ iQu q62) ∧ (0 ≤ (iH h 20 4 - iH h 20 3) ∧ (iH h 20 4 - iH h 20 3) < 7) ∧ (-2147483648 ≤ (iH h 20 5 + (spnI (iH h 20 4 - iH h 20 3))) ∧ (iH h 20 5 + (spnI (iH h 20 4 - iH h 20 3))) < 2147483648) ∧ (∃ P67 : AH → Prop, Ct 1 0 0 mX5_put_ [vr q62, vi 0, vi (iH h 20 5), vi (iH h 20 5 + (spnI (iH h 20 4 - iH h 20 3)))] h2 (QV P67) ∧ ∀ h65 : AH, P67 h65 → LayL h65 ∧ (∃ P70 : AH → Prop, Ct 1 0 0 mX6_next [vr 20] h65 (QV P70) ∧ ∀ h68 : AH, P70 h68 → LayL h68 ∧ Q none h68))))))) : Ct 2 mc ms mX6_readWord [vr 20] h Q := Ct.of (by decide +kernel) (Nat.le_of_ble_eq_true rfl) (t_X6_readWord_0 hL hv)
def b_X6_readPhrase_0 : List IE := [(.aload_n 0, 1, 0, 0, 0, 0), (.getfield 15, 3, 0, 6, 1, 1), (.getfield 19, 3, 0, 5, 1, 0), (.istore_n 1, 1, 0, 0, 1, 0), (.aload_n 0, 1, 0, 0, 0, 0), (.getfield 15, 3, 0, 6, 1, 1), (.iconst 2, 1, 2, 0, 0, 0)]
theorem k_X6_readPhrase_0 : ckB mX6_readPhrase 6 0 b_X6_readPhrase_0 13 = true := by decide +kernel
def b_X6_readPhrase_16 : List IE := [(.aload_n 0, 1, 0, 0, 0, 0), (.getfield 15, 3, 0, 6, 1, 1), (.iconst 0, 1, 0, 0, 0, 0)]
theorem k_X6_readPhrase_16 : ckB mX6_readPhrase 6 16 b_X6_readPhrase_16 21 = true := by decide +kernel
def b_X6_readPhrase_24 : List IE := [(.iconst 0, 1, 0, 0, 0, 0), (.istore_n 2, 1, 0, 0, 2, 0), (.aload_n 0, 1, 0, 0, 0, 0)]
theorem k_X6_readPhrase_24 : ckB mX6_readPhrase 6 24 b_X6_readPhrase_24 27 = true := by decide +kernel
def b_X6_readPhrase_30 : List IE := [(.iload_n 2, 1, 0, 0, 2, 0), (.bipush 6, 2, 6, 0, 0, 0)]
theorem k_X6_readPhrase_30 : ckIc mX6_readPhrase 6 30 b_X6_readPhrase_30 33 3 32 65 36 = true := by decide +kernel
def b_X6_readPhrase_36 : List IE := [(.aload_n 0, 1, 0, 0, 0, 0), (.getfield 40, 3, 0, 6, 2, 0), (.iconst 1, 1, 1, 0, 0, 0)]
theorem k_X6_readPhrase_36 : ckIc mX6_readPhrase 6 36 b_X6_readPhrase_36 41 1 24 65 44 = true := by decide +kernel
def b_X6_readPhrase_44 : List IE := [(.aload_n 0, 1, 0, 0, 0, 0), (.getfield 15, 3, 0, 6, 1, 1), (.aload_n 0, 1, 0, 0, 0, 0), (.getfield 63, 3, 0, 6, 5, 0)]
theorem k_X6_readPhrase_44 : ckB mX6_readPhrase 6 44 b_X6_readPhrase_44 52 = true := by decide +kernel
def b_X6_readPhrase_55 : List IE := [(.iinc 2 1, 3, 1, 0, 2, 0), (.aload_n 0, 1, 0, 0, 0, 0)]
theorem k_X6_readPhrase_55 : ckB mX6_readPhrase 6 55 b_X6_readPhrase_55 59 = true := by decide +kernel
def b_X6_readPhrase_62 : List IE := []
theorem k_X6_readPhrase_62 : ckGo mX6_readPhrase 6 62 b_X6_readPhrase_62 62 (-32) 30 = true := by decide +kernel
def b_X6_readPhrase_65 : List IE := [(.iload_n 2, 1, 0, 0, 2, 0)]
theorem k_X6_readPhrase_65 : ckIf mX6_readPhrase 6 65 b_X6_readPhrase_65 66 0 12 78 69 = true := by decide +kernel
def b_X6_readPhrase_69 : List IE := [(.aload_n 0, 1, 0, 0, 0, 0), (.getfield 40, 3, 0, 6, 2, 0), (.bipush 34, 2, 34, 0, 0, 0)]
theorem k_X6_readPhrase_69 : ckIc mX6_readPhrase 6 69 b_X6_readPhrase_69 75 0 8 83 78 = true := by decide +kernel
def b_X6_readPhrase_78 : List IE := [(.aload_n 0, 1, 0, 0, 0, 0)]
theorem k_X6_readPhrase_78 : ckB mX6_readPhrase 6 78 b_X6_readPhrase_78 79 = true := by decide +kernel
def b_X6_readPhrase_82 : List IE := []
theorem k_X6_readPhrase_82 : ckV mX6_readPhrase 6 82 b_X6_readPhrase_82 82 = true := by decide +kernel
def b_X6_readPhrase_83 : List IE := [(.aload_n 0, 1, 0, 0, 0, 0), (.getfield 15, 3, 0, 6, 1, 1), (.getfield 101, 3, 0, 5, 0, 1), (.iload_n 1, 1, 0, 0, 1, 0), (.iconst 1, 1, 1, 0, 0, 0), (.iadd, 1, 0, 0, 0, 0), (.iload_n 2, 1, 0, 0, 2, 0), (.iastore, 1, 0, 0, 0, 0), (.aload_n 0, 1, 0, 0, 0, 0)]
theorem k_X6_readPhrase_83 : ckB mX6_readPhrase 6 83 b_X6_readPhrase_83 96 = true := by decide +kernel
def b_X6_readPhrase_99 : List IE := []
theorem k_X6_readPhrase_99 : ckV mX6_readPhrase 6 99 b_X6_readPhrase_99 99 = true := by decide +kernel
theorem s_X6_readPhrase_13 : cV mX6_readPhrase 13 mX5_put 76 1 5 := ⟨by decide +kernel, ⟨ml_X5_put, li_RX6_76, im_X5_put, se_X5_put⟩, ⟨by decide +kernel, by decide +kernel⟩, by decide +kernel⟩
theorem s_X6_readPhrase_21 : cV mX6_readPhrase 21 mX5_put 76 1 5 := ⟨by decide +kernel, ⟨ml_X5_put, li_RX6_76, im_X5_put, se_X5_put⟩, ⟨by decide +kernel, by decide +kernel⟩, by decide +kernel⟩
theorem s_X6_readPhrase_27 : cV mX6_readPhrase 27 mX6_next 34 0 6 := ⟨by decide +kernel, ⟨ml_X6_next, li_RX6_34, im_X6_next, se_X6_next⟩, ⟨by decide +kernel, by decide +kernel⟩, by decide +kernel⟩
theorem s_X6_readPhrase_52 : cV mX6_readPhrase 52 mX5_put 76 1 5 := ⟨by decide +kernel, ⟨ml_X5_put, li_RX6_76, im_X5_put, se_X5_put⟩, ⟨by decide +kernel, by decide +kernel⟩, by decide +kernel⟩
theorem s_X6_readPhrase_59 : cV mX6_readPhrase 59 mX6_next 34 0 6 := ⟨by decide +kernel, ⟨ml_X6_next, li_RX6_34, im_X6_next, se_X6_next⟩, ⟨by decide +kernel, by decide +kernel⟩, by decide +kernel⟩
theorem s_X6_readPhrase_79 : cV mX6_readPhrase 79 mX6_refuse 43 0 6 := ⟨by decide +kernel, ⟨ml_X6_refuse, li_RX6_43, im_X6_refuse, se_X6_refuse⟩, ⟨by decide +kernel, by decide +kernel⟩, by decide +kernel⟩
theorem s_X6_readPhrase_96 : cV mX6_readPhrase 96 mX6_next 34 0 6 := ⟨by decide +kernel, ⟨ml_X6_next, li_RX6_34, im_X6_next, se_X6_next⟩, ⟨by decide +kernel, by decide +kernel⟩, by decide +kernel⟩
theorem t_X6_readPhrase_0 {rc rs : Nat} {Q : Option AV → AH → Prop} {h : AH}  (hL : LayL h) (hv : (∃ q1, (rH h 20 1 = some q1 ∧ iQu q1) ∧ (∃ q3, (rH h 20 1 = some q3 ∧ iQu q3) ∧ (∃ P7 : AH → Prop, Ct 0 0 0 mX5_put [vr q3, vi 2] h (QV P7) ∧ ∀ h5 : AH, P7 h5 → LayL h5 ∧ (∃ q8, (rH h5 20 1 = some q8 ∧ iQu q8) ∧ (∃ P12 : AH → Prop, Ct 0 0 0 mX5_put [vr q8, vi 0] h5 (QV P12) ∧ ∀ h10 : AH, P12 h10 → LayL h10 ∧ (∃ P15 : AH → Prop, Ct 1 0 0 mX6_next [vr 20] h10 (QV P15) ∧ ∀ h13 : AH, P15 h13 → LayL h13 ∧ wp mX6_readPhrase 2 rc rs Q 30 [some (vr 20), some (vi (iH h q1 1)), some (vi 0)] [] h13))))))) : wp mX6_readPhrase 2 rc rs Q 0 [some (vr 20), none, none] [] h :=
  (show wp mX6_readPhrase 2 rc rs Q 0 [some (vr 20), none, none] [] h from xcV k_X6_readPhrase_0 s_X6_readPhrase_13 (And.intro (ll_20 hL) (Exists.elim hv (fun q1 v32 => have c2 := v32.1; have v33 := v32.2; (Exists.intro _ (And.intro c2.1 (And.intro (qu_o hL c2.2) (And.intro rfl (And.intro (ll_20 hL) (Exists.elim v33 (fun q3 v30 => have c4 := v30.1; have v31 := v30.2; (Exists.intro _ (And.intro c4.1 (Exists.elim v31 (fun P7 v26 => (Exists.intro [vi 2] (Exists.intro q3 (Exists.intro [] (And.intro (And.intro rfl (And.intro rfl (Nat.le_of_ble_eq_true rfl))) (And.intro (qu_o hL c4.2) (Exists.intro 0 (Exists.intro 0 (Exists.intro 0 (Exists.intro (QV P7) (And.intro v26.1 (And.intro (And.intro (by decide) (And.intro (Nat.zero_le _) (Nat.zero_le _))) (eQV (fun h5 e28 => have v27 := v26.2 h5 e28; have hL := v27.1; have v27 := v27.2; (show wp mX6_readPhrase 2 rc rs Q 16 [some (vr 20), some (vi (iH h q1 1)), none] [] h5 from xcV k_X6_readPhrase_16 s_X6_readPhrase_21 (And.intro (ll_20 hL) (Exists.elim v27 (fun q8 v24 => have c9 := v24.1; have v25 := v24.2; (Exists.intro _ (And.intro c9.1 (Exists.elim v25 (fun P12 v20 => (Exists.intro [vi 0] (Exists.intro q8 (Exists.intro [] (And.intro (And.intro rfl (And.intro rfl (Nat.le_of_ble_eq_true rfl))) (And.intro (qu_o hL c9.2) (Exists.intro 0 (Exists.intro 0 (Exists.intro 0 (Exists.intro (QV P12) (And.intro v20.1 (And.intro (And.intro (by decide) (And.intro (Nat.zero_le _) (Nat.zero_le _))) (eQV (fun h10 e22 => have v21 := v20.2 h10 e22; have hL := v21.1; have v21 := v21.2; (show wp mX6_readPhrase 2 rc rs Q 24 [some (vr 20), some (vi (iH h q1 1)), none] [] h10 from xcV k_X6_readPhrase_24 s_X6_readPhrase_27 (And.intro rfl (Exists.elim v21 (fun P15 v16 => (Exists.intro [] (Exists.intro 20 (Exists.intro [] (And.intro (And.intro rfl (And.intro rfl (Nat.le_of_ble_eq_true rfl))) (And.intro (ll_20 hL) (Exists.intro 1 (Exists.intro 0 (Exists.intro 0 (Exists.intro (QV P15) (And.intro v16.1 (And.intro (And.intro (by decide) (And.intro (Nat.zero_le _) (Nat.zero_le _))) (eQV (fun h13 e18 => have v17 := v16.2 h13 e18; have hL := v17.1; have v17 := v17.2; v17))))))))))))))))))))))))))))))))))))))))))))))))))))))))))))))))))
theorem e_X6_readPhrase {mc ms : Nat} {Q : Option AV → AH → Prop} {h : AH}  (hL : LayL h) (hv : (∃ q1, (rH h 20 1 = some q1 ∧ iQu q1) ∧ (∃ q3, (rH h 20 1 = some q3 ∧ iQu q3) ∧ (∃ P7 : AH → Prop, Ct 0 0 0 mX5_put [vr q3, vi 2] h (QV P7) ∧ ∀ h5 : AH, P7 h5 → LayL h5 ∧ (∃ q8, (rH h5 20 1 = some q8 ∧ iQu q8) ∧ (∃ P12 : AH → Prop, Ct 0 0 0 mX5_put [vr q8, vi 0] h5 (QV P12) ∧ ∀ h10 : AH, P12 h10 → LayL h10 ∧ (∃ P15 : AH → Prop, Ct 1 0 0 mX6_next [vr 20] h10 (QV P15) ∧ ∀ h13 : AH, P15 h13 → LayL h13 ∧ wp mX6_readPhrase 2 mc ms Q 30 [some (vr 20), some (vi (iH h q1 1)), some (vi 0)] [] h13))))))) : Ct 2 mc ms mX6_readPhrase [vr 20] h Q := Ct.of (by decide +kernel) (Nat.le_of_ble_eq_true rfl) (t_X6_readPhrase_0 hL hv)
theorem t_X6_readPhrase_30 {rc rs : Nat} {Q : Option AV → AH → Prop} {h : AH} {x1 x2 : Int} (hL : LayL h) (hv : ((6 ≤ x2 → ((x2 = 0 → (∃ P11 : AH → Prop, Ct 0 0 0 mX6_refuse [vr 20] h (QV P11) ∧ ∀ h9 : AH, P11 h9 → LayL h9 ∧ Q none h9)) ∧ (x2 ≠ 0 → (((iH h 20 2) = 34 → (∃ q20, (rH h 20 1 = some q20 ∧ iQu q20) ∧ (-2147483648 ≤ (x1 + 1) ∧ (x1 + 1) < 2147483648) ∧ (0 ≤ (x1 + 1) ∧ (x1 + 1) < 128) ∧ (∃ P26 : AH → Prop, Ct 1 0 0 mX6_next [vr 20] (sI h (q20 + 1) ((x1 + 1).toNat) x2) (QV P26) ∧ ∀ h24 : AH, P26 h24 → LayL h24 ∧ Q none h24))) ∧ ((iH h 20 2) ≠ 34 → (∃ P37 : AH → Prop, Ct 0 0 0 mX6_refuse [vr 20] h (QV P37) ∧ ∀ h35 : AH, P37 h35 → LayL h35 ∧ Q none h35)))))) ∧ (x2 < 6 → (((iH h 20 2) ≠ 1 → ((x2 = 0 → (∃ P52 : AH → Prop, Ct 0 0 0 mX6_refuse [vr 20] h (QV P52) ∧ ∀ h50 : AH, P52 h50 → LayL h50 ∧ Q none h50)) ∧ (x2 ≠ 0 → (((iH h 20 2) = 34 → (∃ q61, (rH h 20 1 = some q61 ∧ iQu q61) ∧ (-2147483648 ≤ (x1 + 1) ∧ (x1 + 1) < 2147483648) ∧ (0 ≤ (x1 + 1) ∧ (x1 + 1) < 128) ∧ (∃ P67 : AH → Prop, Ct 1 0 0 mX6_next [vr 20] (sI h (q61 + 1) ((x1 + 1).toNat) x2) (QV P67) ∧ ∀ h65 : AH, P67 h65 → LayL h65 ∧ Q none h65))) ∧ ((iH h 20 2) ≠ 34 → (∃ P78 : AH → Prop, Ct 0 0 0 mX6_refuse [vr 20] h (QV P78) ∧ ∀ h76 : AH, P78 h76 → LayL h76 ∧ Q none h76)))))) ∧ ((iH h 20 2) = 1 → (∃ q83, (rH h 20 1 = some q83 ∧ iQu q83) ∧ (∃ P87 : AH → Prop, Ct 0 0 0 mX5_put [vr q83, vi (iH h 20 5)] h (QV P87) ∧ ∀ h85 : AH, P87 h85 → LayL h85 ∧ (-2147483648 ≤ (x2 + 1) ∧ (x2 + 1) < 2147483648) ∧ (∃ P91 : AH → Prop, Ct 1 0 0 mX6_next [vr 20] h85 (QV P91) ∧ ∀ h89 : AH, P91 h89 → LayL h89 ∧ wp mX6_readPhrase 2 rc rs Q 30 [some (vr 20), some (vi x1), some (vi (x2 + 1))] [] h89)))))))) : wp mX6_readPhrase 2 rc rs Q 30 [some (vr 20), some (vi x1), some (vi x2)] [] h :=
  (show wp mX6_readPhrase 2 rc rs Q 30 [some (vr 20), some (vi x1), some (vi x2)] [] h from xIc k_X6_readPhrase_30 (And.intro (fun c1 => have v3 := hv.1 c1; (show wp mX6_readPhrase 2 rc rs Q 65 [some (vr 20), some (vi x1), some (vi x2)] [] h from xIf k_X6_readPhrase_65 (And.intro (fun c5 => have v7 := v3.1 c5; (show wp mX6_readPhrase 2 rc rs Q 78 [some (vr 20), some (vi x1), some (vi x2)] [] h from xcV k_X6_readPhrase_78 s_X6_readPhrase_79 (Exists.elim v7 (fun P11 v12 => (Exists.intro [] (Exists.intro 20 (Exists.intro [] (And.intro (And.intro rfl (And.intro rfl (Nat.le_of_ble_eq_true rfl))) (And.intro (ll_20 hL) (Exists.intro 0 (Exists.intro 0 (Exists.intro 0 (Exists.intro (QV P11) (And.intro v12.1 (And.intro (And.intro (by decide) (And.intro (Nat.zero_le _) (Nat.zero_le _))) (eQV (fun h9 e14 => have v13 := v12.2 h9 e14; have hL := v13.1; have v13 := v13.2; (show wp mX6_readPhrase 2 rc rs Q 82 [some (vr 20), some (vi x1), some (vi x2)] [] h9 from xV k_X6_readPhrase_82 (And.intro rfl v13))))))))))))))))))) (fun c6 => have v8 := v3.2 c6; (show wp mX6_readPhrase 2 rc rs Q 69 [some (vr 20), some (vi x1), some (vi x2)] [] h from xIc k_X6_readPhrase_69 (And.intro (ll_20 hL) (And.intro (fun c16 => have v18 := v8.1 c16; (show wp mX6_readPhrase 2 rc rs Q 83 [some (vr 20), some (vi x1), some (vi x2)] [] h from xcV k_X6_readPhrase_83 s_X6_readPhrase_96 (And.intro (ll_20 hL) (Exists.elim v18 (fun q20 v33 => have c21 := v33.1; have v34 := v33.2; (Exists.intro _ (And.intro c21.1 (And.intro (qu_o hL c21.2) (Exists.intro (q20 + 1) (And.intro (qu_r0 hL c21.2) (have c22 := v34.1; have v32 := v34.2; (And.intro c22 (have c23 := v32.1; have v31 := v32.2; (And.intro (sdI (qu_a0 hL c21.2) c23) (Exists.elim v31 (fun P26 v27 => (Exists.intro [] (Exists.intro 20 (Exists.intro [] (And.intro (And.intro rfl (And.intro rfl (Nat.le_of_ble_eq_true rfl))) (And.intro (ll_20 hL) (Exists.intro 1 (Exists.intro 0 (Exists.intro 0 (Exists.intro (QV P26) (And.intro v27.1 (And.intro (And.intro (by decide) (And.intro (Nat.zero_le _) (Nat.zero_le _))) (eQV (fun h24 e29 => have v28 := v27.2 h24 e29; have hL := v28.1; have v28 := v28.2; (show wp mX6_readPhrase 2 rc rs Q 99 [some (vr 20), some (vi x1), some (vi x2)] [] h24 from xV k_X6_readPhrase_99 (And.intro rfl v28))))))))))))))))))))))))))))))) (fun c17 => have v19 := v8.2 c17; (show wp mX6_readPhrase 2 rc rs Q 78 [some (vr 20), some (vi x1), some (vi x2)] [] h from xcV k_X6_readPhrase_78 s_X6_readPhrase_79 (Exists.elim v19 (fun P37 v38 => (Exists.intro [] (Exists.intro 20 (Exists.intro [] (And.intro (And.intro rfl (And.intro rfl (Nat.le_of_ble_eq_true rfl))) (And.intro (ll_20 hL) (Exists.intro 0 (Exists.intro 0 (Exists.intro 0 (Exists.intro (QV P37) (And.intro v38.1 (And.intro (And.intro (by decide) (And.intro (Nat.zero_le _) (Nat.zero_le _))) (eQV (fun h35 e40 => have v39 := v38.2 h35 e40; have hL := v39.1; have v39 := v39.2; (show wp mX6_readPhrase 2 rc rs Q 82 [some (vr 20), some (vi x1), some (vi x2)] [] h35 from xV k_X6_readPhrase_82 (And.intro rfl v39)))))))))))))))))))))))))) (fun c2 => have v4 := hv.2 (Int.not_le.mp c2); (show wp mX6_readPhrase 2 rc rs Q 36 [some (vr 20), some (vi x1), some (vi x2)] [] h from xIc k_X6_readPhrase_36 (And.intro (ll_20 hL) (And.intro (fun c42 => have v44 := v4.1 c42; (show wp mX6_readPhrase 2 rc rs Q 65 [some (vr 20), some (vi x1), some (vi x2)] [] h from xIf k_X6_readPhrase_65 (And.intro (fun c46 => have v48 := v44.1 c46; (show wp mX6_readPhrase 2 rc rs Q 78 [some (vr 20), some (vi x1), some (vi x2)] [] h from xcV k_X6_readPhrase_78 s_X6_readPhrase_79 (Exists.elim v48 (fun P52 v53 => (Exists.intro [] (Exists.intro 20 (Exists.intro [] (And.intro (And.intro rfl (And.intro rfl (Nat.le_of_ble_eq_true rfl))) (And.intro (ll_20 hL) (Exists.intro 0 (Exists.intro 0 (Exists.intro 0 (Exists.intro (QV P52) (And.intro v53.1 (And.intro (And.intro (by decide) (And.intro (Nat.zero_le _) (Nat.zero_le _))) (eQV (fun h50 e55 => have v54 := v53.2 h50 e55; have hL := v54.1; have v54 := v54.2; (show wp mX6_readPhrase 2 rc rs Q 82 [some (vr 20), some (vi x1), some (vi x2)] [] h50 from xV k_X6_readPhrase_82 (And.intro rfl v54))))))))))))))))))) (fun c47 => have v49 := v44.2 c47; (show wp mX6_readPhrase 2 rc rs Q 69 [some (vr 20), some (vi x1), some (vi x2)] [] h from xIc k_X6_readPhrase_69 (And.intro (ll_20 hL) (And.intro (fun c57 => have v59 := v49.1 c57; (show wp mX6_readPhrase 2 rc rs Q 83 [some (vr 20), some (vi x1), some (vi x2)] [] h from xcV k_X6_readPhrase_83 s_X6_readPhrase_96 (And.intro (ll_20 hL) (Exists.elim v59 (fun q61 v74 => have c62 := v74.1; have v75 := v74.2; (Exists.intro _ (And.intro c62.1 (And.intro (qu_o hL c62.2) (Exists.intro (q61 + 1) (And.intro (qu_r0 hL c62.2) (have c63 := v75.1; have v73 := v75.2; (And.intro c63 (have c64 := v73.1; have v72 := v73.2; (And.intro (sdI (qu_a0 hL c62.2) c64) (Exists.elim v72 (fun P67 v68 => (Exists.intro [] (Exists.intro 20 (Exists.intro [] (And.intro (And.intro rfl (And.intro rfl (Nat.le_of_ble_eq_true rfl))) (And.intro (ll_20 hL) (Exists.intro 1 (Exists.intro 0 (Exists.intro 0 (Exists.intro (QV P67) (And.intro v68.1 (And.intro (And.intro (by decide) (And.intro (Nat.zero_le _) (Nat.zero_le _))) (eQV (fun h65 e70 => have v69 := v68.2 h65 e70; have hL := v69.1; have v69 := v69.2; (show wp mX6_readPhrase 2 rc rs Q 99 [some (vr 20), some (vi x1), some (vi x2)] [] h65 from xV k_X6_readPhrase_99 (And.intro rfl v69))))))))))))))))))))))))))))))) (fun c58 => have v60 := v49.2 c58; (show wp mX6_readPhrase 2 rc rs Q 78 [some (vr 20), some (vi x1), some (vi x2)] [] h from xcV k_X6_readPhrase_78 s_X6_readPhrase_79 (Exists.elim v60 (fun P78 v79 => (Exists.intro [] (Exists.intro 20 (Exists.intro [] (And.intro (And.intro rfl (And.intro rfl (Nat.le_of_ble_eq_true rfl))) (And.intro (ll_20 hL) (Exists.intro 0 (Exists.intro 0 (Exists.intro 0 (Exists.intro (QV P78) (And.intro v79.1 (And.intro (And.intro (by decide) (And.intro (Nat.zero_le _) (Nat.zero_le _))) (eQV (fun h76 e81 => have v80 := v79.2 h76 e81; have hL := v80.1; have v80 := v80.2; (show wp mX6_readPhrase 2 rc rs Q 82 [some (vr 20), some (vi x1), some (vi x2)] [] h76 from xV k_X6_readPhrase_82 (And.intro rfl v80)))))))))))))))))))))))))) (fun c43 => have v45 := v4.2 (Decidable.not_not.mp c43); (show wp mX6_readPhrase 2 rc rs Q 44 [some (vr 20), some (vi x1), some (vi x2)] [] h from xcV k_X6_readPhrase_44 s_X6_readPhrase_52 (And.intro (ll_20 hL) (Exists.elim v45 (fun q83 v101 => have c84 := v101.1; have v102 := v101.2; (Exists.intro _ (And.intro c84.1 (And.intro (ll_20 hL) (Exists.elim v102 (fun P87 v97 => (Exists.intro [vi (iH h 20 5)] (Exists.intro q83 (Exists.intro [] (And.intro (And.intro rfl (And.intro rfl (Nat.le_of_ble_eq_true rfl))) (And.intro (qu_o hL c84.2) (Exists.intro 0 (Exists.intro 0 (Exists.intro 0 (Exists.intro (QV P87) (And.intro v97.1 (And.intro (And.intro (by decide) (And.intro (Nat.zero_le _) (Nat.zero_le _))) (eQV (fun h85 e99 => have v98 := v97.2 h85 e99; have hL := v98.1; have v98 := v98.2; (show wp mX6_readPhrase 2 rc rs Q 55 [some (vr 20), some (vi x1), some (vi x2)] [] h85 from xcV k_X6_readPhrase_55 s_X6_readPhrase_59 (have c88 := v98.1; have v96 := v98.2; (And.intro c88 (And.intro rfl (Exists.elim v96 (fun P91 v92 => (Exists.intro [] (Exists.intro 20 (Exists.intro [] (And.intro (And.intro rfl (And.intro rfl (Nat.le_of_ble_eq_true rfl))) (And.intro (ll_20 hL) (Exists.intro 1 (Exists.intro 0 (Exists.intro 0 (Exists.intro (QV P91) (And.intro v92.1 (And.intro (And.intro (by decide) (And.intro (Nat.zero_le _) (Nat.zero_le _))) (eQV (fun h89 e94 => have v93 := v92.2 h89 e94; have hL := v93.1; have v93 := v93.2; (show wp mX6_readPhrase 2 rc rs Q 62 [some (vr 20), some (vi x1), some (vi (x2 + 1))] [] h89 from xGo k_X6_readPhrase_62 v93)))))))))))))))))))))))))))))))))))))))))))))))))
section
variable {h g h' : AH} {a : Nat} {op : Int} {p : Nat}
theorem cp3_g (hb : bR h g a) {l : List Int} (hl : l.length < 126) {u v w : Int} (s : gS h g a op p l h') : Ct 1 0 0 mX5_put_ [vr a, vi u, vi v, vi w] h' (QV (gS h g a op p (l ++ [u, v, w]))) := by
  refine e_X5_put_ (gS_L hb s).1 hb.2.1 ⟨_, cp_g hb (by omega) s, fun h1 s1 => ⟨(gS_L hb s1).1, _, cp_g hb (by simp; omega) s1, fun h2 s2 => ⟨(gS_L hb s2).1, _, cp_g hb (by simp; omega) s2, fun h3 s3 => ⟨(gS_L hb s3).1, rfl, ?_⟩⟩⟩⟩
  have e : l ++ [u] ++ [v] ++ [w] = l ++ [u, v, w] := by simp
  rw [e] at s3; exact s3
theorem sz_snoc (o : qL) (x : List Int) : q_szL (o ++ [x]) = q_szL o + q_zL x := by
  rw [q_szL_app]; show q_szL o + (q_zL x + 0) = _; omega
theorem l_readWord (hb : bR h g a) (ho : op ≤ 4) {o : qL} (hk : q_k g p = 1) (hs : 2 * q_szL o ≤ 3 * p) (s : gS h g a op p (trL o) h') : Ct 2 0 0 mX6_readWord [vr 20] h' (QV (rS h g a op (q_pl g p o))) := by
  obtain ⟨f2, f3, f4, f5, f6, f7, hp⟩ := gS_f s
  have h64 : d_n g ≤ 64 := by have := hb.2.2.2.2.2; unfold d_n; omega
  have hk1 := q_k_1 hb.2.2.2.2 hp hk
  have ew := f5 hk
  have hl : (trL o).length = q_szL o := trL_len o
  refine e_X6_readWord (gS_L hb s).1 ?_
  rw [f3, f4, ew]
  have hw := hk1.1.2
  have hw0 := hk1.1.1
  refine ⟨by omega, _, cn_g hb s, fun h2 s2 => ⟨(gS_L hb s2).1, ?_⟩⟩
  have g2 := gS_f s2
  unfold q_pl
  rw [g2.1]
  have sp := spnI_e (n := (q_e g p : Int) - q_b g p) (by omega)
  have ppos : (0 : Int) < 27 ^ (6 - ((q_e g p : Int) - q_b g p)).toNat := Int.pow_pos (by omega)
  have pbd : (27 : Int) ^ (6 - ((q_e g p : Int) - q_b g p)).toNat ≤ 27 ^ 5 := by
    rcases (show (6 - ((q_e g p : Int) - q_b g p)).toNat = 0 ∨ (6 - ((q_e g p : Int) - q_b g p)).toNat = 1 ∨ (6 - ((q_e g p : Int) - q_b g p)).toNat = 2 ∨ (6 - ((q_e g p : Int) - q_b g p)).toNat = 3 ∨ (6 - ((q_e g p : Int) - q_b g p)).toNat = 4 ∨ (6 - ((q_e g p : Int) - q_b g p)).toNat = 5 by omega) with q | q | q | q | q | q <;> rw [q] <;> decide
  refine ⟨fun c => ⟨fun c2 => ⟨_, cn_g hb s2, fun h3 s3 => ⟨(gS_L hb s3).1, ?_⟩⟩, fun c2 => ⟨a, ⟨(gS_L hb s2).2, hb.2.1⟩, by omega, _, cp3_g hb (by omega) s2, fun h3 s3 => ⟨(gS_L hb s3).1, rfl, ?_⟩⟩⟩, fun c => ⟨a, ⟨(gS_L hb s2).2, hb.2.1⟩, by omega, by rw [sp]; omega, _, cp3_g hb (by omega) s2, fun h3 s3 => ⟨(gS_L hb s3).1, _, cn_g hb s3, fun h4 s4 => ⟨(gS_L hb s4).1, rfl, ?_⟩⟩⟩⟩
  · -- ~
    have g3 := gS_f s3
    rw [g3.1, go_G (by omega)]
    show _ ∧ _
    have e0 : q_bd (.inr (q_e g p, o)) (fun p1 o1 => if q_k g p1 = 42 then q_go g (q_e g p1) (o1 ++ [[1, q_v g p, (q_e g p : Int) - q_b g p]]) else if q_k g p1 = 126 then q_bd (q_go g (q_e g p1) o1) (fun p2 o2 => if q_k g p2 = 1 then q_go g (q_e g p2) (o2 ++ [[2, q_v g p, q_v g p2]]) else .inl (q_b g p2)) else .inr (p1, o1 ++ [[0, q_v g p]])) = q_bd (q_go g (q_e g (q_e g p)) o) (fun p2 o2 => if q_k g p2 = 1 then q_go g (q_e g p2) (o2 ++ [[2, q_v g p, q_v g p2]]) else .inl (q_b g p2)) := by
      show (if q_k g (q_e g p) = 42 then _ else if q_k g (q_e g p) = 126 then _ else _) = _
      rw [if_neg c, if_pos c2]
    rw [e0]
    refine ⟨fun c3 => ?_, fun c3 => ⟨_, cr_g hb ho (by omega) s3, fun h4 s4 => ⟨(bS_L hb s4).1, rfl, ?_⟩⟩⟩
    · rw [g3.2.2.2.1 c3, go_G (by omega)]
      refine ⟨a, ⟨(gS_L hb s3).2, hb.2.1⟩, _, cp3_g hb (by omega) s3, fun h4 s4 => ⟨(gS_L hb s4).1, _, cn_g hb s4, fun h5 s5 => ⟨(gS_L hb s5).1, rfl, ?_⟩⟩⟩
      show rS h g a op (if q_k g (q_e g (q_e g p)) = 1 then q_go g (q_e g (q_e g (q_e g p))) (o ++ [[2, q_v g p, q_v g (q_e g (q_e g p))]]) else _) h5
      rw [if_pos c3]
      refine gS_go ho (by rw [sz_snoc]; show q_szL o + 3 ≤ _; omega) ?_
      rw [trL_app, trL_1]; exact s5
    · by_cases c5 : q_k g (q_e g (q_e g p)) = 5
      · rw [go_E c5]; exact s4
      · rw [go_G c5]
        show rS h g a op (if q_k g (q_e g (q_e g p)) = 1 then _ else .inl (q_b g (q_e g (q_e g p)))) h4
        rw [if_neg c3]; exact s4
  · -- a word alone
    by_cases c5 : q_k g (q_e g p) = 5
    · rw [go_E c5]
      exact gS_5 ho (by simp; omega) c5 s3
    · rw [go_G c5]
      show rS h g a op (if q_k g (q_e g p) = 42 then _ else if q_k g (q_e g p) = 126 then _ else .inr (q_e g p, o ++ [[0, q_v g p]])) h3
      rw [if_neg c, if_neg c2]
      refine ⟨?_, c5⟩
      show gS h g a op (q_e g p) (trL (o ++ [[0, q_v g p]])) h3
      rw [trL_app, trL_1]; exact s3
  · -- *
    rw [go_G (by omega)]
    show rS h g a op (if q_k g (q_e g p) = 42 then q_go g (q_e g (q_e g p)) (o ++ [[1, q_v g p, (q_e g p : Int) - q_b g p]]) else _) h4
    rw [if_pos c]
    refine gS_go ho (by rw [sz_snoc]; show q_szL o + 3 ≤ _; omega) ?_
    rw [trL_app, trL_1]
    rw [sp] at s4
    exact s4
/-- words of a phrase, one by one -/
theorem l_phraseL (hb : bR h g a) (ho : op ≤ 4) {o : qL} {b : Nat} (hz : q_szL o = b) (hb2 : b ≤ 100) : ∀ (k p : Nat) (ws : List Int) (h' : AH), ws.length + k = 6 → (k = 6 → q_k g p = 1) → gS h g a op p (trL o ++ [2, 0] ++ ws) h' → wp mX6_readPhrase 2 0 0 (QV (rS h g a op (q_pf g o (q_ws g k p ws)))) 30 [some (vr 20), some (vi b), some (vi ws.length)] [] h'
  | k, p, ws, h', hk, h6, s => by
    obtain ⟨f2, f3, f4, f5, f6, f7, hp⟩ := gS_f s
    have hl : (trL o).length = b := by rw [trL_len]; exact hz
    have tail : 1 ≤ ws.length → q_ws g k p ws = .inr (p, ws) → (((ws.length : Int) = 0 → (∃ P11 : AH → Prop, Ct 0 0 0 mX6_refuse [vr 20] h' (QV P11) ∧ ∀ h9 : AH, P11 h9 → LayL h9 ∧ (QV (rS h g a op (q_pf g o (q_ws g k p ws)))) none h9)) ∧ ((ws.length : Int) ≠ 0 → (((iH h' 20 2) = 34 → (∃ q20, (rH h' 20 1 = some q20 ∧ iQu q20) ∧ (-2147483648 ≤ ((b : Int) + 1) ∧ ((b : Int) + 1) < 2147483648) ∧ (0 ≤ ((b : Int) + 1) ∧ ((b : Int) + 1) < 128) ∧ (∃ P26 : AH → Prop, Ct 1 0 0 mX6_next [vr 20] (sI h' (q20 + 1) (((b : Int) + 1).toNat) ws.length) (QV P26) ∧ ∀ h24 : AH, P26 h24 → LayL h24 ∧ (QV (rS h g a op (q_pf g o (q_ws g k p ws)))) none h24))) ∧ ((iH h' 20 2) ≠ 34 → (∃ P37 : AH → Prop, Ct 0 0 0 mX6_refuse [vr 20] h' (QV P37) ∧ ∀ h35 : AH, P37 h35 → LayL h35 ∧ (QV (rS h g a op (q_pf g o (q_ws g k p ws)))) none h35))))) := by
      intro h1 ew
      rw [f2, ew]
      refine ⟨fun c => absurd c (by omega), fun _ => ⟨fun c2 => ?_, fun c2 => ⟨_, cr_g hb ho (by simp; omega) s, fun h3 s3 => ⟨(bS_L hb s3).1, rfl, ?_⟩⟩⟩⟩
      · have s2 : gS h g a op p (trL o ++ [2, (ws.length : Int)] ++ ws) (sI h' (a + 1) (((b : Int) + 1).toNat) ws.length) := by
          obtain ⟨F, n, S, rfl, t, f6, f7, hp, hr1, hr2⟩ := s
          refine ⟨F, n, _, by rw [hr_sS hb.2.1], t, f6, f7, hp, by rw [hr1]; simp, fun i hi => ?_⟩
          have e1 : ((b : Int) + 1).toNat = (trL o ++ [2]).length := by simp; omega
          have e2 := getD_mid (a := trL o ++ [2]) (b := ws) (x := (ws.length : Int)) (y := 0) (i := i)
          have e3 : trL o ++ [2] ++ [(ws.length : Int)] ++ ws = trL o ++ [2, (ws.length : Int)] ++ ws := by simp
          have e4 : trL o ++ [2] ++ [(0 : Int)] ++ ws = trL o ++ [2, 0] ++ ws := by simp
          rw [e3, e4] at e2
          rw [e2, e1]
          unfold updF
          by_cases c : i = (trL o ++ [2]).length
          · rw [if_pos c, if_pos c]
          · rw [if_neg c, if_neg c]; exact hr2 i (by simp at hi ⊢; omega)
        refine ⟨a, ⟨(gS_L hb s).2, hb.2.1⟩, by omega, by omega, _, cn_g hb s2, fun h3 s3 => ⟨(gS_L hb s3).1, rfl, ?_⟩⟩
        show rS h g a op (if q_k g p = 34 then q_go g (q_e g p) (o ++ [3 :: (ws.length : Int) :: ws]) else _) h3
        rw [if_pos c2]
        refine gS_go ho (by rw [sz_snoc, q_zL_ph h1]; omega) ?_
        have e : trL (o ++ [3 :: (ws.length : Int) :: ws]) = trL o ++ [2, (ws.length : Int)] ++ ws := by
          rw [trL_app, trL_1]
          match ws, h1 with
          | w :: ws, _ => rw [tr_ph]; simp
        rw [e]; exact s3
      · show rS h g a op (if q_k g p = 34 then _ else .inl (q_b g p)) h3
        rw [if_neg c2]; exact s3
    refine t_X6_readPhrase_30 (gS_L hb s).1 ⟨fun c => ?_, fun c => ⟨fun c2 => ?_, fun c2 => ?_⟩⟩
    · match k, hk with
      | 0, hk => exact tail (by omega) rfl
      | k + 1, hk => omega
    · rw [f2] at c2
      match k, hk, h6, tail with
      | 0, hk, _, _ => omega
      | k + 1, hk, h6, tail =>
        have ew : q_ws g (k + 1) p ws = .inr (p, ws) := by unfold q_ws; rw [if_neg c2]
        exact tail (Nat.pos_of_ne_zero fun q => c2 (h6 (by omega))) ew
    · rw [f2] at c2
      match k, hk with
      | 0, hk => omega
      | k + 1, hk =>
        rw [f5 c2]
        refine ⟨a, ⟨(gS_L hb s).2, hb.2.1⟩, _, cp_g hb (by simp; omega) s, fun h2 s2 => ⟨(gS_L hb s2).1, by omega, _, cn_g hb s2, fun h3 s3 => ⟨(gS_L hb s3).1, ?_⟩⟩⟩
        have e : trL o ++ [2, 0] ++ ws ++ [q_v g p] = trL o ++ [2, 0] ++ (ws ++ [q_v g p]) := by simp
        rw [e] at s3
        have el : (ws.length : Int) + 1 = ((ws ++ [q_v g p]).length : Int) := by simp
        rw [el]
        by_cases c5 : q_k g (q_e g p) = 5
        · have ew : q_ws g (k + 1) p ws = .inl (q_b g (q_e g p)) := by unfold q_ws; rw [if_pos c2, if_pos c5]
          rw [ew]
          have g3 := gS_f s3
          refine t_X6_readPhrase_30 (gS_L hb s3).1 ?_
          rw [g3.1, c5]
          have ref : ∃ P11 : AH → Prop, Ct 0 0 0 mX6_refuse [vr 20] h3 (QV P11) ∧ ∀ h9 : AH, P11 h9 → LayL h9 ∧ (QV (rS h g a op (q_pf g o (.inl (q_b g (q_e g p)))))) none h9 := ⟨_, cr_g hb ho (by simp; omega) s3, fun h4 s4 => ⟨(bS_L hb s4).1, rfl, s4⟩⟩
          exact ⟨fun _ => ⟨fun _ => ref, fun _ => ⟨fun q => absurd q (by decide), fun _ => ref⟩⟩, fun _ => ⟨fun _ => ⟨fun _ => ref, fun _ => ⟨fun q => absurd q (by decide), fun _ => ref⟩⟩, fun q => absurd q (by decide)⟩⟩
        · have ew : q_ws g (k + 1) p ws = q_ws g k (q_e g p) (ws ++ [q_v g p]) := by
            show (if q_k g p = 1 then (if q_k g (q_e g p) = 5 then _ else q_ws g k (q_e g p) (ws ++ [q_v g p])) else _) = _
            rw [if_pos c2, if_neg c5]
          rw [ew]
          exact l_phraseL hb ho hz hb2 k (q_e g p) (ws ++ [q_v g p]) h3 (by simp; omega) (fun q => by omega) s3
termination_by k => k
theorem l_readPhrase (hb : bR h g a) (ho : op ≤ 4) {o : qL} (hs : 2 * q_szL o ≤ 3 * p) (s : gS h g a op p (trL o) h') : Ct 2 0 0 mX6_readPhrase [vr 20] h' (QV (rS h g a op (q_ph g p o))) := by
  obtain ⟨f2, f3, f4, f5, f6, f7, hp⟩ := gS_f s
  have h64 : d_n g ≤ 64 := by have := hb.2.2.2.2.2; unfold d_n; omega
  have hl : (trL o).length = q_szL o := trL_len o
  have en : iH h' a 1 = (q_szL o : Int) := by
    obtain ⟨F, n, S, rfl, t, f6, f7, hp, hr1, hr2⟩ := s
    rw [hr_n hb.2.1, hr1, hl]
  refine e_X6_readPhrase (gS_L hb s).1 ⟨a, ⟨(gS_L hb s).2, hb.2.1⟩, a, ⟨(gS_L hb s).2, hb.2.1⟩, _, cp_g hb (by omega) s, fun h2 s2 => ⟨(gS_L hb s2).1, a, ⟨(gS_L hb s2).2, hb.2.1⟩, _, cp_g hb (by simp; omega) s2, fun h3 s3 => ⟨(gS_L hb s3).1, _, cn_g hb s3, fun h4 s4 => ⟨(gS_L hb s4).1, ?_⟩⟩⟩⟩
  rw [en]
  have e : trL o ++ [2] ++ [0] = trL o ++ [2, 0] := by simp
  rw [e] at s4
  have g4 := gS_f s4
  unfold q_ph
  by_cases c1 : q_k g (q_e g p) = 1
  · rw [go_G (by omega)]
    show wp _ _ _ _ (QV (rS h g a op (if q_k g (q_e g p) = 1 then q_pf g o (q_ws g 6 (q_e g p) []) else _))) _ _ _ _
    rw [if_pos c1]
    exact l_phraseL hb ho rfl (by omega) 6 (q_e g p) [] h4 rfl (fun _ => c1) (by rw [List.append_nil]; exact s4)
  · have er : q_bd (q_go g (q_e g p) o) (fun p1 o1 => if q_k g p1 = 1 then q_pf g o1 (q_ws g 6 p1 []) else .inl (q_b g p1)) = .inl (q_b g (q_e g p)) := by
      by_cases c5 : q_k g (q_e g p) = 5
      · rw [go_E c5]; rfl
      · rw [go_G c5]
        show (if q_k g (q_e g p) = 1 then _ else _) = _
        rw [if_neg c1]
    rw [er]
    refine t_X6_readPhrase_30 (gS_L hb s4).1 ?_
    rw [g4.1]
    have ref : ∃ P11 : AH → Prop, Ct 0 0 0 mX6_refuse [vr 20] h4 (QV P11) ∧ ∀ h9 : AH, P11 h9 → LayL h9 ∧ (QV (rS h g a op (.inl (q_b g (q_e g p))))) none h9 := ⟨_, cr_g hb ho (by simp; omega) s4, fun h5 s5 => ⟨(bS_L hb s5).1, rfl, s5⟩⟩
    exact ⟨fun c => absurd c (by decide), fun _ => ⟨fun _ => ⟨fun _ => ref, fun c => absurd rfl c⟩, fun c => absurd c c1⟩⟩
end
