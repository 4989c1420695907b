/-! THE CLASS: A SEGMENT'S DICTIONARY IS ASKED; WHAT A QUERY COSTS -/
section
theorem sumN_z {f : Nat → Int} : ∀ {n : Nat}, (∀ k, k < n → f k = 0) → sumN f n = 0
  | 0, _ => rfl
  | n + 1, h => by
    show sumN f n + f n = 0
    rw [sumN_z (fun k hk => h k (by omega)), h n (by omega)]; rfl
theorem sumN_one {f : Nat → Int} {j : Nat} : ∀ {n : Nat}, j < n → (∀ k, k < n → k ≠ j → f k = 0) → sumN f n = f j
  | 0, h, _ => by omega
  | n + 1, h, q => by
    show sumN f n + f n = f j
    by_cases e : j = n
    · subst e; rw [sumN_z (fun k hk => q k (by omega) (by omega))]; omega
    · rw [sumN_one (show j < n by omega) (fun k hk => q k (by omega)), q n (by omega) (by omega)]; omega
theorem sumN_add (f g : Nat → Int) : ∀ n, sumN (fun k => f k + g k) n = sumN f n + sumN g n
  | 0 => rfl
  | n + 1 => by
    show sumN (fun k => f k + g k) n + (f n + g n) = sumN f n + f n + (sumN g n + g n)
    rw [sumN_add f g n]; omega
theorem sumN_swap (f : Nat → Nat → Int) (m : Nat) : ∀ n, sumN (fun i => sumN (f i) m) n = sumN (fun j => sumN (fun i => f i j) n) m
  | 0 => (sumN_z fun _ _ => rfl).symm
  | n + 1 => by
    show sumN (fun i => sumN (f i) m) n + sumN (f n) m = sumN (fun j => sumN (fun i => f i j) n + f n j) m
    rw [sumN_add, sumN_swap f m n]
/-- postings of all words from one on, below another -/
noncomputable def v_pbF (g : AH) (x lo hi : Int) (j : Nat) : Int := b01 (lo ≤ m_dw g x j ∧ m_dw g x j < hi) * m_post g x (m_dw g x j)
noncomputable def v_pb (g : AH) (x lo hi : Int) : Int := sumN (v_pbF g x lo hi) (m_dn g x)
theorem v_pbF_y {g : AH} {x lo hi : Int} {j : Nat} (h : lo ≤ m_dw g x j ∧ m_dw g x j < hi) : v_pbF g x lo hi j = m_post g x (m_dw g x j) := by unfold v_pbF; rw [b01_t h, Int.one_mul]
theorem v_pbF_n {g : AH} {x lo hi : Int} {j : Nat} (h : ¬ (lo ≤ m_dw g x j ∧ m_dw g x j < hi)) : v_pbF g x lo hi j = 0 := by unfold v_pbF; rw [b01_f h, Int.zero_mul]
theorem v_pbF_bd {g : AH} {x lo hi : Int} (hd : m_dict g x) (j : Nat) : 0 ≤ v_pbF g x lo hi j ∧ v_pbF g x lo hi j ≤ 64 := by
  have := m_post_bd (w := m_dw g x j) hd.1
  by_cases c : lo ≤ m_dw g x j ∧ m_dw g x j < hi
  · rw [v_pbF_y c]; exact this
  · rw [v_pbF_n c]; omega
theorem v_pb_1 {g : AH} {x w : Int} (hd : m_dict g x) : v_pb g x w (w + 1) = m_post g x w := by
  have hD := (m_dict_D hd).2
  unfold v_pb
  by_cases c : ∃ j, j < m_dn g x ∧ m_dw g x j = w
  · obtain ⟨j, hj, e⟩ := c
    rw [sumN_one hj (fun k hk hne => v_pbF_n (fun q => ?_)), v_pbF_y (by omega), e]
    by_cases c2 : k < j
    · have := hD.1 k j c2 hj; omega
    · have := hD.1 j k (by omega) hk; omega
  · rw [sumN_z (fun k hk => v_pbF_n (fun q => c ⟨k, hk, by omega⟩))]
    refine (cnt_cut (n := 0) (Nat.zero_le _) (fun k _ hk q => ?_)).symm
    obtain ⟨i, hi, e⟩ := q
    have hl := hd.1.1.2.1
    obtain ⟨j, hj, e2⟩ := hD.2.1 k i ⟨by omega, hi⟩
    exact c ⟨j, hj, e2.trans e⟩
theorem v_pb_l {g : AH} {x b l : Int} (hd : m_dict g x) (hb : 0 ≤ b) (hm : b % 27 ^ (6 - l).toNat = 0) : v_pb g x b (b + 27 ^ (6 - l).toNat) = m_pb g x b l := by
  unfold v_pb m_pb
  refine sumN_cg fun j hj => ?_
  have h0 := (m_dw_bd hd hj).1
  unfold v_pbF m_pbF
  rw [propext (beg_rng (w := m_dw g x j) (b := b) (l := l) (by omega) hb hm)]
noncomputable def u_c (g : AH) (x w l : Int) : Int := if l = 6 then m_post g x w else m_pb g x w l
theorem u_c_bd {g : AH} {x w l : Int} (hd : m_dict g x) : 0 ≤ u_c g x w l ∧ u_c g x w l ≤ 49152 := by
  unfold u_c
  split
  · have := m_post_bd (w := w) hd.1; omega
  · exact m_pb_bd hd
noncomputable def u_ocF (g : AH) (q x : Int) (k i : Nat) : Int := u_c g x (m_row g q (q_fr (m_row g q) k + i)) (q_lt (m_row g q) k)
noncomputable def u_oc (g : AH) (q x : Int) (k : Nat) : Int := sumN (u_ocF g q x k) (q_mn (m_row g q) k)
noncomputable def v_cost (g : AH) (q : Int) (n : Nat) (row : Nat → Int) : Int := sumN (fun s => sumN (fun j => u_oc g q (row s) (q_pos (m_row g q) j)) (m_nop g q)) n
end
def b_X7_firstNotBelow_0 : List IE := [(.iconst 0, 1, 0, 0, 0, 0), (.istore_n 2, 1, 0, 0, 2, 0), (.aload_n 0, 1, 0, 0, 0, 0), (.getfield 42, 3, 0, 7, 5, 0), (.istore_n 3, 1, 0, 0, 3, 0)]
theorem k_X7_firstNotBelow_0 : ckB mX7_firstNotBelow 7 0 b_X7_firstNotBelow_0 7 = true := by decide +kernel
def b_X7_firstNotBelow_7 : List IE := [(.iload_n 2, 1, 0, 0, 2, 0), (.iload_n 3, 1, 0, 0, 3, 0)]
theorem k_X7_firstNotBelow_7 : ckIc mX7_firstNotBelow 7 7 b_X7_firstNotBelow_7 9 3 35 44 12 = true := by decide +kernel
def b_X7_firstNotBelow_12 : List IE := [(.iload_n 2, 1, 0, 0, 2, 0), (.iload_n 3, 1, 0, 0, 3, 0), (.iadd, 1, 0, 0, 0, 0), (.iconst 2, 1, 2, 0, 0, 0), (.idiv, 1, 0, 0, 0, 0), (.istore 4, 2, 0, 0, 4, 0), (.aload_n 0, 1, 0, 0, 0, 0), (.getfield 23, 3, 0, 7, 2, 1), (.iload 4, 2, 0, 0, 4, 0), (.iaload, 1, 0, 0, 0, 0), (.iload_n 1, 1, 0, 0, 1, 0)]
theorem k_X7_firstNotBelow_12 : ckIc mX7_firstNotBelow 7 12 b_X7_firstNotBelow_12 27 3 11 38 30 = true := by decide +kernel
def b_X7_firstNotBelow_30 : List IE := [(.iload 4, 2, 0, 0, 4, 0), (.iconst 1, 1, 1, 0, 0, 0), (.iadd, 1, 0, 0, 0, 0), (.istore_n 2, 1, 0, 0, 2, 0)]
theorem k_X7_firstNotBelow_30 : ckGo mX7_firstNotBelow 7 30 b_X7_firstNotBelow_30 35 6 41 = true := by decide +kernel
def b_X7_firstNotBelow_38 : List IE := [(.iload 4, 2, 0, 0, 4, 0), (.istore_n 3, 1, 0, 0, 3, 0)]
theorem k_X7_firstNotBelow_38 : ckGo mX7_firstNotBelow 7 38 b_X7_firstNotBelow_38 41 (-34) 7 = true := by decide +kernel
def b_X7_firstNotBelow_41 : List IE := []
theorem k_X7_firstNotBelow_41 : ckGo mX7_firstNotBelow 7 41 b_X7_firstNotBelow_41 41 (-34) 7 = true := by decide +kernel
def b_X7_firstNotBelow_44 : List IE := [(.iload_n 2, 1, 0, 0, 2, 0)]
theorem k_X7_firstNotBelow_44 : ckI mX7_firstNotBelow 7 44 b_X7_firstNotBelow_44 45 = true := by decide +kernel
theorem t_X7_firstNotBelow_0 {rc rs : Nat} {Q : Option AV → AH → Prop} {h : AH} {a0 n0 r0 : Nat} {x1 : Int} (hL : LayL h) (hA0 : iSg h a0 n0 r0) (hv : wp mX7_firstNotBelow 0 rc rs Q 7 [some (vr a0), some (vi x1), some (vi 0), some (vi (iH h a0 5)), none] [] h) : wp mX7_firstNotBelow 0 rc rs Q 0 [some (vr a0), some (vi x1), none, none, none] [] h :=
  (show wp mX7_firstNotBelow 0 rc rs Q 0 [some (vr a0), some (vi x1), none, none, none] [] h from xB k_X7_firstNotBelow_0 (And.intro rfl (And.intro (sg_o hA0) (And.intro rfl hv))))
theorem e_X7_firstNotBelow {mc ms : Nat} {Q : Option AV → AH → Prop} {h : AH} {a0 n0 r0 : Nat} {x1 : Int} (hL : LayL h) (hA0 : iSg h a0 n0 r0) (hv : wp mX7_firstNotBelow 0 mc ms Q 7 [some (vr a0), some (vi x1), some (vi 0), some (vi (iH h a0 5)), none] [] h) : Ct 0 mc ms mX7_firstNotBelow [vr a0, vi x1] h Q := Ct.of (by decide +kernel) (Nat.le_of_ble_eq_true rfl) (t_X7_firstNotBelow_0 hL hA0 hv)
theorem t_X7_firstNotBelow_7 {rc rs : Nat} {Q : Option AV → AH → Prop} {h : AH} {a0 n0 r0 : Nat} {x1 x2 x3 : Int} (hL : LayL h) (hA0 : iSg h a0 n0 r0) (hv : ((x3 ≤ x2 → Q (some (vi x2)) h) ∧ (x2 < x3 → (-2147483648 ≤ (x2 + x3) ∧ (x2 + x3) < 2147483648) ∧ (0 ≤ (x2 + x3) ∧ (x2 + x3) < 2147483648) ∧ (0 ≤ ((x2 + x3) / 2) ∧ ((x2 + x3) / 2) < r0) ∧ ((x1 ≤ (iH h (a0 + 1) (((x2 + x3) / 2).toNat)) → wp mX7_firstNotBelow 0 rc rs Q 7 [some (vr a0), some (vi x1), some (vi x2), some (vi ((x2 + x3) / 2)), none] [] h) ∧ ((iH h (a0 + 1) (((x2 + x3) / 2).toNat)) < x1 → (-2147483648 ≤ (((x2 + x3) / 2) + 1) ∧ (((x2 + x3) / 2) + 1) < 2147483648) ∧ wp mX7_firstNotBelow 0 rc rs Q 7 [some (vr a0), some (vi x1), some (vi (((x2 + x3) / 2) + 1)), some (vi x3), none] [] h))))) : wp mX7_firstNotBelow 0 rc rs Q 7 [some (vr a0), some (vi x1), some (vi x2), some (vi x3), none] [] h :=
  (show wp mX7_firstNotBelow 0 rc rs Q 7 [some (vr a0), some (vi x1), some (vi x2), some (vi x3), none] [] h from xIc k_X7_firstNotBelow_7 (And.intro (fun c1 => have v3 := hv.1 c1; (show wp mX7_firstNotBelow 0 rc rs Q 44 [some (vr a0), some (vi x1), some (vi x2), some (vi x3), none] [] h from xI k_X7_firstNotBelow_44 (And.intro rfl v3))) (fun c2 => have v4 := hv.2 (Int.not_le.mp c2); (show wp mX7_firstNotBelow 0 rc rs Q 12 [some (vr a0), some (vi x1), some (vi x2), some (vi x3), none] [] h from xIc k_X7_firstNotBelow_12 (have c5 := v4.1; have v16 := v4.2; (And.intro c5 (have c6 := v16.1; have v15 := v16.2; (And.intro (sd_idiv (z := 2) (by decide) c6) (And.intro rfl (And.intro (sg_o hA0) (Exists.intro (a0 + 1) (And.intro (sg_r2 hA0) (have c7 := v15.1; have v14 := v15.2; (And.intro (sdI (sg_a2 hA0) c7) (And.intro (fun c8 => have v10 := v14.1 c8; (show wp mX7_firstNotBelow 0 rc rs Q 38 [some (vr a0), some (vi x1), some (vi x2), some (vi x3), some (vi ((x2 + x3) / 2))] [] h from xGo k_X7_firstNotBelow_38 (And.intro rfl (w_fg [true, true, true, true, false] v10)))) (fun c9 => have v11 := v14.2 (Int.not_le.mp c9); (show wp mX7_firstNotBelow 0 rc rs Q 30 [some (vr a0), some (vi x1), some (vi x2), some (vi x3), some (vi ((x2 + x3) / 2))] [] h from xGo k_X7_firstNotBelow_30 (have c12 := v11.1; have v13 := v11.2; (And.intro c12 (And.intro rfl (show wp mX7_firstNotBelow 0 rc rs Q 41 [some (vr a0), some (vi x1), some (vi (((x2 + x3) / 2) + 1)), some (vi x3), some (vi ((x2 + x3) / 2))] [] h from xGo k_X7_firstNotBelow_41 (w_fg [true, true, true, true, false] v13))))))))))))))))))))))
def b_X7_postingsBetween_0 : List IE := [(.iconst 0, 1, 0, 0, 0, 0), (.istore_n 3, 1, 0, 0, 3, 0), (.aload_n 0, 1, 0, 0, 0, 0), (.iload_n 1, 1, 0, 0, 1, 0)]
theorem k_X7_postingsBetween_0 : ckB mX7_postingsBetween 7 0 b_X7_postingsBetween_0 4 = true := by decide +kernel
def b_X7_postingsBetween_7 : List IE := [(.istore 4, 2, 0, 0, 4, 0)]
theorem k_X7_postingsBetween_7 : ckB mX7_postingsBetween 7 7 b_X7_postingsBetween_7 9 = true := by decide +kernel
def b_X7_postingsBetween_9 : List IE := [(.iload 4, 2, 0, 0, 4, 0), (.aload_n 0, 1, 0, 0, 0, 0), (.getfield 42, 3, 0, 7, 5, 0)]
theorem k_X7_postingsBetween_9 : ckIc mX7_postingsBetween 7 9 b_X7_postingsBetween_9 15 3 30 45 18 = true := by decide +kernel
def b_X7_postingsBetween_18 : List IE := [(.aload_n 0, 1, 0, 0, 0, 0), (.getfield 23, 3, 0, 7, 2, 1), (.iload 4, 2, 0, 0, 4, 0), (.iaload, 1, 0, 0, 0, 0), (.iload_n 2, 1, 0, 0, 2, 0)]
theorem k_X7_postingsBetween_18 : ckIc mX7_postingsBetween 7 18 b_X7_postingsBetween_18 26 3 19 45 29 = true := by decide +kernel
def b_X7_postingsBetween_29 : List IE := [(.iload_n 3, 1, 0, 0, 3, 0), (.aload_n 0, 1, 0, 0, 0, 0), (.getfield 24, 3, 0, 7, 3, 1), (.iload 4, 2, 0, 0, 4, 0), (.iaload, 1, 0, 0, 0, 0), (.iadd, 1, 0, 0, 0, 0), (.istore_n 3, 1, 0, 0, 3, 0), (.iinc 4 1, 3, 1, 0, 4, 0)]
theorem k_X7_postingsBetween_29 : ckGo mX7_postingsBetween 7 29 b_X7_postingsBetween_29 42 (-33) 9 = true := by decide +kernel
def b_X7_postingsBetween_45 : List IE := [(.iload_n 3, 1, 0, 0, 3, 0)]
theorem k_X7_postingsBetween_45 : ckI mX7_postingsBetween 7 45 b_X7_postingsBetween_45 46 = true := by decide +kernel
theorem s_X7_postingsBetween_4 : cV mX7_postingsBetween 4 mX7_firstNotBelow 38 1 7 := ⟨by decide +kernel, ⟨ml_X7_firstNotBelow, li_RX7_38, im_X7_firstNotBelow, se_X7_firstNotBelow⟩, ⟨by decide +kernel, by decide +kernel⟩, by decide +kernel⟩
theorem t_X7_postingsBetween_0 {rc rs : Nat} {Q : Option AV → AH → Prop} {h : AH} {a0 n0 r0 : Nat} {x1 x2 : Int} (hL : LayL h) (hA0 : iSg h a0 n0 r0) (hv : (∃ P3 : Int → AH → Prop, Ct 0 0 0 mX7_firstNotBelow [vr a0, vi x1] h (QI P3) ∧ ∀ (r2 : Int) (h1 : AH), (-2147483648 ≤ r2 ∧ r2 < 2147483648) → P3 r2 h1 → LayL h1 ∧ wp mX7_postingsBetween 1 rc rs Q 9 [some (vr a0), none, some (vi x2), some (vi 0), some (vi r2)] [] h1)) : wp mX7_postingsBetween 1 rc rs Q 0 [some (vr a0), some (vi x1), some (vi x2), none, none] [] h :=
  (show wp mX7_postingsBetween 1 rc rs Q 0 [some (vr a0), some (vi x1), some (vi x2), none, none] [] h from xcV k_X7_postingsBetween_0 s_X7_postingsBetween_4 (And.intro rfl (Exists.elim hv (fun P3 v4 => (Exists.intro [vi x1] (Exists.intro a0 (Exists.intro [] (And.intro (And.intro rfl (And.intro rfl (Nat.le_of_ble_eq_true rfl))) (And.intro (sg_o hA0) (Exists.intro 0 (Exists.intro 0 (Exists.intro 0 (Exists.intro (QI P3) (And.intro v4.1 (And.intro (And.intro (by decide) (And.intro (Nat.zero_le _) (Nat.zero_le _))) (eQI (fun r2 h1 q7 e6 => have v5 := v4.2 r2 h1 q7 e6; have hL := v5.1; have v5 := v5.2; (show wp mX7_postingsBetween 1 rc rs Q 7 [some (vr a0), some (vi x1), some (vi x2), some (vi 0), none] [vi r2] h1 from xB k_X7_postingsBetween_7 (And.intro rfl (w_fg [true, false, true, true, true] v5))))))))))))))))))))
theorem e_X7_postingsBetween {mc ms : Nat} {Q : Option AV → AH → Prop} {h : AH} {a0 n0 r0 : Nat} {x1 x2 : Int} (hL : LayL h) (hA0 : iSg h a0 n0 r0) (hv : (∃ P3 : Int → AH → Prop, Ct 0 0 0 mX7_firstNotBelow [vr a0, vi x1] h (QI P3) ∧ ∀ (r2 : Int) (h1 : AH), (-2147483648 ≤ r2 ∧ r2 < 2147483648) → P3 r2 h1 → LayL h1 ∧ wp mX7_postingsBetween 1 mc ms Q 9 [some (vr a0), none, some (vi x2), some (vi 0), some (vi r2)] [] h1)) : Ct 1 mc ms mX7_postingsBetween [vr a0, vi x1, vi x2] h Q := Ct.of (by decide +kernel) (Nat.le_of_ble_eq_true rfl) (t_X7_postingsBetween_0 hL hA0 hv)
theorem t_X7_postingsBetween_9 {rc rs : Nat} {Q : Option AV → AH → Prop} {h : AH} {a0 n0 r0 : Nat} {x2 x3 x4 : Int} (hL : LayL h) (hA0 : iSg h a0 n0 r0) (hv : (((iH h a0 5) ≤ x4 → Q (some (vi x3)) h) ∧ (x4 < (iH h a0 5) → (0 ≤ x4 ∧ x4 < r0) ∧ ((x2 ≤ (iH h (a0 + 1) x4.toNat) → Q (some (vi x3)) h) ∧ ((iH h (a0 + 1) x4.toNat) < x2 → (-2147483648 ≤ (x3 + iH h (a0 + 2) x4.toNat) ∧ (x3 + iH h (a0 + 2) x4.toNat) < 2147483648) ∧ (-2147483648 ≤ (x4 + 1) ∧ (x4 + 1) < 2147483648) ∧ wp mX7_postingsBetween 1 rc rs Q 9 [some (vr a0), none, some (vi x2), some (vi (x3 + iH h (a0 + 2) x4.toNat)), some (vi (x4 + 1))] [] h))))) : wp mX7_postingsBetween 1 rc rs Q 9 [some (vr a0), none, some (vi x2), some (vi x3), some (vi x4)] [] h :=
  (show wp mX7_postingsBetween 1 rc rs Q 9 [some (vr a0), none, some (vi x2), some (vi x3), some (vi x4)] [] h from xIc k_X7_postingsBetween_9 (And.intro (sg_o hA0) (And.intro (fun c1 => have v3 := hv.1 c1; (show wp mX7_postingsBetween 1 rc rs Q 45 [some (vr a0), none, some (vi x2), some (vi x3), some (vi x4)] [] h from xI k_X7_postingsBetween_45 (And.intro rfl v3))) (fun c2 => have v4 := hv.2 (Int.not_le.mp c2); (show wp mX7_postingsBetween 1 rc rs Q 18 [some (vr a0), none, some (vi x2), some (vi x3), some (vi x4)] [] h from xIc k_X7_postingsBetween_18 (And.intro (sg_o hA0) (Exists.intro (a0 + 1) (And.intro (sg_r2 hA0) (have c5 := v4.1; have v15 := v4.2; (And.intro (sdI (sg_a2 hA0) c5) (And.intro (fun c6 => have v8 := v15.1 c6; (show wp mX7_postingsBetween 1 rc rs Q 45 [some (vr a0), none, some (vi x2), some (vi x3), some (vi x4)] [] h from xI k_X7_postingsBetween_45 (And.intro rfl v8))) (fun c7 => have v9 := v15.2 (Int.not_le.mp c7); (show wp mX7_postingsBetween 1 rc rs Q 29 [some (vr a0), none, some (vi x2), some (vi x3), some (vi x4)] [] h from xGo k_X7_postingsBetween_29 (And.intro (sg_o hA0) (Exists.intro (a0 + 2) (And.intro (sg_r3 hA0) (And.intro (sdI (sg_a3 hA0) c5) (have c11 := v9.1; have v14 := v9.2; (And.intro c11 (And.intro rfl (have c12 := v14.1; have v13 := v14.2; (And.intro c12 (And.intro rfl v13)))))))))))))))))))))))
def b_X7_postingsOf_0 : List IE := [(.aload_n 0, 1, 0, 0, 0, 0), (.iload_n 1, 1, 0, 0, 1, 0), (.iload_n 1, 1, 0, 0, 1, 0), (.iconst 1, 1, 1, 0, 0, 0), (.iadd, 1, 0, 0, 0, 0)]
theorem k_X7_postingsOf_0 : ckB mX7_postingsOf 7 0 b_X7_postingsOf_0 5 = true := by decide +kernel
def b_X7_postingsOf_8 : List IE := []
theorem k_X7_postingsOf_8 : ckI mX7_postingsOf 7 8 b_X7_postingsOf_8 8 = true := by decide +kernel
theorem s_X7_postingsOf_5 : cV mX7_postingsOf 5 mX7_postingsBetween 54 2 7 := ⟨by decide +kernel, ⟨ml_X7_postingsBetween, li_RX7_54, im_X7_postingsBetween, se_X7_postingsBetween⟩, ⟨by decide +kernel, by decide +kernel⟩, by decide +kernel⟩
theorem t_X7_postingsOf_0 {rc rs : Nat} {Q : Option AV → AH → Prop} {h : AH} {a0 n0 r0 : Nat} {x1 : Int} (hL : LayL h) (hA0 : iSg h a0 n0 r0) (hv : (-2147483648 ≤ (x1 + 1) ∧ (x1 + 1) < 2147483648) ∧ (∃ P4 : Int → AH → Prop, Ct 1 0 0 mX7_postingsBetween [vr a0, vi x1, vi (x1 + 1)] h (QI P4) ∧ ∀ (r3 : Int) (h2 : AH), (-2147483648 ≤ r3 ∧ r3 < 2147483648) → P4 r3 h2 → LayL h2 ∧ Q (some (vi r3)) h2)) : wp mX7_postingsOf 2 rc rs Q 0 [some (vr a0), some (vi x1)] [] h :=
  (show wp mX7_postingsOf 2 rc rs Q 0 [some (vr a0), some (vi x1)] [] h from xcV k_X7_postingsOf_0 s_X7_postingsOf_5 (have c1 := hv.1; have v9 := hv.2; (And.intro c1 (Exists.elim v9 (fun P4 v5 => (Exists.intro [vi x1, vi (x1 + 1)] (Exists.intro a0 (Exists.intro [] (And.intro (And.intro rfl (And.intro rfl (Nat.le_of_ble_eq_true rfl))) (And.intro (sg_o hA0) (Exists.intro 1 (Exists.intro 0 (Exists.intro 0 (Exists.intro (QI P4) (And.intro v5.1 (And.intro (And.intro (by decide) (And.intro (Nat.zero_le _) (Nat.zero_le _))) (eQI (fun r3 h2 q8 e7 => have v6 := v5.2 r3 h2 q8 e7; have hL := v6.1; have v6 := v6.2; (show wp mX7_postingsOf 2 rc rs Q 8 [some (vr a0), some (vi x1)] [vi r3] h2 from xI k_X7_postingsOf_8 (And.intro rfl v6))))))))))))))))))))
theorem e_X7_postingsOf {mc ms : Nat} {Q : Option AV → AH → Prop} {h : AH} {a0 n0 r0 : Nat} {x1 : Int} (hL : LayL h) (hA0 : iSg h a0 n0 r0) (hv : (-2147483648 ≤ (x1 + 1) ∧ (x1 + 1) < 2147483648) ∧ (∃ P4 : Int → AH → Prop, Ct 1 0 0 mX7_postingsBetween [vr a0, vi x1, vi (x1 + 1)] h (QI P4) ∧ ∀ (r3 : Int) (h2 : AH), (-2147483648 ≤ r3 ∧ r3 < 2147483648) → P4 r3 h2 → LayL h2 ∧ Q (some (vi r3)) h2)) : Ct 2 mc ms mX7_postingsOf [vr a0, vi x1] h Q := Ct.of (by decide +kernel) (Nat.le_of_ble_eq_true rfl) (t_X7_postingsOf_0 hL hA0 hv)
theorem l_firstNotBelow {h : AH} (hL : LayL h) {a n r c : Nat} {w : Int} (hS : iSg h a n r) (hc : iH h a 5 = (c : Int)) (hcr : c ≤ r) (mo : ∀ i j : Nat, i < j → j < c → iH h (a + 1) i < iH h (a + 1) j) : Ct 0 0 0 mX7_firstNotBelow [vr a, vi w] h (QI fun x h' => (∃ p : Nat, x = (p : Int) ∧ p ≤ c ∧ (∀ j : Nat, j < p → iH h (a + 1) j < w) ∧ ∀ j : Nat, p ≤ j → j < c → w ≤ iH h (a + 1) j) ∧ h' = h) := by
  have hr := hS.2.2.2.2.2
  have main : ∀ f lo hi : Nat, hi - lo ≤ f → lo ≤ hi → hi ≤ c → (∀ j : Nat, j < lo → iH h (a + 1) j < w) → (∀ j : Nat, hi ≤ j → j < c → w ≤ iH h (a + 1) j) → wp mX7_firstNotBelow 0 0 0 (QI fun x h' => (∃ p : Nat, x = (p : Int) ∧ p ≤ c ∧ (∀ j : Nat, j < p → iH h (a + 1) j < w) ∧ ∀ j : Nat, p ≤ j → j < c → w ≤ iH h (a + 1) j) ∧ h' = h) 7 [some (vr a), some (vi w), some (vi lo), some (vi hi), none] [] h := by
    intro f
    induction f with
    | zero =>
      intro lo hi h1 h2 h3 h4 h5
      exact t_X7_firstNotBelow_7 hL hS ⟨fun _ => ⟨_, rfl, ⟨lo, rfl, by omega, h4, fun j q1 q2 => h5 j (by omega) q2⟩, rfl⟩, fun c => absurd c (by omega)⟩
    | succ f ih =>
      intro lo hi h1 h2 h3 h4 h5
      refine t_X7_firstNotBelow_7 hL hS ⟨fun _ => ⟨_, rfl, ⟨lo, rfl, by omega, h4, fun j q1 q2 => h5 j (by omega) q2⟩, rfl⟩, fun c1 => ?_⟩
      obtain ⟨m, hm⟩ : ∃ m : Nat, m = (lo + hi) / 2 := ⟨_, rfl⟩
      have em : ((lo : Int) + (hi : Int)) / 2 = (m : Int) := by omega
      rw [em, Int.toNat_natCast]
      refine ⟨by omega, by omega, by omega, fun c2 => ?_, fun c2 => ⟨by omega, ?_⟩⟩
      · refine ih lo m (by omega) (by omega) (by omega) h4 (fun j q1 q2 => ?_)
        by_cases e : m = j
        · subst e; exact c2
        · have := mo m j (by omega) q2; omega
      · rw [show (m : Int) + 1 = ((m + 1 : Nat) : Int) by omega]
        refine ih (m + 1) hi (by omega) (by omega) (by omega) (fun j q1 => ?_) h5
        by_cases e : j = m
        · subst e; exact c2
        · have := mo j m (by omega) (by omega); omega
  refine e_X7_firstNotBelow hL hS ?_
  rw [hc]
  exact main c 0 c (by omega) (by omega) (by omega) (fun j hj => absurd hj (Nat.not_lt_zero _)) (fun j h1 h2 => by omega)
theorem l_postingsBetween {h g : AH} (hL : LayL h) {a n r : Nat} {x lo hi : Int} (hS : iSg h a n r) (hd : m_dict g x) (hc : cDict h g a x r) : Ct 1 0 0 mX7_postingsBetween [vr a, vi lo, vi hi] h (QI fun v h' => v = v_pb g x lo hi ∧ h' = h) := by
  obtain ⟨e1, e2, -, e3⟩ := hc
  obtain ⟨d1, d2⟩ := m_dict_D hd
  refine e_X7_postingsBetween hL hS ⟨_, l_firstNotBelow hL hS e1 e2 (fun i j q1 q2 => by rw [(e3 i (by omega)).1, (e3 j q2).1]; exact d2.1 i j q1 q2), fun v h1 _ hv => ?_⟩
  obtain ⟨⟨p, rfl, p1, p2, p3⟩, rfl⟩ := hv
  refine ⟨hL, ?_⟩
  have z : ∀ j : Nat, j < p → v_pbF g x lo hi j = 0 := fun j hj => v_pbF_n (fun q => by have := p2 j hj; rw [(e3 j (by omega)).1] at this; omega)
  have main : ∀ j : Nat, p ≤ j → j ≤ m_dn g x → wp mX7_postingsBetween 1 0 0 (QI fun v h' => v = v_pb g x lo hi ∧ h' = h1) 9 [some (vr a), none, some (vi hi), some (vi (sumN (v_pbF g x lo hi) j)), some (vi j)] [] h1 := by
    refine dn (m_dn g x) (fun j hj q1 q2 => ?_) (fun j hj ih q1 q2 => ?_)
    · have : j = m_dn g x := by omega
      subst this
      exact t_X7_postingsBetween_9 hL hS ⟨fun _ => ⟨_, rfl, rfl, rfl⟩, fun c => absurd c (by omega)⟩
    · obtain ⟨w1, w2, -⟩ := e3 j hj
      have hb := sumN_bd (v_pbF g x lo hi) 64 (by omega) j (fun i _ => v_pbF_bd hd i)
      have hpo := m_post_bd (w := m_dw g x j) hd.1
      have hlo := p3 j q1 hj
      rw [w1] at hlo
      refine t_X7_postingsBetween_9 hL hS ⟨fun c => absurd c (by omega), fun _ => ⟨by omega, ?_⟩⟩
      rw [Int.toNat_natCast, w1, w2]
      refine ⟨fun c => ⟨_, rfl, ?_, rfl⟩, fun c => ⟨by omega, by omega, ?_⟩⟩
      · have rest : ∀ m : Nat, j ≤ m → m ≤ m_dn g x → sumN (v_pbF g x lo hi) m = sumN (v_pbF g x lo hi) j := by
          intro m
          induction m with
          | zero => intro h1 _; rw [show j = 0 by omega]
          | succ m ihm =>
            intro h1 h2
            by_cases e : j = m + 1
            · rw [e]
            · show sumN (v_pbF g x lo hi) m + v_pbF g x lo hi m = _
              rw [ihm (by omega) (by omega), v_pbF_n (fun q => ?_), Int.add_zero]
              have := IsD.mono d2 (i := j) (j := m) (by omega) (by omega)
              omega
        exact (rest _ q2 (Nat.le_refl _)).symm
      · have := ih (by omega) (by omega)
        have e4 : sumN (v_pbF g x lo hi) (j + 1) = sumN (v_pbF g x lo hi) j + m_post g x (m_dw g x j) := by
          show _ + v_pbF g x lo hi j = _
          rw [v_pbF_y ⟨hlo, c⟩]
        rw [e4] at this; exact this
  have := main p (Nat.le_refl _) p1
  rw [sumN_z z] at this
  exact this
theorem v_pb_g {h g : AH} (hL : LayL h) {a n r : Nat} {x w : Int} (hw : 0 ≤ w ∧ w < 387420489) (hS : iSg h a n r) (hd : m_dict g x) (hc : cDict h g a x r) : Ct 2 0 0 mX7_postingsOf [vr a, vi w] h (QI fun v h' => v = m_post g x w ∧ h' = h) := by
  refine e_X7_postingsOf hL hS ⟨by omega, _, l_postingsBetween hL hS hd hc, fun v h' _ hv => ?_⟩
  obtain ⟨rfl, rfl⟩ := hv
  exact ⟨hL, _, rfl, v_pb_1 hd, rfl⟩
def b_X5_phraseCost_0 : List IE := [(.iconst 0, 1, 0, 0, 0, 0), (.istore 4, 2, 0, 0, 4, 0), (.iload_n 2, 1, 0, 0, 2, 0), (.istore 5, 2, 0, 0, 5, 0)]
theorem k_X5_phraseCost_0 : ckB mX5_phraseCost 5 0 b_X5_phraseCost_0 6 = true := by decide +kernel
def b_X5_phraseCost_6 : List IE := [(.iload 5, 2, 0, 0, 5, 0), (.iload_n 2, 1, 0, 0, 2, 0), (.iload_n 3, 1, 0, 0, 3, 0), (.iadd, 1, 0, 0, 0, 0)]
theorem k_X5_phraseCost_6 : ckIc mX5_phraseCost 5 6 b_X5_phraseCost_6 11 3 25 36 14 = true := by decide +kernel
def b_X5_phraseCost_14 : List IE := [(.iload 4, 2, 0, 0, 4, 0), (.aload_n 1, 1, 0, 0, 1, 0), (.aload_n 0, 1, 0, 0, 0, 0), (.getfield 21, 3, 0, 5, 4, 1), (.iload 5, 2, 0, 0, 5, 0), (.iaload, 1, 0, 0, 0, 0)]
theorem k_X5_phraseCost_14 : ckB mX5_phraseCost 5 14 b_X5_phraseCost_14 24 = true := by decide +kernel
def b_X5_phraseCost_27 : List IE := [(.iadd, 1, 0, 0, 0, 0), (.istore 4, 2, 0, 0, 4, 0), (.iinc 5 1, 3, 1, 0, 5, 0)]
theorem k_X5_phraseCost_27 : ckGo mX5_phraseCost 5 27 b_X5_phraseCost_27 33 (-27) 6 = true := by decide +kernel
def b_X5_phraseCost_36 : List IE := [(.iload 4, 2, 0, 0, 4, 0)]
theorem k_X5_phraseCost_36 : ckI mX5_phraseCost 5 36 b_X5_phraseCost_36 38 = true := by decide +kernel
theorem s_X5_phraseCost_24 : cV mX5_phraseCost 24 mX7_postingsOf 74 1 7 := ⟨by decide +kernel, ⟨ml_X7_postingsOf, li_RX5_74, im_X7_postingsOf, se_X7_postingsOf⟩, ⟨by decide +kernel, by decide +kernel⟩, by decide +kernel⟩
theorem t_X5_phraseCost_0 {rc rs : Nat} {Q : Option AV → AH → Prop} {h : AH} {a0 a1 n1 r1 : Nat} {x2 x3 : Int} (hL : LayL h) (hA0 : iQu a0) (hA1 : iSg h a1 n1 r1) (hv : wp mX5_phraseCost 3 rc rs Q 6 [some (vr a0), some (vr a1), some (vi x2), some (vi x3), some (vi 0), some (vi x2)] [] h) : wp mX5_phraseCost 3 rc rs Q 0 [some (vr a0), some (vr a1), some (vi x2), some (vi x3), none, none] [] h :=
  (show wp mX5_phraseCost 3 rc rs Q 0 [some (vr a0), some (vr a1), some (vi x2), some (vi x3), none, none] [] h from xB k_X5_phraseCost_0 (And.intro rfl (And.intro rfl hv)))
theorem e_X5_phraseCost {mc ms : Nat} {Q : Option AV → AH → Prop} {h : AH} {a0 a1 n1 r1 : Nat} {x2 x3 : Int} (hL : LayL h) (hA0 : iQu a0) (hA1 : iSg h a1 n1 r1) (hv : wp mX5_phraseCost 3 mc ms Q 6 [some (vr a0), some (vr a1), some (vi x2), some (vi x3), some (vi 0), some (vi x2)] [] h) : Ct 3 mc ms mX5_phraseCost [vr a0, vr a1, vi x2, vi x3] h Q := Ct.of (by decide +kernel) (Nat.le_of_ble_eq_true rfl) (t_X5_phraseCost_0 hL hA0 hA1 hv)
theorem t_X5_phraseCost_6 {rc rs : Nat} {Q : Option AV → AH → Prop} {h : AH} {a0 a1 n1 r1 : Nat} {x2 x3 x4 x5 : Int} (hL : LayL h) (hA0 : iQu a0) (hA1 : iSg h a1 n1 r1) (hv : (-2147483648 ≤ (x2 + x3) ∧ (x2 + x3) < 2147483648) ∧ (((x2 + x3) ≤ x5 → Q (some (vi x4)) h) ∧ (x5 < (x2 + x3) → (0 ≤ x5 ∧ x5 < 64) ∧ (∃ P9 : Int → AH → Prop, Ct 2 0 0 mX7_postingsOf [vr a1, vi (iH h (a0 + 4) x5.toNat)] h (QI P9) ∧ ∀ (r8 : Int) (h7 : AH), (-2147483648 ≤ r8 ∧ r8 < 2147483648) → P9 r8 h7 → LayL h7 ∧ (-2147483648 ≤ (x4 + r8) ∧ (x4 + r8) < 2147483648) ∧ (-2147483648 ≤ (x5 + 1) ∧ (x5 + 1) < 2147483648) ∧ wp mX5_phraseCost 3 rc rs Q 6 [some (vr a0), some (vr a1), some (vi x2), some (vi x3), some (vi (x4 + r8)), some (vi (x5 + 1))] [] h7)))) : wp mX5_phraseCost 3 rc rs Q 6 [some (vr a0), some (vr a1), some (vi x2), some (vi x3), some (vi x4), some (vi x5)] [] h :=
  (show wp mX5_phraseCost 3 rc rs Q 6 [some (vr a0), some (vr a1), some (vi x2), some (vi x3), some (vi x4), some (vi x5)] [] h from xIc k_X5_phraseCost_6 (have c1 := hv.1; have v19 := hv.2; (And.intro c1 (And.intro (fun c2 => have v4 := v19.1 c2; (show wp mX5_phraseCost 3 rc rs Q 36 [some (vr a0), some (vr a1), some (vi x2), some (vi x3), some (vi x4), some (vi x5)] [] h from xI k_X5_phraseCost_36 (And.intro rfl v4))) (fun c3 => have v5 := v19.2 (Int.not_le.mp c3); (show wp mX5_phraseCost 3 rc rs Q 14 [some (vr a0), some (vr a1), some (vi x2), some (vi x3), some (vi x4), some (vi x5)] [] h from xcV k_X5_phraseCost_14 s_X5_phraseCost_24 (And.intro (qu_o hL hA0) (Exists.intro (a0 + 4) (And.intro (qu_r4 hL hA0) (have c6 := v5.1; have v18 := v5.2; (And.intro (sdI (qu_a4 hL hA0) c6) (Exists.elim v18 (fun P9 v14 => (Exists.intro [vi (iH h (a0 + 4) x5.toNat)] (Exists.intro a1 (Exists.intro [vi x4] (And.intro (And.intro rfl (And.intro rfl (Nat.le_of_ble_eq_true rfl))) (And.intro (sg_o hA1) (Exists.intro 2 (Exists.intro 0 (Exists.intro 0 (Exists.intro (QI P9) (And.intro v14.1 (And.intro (And.intro (by decide) (And.intro (Nat.zero_le _) (Nat.zero_le _))) (eQI (fun r8 h7 q17 e16 => have v15 := v14.2 r8 h7 q17 e16; have hL := v15.1; have v15 := v15.2; (show wp mX5_phraseCost 3 rc rs Q 27 [some (vr a0), some (vr a1), some (vi x2), some (vi x3), some (vi x4), some (vi x5)] [vi r8, vi x4] h7 from xGo k_X5_phraseCost_27 (have c10 := v15.1; have v13 := v15.2; (And.intro c10 (And.intro rfl (have c11 := v13.1; have v12 := v13.2; (And.intro c11 (And.intro rfl v12)))))))))))))))))))))))))))))))))
def b_X5_leafCost_0 : List IE := [(.aload_n 0, 1, 0, 0, 0, 0), (.getfield 9, 3, 0, 5, 0, 1), (.iload_n 2, 1, 0, 0, 2, 0), (.iaload, 1, 0, 0, 0, 0)]
theorem k_X5_leafCost_0 : ckTs mX5_leafCost 5 0 b_X5_leafCost_0 6 83 0 2 #[26, 43, 65] 26 89 [(0, 32), (1, 49), (2, 71)] = true := by decide +kernel
def b_X5_leafCost_32 : List IE := [(.aload_n 1, 1, 0, 0, 1, 0), (.aload_n 0, 1, 0, 0, 0, 0), (.getfield 15, 3, 0, 5, 1, 1), (.iload_n 2, 1, 0, 0, 2, 0), (.iaload, 1, 0, 0, 0, 0), (.aload_n 0, 1, 0, 0, 0, 0), (.getfield 18, 3, 0, 5, 2, 1), (.iload_n 2, 1, 0, 0, 2, 0), (.iaload, 1, 0, 0, 0, 0)]
theorem k_X5_leafCost_32 : ckB mX5_leafCost 5 32 b_X5_leafCost_32 45 = true := by decide +kernel
def b_X5_leafCost_48 : List IE := []
theorem k_X5_leafCost_48 : ckI mX5_leafCost 5 48 b_X5_leafCost_48 48 = true := by decide +kernel
def b_X5_leafCost_49 : List IE := [(.aload_n 1, 1, 0, 0, 1, 0), (.aload_n 0, 1, 0, 0, 0, 0), (.getfield 15, 3, 0, 5, 1, 1), (.iload_n 2, 1, 0, 0, 2, 0), (.iaload, 1, 0, 0, 0, 0)]
theorem k_X5_leafCost_49 : ckB mX5_leafCost 5 49 b_X5_leafCost_49 56 = true := by decide +kernel
def b_X5_leafCost_59 : List IE := [(.aload_n 1, 1, 0, 0, 1, 0), (.aload_n 0, 1, 0, 0, 0, 0), (.getfield 18, 3, 0, 5, 2, 1), (.iload_n 2, 1, 0, 0, 2, 0), (.iaload, 1, 0, 0, 0, 0)]
theorem k_X5_leafCost_59 : ckB mX5_leafCost 5 59 b_X5_leafCost_59 66 = true := by decide +kernel
def b_X5_leafCost_69 : List IE := [(.iadd, 1, 0, 0, 0, 0)]
theorem k_X5_leafCost_69 : ckI mX5_leafCost 5 69 b_X5_leafCost_69 70 = true := by decide +kernel
def b_X5_leafCost_71 : List IE := [(.aload_n 0, 1, 0, 0, 0, 0), (.aload_n 1, 1, 0, 0, 1, 0), (.aload_n 0, 1, 0, 0, 0, 0), (.getfield 15, 3, 0, 5, 1, 1), (.iload_n 2, 1, 0, 0, 2, 0), (.iaload, 1, 0, 0, 0, 0), (.aload_n 0, 1, 0, 0, 0, 0), (.getfield 18, 3, 0, 5, 2, 1), (.iload_n 2, 1, 0, 0, 2, 0), (.iaload, 1, 0, 0, 0, 0)]
theorem k_X5_leafCost_71 : ckB mX5_leafCost 5 71 b_X5_leafCost_71 85 = true := by decide +kernel
def b_X5_leafCost_88 : List IE := []
theorem k_X5_leafCost_88 : ckI mX5_leafCost 5 88 b_X5_leafCost_88 88 = true := by decide +kernel
def b_X5_leafCost_89 : List IE := [(.iconst 0, 1, 0, 0, 0, 0)]
theorem k_X5_leafCost_89 : ckI mX5_leafCost 5 89 b_X5_leafCost_89 90 = true := by decide +kernel
theorem s_X5_leafCost_45 : cV mX5_leafCost 45 mX7_postingsBetween 69 2 7 := ⟨by decide +kernel, ⟨ml_X7_postingsBetween, li_RX5_69, im_X7_postingsBetween, se_X7_postingsBetween⟩, ⟨by decide +kernel, by decide +kernel⟩, by decide +kernel⟩
theorem s_X5_leafCost_56 : cV mX5_leafCost 56 mX7_postingsOf 74 1 7 := ⟨by decide +kernel, ⟨ml_X7_postingsOf, li_RX5_74, im_X7_postingsOf, se_X7_postingsOf⟩, ⟨by decide +kernel, by decide +kernel⟩, by decide +kernel⟩
theorem s_X5_leafCost_66 : cV mX5_leafCost 66 mX7_postingsOf 74 1 7 := ⟨by decide +kernel, ⟨ml_X7_postingsOf, li_RX5_74, im_X7_postingsOf, se_X7_postingsOf⟩, ⟨by decide +kernel, by decide +kernel⟩, by decide +kernel⟩
theorem s_X5_leafCost_85 : cV mX5_leafCost 85 mX5_phraseCost 78 3 5 := ⟨by decide +kernel, ⟨ml_X5_phraseCost, li_RX5_78, im_X5_phraseCost, se_X5_phraseCost⟩, ⟨by decide +kernel, by decide +kernel⟩, by decide +kernel⟩
theorem t_X5_leafCost_0 {rc rs : Nat} {Q : Option AV → AH → Prop} {h : AH} {a0 a1 n1 r1 : Nat} {x2 : Int} (hL : LayL h) (hA0 : iQu a0) (hA1 : iSg h a1 n1 r1) (hv : (0 ≤ x2 ∧ x2 < 64) ∧ (((iH h (a0 + 1) x2.toNat) = 0 → (∃ P41 : Int → AH → Prop, Ct 1 0 0 mX7_postingsBetween [vr a1, vi (iH h (a0 + 2) x2.toNat), vi (iH h (a0 + 3) x2.toNat)] h (QI P41) ∧ ∀ (r40 : Int) (h39 : AH), (-2147483648 ≤ r40 ∧ r40 < 2147483648) → P41 r40 h39 → LayL h39 ∧ (iSg h39 a1 n1 r1) ∧ Q (some (vi r40)) h39)) ∧ ((iH h (a0 + 1) x2.toNat) ≠ 0 → (((iH h (a0 + 1) x2.toNat) = 1 → (∃ P18 : Int → AH → Prop, Ct 2 0 0 mX7_postingsOf [vr a1, vi (iH h (a0 + 2) x2.toNat)] h (QI P18) ∧ ∀ (r17 : Int) (h16 : AH), (-2147483648 ≤ r17 ∧ r17 < 2147483648) → P18 r17 h16 → LayL h16 ∧ (iSg h16 a1 n1 r1) ∧ (∃ P22 : Int → AH → Prop, Ct 2 0 0 mX7_postingsOf [vr a1, vi (iH h16 (a0 + 3) x2.toNat)] h16 (QI P22) ∧ ∀ (r21 : Int) (h20 : AH), (-2147483648 ≤ r21 ∧ r21 < 2147483648) → P22 r21 h20 → LayL h20 ∧ (iSg h20 a1 n1 r1) ∧ (-2147483648 ≤ (r17 + r21) ∧ (r17 + r21) < 2147483648) ∧ Q (some (vi (r17 + r21))) h20))) ∧ ((iH h (a0 + 1) x2.toNat) ≠ 1 → (((iH h (a0 + 1) x2.toNat) = 2 → (∃ P6 : Int → AH → Prop, Ct 3 0 0 mX5_phraseCost [vr a0, vr a1, vi (iH h (a0 + 2) x2.toNat), vi (iH h (a0 + 3) x2.toNat)] h (QI P6) ∧ ∀ (r5 : Int) (h4 : AH), (-2147483648 ≤ r5 ∧ r5 < 2147483648) → P6 r5 h4 → LayL h4 ∧ (iSg h4 a1 n1 r1) ∧ Q (some (vi r5)) h4)) ∧ ((iH h (a0 + 1) x2.toNat) ≠ 2 → Q (some (vi 0)) h))))))) : wp mX5_leafCost 4 rc rs Q 0 [some (vr a0), some (vr a1), some (vi x2)] [] h :=
  (show wp mX5_leafCost 4 rc rs Q 0 [some (vr a0), some (vr a1), some (vi x2)] [] h from xTs k_X5_leafCost_0 (And.intro (qu_o hL hA0) (Exists.intro (a0 + 1) (And.intro (qu_r0 hL hA0) (have c1 := hv.1; have v50 := hv.2; (And.intro (sdI (qu_a0 hL hA0) c1) (And.intro (fun c46 => have v48 := v50.1 c46; (show wp mX5_leafCost 4 rc rs Q 32 [some (vr a0), some (vr a1), some (vi x2)] [] h from xcV k_X5_leafCost_32 s_X5_leafCost_45 (And.intro (qu_o hL hA0) (Exists.intro (a0 + 2) (And.intro (qu_r1 hL hA0) (And.intro (sdI (qu_a1 hL hA0) c1) (And.intro (qu_o hL hA0) (Exists.intro (a0 + 3) (And.intro (qu_r2 hL hA0) (And.intro (sdI (qu_a2 hL hA0) c1) (Exists.elim v48 (fun P41 v42 => (Exists.intro [vi (iH h (a0 + 2) x2.toNat), vi (iH h (a0 + 3) x2.toNat)] (Exists.intro a1 (Exists.intro [] (And.intro (And.intro rfl (And.intro rfl (Nat.le_of_ble_eq_true rfl))) (And.intro (sg_o hA1) (Exists.intro 1 (Exists.intro 0 (Exists.intro 0 (Exists.intro (QI P41) (And.intro v42.1 (And.intro (And.intro (by decide) (And.intro (Nat.zero_le _) (Nat.zero_le _))) (eQI (fun r40 h39 q45 e44 => have v43 := v42.2 r40 h39 q45 e44; have hL := v43.1; have v43 := v43.2; have hA1 := v43.1; have v43 := v43.2; (show wp mX5_leafCost 4 rc rs Q 48 [some (vr a0), some (vr a1), some (vi x2)] [vi r40] h39 from xI k_X5_leafCost_48 (And.intro rfl v43))))))))))))))))))))))))))) (fun c47 => have v49 := v50.2 c47; (And.intro (fun c33 => have v35 := v49.1 c33; (show wp mX5_leafCost 4 rc rs Q 49 [some (vr a0), some (vr a1), some (vi x2)] [] h from xcV k_X5_leafCost_49 s_X5_leafCost_56 (And.intro (qu_o hL hA0) (Exists.intro (a0 + 2) (And.intro (qu_r1 hL hA0) (And.intro (sdI (qu_a1 hL hA0) c1) (Exists.elim v35 (fun P18 v29 => (Exists.intro [vi (iH h (a0 + 2) x2.toNat)] (Exists.intro a1 (Exists.intro [] (And.intro (And.intro rfl (And.intro rfl (Nat.le_of_ble_eq_true rfl))) (And.intro (sg_o hA1) (Exists.intro 2 (Exists.intro 0 (Exists.intro 0 (Exists.intro (QI P18) (And.intro v29.1 (And.intro (And.intro (by decide) (And.intro (Nat.zero_le _) (Nat.zero_le _))) (eQI (fun r17 h16 q32 e31 => have v30 := v29.2 r17 h16 q32 e31; have hL := v30.1; have v30 := v30.2; have hA1 := v30.1; have v30 := v30.2; (show wp mX5_leafCost 4 rc rs Q 59 [some (vr a0), some (vr a1), some (vi x2)] [vi r17] h16 from xcV k_X5_leafCost_59 s_X5_leafCost_66 (And.intro (qu_o hL hA0) (Exists.intro (a0 + 3) (And.intro (qu_r2 hL hA0) (And.intro (sdI (qu_a2 hL hA0) c1) (Exists.elim v30 (fun P22 v25 => (Exists.intro [vi (iH h16 (a0 + 3) x2.toNat)] (Exists.intro a1 (Exists.intro [vi r17] (And.intro (And.intro rfl (And.intro rfl (Nat.le_of_ble_eq_true rfl))) (And.intro (sg_o hA1) (Exists.intro 2 (Exists.intro 0 (Exists.intro 0 (Exists.intro (QI P22) (And.intro v25.1 (And.intro (And.intro (by decide) (And.intro (Nat.zero_le _) (Nat.zero_le _))) (eQI (fun r21 h20 q28 e27 => have v26 := v25.2 r21 h20 q28 e27; have hL := v26.1; have v26 := v26.2; have hA1 := v26.1; have v26 := v26.2; (show wp mX5_leafCost 4 rc rs Q 69 [some (vr a0), some (vr a1), some (vi x2)] [vi r21, vi r17] h20 from xI k_X5_leafCost_69 (have c23 := v26.1; have v24 := v26.2; (And.intro c23 (And.intro rfl v24))))))))))))))))))))))))))))))))))))))))))))) (fun c34 => have v36 := v49.2 c34; (And.intro (fun c11 => have v13 := v36.1 c11; (show wp mX5_leafCost 4 rc rs Q 71 [some (vr a0), some (vr a1), some (vi x2)] [] h from xcV k_X5_leafCost_71 s_X5_leafCost_85 (And.intro (qu_o hL hA0) (Exists.intro (a0 + 2) (And.intro (qu_r1 hL hA0) (And.intro (sdI (qu_a1 hL hA0) c1) (And.intro (qu_o hL hA0) (Exists.intro (a0 + 3) (And.intro (qu_r2 hL hA0) (And.intro (sdI (qu_a2 hL hA0) c1) (Exists.elim v13 (fun P6 v7 => (Exists.intro [vr a1, vi (iH h (a0 + 2) x2.toNat), vi (iH h (a0 + 3) x2.toNat)] (Exists.intro a0 (Exists.intro [] (And.intro (And.intro rfl (And.intro rfl (Nat.le_of_ble_eq_true rfl))) (And.intro (qu_o hL hA0) (Exists.intro 3 (Exists.intro 0 (Exists.intro 0 (Exists.intro (QI P6) (And.intro v7.1 (And.intro (And.intro (by decide) (And.intro (Nat.zero_le _) (Nat.zero_le _))) (eQI (fun r5 h4 q10 e9 => have v8 := v7.2 r5 h4 q10 e9; have hL := v8.1; have v8 := v8.2; have hA1 := v8.1; have v8 := v8.2; (show wp mX5_leafCost 4 rc rs Q 88 [some (vr a0), some (vr a1), some (vi x2)] [vi r5] h4 from xI k_X5_leafCost_88 (And.intro rfl v8))))))))))))))))))))))))))) (fun c12 => have v14 := v36.2 c12; (show wp mX5_leafCost 4 rc rs Q 89 [some (vr a0), some (vr a1), some (vi x2)] [] h from xI k_X5_leafCost_89 (And.intro rfl v14))))))))))))))
theorem e_X5_leafCost {mc ms : Nat} {Q : Option AV → AH → Prop} {h : AH} {a0 a1 n1 r1 : Nat} {x2 : Int} (hL : LayL h) (hA0 : iQu a0) (hA1 : iSg h a1 n1 r1) (hv : (0 ≤ x2 ∧ x2 < 64) ∧ (((iH h (a0 + 1) x2.toNat) = 0 → (∃ P41 : Int → AH → Prop, Ct 1 0 0 mX7_postingsBetween [vr a1, vi (iH h (a0 + 2) x2.toNat), vi (iH h (a0 + 3) x2.toNat)] h (QI P41) ∧ ∀ (r40 : Int) (h39 : AH), (-2147483648 ≤ r40 ∧ r40 < 2147483648) → P41 r40 h39 → LayL h39 ∧ (iSg h39 a1 n1 r1) ∧ Q (some (vi r40)) h39)) ∧ ((iH h (a0 + 1) x2.toNat) ≠ 0 → (((iH h (a0 + 1) x2.toNat) = 1 → (∃ P18 : Int → AH → Prop, Ct 2 0 0 mX7_postingsOf [vr a1, vi (iH h (a0 + 2) x2.toNat)] h (QI P18) ∧ ∀ (r17 : Int) (h16 : AH), (-2147483648 ≤ r17 ∧ r17 < 2147483648) → P18 r17 h16 → LayL h16 ∧ (iSg h16 a1 n1 r1) ∧ (∃ P22 : Int → AH → Prop, Ct 2 0 0 mX7_postingsOf [vr a1, vi (iH h16 (a0 + 3) x2.toNat)] h16 (QI P22) ∧ ∀ (r21 : Int) (h20 : AH), (-2147483648 ≤ r21 ∧ r21 < 2147483648) → P22 r21 h20 → LayL h20 ∧ (iSg h20 a1 n1 r1) ∧ (-2147483648 ≤ (r17 + r21) ∧ (r17 + r21) < 2147483648) ∧ Q (some (vi (r17 + r21))) h20))) ∧ ((iH h (a0 + 1) x2.toNat) ≠ 1 → (((iH h (a0 + 1) x2.toNat) = 2 → (∃ P6 : Int → AH → Prop, Ct 3 0 0 mX5_phraseCost [vr a0, vr a1, vi (iH h (a0 + 2) x2.toNat), vi (iH h (a0 + 3) x2.toNat)] h (QI P6) ∧ ∀ (r5 : Int) (h4 : AH), (-2147483648 ≤ r5 ∧ r5 < 2147483648) → P6 r5 h4 → LayL h4 ∧ (iSg h4 a1 n1 r1) ∧ Q (some (vi r5)) h4)) ∧ ((iH h (a0 + 1) x2.toNat) ≠ 2 → Q (some (vi 0)) h))))))) : Ct 4 mc ms mX5_leafCost [vr a0, vr a1, vi x2] h Q := Ct.of (by decide +kernel) (Nat.le_of_ble_eq_true rfl) (t_X5_leafCost_0 hL hA0 hA1 hv)
theorem l_phraseCost {h g : AH} (hL : LayL h) {a b n r f m : Nat} {x : Int} {ws : Nat → Int} (ha : iQu a) (hS : iSg h b n r) (hd : m_dict g x) (hc : cDict h g b x r) (hf : f + m ≤ 64) (hm : m ≤ 6) (hw : ∀ i : Nat, i < m → iH h (a + 4) (f + i) = ws i ∧ 0 ≤ ws i ∧ ws i < 387420489) : Ct 3 0 0 mX5_phraseCost [vr a, vr b, vi f, vi m] h (QI fun v h' => v = sumN (fun i => m_post g x (ws i)) m ∧ h' = h) := by
  have ef : (f : Int) = (f : Int) + ((0 : Nat) : Int) := by omega
  have main := up (P := fun i => wp mX5_phraseCost 3 0 0 (QI fun v h' => v = sumN (fun i => m_post g x (ws i)) m ∧ h' = h) 6 [some (vr a), some (vr b), some (vi f), some (vi m), some (vi (sumN (fun i => m_post g x (ws i)) i)), some (vi ((f : Int) + (i : Int)))] [] h) m ?_ ?_
  · rw [← ef] at main
    exact e_X5_phraseCost hL ha hS main
  · exact t_X5_phraseCost_6 hL ha hS ⟨by omega, fun _ => ⟨_, rfl, rfl, rfl⟩, fun c => absurd c (by omega)⟩
  · intro i hi ih
    obtain ⟨w1, w2, w3⟩ := hw i hi
    have hb := sumN_bd (fun i => m_post g x (ws i)) 64 (by omega) i (fun j _ => m_post_bd hd.1)
    have hp := m_post_bd (w := ws i) hd.1
    refine t_X5_phraseCost_6 hL ha hS ⟨by omega, fun c => absurd c (by omega), fun _ => ⟨by omega, ?_⟩⟩
    rw [show ((f : Int) + (i : Int)).toNat = f + i by omega, w1]
    refine ⟨_, v_pb_g hL ⟨w2, w3⟩ hS hd hc, fun v h' _ hv => ?_⟩
    obtain ⟨rfl, rfl⟩ := hv
    refine ⟨hL, by omega, by omega, ?_⟩
    rw [show (f : Int) + (i : Int) + 1 = (f : Int) + ((i + 1 : Nat) : Int) by omega]
    exact ih
theorem l_leafCost {h g : AH} (hL : LayL h) {a b n r : Nat} {q x : Int} {j : Nat} (ha : iQu a) (hq : cQry h g a q) (hj : j < m_nop g q) (hS : iSg h b n r) (hd : m_dict g x) (hc : cDict h g b x r) : Ct 4 0 0 mX5_leafCost [vr a, vr b, vi j] h (QI fun v h' => v = u_oc g q x (q_pos (m_row g q) j) ∧ h' = h) := by
  obtain ⟨hqk, ez, h2, hop⟩ := hq
  obtain ⟨ho, -, -, -⟩ := (m_nop_ok hqk).2.2.2 j hj
  have h4 := hop j hj
  unfold u_oc u_ocF
  generalize q_pos (m_row g q) j = k at *
  generalize hr : m_row g q = R at *
  obtain ⟨o0, o1, o2, o3, o4⟩ := h4
  have hr0 := ho.1
  have w1 := ho.2.1
  refine e_X5_leafCost hL ha hS ?_
  rw [Int.toNat_natCast]
  have kinds : R k = 0 ∨ R k = 1 ∨ R k = 2 ∨ R k = 3 ∨ 4 ≤ R k := by omega
  show _ ∧ (cT h a 1 j = 0 → _) ∧ (cT h a 1 j ≠ 0 → (cT h a 1 j = 1 → _) ∧ (cT h a 1 j ≠ 1 → (cT h a 1 j = 2 → _) ∧ (cT h a 1 j ≠ 2 → _)))
  refine ⟨by omega, fun c => ?_, fun c => ⟨fun c1 => ?_, fun c1 => ⟨fun c2 => ?_, fun c2 => ?_⟩⟩⟩
  · have two : R k = 0 ∨ R k = 1 := by
      rcases kinds with e | e | e | e | e
      · exact Or.inl e
      · exact Or.inr e
      · have := (o2 e).1; omega
      · have := (o3 e).1; omega
      · have := o4 e; omega
    refine ⟨_, l_postingsBetween (lo := cT h a 2 j) (hi := cT h a 3 j) hL hS hd hc, fun v h' _ hv => ?_⟩
    obtain ⟨rfl, rfl⟩ := hv
    refine ⟨hL, hS, _, rfl, ?_, rfl⟩
    have em : q_mn R k = 1 := by unfold q_mn; rw [if_neg (by omega), if_neg (by omega), if_neg (by omega)]
    have efr : q_fr R k = k + 1 := by unfold q_fr; rw [if_neg (by omega)]
    rw [em, efr]
    show _ = 0 + u_c g x (R (k + 1 + 0)) (q_lt R k)
    rw [Int.zero_add, Nat.add_zero]
    unfold u_c q_lt
    rcases two with e | e
    · obtain ⟨q1, q2, q3⟩ := o0 e
      rw [q2, q3, if_neg (show R k ≠ 1 by omega), if_pos rfl]
      exact v_pb_1 hd
    · obtain ⟨q1, q2, q3, q4⟩ := o1 e
      rw [q2, q3, if_pos e]
      by_cases e6 : R (k + 2) = 6
      · rw [if_pos e6, e6, show (27 : Int) ^ ((6 : Int) - 6).toNat = 1 from rfl]
        exact v_pb_1 hd
      · rw [if_neg e6]
        exact v_pb_l hd (by omega) q4
  · have e : R k = 2 := by
      rcases kinds with e | e | e | e | e
      · have := (o0 e).1; omega
      · have := (o1 e).1; omega
      · exact e
      · have := (o3 e).1; omega
      · have := o4 e; omega
    obtain ⟨q1, q2, q3⟩ := o2 e
    have q2' : iH h (a + 2) j = R (k + 1) := q2
    have q3' : iH h (a + 3) j = R (k + 2) := q3
    have w2 := ho.2.2.2.1 e
    have em : q_mn R k = 2 := by unfold q_mn; rw [if_neg (by omega), if_neg (by omega), if_pos e]
    have efr : q_fr R k = k + 1 := by unfold q_fr; rw [if_neg (by omega)]
    have p1 := m_post_bd (w := R (k + 1)) hd.1
    have p2 := m_post_bd (w := R (k + 2)) hd.1
    rw [q2']
    refine ⟨_, v_pb_g hL (by omega) hS hd hc, fun v h' _ hv => ?_⟩
    obtain ⟨rfl, rfl⟩ := hv
    refine ⟨hL, hS, ?_⟩
    rw [q3']
    refine ⟨_, v_pb_g hL (by omega) hS hd hc, fun v h' _ hv => ?_⟩
    obtain ⟨rfl, rfl⟩ := hv
    refine ⟨hL, hS, by omega, _, rfl, ?_, rfl⟩
    rw [em, efr]
    show _ = 0 + u_c g x (R (k + 1 + 0)) (q_lt R k) + u_c g x (R (k + 1 + 1)) (q_lt R k)
    unfold u_c q_lt
    rw [if_neg (show R k ≠ 1 by omega), if_pos rfl, if_pos rfl, Int.zero_add]
  · have e : R k = 3 := by
      rcases kinds with e | e | e | e | e
      · have := (o0 e).1; omega
      · have := (o1 e).1; omega
      · have := (o2 e).1; omega
      · exact e
      · have := o4 e; omega
    obtain ⟨q1, q2, f, q3, q5, q4⟩ := o3 e
    have q2' : iH h (a + 3) j = R (k + 1) := q2
    have q3' : iH h (a + 2) j = f := q3
    have h8 := ho.2.2.2.2 e
    have em : q_mn R k = (R (k + 1)).toNat := by unfold q_mn; rw [if_neg (by omega), if_pos e]
    have efr : q_fr R k = k + 2 := by unfold q_fr; rw [if_pos e]
    rw [q2', q3']
    obtain ⟨m, hm⟩ := Int.eq_ofNat_of_zero_le (show 0 ≤ R (k + 1) by omega)
    rw [hm] at em h8 q4 q5 ⊢
    rw [Int.toNat_natCast] at em
    refine ⟨_, l_phraseCost (ws := fun i => R (k + 2 + i)) hL ha hS hd hc (by omega) (by omega) (fun i hi => ⟨q4 i (by omega), by have := h8.2.2 i (by omega); show 0 ≤ R (k + 2 + i) ∧ R (k + 2 + i) < _; omega⟩), fun v h' _ hv => ?_⟩
    obtain ⟨rfl, rfl⟩ := hv
    refine ⟨hL, hS, _, rfl, ?_, rfl⟩
    rw [em, efr]
    refine sumN_cg fun i _ => ?_
    unfold u_c q_lt
    rw [if_neg (show R k ≠ 1 by omega), if_pos rfl]
  · have e : 4 ≤ R k := by
      rcases kinds with e | e | e | e | e
      · have := (o0 e).1; omega
      · have := (o1 e).1; omega
      · have := (o2 e).1; omega
      · have := (o3 e).1; omega
      · exact e
    refine ⟨_, rfl, ?_, rfl⟩
    have em : q_mn R k = 0 := by unfold q_mn; rw [if_pos (by omega)]
    rw [em]; rfl
def b_X5_costIn_0 : List IE := [(.iconst 0, 1, 0, 0, 0, 0), (.istore_n 2, 1, 0, 0, 2, 0), (.iconst 0, 1, 0, 0, 0, 0), (.istore_n 3, 1, 0, 0, 3, 0)]
theorem k_X5_costIn_0 : ckB mX5_costIn 5 0 b_X5_costIn_0 4 = true := by decide +kernel
def b_X5_costIn_4 : List IE := [(.iload_n 3, 1, 0, 0, 3, 0), (.aload_n 1, 1, 0, 0, 1, 0), (.getfield 48, 3, 0, 9, 2, 0)]
theorem k_X5_costIn_4 : ckIc mX5_costIn 5 4 b_X5_costIn_4 9 3 42 51 12 = true := by decide +kernel
def b_X5_costIn_12 : List IE := [(.iconst 0, 1, 0, 0, 0, 0), (.istore 4, 2, 0, 0, 4, 0)]
theorem k_X5_costIn_12 : ckB mX5_costIn 5 12 b_X5_costIn_12 15 = true := by decide +kernel
def b_X5_costIn_15 : List IE := [(.iload 4, 2, 0, 0, 4, 0), (.aload_n 0, 1, 0, 0, 0, 0), (.getfield 27, 3, 0, 5, 3, 0)]
theorem k_X5_costIn_15 : ckIc mX5_costIn 5 15 b_X5_costIn_15 21 3 24 45 24 = true := by decide +kernel
def b_X5_costIn_24 : List IE := [(.iload_n 2, 1, 0, 0, 2, 0), (.aload_n 0, 1, 0, 0, 0, 0), (.aload_n 1, 1, 0, 0, 1, 0), (.getfield 51, 3, 0, 9, 0, 1), (.iload_n 3, 1, 0, 0, 3, 0), (.aaload, 1, 0, 0, 0, 0), (.iload 4, 2, 0, 0, 4, 0)]
theorem k_X5_costIn_24 : ckB mX5_costIn 5 24 b_X5_costIn_24 34 = true := by decide +kernel
def b_X5_costIn_37 : List IE := [(.iadd, 1, 0, 0, 0, 0), (.istore_n 2, 1, 0, 0, 2, 0), (.iinc 4 1, 3, 1, 0, 4, 0)]
theorem k_X5_costIn_37 : ckGo mX5_costIn 5 37 b_X5_costIn_37 42 (-27) 15 = true := by decide +kernel
def b_X5_costIn_45 : List IE := [(.iinc 3 1, 3, 1, 0, 3, 0)]
theorem k_X5_costIn_45 : ckGo mX5_costIn 5 45 b_X5_costIn_45 48 (-44) 4 = true := by decide +kernel
def b_X5_costIn_51 : List IE := [(.iload_n 2, 1, 0, 0, 2, 0)]
theorem k_X5_costIn_51 : ckI mX5_costIn 5 51 b_X5_costIn_51 52 = true := by decide +kernel
theorem s_X5_costIn_34 : cV mX5_costIn 34 mX5_leafCost 55 2 5 := ⟨by decide +kernel, ⟨ml_X5_leafCost, li_RX5_55, im_X5_leafCost, se_X5_leafCost⟩, ⟨by decide +kernel, by decide +kernel⟩, by decide +kernel⟩
theorem t_X5_costIn_0 {rc rs : Nat} {Q : Option AV → AH → Prop} {h : AH} {a0 a1 : Nat} (hL : LayL h) (hA0 : iQu a0) (hA1 : iSt a1) (hv : wp mX5_costIn 5 rc rs Q 4 [some (vr a0), some (vr a1), some (vi 0), some (vi 0), none] [] h) : wp mX5_costIn 5 rc rs Q 0 [some (vr a0), some (vr a1), none, none, none] [] h :=
  (show wp mX5_costIn 5 rc rs Q 0 [some (vr a0), some (vr a1), none, none, none] [] h from xB k_X5_costIn_0 (And.intro rfl (And.intro rfl hv)))
theorem e_X5_costIn {mc ms : Nat} {Q : Option AV → AH → Prop} {h : AH} {a0 a1 : Nat} (hL : LayL h) (hA0 : iQu a0) (hA1 : iSt a1) (hv : wp mX5_costIn 5 mc ms Q 4 [some (vr a0), some (vr a1), some (vi 0), some (vi 0), none] [] h) : Ct 5 mc ms mX5_costIn [vr a0, vr a1] h Q := Ct.of (by decide +kernel) (Nat.le_of_ble_eq_true rfl) (t_X5_costIn_0 hL hA0 hA1 hv)
theorem t_X5_costIn_4 {rc rs : Nat} {Q : Option AV → AH → Prop} {h : AH} {a0 a1 : Nat} {x2 x3 : Int} (hL : LayL h) (hA0 : iQu a0) (hA1 : iSt a1) (hv : (((iH h a1 2) ≤ x3 → Q (some (vi x2)) h) ∧ (x3 < (iH h a1 2) → wp mX5_costIn 5 rc rs Q 15 [some (vr a0), some (vr a1), some (vi x2), some (vi x3), some (vi 0)] [] h))) : wp mX5_costIn 5 rc rs Q 4 [some (vr a0), some (vr a1), some (vi x2), some (vi x3), none] [] h :=
  (show wp mX5_costIn 5 rc rs Q 4 [some (vr a0), some (vr a1), some (vi x2), some (vi x3), none] [] h from xIc k_X5_costIn_4 (And.intro (st_o hL hA1) (And.intro (fun c1 => have v3 := hv.1 c1; (show wp mX5_costIn 5 rc rs Q 51 [some (vr a0), some (vr a1), some (vi x2), some (vi x3), none] [] h from xI k_X5_costIn_51 (And.intro rfl v3))) (fun c2 => have v4 := hv.2 (Int.not_le.mp c2); (show wp mX5_costIn 5 rc rs Q 12 [some (vr a0), some (vr a1), some (vi x2), some (vi x3), none] [] h from xB k_X5_costIn_12 (And.intro rfl v4))))))
theorem t_X5_costIn_15 {rc rs : Nat} {Q : Option AV → AH → Prop} {h : AH} {a0 a1 : Nat} {x2 x3 x4 : Int} (hL : LayL h) (hA0 : iQu a0) (hA1 : iSt a1) (hv : (((iH h a0 3) ≤ x4 → (-2147483648 ≤ (x3 + 1) ∧ (x3 + 1) < 2147483648) ∧ wp mX5_costIn 5 rc rs Q 4 [some (vr a0), some (vr a1), some (vi x2), some (vi (x3 + 1)), none] [] h) ∧ (x4 < (iH h a0 3) → (0 ≤ x3 ∧ x3 < 8) ∧ (∃ q8 n9 r10 : Nat, (rH h (a1 + 1) x3.toNat = some q8 ∧ iSg h q8 n9 r10) ∧ (∃ P14 : Int → AH → Prop, Ct 4 0 0 mX5_leafCost [vr a0, vr q8, vi x4] h (QI P14) ∧ ∀ (r13 : Int) (h12 : AH), (-2147483648 ≤ r13 ∧ r13 < 2147483648) → P14 r13 h12 → LayL h12 ∧ (-2147483648 ≤ (x2 + r13) ∧ (x2 + r13) < 2147483648) ∧ (-2147483648 ≤ (x4 + 1) ∧ (x4 + 1) < 2147483648) ∧ wp mX5_costIn 5 rc rs Q 15 [some (vr a0), some (vr a1), some (vi (x2 + r13)), some (vi x3), some (vi (x4 + 1))] [] h12))))) : wp mX5_costIn 5 rc rs Q 15 [some (vr a0), some (vr a1), some (vi x2), some (vi x3), some (vi x4)] [] h :=
  (show wp mX5_costIn 5 rc rs Q 15 [some (vr a0), some (vr a1), some (vi x2), some (vi x3), some (vi x4)] [] h from xIc k_X5_costIn_15 (And.intro (qu_o hL hA0) (And.intro (fun c1 => have v3 := hv.1 c1; (show wp mX5_costIn 5 rc rs Q 45 [some (vr a0), some (vr a1), some (vi x2), some (vi x3), some (vi x4)] [] h from xGo k_X5_costIn_45 (have c5 := v3.1; have v6 := v3.2; (And.intro c5 (And.intro rfl (w_fg [true, true, true, true, false] v6)))))) (fun c2 => have v4 := hv.2 (Int.not_le.mp c2); (show wp mX5_costIn 5 rc rs Q 24 [some (vr a0), some (vr a1), some (vi x2), some (vi x3), some (vi x4)] [] h from xcV k_X5_costIn_24 s_X5_costIn_34 (And.intro (st_o hL hA1) (Exists.intro (a1 + 1) (And.intro (st_r0 hL hA1) (have c7 := v4.1; have v25 := v4.2; (And.intro (sdQ (st_a0 hL hA1) c7) (Exists.elim v25 (fun q8 v23_0 => (Exists.elim v23_0 (fun n9 v23_1 => (Exists.elim v23_1 (fun r10 v23 => have c11 := v23.1; have v24 := v23.2; (Exists.intro _ (And.intro c11.1 (Exists.elim v24 (fun P14 v19 => (Exists.intro [vr q8, vi x4] (Exists.intro a0 (Exists.intro [vi x2] (And.intro (And.intro rfl (And.intro rfl (Nat.le_of_ble_eq_true rfl))) (And.intro (qu_o hL hA0) (Exists.intro 4 (Exists.intro 0 (Exists.intro 0 (Exists.intro (QI P14) (And.intro v19.1 (And.intro (And.intro (by decide) (And.intro (Nat.zero_le _) (Nat.zero_le _))) (eQI (fun r13 h12 q22 e21 => have v20 := v19.2 r13 h12 q22 e21; have hL := v20.1; have v20 := v20.2; (show wp mX5_costIn 5 rc rs Q 37 [some (vr a0), some (vr a1), some (vi x2), some (vi x3), some (vi x4)] [vi r13, vi x2] h12 from xGo k_X5_costIn_37 (have c15 := v20.1; have v18 := v20.2; (And.intro c15 (And.intro rfl (have c16 := v18.1; have v17 := v18.2; (And.intro c16 (And.intro rfl v17))))))))))))))))))))))))))))))))))))))))
theorem u_oc_bd {g : AH} {q x : Int} (hd : m_dict g x) {k : Nat} (ho : q_op (m_row g q) k) : 0 ≤ u_oc g q x k ∧ u_oc g q x k ≤ (q_ol (m_row g q) k : Int) * 49152 := by
  have h1 := sumN_bd (u_ocF g q x k) 49152 (by omega) (q_mn (m_row g q) k) (fun i _ => u_c_bd hd)
  have h2 := (q_mn_le ho).1
  unfold u_oc
  omega
theorem u_ocs_bd {g : AH} {q x : Int} (hd : m_dict g x) (hq : m_qok g q) : ∀ j, j ≤ m_nop g q → 0 ≤ sumN (fun j => u_oc g q x (q_pos (m_row g q) j)) j ∧ sumN (fun j => u_oc g q x (q_pos (m_row g q) j)) j ≤ (q_pos (m_row g q) j : Int) * 49152
  | 0, _ => by simp [sumN, q_pos]
  | j + 1, h => by
    have ih := u_ocs_bd hd hq j (by omega)
    have ho := ((m_nop_ok hq).2.2.2 j (by omega)).1
    have hb := u_oc_bd (q := q) hd ho
    have e : q_pos (m_row g q) (j + 1) = q_pos (m_row g q) j + q_ol (m_row g q) (q_pos (m_row g q) j) := rfl
    show 0 ≤ sumN (fun j => u_oc g q x (q_pos (m_row g q) j)) j + u_oc g q x (q_pos (m_row g q) j) ∧ sumN (fun j => u_oc g q x (q_pos (m_row g q) j)) j + u_oc g q x (q_pos (m_row g q) j) ≤ _
    rw [e]
    omega
theorem l_costIn {h g : AH} {da sa : Nat → Nat} (hL : LayL h) {a b : Nat} {q n : Int} {row : Nat → Int} {dr : Nat → Nat → Prop} (ha : iQu a) (hb : iSt b) (hq : cQry h g a q) (hs : cSegs h g da sa) (hc : cStd h g sa b n row dr) : Ct 5 0 0 mX5_costIn [vr a, vr b] h (QI fun v h' => v = v_cost g q n.toNat row ∧ h' = h) := by
  obtain ⟨h1, h2, h3⟩ := hc
  have hok := m_nop_ok hq.1
  have hst : ∀ s : Nat, (s : Int) < n → ∃ x : Nat, row s = (x : Int) ∧ rH h (b + 1) s = some (sa x) ∧ m_dict g (x : Int) ∧ ∃ r, iSg h (sa x) (iH g 615 x).toNat r ∧ cDict h g (sa x) x r := fun s hsn => by
    obtain ⟨⟨p1, p2⟩, p3, -⟩ := h3 s hsn
    obtain ⟨x, e⟩ := Int.eq_ofNat_of_zero_le p1
    rw [e] at p2 p3
    obtain ⟨d1, -, -, d2, -⟩ := hs x p2
    exact ⟨x, e, p3, d1, d2⟩
  have hp0 : q_pos (m_row g q) (m_nop g q) ≤ 128 := by have := hok.1; have := hok.2.1; omega
  have bd : ∀ s : Nat, (s : Int) < n → ∀ j, j ≤ m_nop g q → 0 ≤ sumN (fun j => u_oc g q (row s) (q_pos (m_row g q) j)) j ∧ sumN (fun j => u_oc g q (row s) (q_pos (m_row g q) j)) j ≤ 6291456 := fun s hsn j hj => by
    obtain ⟨x, e, -, d1, -⟩ := hst s hsn
    have := u_ocs_bd d1 hq.1 j hj
    have := q_pos_le (r := m_row g q) hj
    rw [e]; omega
  refine e_X5_costIn hL ha hb (up (P := fun s => wp mX5_costIn 5 _ _ _ 4 [some (vr a), some (vr b), some (vi (v_cost g q s row)), some (vi s), none] [] h) n.toNat ?_ ?_)
  · exact t_X5_costIn_4 hL ha hb ⟨fun _ => ⟨_, rfl, rfl, rfl⟩, fun c => absurd c (by omega)⟩
  · intro s hs2 ih
    have hbs := sumN_bd (fun s => sumN (fun j => u_oc g q (row s) (q_pos (m_row g q) j)) (m_nop g q)) 6291456 (by omega) s (fun i hi => bd i (by omega) _ (Nat.le_refl _))
    have hbs' : 0 ≤ v_cost g q s row ∧ v_cost g q s row ≤ (s : Int) * 6291456 := hbs
    have es : v_cost g q (s + 1) row = v_cost g q s row + sumN (fun j => u_oc g q (row s) (q_pos (m_row g q) j)) (m_nop g q) := rfl
    obtain ⟨x, ex, e1, d1, r, hS, hD⟩ := hst s (by omega)
    refine t_X5_costIn_4 hL ha hb ⟨fun c => absurd c (by omega), fun _ => ?_⟩
    have := up (P := fun j => wp mX5_costIn 5 0 0 (QI fun v h' => v = v_cost g q n.toNat row ∧ h' = h) 15 [some (vr a), some (vr b), some (vi (v_cost g q s row + sumN (fun j => u_oc g q (row s) (q_pos (m_row g q) j)) j)), some (vi s), some (vi j)] [] h) (m_nop g q) ?_ ?_
    · rw [show v_cost g q s row + sumN (fun j => u_oc g q (row s) (q_pos (m_row g q) j)) 0 = v_cost g q s row from Int.add_zero _] at this
      exact this
    · have e2 := hq.2.1
      refine t_X5_costIn_15 hL ha hb ⟨fun _ => ⟨by omega, ?_⟩, fun c => absurd c (by omega)⟩
      rw [← es]
      exact ih
    · intro j hj jh
      have e2 := hq.2.1
      have h128 := hq.2.2.1
      have b1 := bd s (by omega) j (by omega)
      have b2 := bd s (by omega) (j + 1) (by omega)
      have e3 : sumN (fun j => u_oc g q (row s) (q_pos (m_row g q) j)) (j + 1) = sumN (fun j => u_oc g q (row s) (q_pos (m_row g q) j)) j + u_oc g q (row s) (q_pos (m_row g q) j) := rfl
      rw [ex] at e3 b1 b2 jh ⊢
      refine t_X5_costIn_15 hL ha hb ⟨fun c => absurd c (by omega), fun _ => ⟨by omega, _, _, r, ⟨by rw [Int.toNat_natCast]; exact e1, hS⟩, _, l_leafCost hL ha hq hj hS d1 hD, fun v h' _ hv => ?_⟩⟩
      obtain ⟨rfl, rfl⟩ := hv
      refine ⟨hL, by omega, by omega, ?_⟩
      rw [e3] at jh
      rw [Int.add_assoc]
      exact jh
