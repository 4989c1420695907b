/-! THE CLASS: DOCUMENTS AND SEGMENTS ARE MADE -/
def b_X10_wordsRead_0 : List IE := [(.aload_n 0, 1, 0, 0, 0, 0), (.getfield 22, 3, 0, 10, 3, 0)]
theorem k_X10_wordsRead_0 : ckNewa mX10_wordsRead 10 0 b_X10_wordsRead_0 4 13 = true := by decide +kernel
def b_X10_wordsRead_6 : List IE := [(.astore_n 1, 1, 0, 0, 1, 0), (.aload_n 0, 1, 0, 0, 0, 0), (.getfield 15, 3, 0, 10, 2, 1), (.iconst 0, 1, 0, 0, 0, 0), (.aload_n 1, 1, 0, 0, 1, 0), (.iconst 0, 1, 0, 0, 0, 0), (.aload_n 0, 1, 0, 0, 0, 0), (.getfield 22, 3, 0, 10, 3, 0)]
theorem k_X10_wordsRead_6 : ckB mX10_wordsRead 10 6 b_X10_wordsRead_6 18 = true := by decide +kernel
def b_X10_wordsRead_21 : List IE := [(.aload_n 1, 1, 0, 0, 1, 0)]
theorem k_X10_wordsRead_21 : ckA mX10_wordsRead 10 21 b_X10_wordsRead_21 22 = true := by decide +kernel
theorem s_X10_wordsRead_18 : cCp mX10_wordsRead 18 36 := ⟨by decide +kernel, gt_ok (List.mem_of_getElem? (i := 454) (by decide +kernel)) (by decide +kernel), gt_ok (List.mem_of_getElem? (i := 456) (by decide +kernel)) (by decide +kernel), gt_ok (List.mem_of_getElem? (i := 455) (by decide +kernel)) (by decide +kernel), gt_ok (List.mem_of_getElem? (i := 102) (by decide +kernel)) (by decide +kernel)⟩
theorem t_X10_wordsRead_0 {rc rs : Nat} {Q : Option AV → AH → Prop} {h : AH}  (hL : LayL h) (hv : (0 ≤ (iH h 1 3 : Int) ∧ (iH h 1 3 : Int) ≤ 100000 ∧ 1 ≤ rc ∧ (iH h 1 3 : Int).toNat ≤ rs) ∧ (0 ≤ (0 : Int) ∧ 0 ≤ (0 : Int) ∧ 0 ≤ iH (nw h 13 ((iH h 1 3 : Int).toNat)) 1 3 ∧ (0 : Int) + iH (nw h 13 ((iH h 1 3 : Int).toNat)) 1 3 ≤ 12 ∧ (0 : Int) + iH (nw h 13 ((iH h 1 3 : Int).toNat)) 1 3 ≤ ((iH h 1 3 : Int).toNat)) ∧ Q (some (vr (nH h))) (cpI (nw h 13 ((iH h 1 3 : Int).toNat)) 3 0 (nH h) 0 ((iH (nw h 13 ((iH h 1 3 : Int).toNat)) 1 3).toNat))) : wp mX10_wordsRead 1 rc rs Q 0 [some (vr 1), none] [] h :=
  (show wp mX10_wordsRead 1 rc rs Q 0 [some (vr 1), none] [] h from xNewa k_X10_wordsRead_0 (And.intro (ll_1 hL) (have c1 := hv.1; have v2 := hv.2; And.intro c1 (have hL := LayL_nw (t := 13) (n := (iH h 1 3 : Int).toNat) hL; (show wp mX10_wordsRead 1 (rc - 1) (rs - (iH h 1 3 : Int).toNat) Q 6 [some (vr 1), none] [vr (nH h)] (nw h 13 ((iH h 1 3 : Int).toNat)) from xcp k_X10_wordsRead_6 s_X10_wordsRead_18 (And.intro rfl (And.intro (ll_1 hL) (Exists.intro 3 (And.intro (lg_1_2 hL) (And.intro (ll_1 hL) (have c3 := v2.1; have v4 := v2.2; Exists.intro _ (Exists.intro _ (Exists.intro 13 (And.intro (ll_3 hL) (And.intro nw_k (And.intro (Or.inl rfl) (And.intro c3 (And.intro (And.intro (Nat.le_of_ble_eq_true rfl) (Nat.le_of_ble_eq_true rfl)) (show wp mX10_wordsRead 1 (rc - 1) (rs - (iH h 1 3 : Int).toNat) Q 21 [some (vr 1), some (vr (nH h))] [] (cpI (nw h 13 ((iH h 1 3 : Int).toNat)) 3 0 (nH h) 0 ((iH (nw h 13 ((iH h 1 3 : Int).toNat)) 1 3).toNat)) from xA k_X10_wordsRead_21 (And.intro rfl v4))))))))))))))))))))
theorem e_X10_wordsRead {mc ms : Nat} {Q : Option AV → AH → Prop} {h : AH}  (hL : LayL h) (hv : (0 ≤ (iH h 1 3 : Int) ∧ (iH h 1 3 : Int) ≤ 100000 ∧ 1 ≤ mc ∧ (iH h 1 3 : Int).toNat ≤ ms) ∧ (0 ≤ (0 : Int) ∧ 0 ≤ (0 : Int) ∧ 0 ≤ iH (nw h 13 ((iH h 1 3 : Int).toNat)) 1 3 ∧ (0 : Int) + iH (nw h 13 ((iH h 1 3 : Int).toNat)) 1 3 ≤ 12 ∧ (0 : Int) + iH (nw h 13 ((iH h 1 3 : Int).toNat)) 1 3 ≤ ((iH h 1 3 : Int).toNat)) ∧ Q (some (vr (nH h))) (cpI (nw h 13 ((iH h 1 3 : Int).toNat)) 3 0 (nH h) 0 ((iH (nw h 13 ((iH h 1 3 : Int).toNat)) 1 3).toNat))) : Ct 1 mc ms mX10_wordsRead [vr 1] h Q := Ct.of (by decide +kernel) (Nat.le_of_ble_eq_true rfl) (t_X10_wordsRead_0 hL hv)
def b_X0_init_0 : List IE := [(.aload_n 0, 1, 0, 0, 0, 0)]
theorem k_X0_init_0 : ckObj mX0_init 0 0 b_X0_init_0 1 1 = true := by decide +kernel
def b_X0_init_4 : List IE := [(.aload_n 0, 1, 0, 0, 0, 0), (.iload_n 1, 1, 0, 0, 1, 0), (.putfield 7, 3, 0, 0, 0, 0), (.aload_n 0, 1, 0, 0, 0, 0), (.aload_n 2, 1, 0, 0, 2, 0), (.putfield 13, 3, 0, 0, 1, 1)]
theorem k_X0_init_4 : ckV mX0_init 0 4 b_X0_init_4 14 = true := by decide +kernel
theorem s_X0_init_1 : Cond.methodLink mX0_init.1.cls 1 objectInit ∈ gt ∧ Cond.instanceMethod objectInit ∈ gt ∧ Cond.code objectInit ⟨#[0xb1]⟩ 1 none ∈ gt := ⟨gt_ok (List.mem_of_getElem? (i := 460) (by decide +kernel)) (by decide +kernel), gt_ok (List.mem_of_getElem? (i := 116) (by decide +kernel)) (by decide +kernel), gt_ok (List.mem_of_getElem? (i := 117) (by decide +kernel)) (by decide +kernel)⟩
theorem t_X0_init_0 {rc rs : Nat} {Q : Option AV → AH → Prop} {h : AH} {a0 a2 n2 : Nat} {x1 : Int} (hL : LayL h) (hA2 : a2 < nH h ∧ kH h a2 = (13, n2)) (hv : (1 ≤ 1) ∧ (a0 < nH h ∧ kH h a0 = (0, 0)) ∧ (a0 < nH (sI h a0 0 x1) ∧ kH (sI h a0 0 x1) a0 = (0, 0)) ∧ LayL (sR (sI h a0 0 x1) a0 1 (some a2)) ∧ Q none (sR (sI h a0 0 x1) a0 1 (some a2))) : wp mX0_init 1 rc rs Q 0 [some (vr a0), some (vi x1), some (vr a2)] [] h :=
  (show wp mX0_init 1 rc rs Q 0 [some (vr a0), some (vi x1), some (vr a2)] [] h from xObj k_X0_init_0 s_X0_init_1 (have c1 := hv.1; have v2 := hv.2; And.intro (And.intro c1 (Nat.le_of_ble_eq_true rfl)) (show wp mX0_init 1 rc rs Q 4 [some (vr a0), some (vi x1), some (vr a2)] [] h from xV k_X0_init_4 (have c3 := v2.1; have v8 := v2.2; (And.intro c3 (have c4 := v8.1; have v7 := v8.2; (And.intro c4 (have c5 := v7.1; have v6 := v7.2; (have hL := c5; (And.intro rfl v6))))))))))
theorem e_X0_init {mc ms : Nat} {Q : Option AV → AH → Prop} {h : AH} {a0 a2 n2 : Nat} {x1 : Int} (hL : LayL h) (hA2 : a2 < nH h ∧ kH h a2 = (13, n2)) (hv : (1 ≤ 1) ∧ (a0 < nH h ∧ kH h a0 = (0, 0)) ∧ (a0 < nH (sI h a0 0 x1) ∧ kH (sI h a0 0 x1) a0 = (0, 0)) ∧ LayL (sR (sI h a0 0 x1) a0 1 (some a2)) ∧ Q none (sR (sI h a0 0 x1) a0 1 (some a2))) : Ct 1 mc ms mX0_init [vr a0, vi x1, vr a2] h Q := Ct.of (by decide +kernel) (Nat.le_of_ble_eq_true rfl) (t_X0_init_0 hL hA2 hv)
def b_X0_hasBefore_0 : List IE := [(.iconst 0, 1, 0, 0, 0, 0), (.istore_n 2, 1, 0, 0, 2, 0)]
theorem k_X0_hasBefore_0 : ckB mX0_hasBefore 0 0 b_X0_hasBefore_0 2 = true := by decide +kernel
def b_X0_hasBefore_2 : List IE := [(.iload_n 2, 1, 0, 0, 2, 0), (.iload_n 1, 1, 0, 0, 1, 0)]
theorem k_X0_hasBefore_2 : ckIc mX0_hasBefore 0 2 b_X0_hasBefore_2 4 3 26 30 7 = true := by decide +kernel
def b_X0_hasBefore_7 : List IE := [(.aload_n 0, 1, 0, 0, 0, 0), (.getfield 13, 3, 0, 0, 1, 1), (.iload_n 2, 1, 0, 0, 2, 0), (.iaload, 1, 0, 0, 0, 0), (.aload_n 0, 1, 0, 0, 0, 0), (.getfield 13, 3, 0, 0, 1, 1), (.iload_n 1, 1, 0, 0, 1, 0), (.iaload, 1, 0, 0, 0, 0)]
theorem k_X0_hasBefore_7 : ckIc mX0_hasBefore 0 7 b_X0_hasBefore_7 19 1 5 24 22 = true := by decide +kernel
def b_X0_hasBefore_22 : List IE := [(.iconst 1, 1, 1, 0, 0, 0)]
theorem k_X0_hasBefore_22 : ckZ mX0_hasBefore 0 22 b_X0_hasBefore_22 23 = true := by decide +kernel
def b_X0_hasBefore_24 : List IE := [(.iinc 2 1, 3, 1, 0, 2, 0)]
theorem k_X0_hasBefore_24 : ckGo mX0_hasBefore 0 24 b_X0_hasBefore_24 27 (-25) 2 = true := by decide +kernel
def b_X0_hasBefore_30 : List IE := [(.iconst 0, 1, 0, 0, 0, 0)]
theorem k_X0_hasBefore_30 : ckZ mX0_hasBefore 0 30 b_X0_hasBefore_30 31 = true := by decide +kernel
theorem t_X0_hasBefore_0 {rc rs : Nat} {Q : Option AV → AH → Prop} {h : AH} {a0 n0 : Nat} {x1 : Int} (hL : LayL h) (hA0 : iD h a0 n0) (hv : wp mX0_hasBefore 0 rc rs Q 2 [some (vr a0), some (vi x1), some (vi 0)] [] h) : wp mX0_hasBefore 0 rc rs Q 0 [some (vr a0), some (vi x1), none] [] h :=
  (show wp mX0_hasBefore 0 rc rs Q 0 [some (vr a0), some (vi x1), none] [] h from xB k_X0_hasBefore_0 (And.intro rfl hv))
theorem e_X0_hasBefore {mc ms : Nat} {Q : Option AV → AH → Prop} {h : AH} {a0 n0 : Nat} {x1 : Int} (hL : LayL h) (hA0 : iD h a0 n0) (hv : wp mX0_hasBefore 0 mc ms Q 2 [some (vr a0), some (vi x1), some (vi 0)] [] h) : Ct 0 mc ms mX0_hasBefore [vr a0, vi x1] h Q := Ct.of (by decide +kernel) (Nat.le_of_ble_eq_true rfl) (t_X0_hasBefore_0 hL hA0 hv)
theorem t_X0_hasBefore_2 {rc rs : Nat} {Q : Option AV → AH → Prop} {h : AH} {a0 n0 : Nat} {x1 x2 : Int} (hL : LayL h) (hA0 : iD h a0 n0) (hv : ((x1 ≤ x2 → Q (some (vi 0)) h) ∧ (x2 < x1 → (0 ≤ x2 ∧ x2 < n0) ∧ (0 ≤ x1 ∧ x1 < n0) ∧ (((iH h (a0 + 1) x2.toNat) ≠ (iH h (a0 + 1) x1.toNat) → (-2147483648 ≤ (x2 + 1) ∧ (x2 + 1) < 2147483648) ∧ wp mX0_hasBefore 0 rc rs Q 2 [some (vr a0), some (vi x1), some (vi (x2 + 1))] [] h) ∧ ((iH h (a0 + 1) x2.toNat) = (iH h (a0 + 1) x1.toNat) → Q (some (vi 1)) h))))) : wp mX0_hasBefore 0 rc rs Q 2 [some (vr a0), some (vi x1), some (vi x2)] [] h :=
  (show wp mX0_hasBefore 0 rc rs Q 2 [some (vr a0), some (vi x1), some (vi x2)] [] h from xIc k_X0_hasBefore_2 (And.intro (fun c1 => have v3 := hv.1 c1; (show wp mX0_hasBefore 0 rc rs Q 30 [some (vr a0), some (vi x1), some (vi x2)] [] h from xZ k_X0_hasBefore_30 (And.intro rfl (And.intro (Or.inl rfl) v3)))) (fun c2 => have v4 := hv.2 (Int.not_le.mp c2); (show wp mX0_hasBefore 0 rc rs Q 7 [some (vr a0), some (vi x1), some (vi x2)] [] h from xIc k_X0_hasBefore_7 (And.intro (dc_o hA0) (Exists.intro (a0 + 1) (And.intro (dc_r1 hA0) (have c5 := v4.1; have v14 := v4.2; (And.intro (sdI (dc_a1 hA0) c5) (And.intro (dc_o hA0) (Exists.intro (a0 + 1) (And.intro (dc_r1 hA0) (have c6 := v14.1; have v13 := v14.2; (And.intro (sdI (dc_a1 hA0) c6) (And.intro (fun c7 => have v9 := v13.1 c7; (show wp mX0_hasBefore 0 rc rs Q 24 [some (vr a0), some (vi x1), some (vi x2)] [] h from xGo k_X0_hasBefore_24 (have c11 := v9.1; have v12 := v9.2; (And.intro c11 (And.intro rfl v12))))) (fun c8 => have v10 := v13.2 (Decidable.not_not.mp c8); (show wp mX0_hasBefore 0 rc rs Q 22 [some (vr a0), some (vi x1), some (vi x2)] [] h from xZ k_X0_hasBefore_22 (And.intro rfl (And.intro (Or.inr rfl) v10)))))))))))))))))))
section
variable {h : AH} {a k : Nat} {v : Option Nat}
theorem rR_o {b j : Nat} (e : b ≠ a) : rH (sR h a k v) b j = rH h b j := by simp [rH, sR, u2, e]
theorem rR_k {j : Nat} (e : j ≠ k) : rH (sR h a k v) a j = rH h a j := by simp [rH, sR, u2, e]
theorem rR_s : rH (sR h a k v) a k = v := by simp [rH, sR, u2]
theorem LayL_sR (ha : 88 < a) (hL : LayL h) : LayL (sR h a k v) := ⟨hL.1, fun q hq => by
  have : q.1 ≠ a := by
    have : ∀ q ∈ refL, q.1 ≤ 88 := by decide
    have := this q hq
    omega
  rw [rR_o this]; exact hL.2 q hq⟩
theorem nw_iH {t n b j : Nat} (e : b < nH h) : iH (nw h t n) b j = iH h b j := by
  have e : b ≠ h.1 := Nat.ne_of_lt e
  simp [iH, nw, r2, e]
end
theorem l_wordsRead {h : AH} (hL : LayL h) {n : Nat} (hv : iH h 1 3 = (n : Int) ∧ n ≤ 12) : Ct 1 1 12 mX10_wordsRead [vr 1] h (QR fun x h' => x = nH h ∧ h' = cpI (nw h 13 n) 3 0 (nH h) 0 n) := by
  obtain ⟨e, hn⟩ := hv
  have h70 := (ll_88 hL).1
  have e2 : ∀ t, iH (nw h t n) 1 3 = (n : Int) := fun t => by rw [nw_iH (by omega), e]
  refine e_X10_wordsRead hL ?_
  rw [e]
  simp only [Int.toNat_natCast, e2]
  exact ⟨⟨by omega, by omega, by omega, by omega⟩, ⟨by omega, by omega, by omega, by omega, by omega⟩, _, rfl, rfl, rfl⟩
theorem l_docMade {h : AH} (hL : LayL h) {a b n : Nat} {x : Int} (ha : 88 < a ∧ a < nH h ∧ kH h a = (0, 0)) (hb : b < nH h ∧ kH h b = (13, n)) : Ct 1 0 0 mX0_init [vr a, vi x, vr b] h (QV fun h' => h' = sR (sI h a 0 x) a 1 (some b)) := by
  exact e_X0_init hL hb ⟨by omega, ha.2, ha.2, LayL_sR ha.1 hL, rfl, rfl⟩
def wdB (f : Nat → Int) (j : Nat) (w : Int) : Prop := ∃ i, i < j ∧ f i = w
theorem l_hasBefore {h : AH} (hL : LayL h) {a n j : Nat} (hD : iD h a n) (hj : j < n) : Ct 0 0 0 mX0_hasBefore [vr a, vi j] h (QI fun x h' => x = b01 (wdB (iH h (a + 1)) j (iH h (a + 1) j)) ∧ h' = h) := by
  have hn := hD.2.2.2.2
  have main : ∀ f i : Nat, j - i = f → i ≤ j → (∀ k, k < i → iH h (a + 1) k ≠ iH h (a + 1) j) → wp mX0_hasBefore 0 0 0 (QI fun x h' => x = b01 (wdB (iH h (a + 1)) j (iH h (a + 1) j)) ∧ h' = h) 2 [some (vr a), some (vi j), some (vi i)] [] h := by
    intro f
    induction f with
    | zero =>
      intro i h1 h2 h3
      refine t_X0_hasBefore_2 hL hD ⟨fun _ => ⟨_, rfl, (b01_f ?_).symm, rfl⟩, fun c => absurd c (by omega)⟩
      rintro ⟨k, q1, q2⟩
      exact h3 k (by omega) q2
    | succ f ih =>
      intro i h1 h2 h3
      refine t_X0_hasBefore_2 hL hD ⟨fun c => absurd c (by omega), fun c => ⟨by omega, by omega, ?_⟩⟩
      simp only [Int.toNat_natCast]
      refine ⟨fun c2 => ⟨by omega, ?_⟩, fun c2 => ⟨_, rfl, (b01_t ⟨i, by omega, c2⟩).symm, rfl⟩⟩
      rw [show (i : Int) + 1 = ((i + 1 : Nat) : Int) by omega]
      refine ih (i + 1) (by omega) (by omega) fun k hk => ?_
      by_cases e : k = i
      · subst e; exact c2
      · exact h3 k (by omega)
  exact e_X0_hasBefore hL hD (main _ 0 rfl (by omega) (fun k hk => absurd hk (by omega)))
def fnbQ (h : AH) (a : Nat) (w x : Int) : Prop := ∃ p : Nat, x = (p : Int) ∧ p ≤ (iH h a 5).toNat ∧ (∀ j : Nat, j < p → iH h (a + 1) j < w) ∧ ∀ j : Nat, p ≤ j → j < (iH h a 5).toNat → w ≤ iH h (a + 1) j
noncomputable def fnb (h : AH) (a : Nat) (w : Int) : Int := Classical.epsilon (fnbQ h a w)
def fnbP (h : AH) (a : Nat) : Prop := ∃ n r c : Nat, iSg h a n r ∧ iH h a 5 = (c : Int) ∧ c ≤ r ∧ ∀ i j : Nat, i < j → j < c → iH h (a + 1) i < iH h (a + 1) j
theorem fnb_e {h : AH} {a : Nat} {w x : Int} (hx : fnbQ h a w x) : fnb h a w = x := by
  obtain ⟨p, q1, q2, q3, q4⟩ := Classical.epsilon_spec (p := fnbQ h a w) ⟨x, hx⟩
  obtain ⟨p', u1, u2, u3, u4⟩ := hx
  unfold fnb
  rw [q1, u1]
  have : p = p' := by
    rcases Nat.lt_trichotomy p p' with v | v | v
    · have := u3 p v; have := q4 p (Nat.le_refl _) (by omega); omega
    · exact v
    · have := q3 p' v; have := u4 p' (Nat.le_refl _) (by omega); omega
  rw [this]
theorem fnb_ex {h : AH} {a c : Nat} {w : Int} (mo : ∀ i j : Nat, i < j → j < c → iH h (a + 1) i < iH h (a + 1) j) : ∀ m : Nat, m ≤ c → ∃ p : Nat, p ≤ m ∧ (∀ j : Nat, j < p → iH h (a + 1) j < w) ∧ ∀ j : Nat, p ≤ j → j < m → w ≤ iH h (a + 1) j := by
  intro m
  induction m with
  | zero => intro _; exact ⟨0, Nat.le_refl _, fun j hj => by omega, fun j _ hj => by omega⟩
  | succ m ih =>
    intro hm
    obtain ⟨p, q1, q2, q3⟩ := ih (by omega)
    by_cases u : p = m ∧ iH h (a + 1) m < w
    · refine ⟨m + 1, Nat.le_refl _, fun j hj => ?_, fun j v1 v2 => by omega⟩
      by_cases e : j = m
      · rw [e]; exact u.2
      · exact q2 j (by omega)
    · refine ⟨p, by omega, q2, fun j v1 v2 => ?_⟩
      by_cases e : j = m
      · rw [e]
        by_cases e2 : p = m
        · have := fun q => u ⟨e2, q⟩; omega
        · have := q3 p (Nat.le_refl _) (by omega)
          have := mo p m (by omega) (by omega)
          omega
      · exact q3 j v1 (by omega)
theorem l_fnb {h : AH} (hL : LayL h) {a : Nat} {w : Int} (hv : fnbP h a) : Ct 0 0 0 mX7_firstNotBelow [vr a, vi w] h (QI fun x h' => x = fnb h a w ∧ h' = h) := by
  obtain ⟨n, r, c, hS, hc, hcr, mo⟩ := hv
  have ex := fnb_ex (w := w) mo
  have e : (fun (x : Int) (h' : AH) => (∃ p : Nat, x = (p : Int) ∧ p ≤ c ∧ (∀ j : Nat, j < p → iH h (a + 1) j < w) ∧ ∀ j : Nat, p ≤ j → j < c → w ≤ iH h (a + 1) j) ∧ h' = h) = fun x h' => x = fnb h a w ∧ h' = h := by
    funext x h'
    have hc2 : (iH h a 5).toNat = c := by omega
    refine propext ⟨fun ⟨⟨p, q0, q1, q2, q3⟩, q4⟩ => ⟨(fnb_e ⟨p, q0, by omega, q2, by rw [hc2]; exact q3⟩).symm, q4⟩, fun ⟨q0, q4⟩ => ?_⟩
    obtain ⟨p, q1, q2, q3⟩ := ex c (Nat.le_refl _)
    exact ⟨⟨p, by rw [q0]; exact fnb_e ⟨p, rfl, by omega, q2, by rw [hc2]; exact q3⟩, q1, q2, q3⟩, q4⟩
  rw [← e]
  exact l_firstNotBelow hL hS hc hcr mo
def b_X7_notePosting_0 : List IE := [(.aload_n 0, 1, 0, 0, 0, 0), (.iload_n 1, 1, 0, 0, 1, 0)]
theorem k_X7_notePosting_0 : ckB mX7_notePosting 7 0 b_X7_notePosting_0 2 = true := by decide +kernel
def b_X7_notePosting_5 : List IE := [(.istore_n 3, 1, 0, 0, 3, 0), (.iload_n 3, 1, 0, 0, 3, 0), (.aload_n 0, 1, 0, 0, 0, 0), (.getfield 42, 3, 0, 7, 5, 0)]
theorem k_X7_notePosting_5 : ckIc mX7_notePosting 7 5 b_X7_notePosting_5 11 0 13 24 14 = true := by decide +kernel
def b_X7_notePosting_14 : List IE := [(.aload_n 0, 1, 0, 0, 0, 0), (.getfield 23, 3, 0, 7, 2, 1), (.iload_n 3, 1, 0, 0, 3, 0), (.iaload, 1, 0, 0, 0, 0), (.iload_n 1, 1, 0, 0, 1, 0)]
theorem k_X7_notePosting_14 : ckIc mX7_notePosting 7 14 b_X7_notePosting_14 21 0 93 114 24 = true := by decide +kernel
def b_X7_notePosting_24 : List IE := [(.aload_n 0, 1, 0, 0, 0, 0), (.getfield 42, 3, 0, 7, 5, 0), (.iload_n 3, 1, 0, 0, 3, 0), (.isub, 1, 0, 0, 0, 0), (.istore 4, 2, 0, 0, 4, 0), (.aload_n 0, 1, 0, 0, 0, 0), (.getfield 23, 3, 0, 7, 2, 1), (.iload_n 3, 1, 0, 0, 3, 0), (.aload_n 0, 1, 0, 0, 0, 0), (.getfield 23, 3, 0, 7, 2, 1), (.iload_n 3, 1, 0, 0, 3, 0), (.iconst 1, 1, 1, 0, 0, 0), (.iadd, 1, 0, 0, 0, 0), (.iload 4, 2, 0, 0, 4, 0)]
theorem k_X7_notePosting_24 : ckB mX7_notePosting 7 24 b_X7_notePosting_24 46 = true := by decide +kernel
def b_X7_notePosting_49 : List IE := [(.aload_n 0, 1, 0, 0, 0, 0), (.getfield 24, 3, 0, 7, 3, 1), (.iload_n 3, 1, 0, 0, 3, 0), (.aload_n 0, 1, 0, 0, 0, 0), (.getfield 24, 3, 0, 7, 3, 1), (.iload_n 3, 1, 0, 0, 3, 0), (.iconst 1, 1, 1, 0, 0, 0), (.iadd, 1, 0, 0, 0, 0), (.iload 4, 2, 0, 0, 4, 0)]
theorem k_X7_notePosting_49 : ckB mX7_notePosting 7 49 b_X7_notePosting_49 63 = true := by decide +kernel
def b_X7_notePosting_66 : List IE := [(.aload_n 0, 1, 0, 0, 0, 0), (.getfield 27, 3, 0, 7, 4, 1), (.iload_n 3, 1, 0, 0, 3, 0), (.aload_n 0, 1, 0, 0, 0, 0), (.getfield 27, 3, 0, 7, 4, 1), (.iload_n 3, 1, 0, 0, 3, 0), (.iconst 1, 1, 1, 0, 0, 0), (.iadd, 1, 0, 0, 0, 0), (.iload 4, 2, 0, 0, 4, 0)]
theorem k_X7_notePosting_66 : ckB mX7_notePosting 7 66 b_X7_notePosting_66 80 = true := by decide +kernel
def b_X7_notePosting_83 : List IE := [(.aload_n 0, 1, 0, 0, 0, 0), (.getfield 23, 3, 0, 7, 2, 1), (.iload_n 3, 1, 0, 0, 3, 0), (.iload_n 1, 1, 0, 0, 1, 0), (.iastore, 1, 0, 0, 0, 0), (.aload_n 0, 1, 0, 0, 0, 0), (.getfield 24, 3, 0, 7, 3, 1), (.iload_n 3, 1, 0, 0, 3, 0), (.iconst 0, 1, 0, 0, 0, 0), (.iastore, 1, 0, 0, 0, 0), (.aload_n 0, 1, 0, 0, 0, 0), (.getfield 27, 3, 0, 7, 4, 1), (.iload_n 3, 1, 0, 0, 3, 0), (.iconst 0, 1, 0, 0, 0, 0), (.iastore, 1, 0, 0, 0, 0), (.aload_n 0, 1, 0, 0, 0, 0), (.dup, 1, 0, 0, 0, 0), (.getfield 42, 3, 0, 7, 5, 0), (.iconst 1, 1, 1, 0, 0, 0), (.iadd, 1, 0, 0, 0, 0), (.putfield 42, 3, 0, 7, 5, 0)]
theorem k_X7_notePosting_83 : ckB mX7_notePosting 7 83 b_X7_notePosting_83 114 = true := by decide +kernel
def b_X7_notePosting_114 : List IE := [(.aload_n 0, 1, 0, 0, 0, 0), (.getfield 24, 3, 0, 7, 3, 1), (.iload_n 3, 1, 0, 0, 3, 0), (.dup2, 1, 0, 0, 0, 0), (.iaload, 1, 0, 0, 0, 0), (.iconst 1, 1, 1, 0, 0, 0), (.iadd, 1, 0, 0, 0, 0), (.iastore, 1, 0, 0, 0, 0), (.aload_n 0, 1, 0, 0, 0, 0), (.getfield 27, 3, 0, 7, 4, 1), (.iload_n 3, 1, 0, 0, 3, 0), (.dup2, 1, 0, 0, 0, 0), (.iaload, 1, 0, 0, 0, 0), (.iload_n 2, 1, 0, 0, 2, 0), (.iadd, 1, 0, 0, 0, 0), (.iastore, 1, 0, 0, 0, 0), (.aload_n 0, 1, 0, 0, 0, 0), (.dup, 1, 0, 0, 0, 0), (.getfield 51, 3, 0, 7, 6, 0), (.iconst 1, 1, 1, 0, 0, 0), (.iadd, 1, 0, 0, 0, 0), (.putfield 51, 3, 0, 7, 6, 0)]
theorem k_X7_notePosting_114 : ckV mX7_notePosting 7 114 b_X7_notePosting_114 144 = true := by decide +kernel
theorem s_X7_notePosting_2 : cV mX7_notePosting 2 mX7_firstNotBelow 38 1 7 := ⟨by decide +kernel, ⟨ml_X7_firstNotBelow, li_RX7_38, im_X7_firstNotBelow, se_X7_firstNotBelow⟩, ⟨by decide +kernel, by decide +kernel⟩, by decide +kernel⟩
theorem s_X7_notePosting_46 : cCp mX7_notePosting 46 45 := ⟨by decide +kernel, gt_ok (List.mem_of_getElem? (i := 544) (by decide +kernel)) (by decide +kernel), gt_ok (List.mem_of_getElem? (i := 456) (by decide +kernel)) (by decide +kernel), gt_ok (List.mem_of_getElem? (i := 455) (by decide +kernel)) (by decide +kernel), gt_ok (List.mem_of_getElem? (i := 102) (by decide +kernel)) (by decide +kernel)⟩
theorem s_X7_notePosting_63 : cCp mX7_notePosting 63 45 := ⟨by decide +kernel, gt_ok (List.mem_of_getElem? (i := 544) (by decide +kernel)) (by decide +kernel), gt_ok (List.mem_of_getElem? (i := 456) (by decide +kernel)) (by decide +kernel), gt_ok (List.mem_of_getElem? (i := 455) (by decide +kernel)) (by decide +kernel), gt_ok (List.mem_of_getElem? (i := 102) (by decide +kernel)) (by decide +kernel)⟩
theorem s_X7_notePosting_80 : cCp mX7_notePosting 80 45 := ⟨by decide +kernel, gt_ok (List.mem_of_getElem? (i := 544) (by decide +kernel)) (by decide +kernel), gt_ok (List.mem_of_getElem? (i := 456) (by decide +kernel)) (by decide +kernel), gt_ok (List.mem_of_getElem? (i := 455) (by decide +kernel)) (by decide +kernel), gt_ok (List.mem_of_getElem? (i := 102) (by decide +kernel)) (by decide +kernel)⟩
theorem t_X7_notePosting_0 {rc rs : Nat} {Q : Option AV → AH → Prop} {h : AH} {a0 n0 r0 : Nat} {x1 x2 : Int} (hL : LayL h) (hA0 : iSg h a0 n0 r0) (hv : (fnbP h a0) ∧ (((fnb h a0 x1) = (iH h a0 5) → wp mX7_notePosting 1 rc rs Q 24 [some (vr a0), some (vi x1), some (vi x2), some (vi (fnb h a0 x1)), none] [] h) ∧ ((fnb h a0 x1) ≠ (iH h a0 5) → (0 ≤ (fnb h a0 x1) ∧ (fnb h a0 x1) < r0) ∧ (((iH h (a0 + 1) ((fnb h a0 x1).toNat)) = x1 → wp mX7_notePosting 1 rc rs Q 114 [some (vr a0), none, some (vi x2), some (vi (fnb h a0 x1)), none] [] h) ∧ ((iH h (a0 + 1) ((fnb h a0 x1).toNat)) ≠ x1 → wp mX7_notePosting 1 rc rs Q 24 [some (vr a0), some (vi x1), some (vi x2), some (vi (fnb h a0 x1)), none] [] h))))) : wp mX7_notePosting 1 rc rs Q 0 [some (vr a0), some (vi x1), some (vi x2), none, none] [] h :=
  (show wp mX7_notePosting 1 rc rs Q 0 [some (vr a0), some (vi x1), some (vi x2), none, none] [] h from xcV k_X7_notePosting_0 s_X7_notePosting_2 (have c11 := hv.1; have v12 := hv.2; (Exists.intro [vi x1] (Exists.intro a0 (Exists.intro [] (And.intro (And.intro rfl (And.intro rfl (Nat.le_of_ble_eq_true rfl))) (And.intro (sg_o hA0) (Exists.intro 0 (Exists.intro 0 (Exists.intro 0 (Exists.intro _ (And.intro (l_fnb (h := h) hL c11) (And.intro (And.intro (by decide) (And.intro (Nat.zero_le _) (Nat.zero_le _))) (eQP (show wp mX7_notePosting 1 rc rs Q 5 [some (vr a0), some (vi x1), some (vi x2), none, none] [vi (fnb h a0 x1)] h from xIc k_X7_notePosting_5 (And.intro rfl (And.intro (sg_o hA0) (And.intro (fun c1 => have v3 := v12.1 c1; v3) (fun c2 => have v4 := v12.2 c2; (show wp mX7_notePosting 1 rc rs Q 14 [some (vr a0), some (vi x1), some (vi x2), some (vi (fnb h a0 x1)), none] [] h from xIc k_X7_notePosting_14 (And.intro (sg_o hA0) (Exists.intro (a0 + 1) (And.intro (sg_r2 hA0) (have c5 := v4.1; have v10 := v4.2; (And.intro (sdI (sg_a2 hA0) c5) (And.intro (fun c6 => have v8 := v10.1 c6; (w_fg [true, false, true, true, false] v8)) (fun c7 => have v9 := v10.2 c7; v9)))))))))))))))))))))))))))
theorem e_X7_notePosting {mc ms : Nat} {Q : Option AV → AH → Prop} {h : AH} {a0 n0 r0 : Nat} {x1 x2 : Int} (hL : LayL h) (hA0 : iSg h a0 n0 r0) (hv : (fnbP h a0) ∧ (((fnb h a0 x1) = (iH h a0 5) → wp mX7_notePosting 1 mc ms Q 24 [some (vr a0), some (vi x1), some (vi x2), some (vi (fnb h a0 x1)), none] [] h) ∧ ((fnb h a0 x1) ≠ (iH h a0 5) → (0 ≤ (fnb h a0 x1) ∧ (fnb h a0 x1) < r0) ∧ (((iH h (a0 + 1) ((fnb h a0 x1).toNat)) = x1 → wp mX7_notePosting 1 mc ms Q 114 [some (vr a0), none, some (vi x2), some (vi (fnb h a0 x1)), none] [] h) ∧ ((iH h (a0 + 1) ((fnb h a0 x1).toNat)) ≠ x1 → wp mX7_notePosting 1 mc ms Q 24 [some (vr a0), some (vi x1), some (vi x2), some (vi (fnb h a0 x1)), none] [] h))))) : Ct 1 mc ms mX7_notePosting [vr a0, vi x1, vi x2] h Q := Ct.of (by decide +kernel) (Nat.le_of_ble_eq_true rfl) (t_X7_notePosting_0 hL hA0 hv)
theorem t_X7_notePosting_24 {rc rs : Nat} {Q : Option AV → AH → Prop} {h : AH} {a0 n0 r0 : Nat} {x1 x2 x3 : Int} (hL : LayL h) (hA0 : iSg h a0 n0 r0) (hv : (-2147483648 ≤ (iH h a0 5 - x3) ∧ (iH h a0 5 - x3) < 2147483648) ∧ (-2147483648 ≤ (x3 + 1) ∧ (x3 + 1) < 2147483648) ∧ (0 ≤ x3 ∧ 0 ≤ (x3 + 1) ∧ 0 ≤ (iH h a0 5 - x3) ∧ x3 + (iH h a0 5 - x3) ≤ r0 ∧ (x3 + 1) + (iH h a0 5 - x3) ≤ r0) ∧ (0 ≤ x3 ∧ 0 ≤ (x3 + 1) ∧ 0 ≤ (iH h a0 5 - x3) ∧ x3 + (iH h a0 5 - x3) ≤ r0 ∧ (x3 + 1) + (iH h a0 5 - x3) ≤ r0) ∧ (0 ≤ x3 ∧ 0 ≤ (x3 + 1) ∧ 0 ≤ (iH h a0 5 - x3) ∧ x3 + (iH h a0 5 - x3) ≤ r0 ∧ (x3 + 1) + (iH h a0 5 - x3) ≤ r0) ∧ (0 ≤ x3 ∧ x3 < r0) ∧ (-2147483648 ≤ (iH (sI (sI (sI (cpI (cpI (cpI h (a0 + 1) x3.toNat (a0 + 1) ((x3 + 1).toNat) ((iH h a0 5 - x3).toNat)) (a0 + 2) x3.toNat (a0 + 2) ((x3 + 1).toNat) ((iH h a0 5 - x3).toNat)) (a0 + 3) x3.toNat (a0 + 3) ((x3 + 1).toNat) ((iH h a0 5 - x3).toNat)) (a0 + 1) x3.toNat x1) (a0 + 2) x3.toNat 0) (a0 + 3) x3.toNat 0) a0 5 + 1) ∧ (iH (sI (sI (sI (cpI (cpI (cpI h (a0 + 1) x3.toNat (a0 + 1) ((x3 + 1).toNat) ((iH h a0 5 - x3).toNat)) (a0 + 2) x3.toNat (a0 + 2) ((x3 + 1).toNat) ((iH h a0 5 - x3).toNat)) (a0 + 3) x3.toNat (a0 + 3) ((x3 + 1).toNat) ((iH h a0 5 - x3).toNat)) (a0 + 1) x3.toNat x1) (a0 + 2) x3.toNat 0) (a0 + 3) x3.toNat 0) a0 5 + 1) < 2147483648) ∧ wp mX7_notePosting 1 rc rs Q 114 [some (vr a0), none, some (vi x2), some (vi x3), none] [] (sI (sI (sI (sI (cpI (cpI (cpI h (a0 + 1) x3.toNat (a0 + 1) ((x3 + 1).toNat) ((iH h a0 5 - x3).toNat)) (a0 + 2) x3.toNat (a0 + 2) ((x3 + 1).toNat) ((iH h a0 5 - x3).toNat)) (a0 + 3) x3.toNat (a0 + 3) ((x3 + 1).toNat) ((iH h a0 5 - x3).toNat)) (a0 + 1) x3.toNat x1) (a0 + 2) x3.toNat 0) (a0 + 3) x3.toNat 0) a0 5 (iH (sI (sI (sI (cpI (cpI (cpI h (a0 + 1) x3.toNat (a0 + 1) ((x3 + 1).toNat) ((iH h a0 5 - x3).toNat)) (a0 + 2) x3.toNat (a0 + 2) ((x3 + 1).toNat) ((iH h a0 5 - x3).toNat)) (a0 + 3) x3.toNat (a0 + 3) ((x3 + 1).toNat) ((iH h a0 5 - x3).toNat)) (a0 + 1) x3.toNat x1) (a0 + 2) x3.toNat 0) (a0 + 3) x3.toNat 0) a0 5 + 1))) : wp mX7_notePosting 1 rc rs Q 24 [some (vr a0), some (vi x1), some (vi x2), some (vi x3), none] [] h :=
  (show wp mX7_notePosting 1 rc rs Q 24 [some (vr a0), some (vi x1), some (vi x2), some (vi x3), none] [] h from xcp k_X7_notePosting_24 s_X7_notePosting_46 (And.intro (sg_o hA0) (have c1 := hv.1; have v18 := hv.2; (And.intro c1 (And.intro rfl (And.intro (sg_o hA0) (Exists.intro (a0 + 1) (And.intro (sg_r2 hA0) (And.intro (sg_o hA0) (Exists.intro (a0 + 1) (And.intro (sg_r2 hA0) (have c2 := v18.1; have v17 := v18.2; (And.intro c2 (have c15 := v17.1; have v16 := v17.2; Exists.intro _ (Exists.intro _ (Exists.intro 13 (And.intro (sg_a2 hA0) (And.intro (sg_a2 hA0) (And.intro (Or.inl rfl) (And.intro c15 (And.intro (And.intro (Nat.le_of_ble_eq_true rfl) (Nat.le_of_ble_eq_true rfl)) (show wp mX7_notePosting 1 rc rs Q 49 [some (vr a0), some (vi x1), some (vi x2), some (vi x3), some (vi (iH h a0 5 - x3))] [] (cpI h (a0 + 1) x3.toNat (a0 + 1) ((x3 + 1).toNat) ((iH h a0 5 - x3).toNat)) from xcp k_X7_notePosting_49 s_X7_notePosting_63 (And.intro (sg_o hA0) (Exists.intro (a0 + 2) (And.intro (sg_r3 hA0) (And.intro (sg_o hA0) (Exists.intro (a0 + 2) (And.intro (sg_r3 hA0) (And.intro c2 (have c13 := v16.1; have v14 := v16.2; Exists.intro _ (Exists.intro _ (Exists.intro 13 (And.intro (sg_a3 hA0) (And.intro (sg_a3 hA0) (And.intro (Or.inl rfl) (And.intro c13 (And.intro (And.intro (Nat.le_of_ble_eq_true rfl) (Nat.le_of_ble_eq_true rfl)) (show wp mX7_notePosting 1 rc rs Q 66 [some (vr a0), some (vi x1), some (vi x2), some (vi x3), some (vi (iH h a0 5 - x3))] [] (cpI (cpI h (a0 + 1) x3.toNat (a0 + 1) ((x3 + 1).toNat) ((iH h a0 5 - x3).toNat)) (a0 + 2) x3.toNat (a0 + 2) ((x3 + 1).toNat) ((iH h a0 5 - x3).toNat)) from xcp k_X7_notePosting_66 s_X7_notePosting_80 (And.intro (sg_o hA0) (Exists.intro (a0 + 3) (And.intro (sg_r4 hA0) (And.intro (sg_o hA0) (Exists.intro (a0 + 3) (And.intro (sg_r4 hA0) (And.intro c2 (have c11 := v14.1; have v12 := v14.2; Exists.intro _ (Exists.intro _ (Exists.intro 13 (And.intro (sg_a4 hA0) (And.intro (sg_a4 hA0) (And.intro (Or.inl rfl) (And.intro c11 (And.intro (And.intro (Nat.le_of_ble_eq_true rfl) (Nat.le_of_ble_eq_true rfl)) (show wp mX7_notePosting 1 rc rs Q 83 [some (vr a0), some (vi x1), some (vi x2), some (vi x3), some (vi (iH h a0 5 - x3))] [] (cpI (cpI (cpI h (a0 + 1) x3.toNat (a0 + 1) ((x3 + 1).toNat) ((iH h a0 5 - x3).toNat)) (a0 + 2) x3.toNat (a0 + 2) ((x3 + 1).toNat) ((iH h a0 5 - x3).toNat)) (a0 + 3) x3.toNat (a0 + 3) ((x3 + 1).toNat) ((iH h a0 5 - x3).toNat)) from xB k_X7_notePosting_83 (And.intro (sg_o hA0) (Exists.intro (a0 + 1) (And.intro (sg_r2 hA0) (have c5 := v12.1; have v10 := v12.2; (And.intro (sdI (sg_a2 hA0) c5) (And.intro (sg_o hA0) (Exists.intro (a0 + 2) (And.intro (sg_r3 hA0) (And.intro (sdI (sg_a3 hA0) c5) (And.intro (sg_o hA0) (Exists.intro (a0 + 3) (And.intro (sg_r4 hA0) (And.intro (sdI (sg_a4 hA0) c5) (And.intro rfl (And.intro (sg_o hA0) (have c8 := v10.1; have v9 := v10.2; (And.intro c8 (And.intro (sg_o hA0) (w_fg [true, false, true, true, false] v9)))))))))))))))))))))))))))))))))))))))))))))))))))))))))))))))))))))))))
theorem t_X7_notePosting_114 {rc rs : Nat} {Q : Option AV → AH → Prop} {h : AH} {a0 n0 r0 : Nat} {x2 x3 : Int} (hL : LayL h) (hA0 : iSg h a0 n0 r0) (hv : (0 ≤ x3 ∧ x3 < r0) ∧ (-2147483648 ≤ (iH h (a0 + 2) x3.toNat + 1) ∧ (iH h (a0 + 2) x3.toNat + 1) < 2147483648) ∧ (-2147483648 ≤ (iH (sI h (a0 + 2) x3.toNat (iH h (a0 + 2) x3.toNat + 1)) (a0 + 3) x3.toNat + x2) ∧ (iH (sI h (a0 + 2) x3.toNat (iH h (a0 + 2) x3.toNat + 1)) (a0 + 3) x3.toNat + x2) < 2147483648) ∧ (-2147483648 ≤ (iH (sI (sI h (a0 + 2) x3.toNat (iH h (a0 + 2) x3.toNat + 1)) (a0 + 3) x3.toNat (iH (sI h (a0 + 2) x3.toNat (iH h (a0 + 2) x3.toNat + 1)) (a0 + 3) x3.toNat + x2)) a0 6 + 1) ∧ (iH (sI (sI h (a0 + 2) x3.toNat (iH h (a0 + 2) x3.toNat + 1)) (a0 + 3) x3.toNat (iH (sI h (a0 + 2) x3.toNat (iH h (a0 + 2) x3.toNat + 1)) (a0 + 3) x3.toNat + x2)) a0 6 + 1) < 2147483648) ∧ Q none (sI (sI (sI h (a0 + 2) x3.toNat (iH h (a0 + 2) x3.toNat + 1)) (a0 + 3) x3.toNat (iH (sI h (a0 + 2) x3.toNat (iH h (a0 + 2) x3.toNat + 1)) (a0 + 3) x3.toNat + x2)) a0 6 (iH (sI (sI h (a0 + 2) x3.toNat (iH h (a0 + 2) x3.toNat + 1)) (a0 + 3) x3.toNat (iH (sI h (a0 + 2) x3.toNat (iH h (a0 + 2) x3.toNat + 1)) (a0 + 3) x3.toNat + x2)) a0 6 + 1))) : wp mX7_notePosting 1 rc rs Q 114 [some (vr a0), none, some (vi x2), some (vi x3), none] [] h :=
  (show wp mX7_notePosting 1 rc rs Q 114 [some (vr a0), none, some (vi x2), some (vi x3), none] [] h from xV k_X7_notePosting_114 (And.intro (sg_o hA0) (Exists.intro (a0 + 2) (And.intro (sg_r3 hA0) (And.intro rfl (And.intro rfl (have c1 := hv.1; have v11 := hv.2; (And.intro (sdI (sg_a3 hA0) c1) (have c2 := v11.1; have v10 := v11.2; (And.intro c2 (And.intro (sdI (sg_a3 hA0) c1) (And.intro (sg_o hA0) (Exists.intro (a0 + 3) (And.intro (sg_r4 hA0) (And.intro rfl (And.intro rfl (And.intro (sdI (sg_a4 hA0) c1) (have c5 := v10.1; have v9 := v10.2; (And.intro c5 (And.intro (sdI (sg_a4 hA0) c1) (And.intro rfl (And.intro (sg_o hA0) (have c7 := v9.1; have v8 := v9.2; (And.intro c7 (And.intro (sg_o hA0) (And.intro rfl v8))))))))))))))))))))))))))
theorem l_hb {h : AH} (hL : LayL h) {a : Nat} {x : Int} (hv : (∃ n, iD h a n ∧ x < (n : Int)) ∧ 0 ≤ x) : Ct 0 0 0 mX0_hasBefore [vr a, vi x] h (QI fun y h' => y = b01 (wdB (iH h (a + 1)) x.toNat (iH h (a + 1) x.toNat)) ∧ h' = h) := by
  obtain ⟨⟨n, hD, h1⟩, h0⟩ := hv
  obtain ⟨j, rfl⟩ := Int.eq_ofNat_of_zero_le h0
  exact l_hasBefore hL hD (by omega)
/-- a segment's dictionary alone changes -/
def sgR (a : Nat) (h h' : AH) : Prop := nH h' = nH h ∧ (∀ x, kH h' x = kH h x) ∧ (∀ x k, rH h' x k = rH h x k) ∧ (∀ x k, jH h' x k = jH h x k) ∧ ∀ x k, x ≠ a + 1 → x ≠ a + 2 → x ≠ a + 3 → (x = a → k ≠ 5 ∧ k ≠ 6) → iH h' x k = iH h x k
theorem sgR_rf {a : Nat} {h : AH} : sgR a h h := ⟨rfl, fun _ => rfl, fun _ _ => rfl, fun _ _ => rfl, fun _ _ _ _ _ _ => rfl⟩
theorem sgR_tr {a : Nat} {h h1 h2 : AH} (e : sgR a h h1) (f : sgR a h1 h2) : sgR a h h2 := ⟨by rw [f.1, e.1], fun x => by rw [f.2.1, e.2.1], fun x k => by rw [f.2.2.1, e.2.2.1], fun x k => by rw [f.2.2.2.1, e.2.2.2.1], fun x k q1 q2 q3 q4 => by rw [f.2.2.2.2 x k q1 q2 q3 q4, e.2.2.2.2 x k q1 q2 q3 q4]⟩
theorem sgR_L {a : Nat} {h h' : AH} (e : sgR a h h') (hL : LayL h) : LayL h' := ⟨fun q hq => by rw [e.1, e.2.1]; exact hL.1 q hq, fun q hq => by rw [e.2.2.1]; exact hL.2 q hq⟩
theorem sgR_D {a b n : Nat} {h h' : AH} (e : sgR a h h') (hD : iD h b n) : iD h' b n := by
  unfold iD; rw [e.1, e.2.1, e.2.1, e.2.2.1]; exact hD
theorem sgR_S {a b n r : Nat} {h h' : AH} (e : sgR a h h') (hS : iSg h b n r) : iSg h' b n r := by
  unfold iSg; simp only [e.1, e.2.1, e.2.2.1]; exact hS
def dD (h : AH) (a c : Nat) (M : Int → Prop) (cp sp : Int → Int) : Prop := iH h a 5 = (c : Int) ∧ (∀ i j : Nat, i < j → j < c → iH h (a + 1) i < iH h (a + 1) j) ∧ (∀ j : Nat, j < c → M (iH h (a + 1) j) ∧ iH h (a + 2) j = cp (iH h (a + 1) j) ∧ iH h (a + 3) j = sp (iH h (a + 1) j)) ∧ (∀ w, M w → ∃ j : Nat, j < c ∧ iH h (a + 1) j = w) ∧ iH h a 6 = sumN (fun j => iH h (a + 2) j) c
theorem sumN_bump {f g : Nat → Int} {p : Nat} (hg : ∀ j, g j = if j = p then f p + 1 else f j) : ∀ {c : Nat}, p < c → sumN g c = sumN f c + 1 := by
  have low : ∀ c, c ≤ p → sumN g c = sumN f c := by
    intro c
    induction c with
    | zero => intro _; rfl
    | succ c ih =>
      intro hc
      show sumN g c + g c = sumN f c + f c
      rw [ih (by omega), hg, if_neg (by omega)]
  intro c
  induction c with
  | zero => intro h; omega
  | succ c ih =>
    intro hc
    show sumN g c + g c = sumN f c + f c + 1
    by_cases e : c = p
    · subst e; rw [low c (by omega), hg, if_pos rfl]; omega
    · rw [ih (by omega), hg, if_neg e]; omega
theorem l_note2 {h : AH} (hL : LayL h) {a n r c p : Nat} {w : Int} {pl : Nat} {M : Int → Prop} {cp sp : Int → Int} {rc rs : Nat} {Q : Option AV → AH → Prop} (hS : iSg h a n r) (hD : dD h a c M cp sp) (hp : p < c ∧ iH h (a + 1) p = w) (hcr : c ≤ r) (b1 : 0 ≤ cp w ∧ cp w ≤ 1000) (b2 : 0 ≤ sp w ∧ sp w ≤ 100000) (b3 : 0 ≤ iH h a 6 ∧ iH h a 6 ≤ 100000) (b4 : pl ≤ 1000) (k : ∀ h', sgR a h h' → dD h' a c M (fun v => cp v + b01 (v = w)) (fun v => sp v + b01 (v = w) * (pl : Int)) → iH h' a 6 = iH h a 6 + 1 → Q none h') : wp mX7_notePosting 1 rc rs Q 114 [some (vr a), none, some (vi pl), some (vi p), none] [] h := by
  obtain ⟨d1, d2, d3, d4, d5⟩ := hD
  obtain ⟨hp1, hp2⟩ := hp
  have dp := d3 p hp1
  rw [hp2] at dp
  obtain ⟨-, dp1, dp2⟩ := dp
  refine t_X7_notePosting_114 hL hS ?_
  have e1 : ∀ v, iH (sI h (a + 2) p v) (a + 3) p = iH h (a + 3) p := fun v => rI_ne (by omega)
  have e2 : ∀ v u, iH (sI (sI h (a + 2) p v) (a + 3) p u) a 6 = iH h a 6 := fun v u => by rw [rI_ne (by omega), rI_ne (by omega)]
  simp only [Int.toNat_natCast, e1, e2]
  refine ⟨by omega, by omega, by omega, by omega, ?_⟩
  obtain ⟨H, hH⟩ : ∃ H, H = sI (sI (sI h (a + 2) p (iH h (a + 2) p + 1)) (a + 3) p (iH h (a + 3) p + pl)) a 6 (iH h a 6 + 1) := ⟨_, rfl⟩
  rw [← hH]
  have g1 : ∀ j, iH H (a + 1) j = iH h (a + 1) j := fun j => by rw [hH, rI_ne (by omega), rI_ne (by omega), rI_ne (by omega)]
  have g2 : ∀ j, iH H (a + 2) j = if j = p then iH h (a + 2) p + 1 else iH h (a + 2) j := fun j => by rw [hH, rI_ne (by omega), rI_ne (by omega), rI_if]
  have g3 : ∀ j, iH H (a + 3) j = if j = p then iH h (a + 3) p + pl else iH h (a + 3) j := fun j => by rw [hH, rI_ne (by omega), rI_if, rI_ne (by omega)]
  have g5 : iH H a 5 = iH h a 5 := by rw [hH, rI_nk (by omega), rI_ne (by omega), rI_ne (by omega)]
  have g6 : iH H a 6 = iH h a 6 + 1 := by rw [hH, rI_same]
  refine k H ?_ ?_ g6
  · rw [hH]
    refine ⟨rfl, fun _ => rfl, fun _ _ => rfl, fun _ _ => rfl, fun x k q1 q2 q3 q4 => ?_⟩
    by_cases e : x = a
    · subst e
      rw [rI_nk (q4 rfl).2, rI_ne (by omega), rI_ne (by omega)]
    · rw [rI_ne e, rI_ne q3, rI_ne q2]
  · refine ⟨by rw [g5, d1], fun i j q1 q2 => by rw [g1, g1]; exact d2 i j q1 q2, fun j hj => ?_, fun v hv => ?_, ?_⟩
    · rw [g1, g2, g3]
      have dj := d3 j hj
      by_cases e : j = p
      · subst e
        rw [if_pos rfl, if_pos rfl, hp2]
        dsimp only
        rw [b01_t rfl, dp1, dp2]
        rw [hp2] at dj
        exact ⟨dj.1, rfl, by rw [Int.one_mul]⟩
      · have : iH h (a + 1) j ≠ w := fun q => by
          rcases Nat.lt_or_ge j p with q1 | q1
          · have := d2 j p q1 hp1; omega
          · have := d2 p j (by omega) hj; omega
        rw [if_neg e, if_neg e]
        dsimp only
        rw [b01_f this, Int.zero_mul, Int.add_zero, Int.add_zero]
        exact dj
    · obtain ⟨j, q1, q2⟩ := d4 v hv
      exact ⟨j, q1, by rw [g1]; exact q2⟩
    · rw [g6, d5, sumN_bump g2 hp1]
def insN (f : Nat → Int) (p c : Nat) (v : Int) (j : Nat) : Int := if j = p then v else if p + 1 ≤ j ∧ j < p + 1 + (c - p) then f (p + (j - (p + 1))) else f j
theorem insN_lo {f : Nat → Int} {p c j : Nat} {v : Int} (q : j < p) : insN f p c v j = f j := by unfold insN; rw [if_neg (by omega), if_neg (by omega)]
theorem insN_at {f : Nat → Int} {p c : Nat} {v : Int} : insN f p c v p = v := if_pos rfl
theorem insN_hi {f : Nat → Int} {p c j : Nat} {v : Int} (q : p ≤ j) (q2 : j < c) : insN f p c v (j + 1) = f j := by unfold insN; rw [if_neg (by omega), if_pos (by omega), show p + (j + 1 - (p + 1)) = j by omega]
theorem insN_sum {f : Nat → Int} {p c : Nat} (hp : p ≤ c) : sumN (insN f p c 0) (c + 1) = sumN f c := by
  have low : ∀ m, m ≤ p → sumN (insN f p c 0) m = sumN f m := by
    intro m
    induction m with
    | zero => intro _; rfl
    | succ m ih =>
      intro hm
      show sumN (insN f p c 0) m + insN f p c 0 m = sumN f m + f m
      rw [ih (by omega), insN_lo (by omega)]
  have up2 : ∀ m, p ≤ m → m ≤ c → sumN (insN f p c 0) (m + 1) = sumN f m := by
    intro m
    induction m with
    | zero =>
      intro h1 _
      obtain rfl : p = 0 := by omega
      show sumN (insN f 0 c 0) 0 + insN f 0 c 0 0 = _
      rw [insN_at]; rfl
    | succ m ih =>
      intro h1 h2
      show sumN (insN f p c 0) (m + 1) + insN f p c 0 (m + 1) = sumN f m + f m
      by_cases e : p = m + 1
      · rw [low (m + 1) (by omega), ← e, insN_at, e]
        show sumN f m + f m + 0 = _
        omega
      · rw [ih (by omega) (by omega), insN_hi (by omega) (by omega)]
  exact up2 c hp (Nat.le_refl c)
section
variable {h : AH} {a b i j n : Nat}
theorem cp_same {k : Nat} : iH (cpI h b i b j n) b k = if j ≤ k ∧ k < j + n then iH h b (i + (k - j)) else iH h b k := rW_same
theorem cp_ne {x k : Nat} (e : x ≠ b) : iH (cpI h a i b j n) x k = iH h x k := rW_ne e
end
theorem l_note1 {h : AH} (hL : LayL h) {a n r c p : Nat} {w : Int} {pl : Nat} {M : Int → Prop} {cp sp : Int → Int} {rc rs : Nat} {Q : Option AV → AH → Prop} (hS : iSg h a n r) (hD : dD h a c M cp sp) (hp : p ≤ c ∧ (∀ j : Nat, j < p → iH h (a + 1) j < w) ∧ ∀ j : Nat, p ≤ j → j < c → w < iH h (a + 1) j) (hcr : c < r) (hw : ¬ M w) (b1 : cp w = 0 ∧ sp w = 0) (k : ∀ h', sgR a h h' → dD h' a (c + 1) (fun v => M v ∨ v = w) cp sp → iH h' (a + 1) p = w → iH h' a 6 = iH h a 6 → wp mX7_notePosting 1 rc rs Q 114 [some (vr a), none, some (vi pl), some (vi p), none] [] h') : wp mX7_notePosting 1 rc rs Q 24 [some (vr a), some (vi w), some (vi pl), some (vi p), none] [] h := by
  obtain ⟨d1, d2, d3, d4, d5⟩ := hD
  obtain ⟨hp1, hp2, hp3⟩ := hp
  have hr := hS.2.2.2.2.2
  refine t_X7_notePosting_24 hL hS ?_
  rw [d1, show (c : Int) - (p : Int) = ((c - p : Nat) : Int) by omega, show (p : Int) + 1 = ((p + 1 : Nat) : Int) by omega]
  simp only [Int.toNat_natCast]
  have e5 : ∀ u v x, iH (sI (sI (sI (cpI (cpI (cpI h (a + 1) p (a + 1) (p + 1) (c - p)) (a + 2) p (a + 2) (p + 1) (c - p)) (a + 3) p (a + 3) (p + 1) (c - p)) (a + 1) p u) (a + 2) p v) (a + 3) p x) a 5 = (c : Int) := fun u v x => by rw [rI_ne (by omega), rI_ne (by omega), rI_ne (by omega), cp_ne (by omega), cp_ne (by omega), cp_ne (by omega), d1]
  rw [e5]
  refine ⟨by omega, by omega, by omega, by omega, by omega, by omega, by omega, ?_⟩
  obtain ⟨H, hH⟩ : ∃ H, H = sI (sI (sI (sI (cpI (cpI (cpI h (a + 1) p (a + 1) (p + 1) (c - p)) (a + 2) p (a + 2) (p + 1) (c - p)) (a + 3) p (a + 3) (p + 1) (c - p)) (a + 1) p w) (a + 2) p 0) (a + 3) p 0) a 5 ((c : Int) + 1) := ⟨_, rfl⟩
  rw [← hH]
  have g1 : ∀ j, iH H (a + 1) j = insN (iH h (a + 1)) p c w j := fun j => by rw [hH, rI_ne (by omega), rI_ne (by omega), rI_ne (by omega), rI_if, cp_ne (by omega), cp_ne (by omega), cp_same]; rfl
  have g2 : ∀ j, iH H (a + 2) j = insN (iH h (a + 2)) p c 0 j := fun j => by rw [hH, rI_ne (by omega), rI_ne (by omega), rI_if, rI_ne (by omega), cp_ne (by omega), cp_same, cp_ne (by omega), cp_ne (by omega)]; rfl
  have g3 : ∀ j, iH H (a + 3) j = insN (iH h (a + 3)) p c 0 j := fun j => by rw [hH, rI_ne (by omega), rI_if, rI_ne (by omega), rI_ne (by omega), cp_same, cp_ne (by omega), cp_ne (by omega), cp_ne (by omega), cp_ne (by omega)]; rfl
  have g5 : iH H a 5 = ((c + 1 : Nat) : Int) := by rw [hH, rI_same]; omega
  have g6 : iH H a 6 = iH h a 6 := by rw [hH, rI_nk (by omega), rI_ne (by omega), rI_ne (by omega), rI_ne (by omega), cp_ne (by omega), cp_ne (by omega), cp_ne (by omega)]
  have cut : ∀ j, j < c + 1 → (j < p ∨ j = p ∨ ∃ i, j = i + 1 ∧ p ≤ i ∧ i < c) := fun j hj => by
    rcases Nat.lt_trichotomy j p with q | q | q
    · exact Or.inl q
    · exact Or.inr (Or.inl q)
    · exact Or.inr (Or.inr ⟨j - 1, by omega, by omega, by omega⟩)
  refine k H ?_ ⟨g5, fun i j q1 q2 => ?_, fun j hj => ?_, fun v hv => ?_, ?_⟩ (by rw [g1, insN_at]) g6
  · rw [hH]
    refine ⟨rfl, fun _ => rfl, fun _ _ => rfl, fun _ _ => rfl, fun x k q1 q2 q3 q4 => ?_⟩
    by_cases e : x = a
    · subst e
      rw [rI_nk (q4 rfl).1, rI_ne (by omega), rI_ne (by omega), rI_ne (by omega), cp_ne (by omega), cp_ne (by omega), cp_ne (by omega)]
    · rw [rI_ne e, rI_ne q3, rI_ne q2, rI_ne q1, cp_ne q3, cp_ne q2, cp_ne q1]
  · rw [g1, g1]
    rcases cut i (by omega) with u | rfl | ⟨i, rfl, u1, u2⟩
    · rw [insN_lo u]
      rcases cut j q2 with u3 | rfl | ⟨j, rfl, u3, u4⟩
      · rw [insN_lo u3]; exact d2 i j q1 (by omega)
      · rw [insN_at]; exact hp2 i u
      · rw [insN_hi u3 u4]; exact d2 i j (by omega) u4
    · rw [insN_at]
      rcases cut j q2 with u3 | u3 | ⟨j, rfl, u3, u4⟩
      · omega
      · omega
      · rw [insN_hi u3 u4]; exact hp3 j u3 u4
    · rw [insN_hi u1 u2]
      rcases cut j q2 with u3 | u3 | ⟨j, rfl, u3, u4⟩
      · omega
      · omega
      · rw [insN_hi u3 u4]; exact d2 i j (by omega) u4
  · rw [g1, g2, g3]
    rcases cut j hj with u | rfl | ⟨j, rfl, u1, u2⟩
    · rw [insN_lo u, insN_lo u, insN_lo u]
      have := d3 j (by omega)
      exact ⟨Or.inl this.1, this.2⟩
    · rw [insN_at, insN_at, insN_at]
      exact ⟨Or.inr rfl, b1.1.symm, b1.2.symm⟩
    · rw [insN_hi u1 u2, insN_hi u1 u2, insN_hi u1 u2]
      have := d3 j (by omega)
      exact ⟨Or.inl this.1, this.2⟩
  · rcases hv with hv | rfl
    · obtain ⟨j, q1, q2⟩ := d4 v hv
      rcases Nat.lt_or_ge j p with q | q
      · exact ⟨j, by omega, by rw [g1, insN_lo q]; exact q2⟩
      · exact ⟨j + 1, by omega, by rw [g1, insN_hi q q1]; exact q2⟩
    · exact ⟨p, by omega, by rw [g1, insN_at]⟩
  · rw [g6, d5, ← insN_sum hp1]
    exact congrArg (fun f => sumN f (c + 1)) (funext fun j => (g2 j).symm)
theorem l_notePosting {h : AH} (hL : LayL h) {a n r c : Nat} {w : Int} {pl : Nat} {M : Int → Prop} {cp sp : Int → Int} (hS : iSg h a n r) (hD : dD h a c M cp sp) (hcr : c < r) (hM : ¬ M w → cp w = 0 ∧ sp w = 0) (b1 : 0 ≤ cp w ∧ cp w ≤ 1000) (b2 : 0 ≤ sp w ∧ sp w ≤ 100000) (b3 : 0 ≤ iH h a 6 ∧ iH h a 6 ≤ 100000) (b4 : pl ≤ 1000) : Ct 1 0 0 mX7_notePosting [vr a, vi w, vi pl] h (QV fun h' => sgR a h h' ∧ (∃ c' : Nat, c' ≤ c + 1 ∧ dD h' a c' (fun v => M v ∨ v = w) (fun v => cp v + b01 (v = w)) (fun v => sp v + b01 (v = w) * (pl : Int))) ∧ iH h' a 6 = iH h a 6 + 1) := by
  obtain ⟨d1, d2, d3, d4, d5⟩ := hD
  have hD : dD h a c M cp sp := ⟨d1, d2, d3, d4, d5⟩
  have hP : fnbP h a := ⟨n, r, c, hS, d1, by omega, d2⟩
  obtain ⟨p, hp, q1, q2, q3⟩ : fnbQ h a w (fnb h a w) := by
    have ex : ∀ m : Nat, m ≤ c → ∃ p : Nat, p ≤ m ∧ (∀ j : Nat, j < p → iH h (a + 1) j < w) ∧ ∀ j : Nat, p ≤ j → j < m → w ≤ iH h (a + 1) j := fnb_ex d2
    obtain ⟨p, q1, q2, q3⟩ := ex c (Nat.le_refl _)
    have hc2 : (iH h a 5).toNat = c := by omega
    have : fnbQ h a w (p : Int) := ⟨p, rfl, by omega, q2, by rw [hc2]; exact q3⟩
    rw [fnb_e this]; exact this
  have hc2 : (iH h a 5).toNat = c := by omega
  rw [hc2] at q1 q3
  have ins : ¬ (p < c ∧ iH h (a + 1) p = w) → wp mX7_notePosting 1 0 0 (QV fun h' => sgR a h h' ∧ (∃ c' : Nat, c' ≤ c + 1 ∧ dD h' a c' (fun v => M v ∨ v = w) (fun v => cp v + b01 (v = w)) (fun v => sp v + b01 (v = w) * (pl : Int))) ∧ iH h' a 6 = iH h a 6 + 1) 24 [some (vr a), some (vi w), some (vi pl), some (vi p), none] [] h := by
    intro hn
    have hno : ¬ M w := by
      intro hm
      obtain ⟨j, u1, u2⟩ := d4 w hm
      by_cases e : j < p
      · have := q2 j e; omega
      · have u3 := q3 p (Nat.le_refl _) (by omega)
        by_cases e2 : p = j
        · exact hn ⟨by omega, by rw [e2]; exact u2⟩
        · have := d2 p j (by omega) u1; omega
    refine l_note1 hL hS hD ⟨q1, q2, fun j u1 u2 => ?_⟩ hcr hno (hM hno) fun h1 k1 k2 k3 k4 => ?_
    · have := q3 j u1 u2
      by_cases e : iH h (a + 1) j = w
      · by_cases e2 : p = j
        · exact absurd ⟨by omega, by rw [e2]; exact e⟩ hn
        · have := d2 p j (by omega) u2
          have := q3 p (Nat.le_refl _) (by omega)
          omega
      · omega
    · refine l_note2 (sgR_L k1 hL) (sgR_S k1 hS) k2 ⟨by omega, k3⟩ (by omega) b1 b2 (by omega) b4 fun h2 m1 m2 m3 => ?_
      exact ⟨rfl, sgR_tr k1 m1, ⟨c + 1, Nat.le_refl _, m2⟩, by omega⟩
  refine e_X7_notePosting hL hS ?_
  rw [hp, d1]
  simp only [Int.toNat_natCast]
  refine ⟨hP, fun e => ins (by omega), fun e => ⟨by omega, fun e2 => ?_, fun e2 => ins fun q => e2 q.2⟩⟩
  refine l_note2 hL hS hD ⟨by omega, e2⟩ (by omega) b1 b2 b3 b4 fun h1 m1 m2 m3 => ?_
  refine ⟨rfl, m1, ⟨c, by omega, ?_⟩, m3⟩
  have hm : M w := by rw [← e2]; exact (d3 p (by omega)).1
  have : (fun v => M v ∨ v = w) = M := by
    funext v
    refine propext ⟨fun q => ?_, Or.inl⟩
    rcases q with q | rfl
    · exact q
    · exact hm
  rw [this]
  exact m2
