/-! THE INDEX: CRASH, THE CLASS'S SIDE -/
def b_X11_crash_0 : List IE := [(.aload_n 0, 1, 0, 0, 0, 0), (.getfield 25, 3, 0, 11, 3, 1), (.aload_n 0, 1, 0, 0, 0, 0), (.getfield 32, 3, 0, 11, 5, 1)]
theorem k_X11_crash_0 : ckB mX11_crash 11 0 b_X11_crash_0 8 = true := by decide +kernel
def b_X11_crash_11 : List IE := [(.aload_n 0, 1, 0, 0, 0, 0), (.iconst 0, 1, 0, 0, 0, 0), (.putfield 122, 3, 0, 11, 2, 0), (.aload_n 0, 1, 0, 0, 0, 0), (.getfield 29, 3, 0, 11, 4, 1), (.iconst 0, 1, 0, 0, 0, 0), (.putfield 102, 3, 0, 9, 3, 2), (.aload_n 0, 1, 0, 0, 0, 0), (.getfield 52, 3, 0, 11, 10, 1), (.iconst 0, 1, 0, 0, 0, 0), (.putfield 251, 3, 0, 3, 0, 2), (.iconst 0, 1, 0, 0, 0, 0), (.istore_n 1, 1, 0, 0, 1, 0)]
theorem k_X11_crash_11 : ckB mX11_crash 11 11 b_X11_crash_11 34 = true := by decide +kernel
def b_X11_crash_34 : List IE := [(.iload_n 1, 1, 0, 0, 1, 0), (.iconst 4, 1, 4, 0, 0, 0)]
theorem k_X11_crash_34 : ckIc mX11_crash 11 34 b_X11_crash_34 36 3 19 55 39 = true := by decide +kernel
def b_X11_crash_39 : List IE := [(.aload_n 0, 1, 0, 0, 0, 0), (.getfield 35, 3, 0, 11, 6, 1), (.iload_n 1, 1, 0, 0, 1, 0), (.aaload, 1, 0, 0, 0, 0), (.iconst 0, 1, 0, 0, 0, 0), (.putfield 102, 3, 0, 9, 3, 2), (.iinc 1 1, 3, 1, 0, 1, 0)]
theorem k_X11_crash_39 : ckGo mX11_crash 11 39 b_X11_crash_39 52 (-18) 34 = true := by decide +kernel
def b_X11_crash_55 : List IE := [(.aload_n 0, 1, 0, 0, 0, 0), (.getfield 25, 3, 0, 11, 3, 1), (.getfield 153, 3, 0, 9, 2, 0)]
theorem k_X11_crash_55 : ckI mX11_crash 11 55 b_X11_crash_55 62 = true := by decide +kernel
theorem s_X11_crash_8 : cV mX11_crash 8 mX9_become 281 1 9 := ⟨by decide +kernel, ⟨ml_X9_become, li_RX11_281, im_X9_become, se_X9_become⟩, ⟨by decide +kernel, by decide +kernel⟩, by decide +kernel⟩
theorem t_X11_crash_0 {rc rs : Nat} {Q : Option AV → AH → Prop} {h : AH}  (hL : LayL h) (hv : (∃ P3 : AH → Prop, Ct 0 0 0 mX9_become [vr 5, vr 11] h (QV P3) ∧ ∀ h1 : AH, P3 h1 → LayL h1 ∧ wp mX11_crash 1 rc rs Q 34 [some (vr 0), some (vi 0)] [] (sI (sI (sI h1 0 2 0) 8 3 0) 17 0 0))) : wp mX11_crash 1 rc rs Q 0 [some (vr 0), none] [] h :=
  (show wp mX11_crash 1 rc rs Q 0 [some (vr 0), none] [] h from xcV k_X11_crash_0 s_X11_crash_8 (And.intro (ll_0 hL) (Exists.intro 5 (And.intro (lg_0_3 hL) (And.intro (ll_0 hL) (Exists.intro 11 (And.intro (lg_0_5 hL) (Exists.elim hv (fun P3 v4 => (Exists.intro [vr 11] (Exists.intro 5 (Exists.intro [] (And.intro (And.intro rfl (And.intro rfl (Nat.le_of_ble_eq_true rfl))) (And.intro (ll_5 hL) (Exists.intro 0 (Exists.intro 0 (Exists.intro 0 (Exists.intro (QV P3) (And.intro v4.1 (And.intro (And.intro (by decide) (And.intro (Nat.zero_le _) (Nat.zero_le _))) (eQV (fun h1 e6 => have v5 := v4.2 h1 e6; have hL := v5.1; have v5 := v5.2; (show wp mX11_crash 1 rc rs Q 11 [some (vr 0), none] [] h1 from xB k_X11_crash_11 (And.intro (ll_0 hL) (And.intro (ll_0 hL) (Exists.intro 8 (And.intro (lg_0_4 hL) (And.intro (ll_8 hL) (And.intro (Or.inl rfl) (And.intro (ll_0 hL) (Exists.intro 17 (And.intro (lg_0_10 hL) (And.intro (ll_17 hL) (And.intro (Or.inl rfl) (And.intro rfl v5)))))))))))))))))))))))))))))))))))
theorem e_X11_crash {mc ms : Nat} {Q : Option AV → AH → Prop} {h : AH}  (hL : LayL h) (hv : (∃ P3 : AH → Prop, Ct 0 0 0 mX9_become [vr 5, vr 11] h (QV P3) ∧ ∀ h1 : AH, P3 h1 → LayL h1 ∧ wp mX11_crash 1 mc ms Q 34 [some (vr 0), some (vi 0)] [] (sI (sI (sI h1 0 2 0) 8 3 0) 17 0 0))) : Ct 1 mc ms mX11_crash [vr 0] h Q := Ct.of (by decide +kernel) (Nat.le_of_ble_eq_true rfl) (t_X11_crash_0 hL hv)
theorem t_X11_crash_34 {rc rs : Nat} {Q : Option AV → AH → Prop} {h : AH} {x1 : Int} (hL : LayL h) (hv : ((4 ≤ x1 → Q (some (vi (iH h 5 2))) h) ∧ (x1 < 4 → (0 ≤ x1 ∧ x1 < 4) ∧ (-2147483648 ≤ (x1 + 1) ∧ (x1 + 1) < 2147483648) ∧ wp mX11_crash 1 rc rs Q 34 [some (vr 0), some (vi (x1 + 1))] [] (sI h (33 + 3 * x1.toNat) 3 0)))) : wp mX11_crash 1 rc rs Q 34 [some (vr 0), some (vi x1)] [] h :=
  (show wp mX11_crash 1 rc rs Q 34 [some (vr 0), some (vi x1)] [] h from xIc k_X11_crash_34 (And.intro (fun c1 => have v3 := hv.1 c1; (show wp mX11_crash 1 rc rs Q 55 [some (vr 0), some (vi x1)] [] h from xI k_X11_crash_55 (And.intro (ll_0 hL) (Exists.intro 5 (And.intro (lg_0_3 hL) (And.intro (ll_5 hL) (And.intro rfl v3))))))) (fun c2 => have v4 := hv.2 (Int.not_le.mp c2); (show wp mX11_crash 1 rc rs Q 39 [some (vr 0), some (vi x1)] [] h from xGo k_X11_crash_39 (And.intro (ll_0 hL) (Exists.intro 14 (And.intro (lg_0_6 hL) (have c5 := v4.1; have v8 := v4.2; (And.intro (sdQ (ll_14 hL) c5) (Exists.intro (33 + 3 * x1.toNat) (And.intro (tb_vw hL (tnl c5)) (And.intro (st_o hL (ti_vw (tnl c5))) (And.intro (Or.inl rfl) (have c6 := v8.1; have v7 := v8.2; (And.intro c6 (And.intro rfl v7))))))))))))))))
/-- the first j views are shut -/
def crL (A : AH) : Nat → AH
  | 0 => A
  | j + 1 => sI (crL A j) (33 + 3 * j) 3 0
theorem crL_f {A : AH} : ∀ j : Nat, nH (crL A j) = nH A ∧ (∀ x, kH (crL A j) x = kH A x) ∧ (∀ x k, jH (crL A j) x k = jH A x k) ∧ (∀ x k, rH (crL A j) x k = rH A x k) ∧ (∀ x k, (k ≠ 3 ∨ ∀ t, t < j → x ≠ 33 + 3 * t) → iH (crL A j) x k = iH A x k) ∧ ∀ t, t < j → iH (crL A j) (33 + 3 * t) 3 = 0
  | 0 => ⟨rfl, fun _ => rfl, fun _ _ => rfl, fun _ _ => rfl, fun _ _ _ => rfl, fun t ht => by omega⟩
  | j + 1 => by
    obtain ⟨a1, a2, a3, a4, a5, a6⟩ := crL_f (A := A) j
    refine ⟨a1, a2, a3, a4, fun x k q => ?_, fun t ht => ?_⟩
    · show iH (sI (crL A j) (33 + 3 * j) 3 0) x k = _
      have q2 : k ≠ 3 ∨ ∀ t, t < j → x ≠ 33 + 3 * t := q.elim Or.inl fun u => Or.inr fun t ht => u t (by omega)
      by_cases e : x = 33 + 3 * j
      · subst e
        rw [rI_nk (q.elim id fun u => absurd rfl (u j (by omega)))]
        exact a5 _ k q2
      · rw [rI_ne e]; exact a5 x k q2
    · show iH (sI (crL A j) (33 + 3 * j) 3 0) (33 + 3 * t) 3 = 0
      by_cases e : t = j
      · subst e; exact rI_same
      · rw [rI_ne (by omega)]; exact a6 t (by omega)
theorem crL_L {A : AH} (hL : LayL A) (j : Nat) : LayL (crL A j) := by
  obtain ⟨a1, a2, -, a4, -, -⟩ := crL_f (A := A) j
  exact ⟨fun q hq => by rw [a1, a2]; exact hL.1 q hq, fun q hq => by rw [a4]; exact hL.2 q hq⟩
/-- the class's heap behind a crash -/
def hCr (h : AH) (R : Nat → Option Nat) (J : Nat → Int64) : AH := crL (sI (sI (sI (hSt h 5 (iH h 11 2) R J) 0 2 0) 8 3 0) 17 0 0) 4
theorem l_crash {h g : AH} {da sa : Nat → Nat} (hL : LayL h) (hp : kHd h g da sa) : Ct 1 0 0 mX11_crash [vr 0] h (QI fun x h' => x = iH g 1138 5 ∧ LayL h' ∧ ∃ R J, h' = hCr h R J ∧ ∀ k : Nat, (k : Int) < iH h 11 2 → R k = rH h 12 k ∧ J k = jH h 13 k) := by
  obtain ⟨hc, hv, hf⟩ := hp
  have e11 : iH h 11 2 = iH g 1138 5 := (hv 5 (by omega)).1
  refine e_X11_crash hL ⟨_, l_become hL (Or.inl rfl) (iSt_av (t := 5) (by omega)) (by decide) hc.2.1 (hv 5 (by omega)), fun h1 hh => ?_⟩
  obtain ⟨R, J, rfl, hm⟩ := hh
  have L1 : LayL (hSt h 5 (iH h 11 2) R J) := LayL_hSt (Or.inl rfl) hL
  refine ⟨L1, ?_⟩
  have LA : LayL (sI (sI (sI (hSt h 5 (iH h 11 2) R J) 0 2 0) 8 3 0) 17 0 0) := L1
  refine up (P := fun j => wp mX11_crash 1 0 0 (QI fun x h' => x = iH g 1138 5 ∧ LayL h' ∧ ∃ R J, h' = hCr h R J ∧ ∀ k : Nat, (k : Int) < iH h 11 2 → R k = rH h 12 k ∧ J k = jH h 13 k) 34 [some (vr 0), some (vi j)] [] (crL (sI (sI (sI (hSt h 5 (iH h 11 2) R J) 0 2 0) 8 3 0) 17 0 0) j)) 4 ?_ ?_
  · refine t_X11_crash_34 (crL_L LA 4) ⟨fun _ => ⟨_, rfl, ?_, crL_L LA 4, R, J, rfl, hm⟩, fun c => absurd c (by omega)⟩
    rw [(crL_f 4).2.2.2.2.1 5 2 (Or.inl (by decide)), rI_ne (by decide), rI_ne (by decide), rI_ne (by decide), st_n]
    exact e11
  · intro j hj ih
    refine t_X11_crash_34 (crL_L LA j) ⟨fun c => absurd c (by omega), fun _ => ⟨by omega, by omega, ?_⟩⟩
    rw [Int.toNat_natCast, show (j : Int) + 1 = ((j + 1 : Nat) : Int) by omega]
    exact ih
