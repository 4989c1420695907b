/-! THE INDEX: DROP BY KEY, ADD -/
def b_X11_drop_0 : List IE := [(.iload_n 1, 1, 0, 0, 1, 0)]
theorem k_X11_drop_0 : ckB mX11_drop 11 0 b_X11_drop_0 1 = true := by decide +kernel
def b_X11_drop_4 : List IE := []
theorem k_X11_drop_4 : ckIf mX11_drop 11 4 b_X11_drop_4 4 0 11 15 7 = true := by decide +kernel
def b_X11_drop_7 : List IE := [(.aload_n 0, 1, 0, 0, 0, 0), (.iload_n 1, 1, 0, 0, 1, 0)]
theorem k_X11_drop_7 : ckB mX11_drop 11 7 b_X11_drop_7 9 = true := by decide +kernel
def b_X11_drop_12 : List IE := []
theorem k_X11_drop_12 : ckGo mX11_drop 11 12 b_X11_drop_12 12 5 17 = true := by decide +kernel
def b_X11_drop_15 : List IE := [(.bipush (-2), 2, (-2), 0, 0, 0)]
theorem k_X11_drop_15 : ckI mX11_drop 11 15 b_X11_drop_15 17 = true := by decide +kernel
def b_X11_drop_17 : List IE := []
theorem k_X11_drop_17 : ckI mX11_drop 11 17 b_X11_drop_17 17 = true := by decide +kernel
theorem s_X11_drop_1 : cS mX11_drop 1 mX11_isKey 119 1 := ⟨by decide +kernel, ⟨ml_X11_isKey, li_RX11_119, st_X11_isKey⟩, by decide +kernel⟩
theorem s_X11_drop_9 : cV mX11_drop 9 mX11_dropLive 133 1 11 := ⟨by decide +kernel, ⟨ml_X11_dropLive, li_RX11_133, im_X11_dropLive, se_X11_dropLive⟩, ⟨by decide +kernel, by decide +kernel⟩, by decide +kernel⟩
theorem t_X11_drop_0 {rc rs : Nat} {Q : Option AV → AH → Prop} {h : AH} {x1 : Int} (hL : LayL h) (hv : ((¬ (0 ≤ x1 ∧ x1 ≤ 99) → Q (some (vi (-2))) h) ∧ ((0 ≤ x1 ∧ x1 ≤ 99) → (∃ P7 : Int → AH → Prop, Ct 2 0 0 mX11_dropLive [vr 0, vi x1] h (QI P7) ∧ ∀ (r6 : Int) (h5 : AH), (-2147483648 ≤ r6 ∧ r6 < 2147483648) → P7 r6 h5 → LayL h5 ∧ Q (some (vi r6)) h5)))) : wp mX11_drop 3 rc rs Q 0 [some (vr 0), some (vi x1)] [] h :=
  (show wp mX11_drop 3 rc rs Q 0 [some (vr 0), some (vi x1)] [] h from xcS k_X11_drop_0 s_X11_drop_1 ((Exists.intro [vi x1] (Exists.intro [] (And.intro (And.intro rfl (And.intro rfl (Nat.le_of_ble_eq_true rfl))) (Exists.intro 0 (Exists.intro 0 (Exists.intro 0 (Exists.intro _ (And.intro l_isKey (And.intro (And.intro (by decide) (And.intro (Nat.zero_le _) (Nat.zero_le _))) (eQP (show wp mX11_drop 3 rc rs Q 4 [some (vr 0), some (vi x1)] [vi (b01 (0 ≤ x1 ∧ x1 ≤ 99))] h from xIf k_X11_drop_4 (And.intro (fun c1 => have v3 := hv.1 (b01_n.mp c1); (show wp mX11_drop 3 rc rs Q 15 [some (vr 0), some (vi x1)] [] h from xI k_X11_drop_15 (And.intro rfl v3))) (fun c2 => have v4 := hv.2 (b01_p.mp c2); (show wp mX11_drop 3 rc rs Q 7 [some (vr 0), some (vi x1)] [] h from xcV k_X11_drop_7 s_X11_drop_9 (Exists.elim v4 (fun P7 v8 => (Exists.intro [vi x1] (Exists.intro 0 (Exists.intro [] (And.intro (And.intro rfl (And.intro rfl (Nat.le_of_ble_eq_true rfl))) (And.intro (ll_0 hL) (Exists.intro 2 (Exists.intro 0 (Exists.intro 0 (Exists.intro (QI P7) (And.intro v8.1 (And.intro (And.intro (by decide) (And.intro (Nat.zero_le _) (Nat.zero_le _))) (eQI (fun r6 h5 q11 e10 => have v9 := v8.2 r6 h5 q11 e10; have hL := v9.1; have v9 := v9.2; (show wp mX11_drop 3 rc rs Q 12 [some (vr 0), some (vi x1)] [vi r6] h5 from xGo k_X11_drop_12 (show wp mX11_drop 3 rc rs Q 17 [some (vr 0), some (vi x1)] [vi r6] h5 from xI k_X11_drop_17 (And.intro rfl v9))))))))))))))))))))))))))))))))))
theorem e_X11_drop {mc ms : Nat} {Q : Option AV → AH → Prop} {h : AH} {x1 : Int} (hL : LayL h) (hv : ((¬ (0 ≤ x1 ∧ x1 ≤ 99) → Q (some (vi (-2))) h) ∧ ((0 ≤ x1 ∧ x1 ≤ 99) → (∃ P7 : Int → AH → Prop, Ct 2 0 0 mX11_dropLive [vr 0, vi x1] h (QI P7) ∧ ∀ (r6 : Int) (h5 : AH), (-2147483648 ≤ r6 ∧ r6 < 2147483648) → P7 r6 h5 → LayL h5 ∧ Q (some (vi r6)) h5)))) : Ct 3 mc ms mX11_drop [vr 0, vi x1] h Q := Ct.of (by decide +kernel) (Nat.le_of_ble_eq_true rfl) (t_X11_drop_0 hL hv)
def p_drop (g : AH) (key x : Int) (g' : AH) : Prop := (¬ (0 ≤ key ∧ key ≤ 99) ∧ x = -2 ∧ g' = g) ∨ ((0 ≤ key ∧ key ≤ 99) ∧ x = a_drop g key ∧ g' = m_drop g key)
theorem hDrop_rf {h : AH} : hDrop h h := ⟨rfl, fun _ => rfl, fun _ _ _ => rfl, fun _ _ _ => rfl, fun _ _ _ => rfl⟩
theorem l_drop {h g : AH} {da sa : Nat → Nat} (hL : LayL h) {key : Int} (hp : kSta h g da sa) (hb : kB h g da) : Ct 3 0 0 mX11_drop [vr 0, vi key] h (QI fun x h' => ∃ g', p_drop g key x g' ∧ LayL h' ∧ kSta h' g' da sa ∧ kB h' g' da ∧ hDrop h h') := by
  refine e_X11_drop hL ⟨fun c => ⟨_, rfl, g, Or.inl ⟨c, rfl, rfl⟩, hL, hp, hb, hDrop_rf⟩, fun c => ⟨_, l_dropLive hL hp hb, fun x h1 _ hx => ?_⟩⟩
  obtain ⟨rfl, x2, x3, x4, x5⟩ := hx
  exact ⟨x2, _, rfl, _, Or.inr ⟨c, rfl, rfl⟩, x2, x3, x4, x5⟩
theorem wf_pos {h : AH} {a b : Int} (hl : m_let h a b) (hab : a < b) : ∀ k : Nat, k < 6 → 1 ≤ m_wf h a b (k + 1) := by
  intro k
  induction k with
  | zero =>
    intro _
    have q := (hl.2.2 0 (by omega) (by omega)).1
    have e : m_wf h a b 0 = 0 := rfl
    show 1 ≤ 27 * m_wf h a b 0 + (if a + ((0 : Nat) : Int) < b then iH h 1139 (a + ((0 : Nat) : Int)).toNat - 96 else 0)
    rw [if_pos (by omega)]
    omega
  | succ k ih =>
    intro hk
    have i := ih (by omega)
    show 1 ≤ 27 * m_wf h a b (k + 1) + (if a + ((k + 1 : Nat) : Int) < b then iH h 1139 (a + ((k + 1 : Nat) : Int)).toNat - 96 else 0)
    by_cases c : a + ((k + 1 : Nat) : Int) < b
    · have q := (hl.2.2 (k + 1) hk c).1
      rw [if_pos c]; omega
    · rw [if_neg c]; omega
theorem d_word_bd {g : AH} (ht : 0 ≤ iH g 71 18 ∧ iH g 71 18 ≤ 64) {i : Nat} (hi : i < d_m g) : 0 < d_word g i ∧ d_word g i < 387420489 := by
  obtain ⟨-, -, hns⟩ := d_m_cs g
  have hs := hns i hi
  have hP := d_P_le g i
  have hl := d_word_let ht hP
  have hne : d_we g (d_P g i) ≠ d_P g i := fun q => hs (by unfold d_stop; exact Or.inr (Or.inl q))
  have hge : d_P g i ≤ d_we g (d_P g i) := run_ge _ _ _
  have h1 : 1 ≤ m_wf g (d_P g i) (d_we g (d_P g i)) 6 := wf_pos hl (by omega) 5 (by omega)
  have h2 := (m_wf_bd hl 6 (by omega)).2
  have e : (27 : Int) ^ 6 = 387420489 := by decide
  unfold d_word
  omega
/-- what wasn't made yet isn't dropped -/
def rZ (g : AH) : Prop := ∀ d : Nat, d < 520 → iH g 71 0 ≤ (d : Int) → iH g 595 d = 0
theorem drop_Z {h g : AH} {da sa : Nat → Nat} {key : Int} (hp : kSta h g da sa) (hz : rZ g) : rZ (m_drop g key) ∧ iH (m_drop g key) 71 0 = iH g 71 0 := by
  by_cases c : m_bp g key ≠ -1
  · have e : m_drop g key = sI (sW g 1138 (m_shf g (m_bp g key).toNat)) 71 15 (iH g 71 15 - 1) := if_pos c
    rw [e]
    have eN := buf_N (g := g) (f := m_shf g (m_bp g key).toNat) (v := iH g 71 15 - 1)
    exact ⟨fun d hd h1 => by rw [eN.2.1]; rw [eN.1.1.1] at h1; exact hz d hd h1, eN.1.1.1⟩
  · by_cases c2 : m_sp g key ≠ -1
    · have hc := hp.1.1
      rcases m_sp_cs (nowOf hc) key with ⟨e, -⟩ | ⟨s, k, s1, k1, e, k64, s8, -⟩
      · exact absurd e c2
      · have eg : m_drop g key = sI g 595 (iH g (599 + (iH g 1137 s).toNat) k).toNat 1 := by
          unfold m_drop m_dropD
          rw [if_neg c, if_pos c2, e, show (100 * (s : Int) + (k : Int)) / 100 = (s : Int) by omega, show (100 * (s : Int) + (k : Int)) % 100 = (k : Int) by omega, Int.toNat_natCast, Int.toNat_natCast]
        rw [eg]
        refine ⟨fun d hd h1 => ?_, rI_ne (by decide)⟩
        rw [rI_ne (by decide)] at h1
        have st : 0 ≤ iH g 1137 s ∧ iH g 1137 s < iH g 71 5 := (hc.2.2.2.2 s s1).1
        have q := ((hc.2.1 (iH g 1137 s).toNat (by omega)).2.2.2.2 k k1).2
        have q2 := ((hc.2.1 (iH g 1137 s).toNat (by omega)).1.1.1.2.2 k (by rw [Int.toNat_natCast]; exact k1)).1
        rw [Int.toNat_natCast] at q2
        rw [rI_nk (by omega)]
        exact hz d hd h1
    · have e : m_drop g key = g := by unfold m_drop; rw [if_neg c, if_neg c2]
      rw [e]
      exact ⟨hz, rfl⟩
/-- the class's heap with a new document behind the buffer -/
def hAdd (h : AH) (n : Nat) (key : Int) (b : Nat) : AH := sI (sR (sR (sI (cpI (nw (nw h 0 0) 13 n) 3 0 (nH h + 1) 0 n) (nH h) 0 key) (nH h) 1 (some (nH h + 1))) 4 b (some (nH h))) 0 2 ((b : Int) + 1)
theorem hAdd_f {h : AH} {n b : Nat} {key : Int} (h70 : 70 < nH h) : nH (hAdd h n key b) = nH h + 2 ∧ (∀ x, x < nH h → kH (hAdd h n key b) x = kH h x ∧ (∀ k, (x ≠ 0 ∨ k ≠ 2) → iH (hAdd h n key b) x k = iH h x k) ∧ (∀ k, jH (hAdd h n key b) x k = jH h x k) ∧ ∀ k, (x ≠ 4 ∨ k ≠ b) → rH (hAdd h n key b) x k = rH h x k) ∧ (iH (hAdd h n key b) 0 2 = (b : Int) + 1 ∧ rH (hAdd h n key b) 4 b = some (nH h)) ∧ kH (hAdd h n key b) (nH h) = (0, 0) ∧ kH (hAdd h n key b) (nH h + 1) = (13, n) ∧ iH (hAdd h n key b) (nH h) 0 = key ∧ rH (hAdd h n key b) (nH h) 1 = some (nH h + 1) ∧ ∀ i : Nat, i < n → iH (hAdd h n key b) (nH h + 1) i = iH h 3 i := by
  obtain ⟨N, kk, ii, jj, rr⟩ := h
  have h70 : 70 < N := h70
  have hN : nH (N, kk, ii, jj, rr) = N := rfl
  rw [hN]
  have z0 : ¬ N = 0 := by omega
  have z1 : ¬ N + 1 = 0 := by omega
  have z3 : ¬ N = 3 := by omega
  have z4 : ¬ N = 4 := by omega
  have y0 : ¬ 0 = N := by omega
  have y1 : ¬ 0 = N + 1 := by omega
  have y3 : ¬ 3 = N := by omega
  have y3' : ¬ 3 = N + 1 := by omega
  have y4 : ¬ 4 = N := by omega
  refine ⟨rfl, fun x hx => ?_, ⟨?_, ?_⟩, ?_, ?_, ?_, ?_, fun i hi => ?_⟩
  · have e1 : ¬ x = N := by omega
    have e2 : ¬ x = N + 1 := by omega
    refine ⟨?_, fun k q => ?_, fun k => ?_, fun k q => ?_⟩
    · simp [hAdd, nH, kH, nw, sR, sI, cpI, sW, e1, e2]
    · have : ¬ (x = 0 ∧ k = 2) := fun u => q.elim (fun w => w u.1) fun w => w u.2
      simp [hAdd, nH, iH, nw, sR, sI, cpI, sW, u2, r2, e1, e2, this]
      exact fun u v => absurd ⟨u, v⟩ this
    · simp [hAdd, nH, jH, nw, sR, sI, cpI, sW, u2, r2, e1, e2]
    · have : ¬ (x = 4 ∧ k = b) := fun u => q.elim (fun w => w u.1) fun w => w u.2
      simp [hAdd, nH, rH, nw, sR, sI, cpI, sW, u2, r2, e1, e2, this]
      exact fun u v => absurd ⟨u, v⟩ this
  · simp [hAdd, iH, sI, u2]
  · simp [hAdd, nH, rH, nw, sR, sI, cpI, sW, u2, r2]
  · simp [hAdd, nH, kH, nw, sR, sI, cpI, sW]
  · simp [hAdd, nH, kH, nw, sR, sI, cpI, sW]
  · simp [hAdd, nH, iH, nw, sR, sI, cpI, sW, u2, r2, z0]
  · simp [hAdd, nH, rH, nw, sR, sI, cpI, sW, u2, r2, z4]
  · simp [hAdd, nH, iH, nw, sR, sI, cpI, sW, u2, r2, hi, y3, y3']
