/-! THE INDEX: DROP BY KEY, ADD -/
def b_X11_drop_0 : List IE := [(.iload_n 1, 1, 0, 0, 1, 0)]
theorem k_X11_drop_0 : ckB mX11_drop 11 0 b_X11_drop_0 1 = true := by decide +kernel
def b_X11_drop_4 : List IE := []
theorem k_X11_drop_4 : ckIf mX11_drop 11 4 b_X11_drop_4 4 0 11 15 7 = true := by decide +kernel
def b_X11_drop_7 : List IE := [(.aload_n 0, 1, 0, 0, 0, 0), (.iload_n 1, 1, 0, 0, 1, 0)]
theorem k_X11_drop_7 : ckB mX11_drop 11 7 b_X11_drop_7 9 = true := by decide +kernel
def b_X11_drop_12 : List IE := []
theorem k_X11_drop_12 : ckGo mX11_drop 11 12 b_X11_drop_12 12 5 17 = true := by decide +kernel
def b_X11_drop_15 : List IE := [(.bipush (-2), 2, (-2), 0, 0, 0)]
theorem k_X11_drop_15 : ckI mX11_drop 11 15 b_X11_drop_15 17 = true := by decide +kernel
def b_X11_drop_17 : List IE := []
theorem k_X11_drop_17 : ckI mX11_drop 11 17 b_X11_drop_17 17 = true := by decide +kernel
theorem s_X11_drop_1 : cS mX11_drop 1 mX11_isKey 119 1 := ⟨by decide +kernel, ⟨ml_X11_isKey, li_RX11_119, st_X11_isKey⟩, by decide +kernel⟩
theorem s_X11_drop_9 : cV mX11_drop 9 mX11_dropLive 133 1 11 := ⟨by decide +kernel, ⟨ml_X11_dropLive, li_RX11_133, im_X11_dropLive, se_X11_dropLive⟩, ⟨by decide +kernel, by decide +kernel⟩, by decide +kernel⟩
theorem t_X11_drop_0 {rc rs : Nat} {Q : Option AV → AH → Prop} {h : AH} {x1 : Int} (hL : LayL h) (hv : ((¬ (0 ≤ x1 ∧ x1 ≤ 99) → Q (some (vi (-2))) h) ∧ ((0 ≤ x1 ∧ x1 ≤ 99) → (∃ P7 : Int → AH → Prop, Ct 2 0 0 mX11_dropLive [vr 0, vi x1] h (QI P7) ∧ ∀ (r6 : Int) (h5 : AH), (-2147483648 ≤ r6 ∧ r6 < 2147483648) → P7 r6 h5 → LayL h5 ∧ Q (some (vi r6)) h5)))) : wp mX11_drop 3 rc rs Q 0 [some (vr 0), some (vi x1)] [] h :=
  (show wp mX11_drop 3 rc rs Q 0 [some (vr 0), some (vi x1)] [] h from xcS k_X11_drop_0 s_X11_drop_1 ((Exists.intro [vi x1] (Exists.intro [] (And.intro (And.intro rfl (And.intro rfl (Nat.le_of_ble_eq_true rfl))) (Exists.intro 0 (Exists.intro 0 (Exists.intro 0 (Exists.intro _ (And.intro l_isKey (And.intro (And.intro (by decide) (And.intro (Nat.zero_le _) (Nat.zero_le _))) (eQP (show wp mX11_drop 3 rc rs Q 4 [some (vr 0), some (vi x1)] [vi (b01 (0 ≤ x1 ∧ x1 ≤ 99))] h from xIf k_X11_drop_4 (And.intro (fun c1 => have v3 := hv.1 (b01_n.mp c1); (show wp mX11_drop 3 rc rs Q 15 [some (vr 0), some (vi x1)] [] h from xI k_X11_drop_15 (And.intro rfl v3))) (fun c2 => have v4 := hv.2 (b01_p.mp c2); (show wp mX11_drop 3 rc rs Q 7 [some (vr 0), some (vi x1)] [] h from xcV k_X11_drop_7 s_X11_drop_9 (Exists.elim v4 (fun P7 v8 => (Exists.intro [vi x1] (Exists.intro 0 (Exists.intro [] (And.intro (And.intro rfl (And.intro rfl (Nat.le_of_ble_eq_true rfl))) (And.intro (ll_0 hL) (Exists.intro 2 (Exists.intro 0 (Exists.intro 0 (Exists.intro (QI P7) (And.intro v8.1 (And.intro (And.intro (by decide) (And.intro (Nat.zero_le _) (Nat.zero_le _))) (eQI (fun r6 h5 q11 e10 => have v9 := v8.2 r6 h5 q11 e10; have hL := v9.1; have v9 := v9.2; (show wp mX11_drop 3 rc rs Q 12 [some (vr 0), some (vi x1)] [vi r6] h5 from xGo k_X11_drop_12 (show wp mX11_drop 3 rc rs Q 17 [some (vr 0), some (vi x1)] [vi r6] h5 from xI k_X11_drop_17 (And.intro rfl v9))))))))))))))))))))))))))))))))))
theorem e_X11_drop {mc ms : Nat} {Q : Option AV → AH → Prop} {h : AH} {x1 : Int} (hL : LayL h) (hv : ((¬ (0 ≤ x1 ∧ x1 ≤ 99) → Q (some (vi (-2))) h) ∧ ((0 ≤ x1 ∧ x1 ≤ 99) → (∃ P7 : Int → AH → Prop, Ct 2 0 0 mX11_dropLive [vr 0, vi x1] h (QI P7) ∧ ∀ (r6 : Int) (h5 : AH), (-2147483648 ≤ r6 ∧ r6 < 2147483648) → P7 r6 h5 → LayL h5 ∧ Q (some (vi r6)) h5)))) : Ct 3 mc ms mX11_drop [vr 0, vi x1] h Q := Ct.of (by decide +kernel) (Nat.le_of_ble_eq_true rfl) (t_X11_drop_0 hL hv)
def p_drop (g : AH) (key x : Int) (g' : AH) : Prop := (¬ (0 ≤ key ∧ key ≤ 99) ∧ x = -2 ∧ g' = g) ∨ ((0 ≤ key ∧ key ≤ 99) ∧ x = a_drop g key ∧ g' = m_drop g key)
theorem hDrop_rf {h : AH} : hDrop h h := ⟨rfl, fun _ => rfl, fun _ _ _ => rfl, fun _ _ _ => rfl, fun _ _ _ => rfl⟩
theorem l_drop {h g : AH} {da sa : Nat → Nat} (hL : LayL h) {key : Int} (hp : kSta h g da sa) (hb : kB h g da) : Ct 3 0 0 mX11_drop [vr 0, vi key] h (QI fun x h' => ∃ g', p_drop g key x g' ∧ LayL h' ∧ kSta h' g' da sa ∧ kB h' g' da ∧ hDrop h h') := by
  refine e_X11_drop hL ⟨fun c => ⟨_, rfl, g, Or.inl ⟨c, rfl, rfl⟩, hL, hp, hb, hDrop_rf⟩, fun c => ⟨_, l_dropLive hL hp hb, fun x h1 _ hx => ?_⟩⟩
  obtain ⟨rfl, x2, x3, x4, x5⟩ := hx
  exact ⟨x2, _, rfl, _, Or.inr ⟨c, rfl, rfl⟩, x2, x3, x4, x5⟩
theorem wf_pos {h : AH} {a b : Int} (hl : m_let h a b) (hab : a < b) : ∀ k : Nat, k < 6 → 1 ≤ m_wf h a b (k + 1) := by
  intro k
  induction k with
  | zero =>
    intro _
    have q := (hl.2.2 0 (by omega) (by omega)).1
    have e : m_wf h a b 0 = 0 := rfl
    show 1 ≤ 27 * m_wf h a b 0 + (if a + ((0 : Nat) : Int) < b then iH h 1157 (a + ((0 : Nat) : Int)).toNat - 96 else 0)
    rw [if_pos (by omega)]
    omega
  | succ k ih =>
    intro hk
    have i := ih (by omega)
    show 1 ≤ 27 * m_wf h a b (k + 1) + (if a + ((k + 1 : Nat) : Int) < b then iH h 1157 (a + ((k + 1 : Nat) : Int)).toNat - 96 else 0)
    by_cases c : a + ((k + 1 : Nat) : Int) < b
    · have q := (hl.2.2 (k + 1) hk c).1
      rw [if_pos c]; omega
    · rw [if_neg c]; omega
theorem d_word_bd {g : AH} (ht : 0 ≤ iH g 89 18 ∧ iH g 89 18 ≤ 64) {i : Nat} (hi : i < d_m g) : 0 < d_word g i ∧ d_word g i < 387420489 := by
  obtain ⟨-, -, hns⟩ := d_m_cs g
  have hs := hns i hi
  have hP := d_P_le g i
  have hl := d_word_let ht hP
  have hne : d_we g (d_P g i) ≠ d_P g i := fun q => hs (by unfold d_stop; exact Or.inr (Or.inl q))
  have hge : d_P g i ≤ d_we g (d_P g i) := run_ge _ _ _
  have h1 : 1 ≤ m_wf g (d_P g i) (d_we g (d_P g i)) 6 := wf_pos hl (by omega) 5 (by omega)
  have h2 := (m_wf_bd hl 6 (by omega)).2
  have e : (27 : Int) ^ 6 = 387420489 := by decide
  unfold d_word
  omega
/-- what wasn't made yet isn't dropped -/
def rZ (g : AH) : Prop := ∀ d : Nat, d < 520 → iH g 89 0 ≤ (d : Int) → iH g 613 d = 0
theorem drop_Z {h g : AH} {da sa : Nat → Nat} {key : Int} (hp : kSta h g da sa) (hz : rZ g) : rZ (m_drop g key) ∧ iH (m_drop g key) 89 0 = iH g 89 0 := by
  by_cases c : m_bp g key ≠ -1
  · have e : m_drop g key = sI (sW g 1156 (m_shf g (m_bp g key).toNat)) 89 15 (iH g 89 15 - 1) := if_pos c
    rw [e]
    have eN := buf_N (g := g) (f := m_shf g (m_bp g key).toNat) (v := iH g 89 15 - 1)
    exact ⟨fun d hd h1 => by rw [eN.2.1]; rw [eN.1.1.1] at h1; exact hz d hd h1, eN.1.1.1⟩
  · by_cases c2 : m_sp g key ≠ -1
    · have hc := hp.1.1
      rcases m_sp_cs (nowOf hc) key with ⟨e, -⟩ | ⟨s, k, s1, k1, e, k64, s8, -⟩
      · exact absurd e c2
      · have eg : m_drop g key = sI g 613 (iH g (617 + (iH g 1155 s).toNat) k).toNat 1 := by
          unfold m_drop m_dropD
          rw [if_neg c, if_pos c2, e, show (100 * (s : Int) + (k : Int)) / 100 = (s : Int) by omega, show (100 * (s : Int) + (k : Int)) % 100 = (k : Int) by omega, Int.toNat_natCast, Int.toNat_natCast]
        rw [eg]
        refine ⟨fun d hd h1 => ?_, rI_ne (by decide)⟩
        rw [rI_ne (by decide)] at h1
        have st : 0 ≤ iH g 1155 s ∧ iH g 1155 s < iH g 89 5 := (hc.2.2.2.2 s s1).1
        have q := ((hc.2.1 (iH g 1155 s).toNat (by omega)).2.2.2.2 k k1).2
        have q2 := ((hc.2.1 (iH g 1155 s).toNat (by omega)).1.1.1.2.2 k (by rw [Int.toNat_natCast]; exact k1)).1
        rw [Int.toNat_natCast] at q2
        rw [rI_nk (by omega)]
        exact hz d hd h1
    · have e : m_drop g key = g := by unfold m_drop; rw [if_neg c, if_neg c2]
      rw [e]
      exact ⟨hz, rfl⟩
/-- the class's heap with a new document behind the buffer -/
def hAdd (h : AH) (n : Nat) (key : Int) (b : Nat) : AH := sI (sR (sR (sI (cpI (nw (nw h 0 0) 13 n) 3 0 (nH h + 1) 0 n) (nH h) 0 key) (nH h) 1 (some (nH h + 1))) 4 b (some (nH h))) 0 2 ((b : Int) + 1)
theorem hAdd_f {h : AH} {n b : Nat} {key : Int} (h70 : 88 < nH h) : nH (hAdd h n key b) = nH h + 2 ∧ (∀ x, x < nH h → kH (hAdd h n key b) x = kH h x ∧ (∀ k, (x ≠ 0 ∨ k ≠ 2) → iH (hAdd h n key b) x k = iH h x k) ∧ (∀ k, jH (hAdd h n key b) x k = jH h x k) ∧ ∀ k, (x ≠ 4 ∨ k ≠ b) → rH (hAdd h n key b) x k = rH h x k) ∧ (iH (hAdd h n key b) 0 2 = (b : Int) + 1 ∧ rH (hAdd h n key b) 4 b = some (nH h)) ∧ kH (hAdd h n key b) (nH h) = (0, 0) ∧ kH (hAdd h n key b) (nH h + 1) = (13, n) ∧ iH (hAdd h n key b) (nH h) 0 = key ∧ rH (hAdd h n key b) (nH h) 1 = some (nH h + 1) ∧ ∀ i : Nat, i < n → iH (hAdd h n key b) (nH h + 1) i = iH h 3 i := by
  obtain ⟨N, kk, ii, jj, rr⟩ := h
  have h70 : 88 < N := h70
  have hN : nH (N, kk, ii, jj, rr) = N := rfl
  rw [hN]
  have z0 : ¬ N = 0 := by omega
  have z1 : ¬ N + 1 = 0 := by omega
  have z3 : ¬ N = 3 := by omega
  have z4 : ¬ N = 4 := by omega
  have y0 : ¬ 0 = N := by omega
  have y1 : ¬ 0 = N + 1 := by omega
  have y3 : ¬ 3 = N := by omega
  have y3' : ¬ 3 = N + 1 := by omega
  have y4 : ¬ 4 = N := by omega
  refine ⟨rfl, fun x hx => ?_, ⟨?_, ?_⟩, ?_, ?_, ?_, ?_, fun i hi => ?_⟩
  · have e1 : ¬ x = N := by omega
    have e2 : ¬ x = N + 1 := by omega
    refine ⟨?_, fun k q => ?_, fun k => ?_, fun k q => ?_⟩
    · simp [hAdd, nH, kH, nw, sR, sI, cpI, sW, e1, e2]
    · have : ¬ (x = 0 ∧ k = 2) := fun u => q.elim (fun w => w u.1) fun w => w u.2
      simp [hAdd, nH, iH, nw, sR, sI, cpI, sW, u2, r2, e1, e2, this]
      exact fun u v => absurd ⟨u, v⟩ this
    · simp [hAdd, nH, jH, nw, sR, sI, cpI, sW, u2, r2, e1, e2]
    · have : ¬ (x = 4 ∧ k = b) := fun u => q.elim (fun w => w u.1) fun w => w u.2
      simp [hAdd, nH, rH, nw, sR, sI, cpI, sW, u2, r2, e1, e2, this]
      exact fun u v => absurd ⟨u, v⟩ this
  · simp [hAdd, iH, sI, u2]
  · simp [hAdd, nH, rH, nw, sR, sI, cpI, sW, u2, r2]
  · simp [hAdd, nH, kH, nw, sR, sI, cpI, sW]
  · simp [hAdd, nH, kH, nw, sR, sI, cpI, sW]
  · simp [hAdd, nH, iH, nw, sR, sI, cpI, sW, u2, r2, z0]
  · simp [hAdd, nH, rH, nw, sR, sI, cpI, sW, u2, r2, z4]
  · simp [hAdd, nH, iH, nw, sR, sI, cpI, sW, u2, r2, hi, y3, y3']
theorem iu_fromS {g g' : AH} (e : agSs g g') (es : iH g' 89 5 = iH g 89 5) (hb : ∀ j : Nat, j < 7 → ∀ s : Nat, (s : Int) < cntH g j → 0 ≤ rowH g j s ∧ rowH g j s < iH g 89 5) (hf : ∀ j : Nat, j < 7 → ∃ j' : Nat, j' < 7 ∧ cntH g' j ≤ cntH g j' ∧ ∀ s : Nat, (s : Int) < cntH g' j → rowH g' j s = rowH g j' s) (hI : kI g) (hU : kU g) : kI g' ∧ kU g' := by
  refine ⟨fun j hj s s' h1 h2 => ?_, fun j hj s s' h1 h2 k k' h3 h4 => ?_, fun x hx h1 i j h2 h3 => ?_⟩
  · obtain ⟨j', a1, a2, a3⟩ := hf j hj
    rw [a3 s (by omega), a3 s' h2]
    exact hI j' a1 s s' h1 (by omega)
  · obtain ⟨j', a1, a2, a3⟩ := hf j hj
    have b1 := hb j' a1 s (by omega)
    have b2 := hb j' a1 s' (by omega)
    obtain ⟨-, c2, c3⟩ := e.2 (rowH g j' s).toNat (by omega)
    obtain ⟨-, d2, d3⟩ := e.2 (rowH g j' s').toNat (by omega)
    rw [a3 s (by omega), c2] at h3
    rw [a3 s' h2, d2] at h4
    rw [a3 s (by omega), a3 s' h2, c3, d3]
    exact hU.1 j' a1 s s' h1 (by omega) k k' h3 h4
  · rw [es] at h1
    obtain ⟨-, c2, c3⟩ := e.2 x h1
    rw [c2] at h3
    rw [c3, c3]
    exact hU.2 x hx h1 i j h2 h3
/-- a document more -/
theorem add_K {h g : AH} {da sa : Nat → Nat} {n D b : Nat} {key : Int} (hL : LayL h) (hN : 1191 ≤ nH h) (hp : kSta h g da sa) (hb : kB h g da) (hz : rZ g) (hD : iH g 89 0 = (D : Int)) (hD5 : D < 520) (hbb : iH g 89 15 = (b : Int)) (hb4 : b < 4) (hm : iH g 89 20 = (n : Int)) (hn : n ≤ 12) (hw : ∀ i : Nat, i < n → iH h 3 i = iH g 1158 i ∧ 0 < iH g 1158 i ∧ iH g 1158 i < 387420489) : kSta (hAdd h n key b) (m_addH g key) (fun d => if d = D then nH h else da d) sa ∧ kB (hAdd h n key b) (m_addH g key) (fun d => if d = D then nH h else da d) ∧ rZ (m_addH g key) := by
  obtain ⟨f1, f2, ⟨f3, f4⟩, f5, f6, f7, f8, f9⟩ := hAdd_f (h := h) (n := n) (b := b) (key := key) (by omega)
  obtain ⟨H, hH⟩ : ∃ H, H = hAdd h n key b := ⟨_, rfl⟩
  rw [← hH] at f1 f2 f3 f4 f5 f6 f7 f8 f9 ⊢
  obtain ⟨G, hG⟩ : ∃ G, G = m_addH g key := ⟨_, rfl⟩
  rw [← hG]
  have hG2 : G = sI (sI (sI (cpI (sI (sI g 90 D key) 91 D n) 1158 0 (93 + D) 0 n) 1156 b D) 89 15 (b + 1)) 89 0 (D + 1) := by
    rw [hG]; unfold m_addH; rw [hD, hbb, hm]; simp only [Int.toNat_natCast]
  have x0 : ∀ x k, x ≠ 89 → x ≠ 1156 → x ≠ 93 + D → (x ≠ 91 ∨ k ≠ D) → (x ≠ 90 ∨ k ≠ D) → iH G x k = iH g x k := fun x k h1 h2 h3 h4 h5 => by
    rw [hG2, rI_ne h1, rI_ne h1, rI_ne h2, cp_ne h3]
    have a1 : ∀ (h : AH) (a : Nat) (v : Int), (x ≠ a ∨ k ≠ D) → iH (sI h a D v) x k = iH h x k := fun h a v q => by
      by_cases e : x = a
      · subst e; exact rI_nk (q.elim (fun u => absurd rfl u) id)
      · exact rI_ne e
    rw [a1 _ _ _ h4, a1 _ _ _ h5]
  have x7 : ∀ k, k ≠ 0 → k ≠ 15 → iH G 89 k = iH g 89 k := fun k h1 h2 => by
    rw [hG2, rI_nk h1, rI_nk h2, rI_ne (by decide), cp_ne (by omega), rI_ne (by decide), rI_ne (by decide)]
  have xd : iH G 89 0 = (D : Int) + 1 := by rw [hG2]; exact rI_same
  have xb : iH G 89 15 = (b : Int) + 1 := by rw [hG2, rI_nk (by decide)]; exact rI_same
  have xB : ∀ k, iH G 1156 k = if k = b then (D : Int) else iH g 1156 k := fun k => by
    rw [hG2, rI_ne (by decide), rI_ne (by decide), rI_if, cp_ne (by omega), rI_ne (by decide), rI_ne (by decide)]
  have xK : iH G 90 D = key := by
    rw [hG2, rI_ne (by decide), rI_ne (by decide), rI_ne (by decide), cp_ne (by omega), rI_ne (by decide)]; exact rI_same
  have xS : iH G 91 D = (n : Int) := by
    rw [hG2, rI_ne (by decide), rI_ne (by decide), rI_ne (by decide), cp_ne (by omega)]; exact rI_same
  have xW : ∀ i, i < n → iH G (93 + D) i = iH g 1158 i := fun i hi => by
    rw [hG2, rI_ne (by omega), rI_ne (by omega), rI_ne (by omega)]
    unfold cpI
    rw [rW_same, if_pos (by omega), rI_ne (by decide), rI_ne (by decide), show 0 + (i - 0) = i by omega]
  obtain ⟨hk, hr, hU⟩ := hp
  have rb := fun (j : Nat) (hj : j < 7) (s : Nat) hs => row_bd hk hj (s := s) hs
  obtain ⟨⟨hd, hs, hno⟩, hv, q1, q2, q3, q4⟩ := hk
  have s520 := segs_520 hs
  have es : iH G 89 5 = iH g 89 5 := x7 5 (by decide) (by decide)
  have eD : agDs g G := ⟨by rw [xd, hD]; omega, fun d hd1 => ⟨⟨x0 _ _ (by decide) (by decide) (by omega) (Or.inr (by omega)) (Or.inl (by decide)), fun i => x0 _ _ (by omega) (by omega) (by omega) (Or.inl (by omega)) (Or.inl (by omega))⟩, x0 _ _ (by decide) (by decide) (by omega) (Or.inl (by decide)) (Or.inr (by omega))⟩⟩
  have eS : agSs g G := ⟨by rw [es]; exact Int.le_refl _, fun x hx => ⟨x0 _ _ (by decide) (by decide) (by omega) (Or.inl (by decide)) (Or.inl (by decide)), x0 _ _ (by decide) (by decide) (by omega) (Or.inl (by decide)) (Or.inl (by decide)), fun k => x0 _ _ (by omega) (by omega) (by omega) (Or.inl (by omega)) (Or.inl (by omega))⟩⟩
  have ex : exD g da (fun d => if d = D then nH h else da d) := fun d hd1 => if_neg (by omega)
  have ag : agD h H := ⟨by omega, fun x hx hx2 => ⟨(f2 x hx).1, fun k => (f2 x hx).2.1 k (Or.inl (by omega)), fun k => (f2 x hx).2.2.2 k (Or.inl (by omega))⟩⟩
  have hi : ∀ x, x ≥ 613 → x < 1156 → ∀ k, iH G x k = iH g x k := fun x h1 h2 k => x0 x k (by omega) (by omega) (by omega) (Or.inl (by omega)) (Or.inl (by omega))
  have st70 : ∀ c, iSt c → (∀ k, iH H c k = iH h c k) ∧ (∀ k, rH H (c + 1) k = rH h (c + 1) k) ∧ ∀ k, jH H (c + 2) k = jH h (c + 2) k := fun c hc => by
    have := iSt_lt hc
    exact ⟨fun k => (f2 c (by omega)).2.1 k (Or.inl (by omega)), fun k => (f2 _ (by omega)).2.2.2 k (Or.inl (by omega)), fun k => (f2 _ (by omega)).2.2.1 k⟩
  have eo : ∀ t s, t < 6 → m_offT G (t : Nat) s = m_offT g (t : Nat) s := fun t s ht => by
    unfold m_offT
    exact sumN_cg fun i _ => by rw [Int.toNat_natCast, hi (1140 + t) (by omega) (by omega), hi _ (by decide) (by decide)]
  have hdR : cDocs H G (fun d => if d = D then nH h else da d) := by
    intro d hd1
    rw [xd] at hd1
    by_cases e : d = D
    · subst e
      dsimp only
      rw [if_pos rfl, xS, Int.toNat_natCast, xK]
      refine ⟨⟨by omega, by rw [Int.toNat_natCast, xS]; omega, fun i hi1 => ?_⟩, ⟨⟨by omega, f5⟩, f8, ⟨by omega, f6⟩, hN, hn⟩, f7, fun i hi1 => by rw [f9 i hi1, xW i hi1]; exact (hw i hi1).1⟩
      rw [Int.toNat_natCast] at hi1 ⊢
      rw [xS] at hi1
      rw [xW i (by omega)]
      exact (hw i (by omega)).2
    · exact cDoc_mv eD ex (cDocs_ag ag hd) (by omega)
  have hsR : cSegs H G (fun d => if d = D then nH h else da d) sa := cSegs_mv eD eS es ex (fun _ _ => rfl) (cSegs_ag ag hs)
  refine ⟨⟨⟨⟨hdR, hsR, ?_⟩, fun t ht => ?_, fun t ht => ?_, ?_, ?_, ?_⟩, ?_⟩, ⟨⟨?_, by rw [xb]; omega, fun k hk1 => ?_⟩, fun i hi1 => ?_⟩, fun d hd1 hd2 => ?_⟩
  · obtain ⟨t1, t2, t3⟩ := st70 5 (Or.inl rfl)
    refine cStd_mv eS (fun _ _ => rfl) (x7 13 (by decide) (by decide)) (fun s _ => hi _ (by decide) (by decide) s) (fun s k hs1 _ => ?_) (t1 2) t2 t3 hno
    have q : 0 ≤ iH g 1155 s ∧ iH g 1155 s < iH g 89 5 := (hno.2.2 s hs1).1
    unfold nDr
    rw [hi 1155 (by decide) (by decide), hi 613 (by decide) (by decide), hi (617 + _) (by omega) (by omega)]
  · obtain ⟨t1, t2, t3⟩ := st70 _ (iSt_av ht)
    refine cStd_mv eS (fun _ _ => rfl) (hi _ (by decide) (by decide) t) (fun s _ => hi _ (by omega) (by omega) s) (fun s k _ _ => ?_) (t1 2) t2 t3 (hv t ht)
    unfold tDr
    rw [eo t s ht, hi (1148 + t) (by omega) (by omega)]
  · rw [(st70 _ (iSt_av (t := t) (by omega))).1, hi 1137 (by decide) (by decide)]; exact q1 t ht
  · rw [(st70 5 (Or.inl rfl)).1]; exact q2
  · rw [(st70 11 (iSt_av (t := 5) (by omega))).1]; exact q3
  · rw [hi 1137 (by decide) (by decide), hi 1138 (by decide) (by decide)]; exact q4
  · obtain ⟨r1, r2, r3, r4⟩ := hr
    obtain ⟨j1, j2⟩ := iu_fromS eS es (fun j hj s hs1 => ⟨(rb j hj s hs1).1, (rb j hj s hs1).2.1⟩) (fun j hj => ⟨j, hj, by
      unfold cntH
      rw [x7 13 (by decide) (by decide), hi 1138 (by decide) (by decide)]; exact Int.le_refl _, fun s hs1 => by
      by_cases e0 : j = 0
      · subst e0; exact hi 1155 (by decide) (by decide) s
      · have := (hld_av e0 hj).2
        unfold rowH tRow
        rw [if_neg e0, if_neg e0, hi (1140 + _) (by omega) (by omega)]⟩) r1 hU
    refine ⟨⟨j1, ?_, fun t ht => ⟨by rw [eo t _ ht, hi 1138 (by decide) (by decide)]; exact (r3 t ht).1, fun k hk1 => by rw [hi (1148 + t) (by omega) (by omega)]; exact (r3 t ht).2 k hk1⟩, fun d hd1 => by rw [hi 613 (by decide) (by decide)]; exact r4 d hd1⟩, j2⟩
    have : m_held G = m_held g := by
      unfold m_held
      rw [x7 13 (by decide) (by decide)]
      exact sumN_cg fun s _ => by rw [hi 1155 (by decide) (by decide), hi 615 (by decide) (by decide)]
    rw [this]; exact r2
  · rw [f3, xb]
  · rw [xb] at hk1
    rw [xB, xd]
    by_cases e : k = b
    · subst e
      dsimp only
      rw [if_pos rfl, Int.toNat_natCast, if_pos rfl]
      exact ⟨by omega, f4⟩
    · obtain ⟨u1, u2⟩ := hb.1.2.2 k (by omega)
      dsimp only
      rw [if_neg e, if_neg (by omega), (f2 4 (by omega)).2.2.2 k (Or.inr e)]
      exact ⟨by omega, u2⟩
  · rw [xb] at hi1
    by_cases e : i = b
    · subst e
      rw [xB, if_pos rfl, Int.toNat_natCast, hi 613 (by decide) (by decide)]
      refine ⟨hz D hD5 (by omega), fun i' hi' => ?_, fun x hx hx2 k hk1 => ?_⟩
      · have := (hb.1.2.2 i' (by omega)).1
        rw [xB, if_neg (by omega)]; omega
      · rw [es] at hx2
        rw [(eS.2 x hx2).2.1] at hk1
        rw [(eS.2 x hx2).2.2]
        have := ((hs x hx2).2.2.2.2 k hk1).2
        omega
    · obtain ⟨u1, u2, u3⟩ := hb.2 i (by omega)
      rw [xB, if_neg e, hi 613 (by decide) (by decide)]
      refine ⟨u1, fun i' hi' => by rw [xB, if_neg (by omega)]; exact u2 i' hi', fun x hx hx2 k hk1 => ?_⟩
      rw [es] at hx2
      rw [(eS.2 x hx2).2.1] at hk1
      rw [(eS.2 x hx2).2.2]
      exact u3 x hx hx2 k hk1
  · rw [xd] at hd2
    rw [hi 613 (by decide) (by decide)]
    exact hz d hd1 (by omega)
