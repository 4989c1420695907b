/-! THE INDEX: DROP -/
def rB (g : AH) : Prop := ∀ i : Nat, (i : Int) < iH g 89 15 → iH g 613 (iH g 1156 i).toNat = 0 ∧ (∀ i' : Nat, i' < i → iH g 1156 i' ≠ iH g 1156 i) ∧ ∀ x : Nat, x < 520 → (x : Int) < iH g 89 5 → ∀ k : Nat, (k : Int) < iH g 615 x → iH g (617 + x) k ≠ iH g 1156 i
def kB (h g : AH) (da : Nat → Nat) : Prop := cBuf h g da ∧ rB g
def hDrop (h h' : AH) : Prop := nH h' = nH h ∧ (∀ x, kH h' x = kH h x) ∧ (∀ x k, (x ≠ 0 ∨ k ≠ 2) → iH h' x k = iH h x k) ∧ (∀ x k, x ≠ 7 → jH h' x k = jH h x k) ∧ ∀ x k, x ≠ 4 → rH h' x k = rH h x k
theorem buf_N {g : AH} {f : Nat → Int} {v : Int} : agN g (sI (sW g 1156 f) 89 15 v) := ⟨⟨⟨by rw [rI_nk (by decide), rW_ne (by decide)], by rw [rI_nk (by decide), rW_ne (by decide)]⟩, fun x k _ _ _ => by rw [rI_ne (by omega), rW_ne (by omega)]⟩, fun k => by rw [rI_ne (by decide), rW_ne (by decide)], ⟨by rw [rI_nk (by decide), rW_ne (by decide)], fun k => by rw [rI_ne (by decide), rW_ne (by decide)]⟩, fun t ht => ⟨by rw [rI_ne (by decide), rW_ne (by decide)], fun k => by rw [rI_ne (by omega), rW_ne (by omega)], fun k => by rw [rI_ne (by omega), rW_ne (by omega)]⟩⟩
theorem kF_N {h g g' : AH} (e : ∀ t : Nat, t < 6 → iH g' 1137 t = iH g 1137 t) (e5 : iH g' 1138 5 = iH g 1138 5) (hf : kF h g) : kF h g' := by
  obtain ⟨f1, f2, f3, f4⟩ := hf
  exact ⟨fun t ht => by rw [e t (by omega)]; exact f1 t ht, f2, f3, by rw [e 5 (by omega), e5]; exact f4⟩
def shR (h : AH) (p j k : Nat) : Option Nat := if p ≤ k ∧ k < p + j then rH h 4 (k + 1) else rH h 4 k
def hBu (h : AH) (p j : Nat) (v : Int) : AH := sI (sRW h 4 (shR h p j)) 0 2 v
theorem hBu_s {h : AH} {p j : Nat} {v : Int} {w : Option Nat} (hw : rH h 4 (p + j + 1) = w) : sR (hBu h p j v) 4 (p + j) w = hBu h p (j + 1) v := by
  have e : sR (hBu h p j v) 4 (p + j) w = sI (sR (sRW h 4 (shR h p j)) 4 (p + j) w) 0 2 v := rfl
  rw [e, rw_sR]
  unfold hBu
  have : updR (shR h p j) (p + j) w = shR h p (j + 1) := by
    funext k
    unfold updR shR
    by_cases e1 : k = p + j
    · subst e1; rw [if_pos rfl, if_pos (by omega), hw]
    · rw [if_neg e1]
      by_cases e2 : p ≤ k ∧ k < p + j
      · rw [if_pos e2, if_pos (by omega)]
      · rw [if_neg e2, if_neg (by omega)]
  rw [this]
theorem hBu_ag {h : AH} {p j : Nat} {v : Int} : agD h (hBu h p j v) := agD_rf rfl (fun _ => rfl) fun x hx => ⟨fun k => rI_ne (by omega), fun k => rw_o (by omega)⟩
theorem hBu_D {h : AH} {p j : Nat} {v : Int} : hDrop h (hBu h p j v) := ⟨rfl, fun _ => rfl, fun x k q => by
  unfold hBu
  by_cases e : x = 0
  · subst e; exact rI_nk (q.elim (fun u => absurd rfl u) id)
  · exact rI_ne e, fun _ _ _ => rfl, fun x k q => rw_o q⟩
theorem hBu_L {h : AH} {p j : Nat} {v : Int} (hL : LayL h) : LayL (hBu h p j v) := ⟨hL.1, fun q hq => by
  have : q.1 ≠ 4 := by
    have : ∀ q ∈ refL, q.1 ≠ 4 := by decide
    exact this q hq
  show rH (sRW h 4 (shR h p j)) q.1 q.2.1 = _
  rw [rw_o this]; exact hL.2 q hq⟩
theorem hDrop_St {h h' : AH} (e : hDrop h h') (hj : ∀ k, jH h' 7 k = jH h 7 k) : agD h h' ∧ agSt h h' := by
  obtain ⟨e1, e2, e3, e4, e5⟩ := e
  refine ⟨agD_rf e1 e2 fun x hx => ⟨fun k => e3 x k (Or.inl (by omega)), fun k => e5 x k (by omega)⟩, fun c hc => ?_⟩
  have := iSt_lt hc
  refine ⟨fun k => e3 c k (Or.inl (by omega)), fun k => e5 _ k (by omega), fun k => ?_⟩
  by_cases q : c + 2 = 7
  · rw [q]; exact hj k
  · exact e4 _ k q
def b_X11_dropLive_0 : List IE := [(.aload_n 0, 1, 0, 0, 0, 0), (.iload_n 1, 1, 0, 0, 1, 0)]
theorem k_X11_dropLive_0 : ckB mX11_dropLive 11 0 b_X11_dropLive_0 2 = true := by decide +kernel
def b_X11_dropLive_5 : List IE := [(.istore_n 2, 1, 0, 0, 2, 0), (.iload_n 2, 1, 0, 0, 2, 0), (.iconst (-1), 1, (-1), 0, 0, 0)]
theorem k_X11_dropLive_5 : ckIc mX11_dropLive 11 5 b_X11_dropLive_5 8 0 45 53 11 = true := by decide +kernel
def b_X11_dropLive_11 : List IE := [(.aload_n 0, 1, 0, 0, 0, 0), (.dup, 1, 0, 0, 0, 0), (.getfield 122, 3, 0, 11, 2, 0), (.iconst 1, 1, 1, 0, 0, 0), (.isub, 1, 0, 0, 0, 0), (.putfield 122, 3, 0, 11, 2, 0), (.iload_n 2, 1, 0, 0, 2, 0), (.istore_n 3, 1, 0, 0, 3, 0)]
theorem k_X11_dropLive_11 : ckB mX11_dropLive 11 11 b_X11_dropLive_11 23 = true := by decide +kernel
def b_X11_dropLive_23 : List IE := [(.iload_n 3, 1, 0, 0, 3, 0), (.aload_n 0, 1, 0, 0, 0, 0), (.getfield 122, 3, 0, 11, 2, 0)]
theorem k_X11_dropLive_23 : ckIc mX11_dropLive 11 23 b_X11_dropLive_23 28 3 23 51 31 = true := by decide +kernel
def b_X11_dropLive_31 : List IE := [(.aload_n 0, 1, 0, 0, 0, 0), (.getfield 18, 3, 0, 11, 1, 1), (.iload_n 3, 1, 0, 0, 3, 0), (.aload_n 0, 1, 0, 0, 0, 0), (.getfield 18, 3, 0, 11, 1, 1), (.iload_n 3, 1, 0, 0, 3, 0), (.iconst 1, 1, 1, 0, 0, 0), (.iadd, 1, 0, 0, 0, 0), (.aaload, 1, 0, 0, 0, 0), (.aastore, 1, 0, 0, 0, 0), (.iinc 3 1, 3, 1, 0, 3, 0)]
theorem k_X11_dropLive_31 : ckGo mX11_dropLive 11 31 b_X11_dropLive_31 48 (-25) 23 = true := by decide +kernel
def b_X11_dropLive_51 : List IE := [(.iconst 0, 1, 0, 0, 0, 0)]
theorem k_X11_dropLive_51 : ckI mX11_dropLive 11 51 b_X11_dropLive_51 52 = true := by decide +kernel
def b_X11_dropLive_53 : List IE := [(.aload_n 0, 1, 0, 0, 0, 0), (.iload_n 1, 1, 0, 0, 1, 0)]
theorem k_X11_dropLive_53 : ckB mX11_dropLive 11 53 b_X11_dropLive_53 55 = true := by decide +kernel
def b_X11_dropLive_58 : List IE := [(.istore_n 3, 1, 0, 0, 3, 0), (.iload_n 3, 1, 0, 0, 3, 0), (.iconst (-1), 1, (-1), 0, 0, 0)]
theorem k_X11_dropLive_58 : ckIc mX11_dropLive 11 58 b_X11_dropLive_58 61 1 5 66 64 = true := by decide +kernel
def b_X11_dropLive_64 : List IE := [(.iconst (-1), 1, (-1), 0, 0, 0)]
theorem k_X11_dropLive_64 : ckI mX11_dropLive 11 64 b_X11_dropLive_64 65 = true := by decide +kernel
def b_X11_dropLive_66 : List IE := [(.aload_n 0, 1, 0, 0, 0, 0), (.getfield 25, 3, 0, 11, 3, 1), (.getfield 154, 3, 0, 9, 1, 1), (.iload_n 3, 1, 0, 0, 3, 0), (.bipush 100, 2, 100, 0, 0, 0), (.idiv, 1, 0, 0, 0, 0), (.dup2, 1, 0, 0, 0, 0), (.laload, 1, 0, 0, 0, 0), (.lconst 1, 1, 0, 0, 1, 0), (.iload_n 3, 1, 0, 0, 3, 0), (.bipush 100, 2, 100, 0, 0, 0), (.irem, 1, 0, 0, 0, 0), (.lshl, 1, 0, 0, 0, 0), (.lor, 1, 0, 0, 0, 0), (.lastore, 1, 0, 0, 0, 0), (.iconst 1, 1, 1, 0, 0, 0)]
theorem k_X11_dropLive_66 : ckI mX11_dropLive 11 66 b_X11_dropLive_66 88 = true := by decide +kernel
theorem s_X11_dropLive_2 : cV mX11_dropLive 2 mX11_placeInBuffer 125 1 11 := ⟨by decide +kernel, ⟨ml_X11_placeInBuffer, li_RX11_125, im_X11_placeInBuffer, se_X11_placeInBuffer⟩, ⟨by decide +kernel, by decide +kernel⟩, by decide +kernel⟩
theorem s_X11_dropLive_55 : cV mX11_dropLive 55 mX11_placeInSegments 176 1 11 := ⟨by decide +kernel, ⟨ml_X11_placeInSegments, li_RX11_176, im_X11_placeInSegments, se_X11_placeInSegments⟩, ⟨by decide +kernel, by decide +kernel⟩, by decide +kernel⟩
theorem t_X11_dropLive_0 {rc rs : Nat} {Q : Option AV → AH → Prop} {h : AH} {sa : Nat → Nat} {da : Nat → Nat} {g : AH} {x1 : Int} (hL : LayL h) (hv : (cDocs h g da ∧ cBuf h g da) ∧ (((m_bp g x1) = (-1) → (cRd h g da sa) ∧ (((m_sp g x1) ≠ (-1) → (0 ≤ (m_sp g x1) ∧ (m_sp g x1) < 2147483648) ∧ (0 ≤ ((m_sp g x1) / 100) ∧ ((m_sp g x1) / 100) < 8) ∧ Q (some (vi 1)) (sJ h 7 (((m_sp g x1) / 100).toNat) ((jH h 7 (((m_sp g x1) / 100).toNat)) ||| (shl6 1 ((m_sp g x1) % 100))))) ∧ ((m_sp g x1) = (-1) → Q (some (vi (-1))) h))) ∧ ((m_bp g x1) ≠ (-1) → (-2147483648 ≤ (iH h 0 2 - 1) ∧ (iH h 0 2 - 1) < 2147483648) ∧ wp mX11_dropLive 2 rc rs Q 23 [some (vr 0), none, none, some (vi (m_bp g x1))] [] (sI h 0 2 (iH h 0 2 - 1))))) : wp mX11_dropLive 2 rc rs Q 0 [some (vr 0), some (vi x1), none, none] [] h :=
  (show wp mX11_dropLive 2 rc rs Q 0 [some (vr 0), some (vi x1), none, none] [] h from xcV k_X11_dropLive_0 s_X11_dropLive_2 (have c20 := hv.1; have v21 := hv.2; (Exists.intro [vi x1] (Exists.intro 0 (Exists.intro [] (And.intro (And.intro rfl (And.intro rfl (Nat.le_of_ble_eq_true rfl))) (And.intro (ll_0 hL) (Exists.intro 0 (Exists.intro 0 (Exists.intro 0 (Exists.intro _ (And.intro (l_placeInBuffer (h := h) hL c20) (And.intro (And.intro (by decide) (And.intro (Nat.zero_le _) (Nat.zero_le _))) (eQP (show wp mX11_dropLive 2 rc rs Q 5 [some (vr 0), some (vi x1), none, none] [vi (m_bp g x1)] h from xIc k_X11_dropLive_5 (And.intro rfl (And.intro (fun c1 => have v3 := v21.1 c1; (show wp mX11_dropLive 2 rc rs Q 53 [some (vr 0), some (vi x1), some (vi (m_bp g x1)), none] [] h from xcV k_X11_dropLive_53 s_X11_dropLive_55 (have c15 := v3.1; have v16 := v3.2; (Exists.intro [vi x1] (Exists.intro 0 (Exists.intro [] (And.intro (And.intro rfl (And.intro rfl (Nat.le_of_ble_eq_true rfl))) (And.intro (ll_0 hL) (Exists.intro 1 (Exists.intro 0 (Exists.intro 0 (Exists.intro _ (And.intro (l_placeInSegments (h := h) hL c15) (And.intro (And.intro (by decide) (And.intro (Nat.zero_le _) (Nat.zero_le _))) (eQP (show wp mX11_dropLive 2 rc rs Q 58 [some (vr 0), some (vi x1), some (vi (m_bp g x1)), none] [vi (m_sp g x1)] h from xIc k_X11_dropLive_58 (And.intro rfl (And.intro (fun c5 => have v7 := v16.1 c5; (show wp mX11_dropLive 2 rc rs Q 66 [some (vr 0), some (vi x1), some (vi (m_bp g x1)), some (vi (m_sp g x1))] [] h from xI k_X11_dropLive_66 (And.intro (ll_0 hL) (Exists.intro 5 (And.intro (lg_0_3 hL) (And.intro (ll_5 hL) (Exists.intro 7 (And.intro (lg_5_1 hL) (have c9 := v7.1; have v14 := v7.2; (And.intro (sd_idiv (z := 100) (by decide) c9) (And.intro rfl (And.intro rfl (have c10 := v14.1; have v13 := v14.2; (And.intro (sdJ (ll_7 hL) c10) (And.intro (sd_irem (z := 100) (by decide) c9) (And.intro (sdJ (ll_7 hL) c10) (And.intro rfl v13))))))))))))))))) (fun c6 => have v8 := v16.2 (Decidable.not_not.mp c6); (show wp mX11_dropLive 2 rc rs Q 64 [some (vr 0), some (vi x1), some (vi (m_bp g x1)), some (vi (m_sp g x1))] [] h from xI k_X11_dropLive_64 (And.intro rfl v8))))))))))))))))))))) (fun c2 => have v4 := v21.2 c2; (show wp mX11_dropLive 2 rc rs Q 11 [some (vr 0), some (vi x1), some (vi (m_bp g x1)), none] [] h from xB k_X11_dropLive_11 (And.intro rfl (And.intro (ll_0 hL) (have c18 := v4.1; have v19 := v4.2; (And.intro c18 (And.intro (ll_0 hL) (And.intro rfl (w_fg [true, false, false, true] v19))))))))))))))))))))))))))
theorem e_X11_dropLive {mc ms : Nat} {Q : Option AV → AH → Prop} {h : AH} {sa : Nat → Nat} {da : Nat → Nat} {g : AH} {x1 : Int} (hL : LayL h) (hv : (cDocs h g da ∧ cBuf h g da) ∧ (((m_bp g x1) = (-1) → (cRd h g da sa) ∧ (((m_sp g x1) ≠ (-1) → (0 ≤ (m_sp g x1) ∧ (m_sp g x1) < 2147483648) ∧ (0 ≤ ((m_sp g x1) / 100) ∧ ((m_sp g x1) / 100) < 8) ∧ Q (some (vi 1)) (sJ h 7 (((m_sp g x1) / 100).toNat) ((jH h 7 (((m_sp g x1) / 100).toNat)) ||| (shl6 1 ((m_sp g x1) % 100))))) ∧ ((m_sp g x1) = (-1) → Q (some (vi (-1))) h))) ∧ ((m_bp g x1) ≠ (-1) → (-2147483648 ≤ (iH h 0 2 - 1) ∧ (iH h 0 2 - 1) < 2147483648) ∧ wp mX11_dropLive 2 mc ms Q 23 [some (vr 0), none, none, some (vi (m_bp g x1))] [] (sI h 0 2 (iH h 0 2 - 1))))) : Ct 2 mc ms mX11_dropLive [vr 0, vi x1] h Q := Ct.of (by decide +kernel) (Nat.le_of_ble_eq_true rfl) (t_X11_dropLive_0 hL hv)
theorem t_X11_dropLive_23 {rc rs : Nat} {Q : Option AV → AH → Prop} {h : AH} {x3 : Int} (hL : LayL h) (hv : (((iH h 0 2) ≤ x3 → Q (some (vi 0)) h) ∧ (x3 < (iH h 0 2) → (-2147483648 ≤ (x3 + 1) ∧ (x3 + 1) < 2147483648) ∧ (0 ≤ (x3 + 1) ∧ (x3 + 1) < 4) ∧ (∃ q7 n8 : Nat, (rH h 4 ((x3 + 1).toNat) = some q7 ∧ iD h q7 n8) ∧ (0 ≤ x3 ∧ x3 < 4) ∧ LayL (sR h 4 x3.toNat (some q7)) ∧ wp mX11_dropLive 2 rc rs Q 23 [some (vr 0), none, none, some (vi (x3 + 1))] [] (sR h 4 x3.toNat (some q7)))))) : wp mX11_dropLive 2 rc rs Q 23 [some (vr 0), none, none, some (vi x3)] [] h :=
  (show wp mX11_dropLive 2 rc rs Q 23 [some (vr 0), none, none, some (vi x3)] [] h from xIc k_X11_dropLive_23 (And.intro (ll_0 hL) (And.intro (fun c1 => have v3 := hv.1 c1; (show wp mX11_dropLive 2 rc rs Q 51 [some (vr 0), none, none, some (vi x3)] [] h from xI k_X11_dropLive_51 (And.intro rfl v3))) (fun c2 => have v4 := hv.2 (Int.not_le.mp c2); (show wp mX11_dropLive 2 rc rs Q 31 [some (vr 0), none, none, some (vi x3)] [] h from xGo k_X11_dropLive_31 (And.intro (ll_0 hL) (Exists.intro 4 (And.intro (lg_0_1 hL) (And.intro (ll_0 hL) (Exists.intro 4 (And.intro (lg_0_1 hL) (have c5 := v4.1; have v19 := v4.2; (And.intro c5 (have c6 := v19.1; have v18 := v19.2; (And.intro (sdQ (ll_4 hL) c6) (Exists.elim v18 (fun q7 v16_0 => (Exists.elim v16_0 (fun n8 v16 => have c10 := v16.1; have v17 := v16.2; (Exists.intro _ (And.intro c10.1 (have c11 := v17.1; have v15 := v17.2; (And.intro (sdA (ll_4 hL) c11 (dc_o c10.2)) (have c12 := v15.1; have v14 := v15.2; (have hL := c12; (And.intro c5 (And.intro rfl v14)))))))))))))))))))))))))))
theorem sj_if {h : AH} {a k j : Nat} {v : Int64} : jH (sJ h a k v) a j = if j = k then v else jH h a j := by simp [jH, sJ, u2]
theorem sj_o {h : AH} {a k b j : Nat} {v : Int64} (e : b ≠ a) : jH (sJ h a k v) b j = jH h b j := by simp [jH, sJ, u2, e]
/-- one document that stands now is dropped -/
theorem dropS_kSta {h g : AH} {da sa : Nat → Nat} {s k : Nat} (hp : kSta h g da sa) (hs : (s : Int) < iH g 89 13) (hkk : (k : Int) < iH g 615 (iH g 1155 s).toNat) : kSta (sJ h 7 s (jH h 7 s ||| shl6 1 (k : Int))) (sI g 613 (iH g (617 + (iH g 1155 s).toNat) k).toNat 1) da sa := by
  obtain ⟨hk, hr, hU⟩ := hp
  have rb := fun (j : Nat) (hj : j < 7) (s : Nat) hs => row_bd hk hj (s := s) hs
  obtain ⟨⟨hd, hsg, hn⟩, hv, hf⟩ := hk
  have s520 := segs_520 hsg
  obtain ⟨g', hg'⟩ : ∃ g', g' = sI g 613 (iH g (617 + (iH g 1155 s).toNat) k).toNat 1 := ⟨_, rfl⟩
  obtain ⟨h', hh'⟩ : ∃ h', h' = sJ h 7 s (jH h 7 s ||| shl6 1 (k : Int)) := ⟨_, rfl⟩
  rw [← hg', ← hh']
  have x0 : ∀ x k, x ≠ 613 → iH g' x k = iH g x k := fun x k hx => by rw [hg']; exact rI_ne hx
  have eDS : agDS g g' := ⟨⟨x0 _ _ (by decide), x0 _ _ (by decide)⟩, fun x k _ _ hx => x0 x k hx⟩
  have eD := agDS_D eDS (docs_520 hd)
  have eS := agDS_S eDS s520
  have ag : agD h h' := agD_rf (by rw [hh']; rfl) (fun _ => by rw [hh']; rfl) fun x hx => ⟨fun k => by rw [hh']; rfl, fun k => by rw [hh']; rfl⟩
  have io : ∀ c k, iH h' c k = iH h c k := fun c k => by rw [hh']; rfl
  have ro : ∀ c k, rH h' c k = rH h c k := fun c k => by rw [hh']; rfl
  have q0 : 0 ≤ iH g 1155 s ∧ iH g 1155 s < iH g 89 5 := (hn.2.2 s hs).1
  have l64 := (hsg _ (show (((iH g 1155 s).toNat : Nat) : Int) < iH g 89 5 by omega)).1.1.1
  have l64b := l64.2.1
  rw [Int.toNat_natCast] at l64b
  have memb : ∀ s' : Nat, (s' : Int) < iH g 89 13 → ∀ j : Nat, (j : Int) < iH g 615 (iH g 1155 s').toNat → (0 ≤ iH g (617 + (iH g 1155 s').toNat) j) := fun s' hs' j hj => by
    have q1 : 0 ≤ iH g 1155 s' ∧ iH g 1155 s' < iH g 89 5 := (hn.2.2 s' hs').1
    have := (hsg _ (show (((iH g 1155 s').toNat : Nat) : Int) < iH g 89 5 by omega)).1.1.1.2.2 j (by rw [Int.toNat_natCast]; exact hj)
    rw [Int.toNat_natCast] at this
    exact this.1
  have same : ∀ s' : Nat, (s' : Int) < iH g 89 13 → ∀ j : Nat, (j : Int) < iH g 615 (iH g 1155 s').toNat → ((iH g (617 + (iH g 1155 s').toNat) j).toNat = (iH g (617 + (iH g 1155 s).toNat) k).toNat ↔ s' = s ∧ j = k) := by
    intro s' hs' j hj
    have m1 := memb s' hs' j hj
    have m2 := memb s hs k hkk
    constructor
    · intro e
      have e2 : iH g (617 + (iH g 1155 s').toNat) j = iH g (617 + (iH g 1155 s).toNat) k := by omega
      rcases Nat.lt_trichotomy s' s with u | u | u
      · exact absurd e2 (hU.1 0 (by omega) s' s u hs j k hj hkk)
      · subst u
        rcases Nat.lt_trichotomy j k with w | w | w
        · exact absurd e2 (hU.2 _ (by omega) (by omega) j k w hkk)
        · exact ⟨rfl, w⟩
        · exact absurd e2.symm (hU.2 _ (by omega) (by omega) k j w hj)
      · exact absurd e2.symm (hU.1 0 (by omega) s s' u hs' k j hkk hj)
    · rintro ⟨rfl, rfl⟩; rfl
  have hcR : cRd h' g' da sa := by
    refine ⟨cDocs_mv eD eDS.1.1 (fun _ _ => rfl) (cDocs_ag ag hd), cSegs_mv eD eS eDS.1.2 (fun _ _ => rfl) (fun _ _ => rfl) (cSegs_ag ag hsg), ?_⟩
    obtain ⟨n1, n2, n3⟩ := hn
    refine ⟨by rw [io, x0 _ _ (by decide)]; exact n1, by rw [x0 _ _ (by decide)]; exact n2, fun s' hs' => ?_⟩
    rw [x0 _ _ (by decide)] at hs'
    obtain ⟨p1, p2, p3⟩ := n3 s' hs'
    have er : nRow g' s' = nRow g s' := x0 _ _ (by decide)
    have p1' : 0 ≤ iH g 1155 s' ∧ iH g 1155 s' < iH g 89 5 := p1
    rw [er, ro, x0 _ _ (by decide)]
    refine ⟨p1, p2, fun j => ?_⟩
    rw [x0 _ _ (by decide)]
    have nd : nDr g' s' j ↔ iH g' 613 (iH g (617 + (iH g 1155 s').toNat) j).toNat ≠ 0 := by
      unfold nDr
      rw [x0 1155 _ (by decide), x0 (617 + _) _ (by omega)]
    rw [nd, hg', rI_if, hh', show 5 + 2 = 7 from rfl, sj_if]
    have p3' : bt (jH h 7 s') j ↔ (j : Int) < iH g 615 (iH g 1155 s').toNat ∧ iH g 613 (iH g (617 + (iH g 1155 s').toNat) j).toNat ≠ 0 := p3 j
    by_cases e : s' = s
    · subst e
      rw [if_pos rfl, bt_set (by omega), p3']
      show _ ↔ (j : Int) < iH g 615 (iH g 1155 s').toNat ∧ _
      constructor
      · rintro (⟨u1, u2⟩ | u)
        · refine ⟨u1, ?_⟩
          by_cases e2 : (iH g (617 + (iH g 1155 s').toNat) j).toNat = (iH g (617 + (iH g 1155 s').toNat) k).toNat
          · rw [if_pos e2]; decide
          · rw [if_neg e2]; exact u2
        · have : j = k := by omega
          subst this
          exact ⟨hkk, by rw [if_pos rfl]; decide⟩
      · rintro ⟨u1, u2⟩
        by_cases e2 : (iH g (617 + (iH g 1155 s').toNat) j).toNat = (iH g (617 + (iH g 1155 s').toNat) k).toNat
        · have := ((same s' hs' j u1).mp e2).2
          exact Or.inr (by omega)
        · rw [if_neg e2] at u2
          exact Or.inl ⟨u1, u2⟩
    · rw [if_neg e, p3']
      show _ ↔ (j : Int) < iH g 615 (iH g 1155 s').toNat ∧ _
      constructor
      · rintro ⟨u1, u2⟩
        refine ⟨u1, ?_⟩
        rw [if_neg fun e2 => e ((same s' hs' j u1).mp e2).1]
        exact u2
      · rintro ⟨u1, u2⟩
        rw [if_neg fun e2 => e ((same s' hs' j u1).mp e2).1] at u2
        exact ⟨u1, u2⟩
  have eo : ∀ t s, m_offT g' t s = m_offT g t s := fun t s => by
    unfold m_offT
    exact sumN_cg fun i _ => by rw [x0 (1140 + _) _ (by omega), x0 _ _ (by decide)]
  have hvR : ∀ t : Nat, t < 6 → kV h' g' sa t := fun t ht => by
    refine cStd_mv eS (fun _ _ => rfl) (x0 _ _ (by decide)) (fun s _ => x0 _ _ (by omega)) (fun s k _ _ => ?_) (io _ 2) (fun k => ro _ k) (fun k => ?_) (hv t ht)
    · unfold tDr
      rw [eo, x0 _ _ (by omega)]
    · rw [hh']
      exact sj_o (by unfold avT; (repeat' split) <;> omega)
  have hfR : kF h' g' := by
    obtain ⟨f1, f2, f3, f4⟩ := hf
    exact ⟨fun t ht => by rw [io, x0 _ _ (by decide)]; exact f1 t ht, by rw [io]; exact f2, by rw [io]; exact f3, by rw [x0 _ _ (by decide), x0 _ _ (by decide)]; exact f4⟩
  refine ⟨⟨hcR, hvR, hfR⟩, ?_⟩
  obtain ⟨r1, r2, r3, r4⟩ := hr
  obtain ⟨j1, j2⟩ := iu_from eDS (fun j hj s hs => by have := rb j hj s hs; omega) (fun j hj => ⟨j, hj, by
    unfold cntH
    rw [x0 _ _ (by decide), x0 _ _ (by decide)]; exact Int.le_refl _, fun s _ => by
    unfold rowH nRow tRow
    rw [x0 _ _ (by decide), x0 (1140 + _) _ (by omega)]⟩) r1 hU
  refine ⟨⟨j1, ?_, fun t ht => ⟨by rw [eo, x0 _ _ (by decide)]; exact (r3 t ht).1, fun k hk1 => by rw [x0 _ _ (by omega)]; exact (r3 t ht).2 k hk1⟩, fun d hd1 => ?_⟩, j2⟩
  · have : m_held g' = m_held g := by
      unfold m_held
      rw [x0 _ _ (by decide)]
      exact sumN_cg fun s _ => by rw [x0 1155 _ (by decide), x0 _ _ (by decide)]
    rw [this]; exact r2
  · rw [hg', rI_if]
    by_cases e : d = (iH g (617 + (iH g 1155 s).toNat) k).toNat
    · rw [if_pos e]; exact Or.inr rfl
    · rw [if_neg e]; exact r4 d hd1
theorem buf_kB {h g : AH} {da : Nat → Nat} {p : Nat} (hd : cDocs h g da) (hb : kB h g da) (hp : (p : Int) < iH g 89 15) : kB (hBu h p ((iH g 89 15).toNat - 1 - p) (iH g 89 15 - 1)) (sI (sW g 1156 (m_shf g p)) 89 15 (iH g 89 15 - 1)) da := by
  obtain ⟨⟨b1, b2, b3⟩, hB⟩ := hb
  have e0 : ∀ k, iH (sI (sW g 1156 (m_shf g p)) 89 15 (iH g 89 15 - 1)) 1156 k = m_shf g p k := fun k => by rw [rI_ne (by decide), rW_same]
  have e1 : iH (sI (sW g 1156 (m_shf g p)) 89 15 (iH g 89 15 - 1)) 89 15 = iH g 89 15 - 1 := rI_same
  have eN := buf_N (g := g) (f := m_shf g p) (v := iH g 89 15 - 1)
  have sh : ∀ k : Nat, (k : Int) < iH g 89 15 - 1 → ∃ j : Nat, (j : Int) < iH g 89 15 ∧ m_shf g p k = iH g 1156 j ∧ shR h p ((iH g 89 15).toNat - 1 - p) k = rH h 4 j ∧ j = if p ≤ k then k + 1 else k := fun k hk => by
    by_cases c : p ≤ k
    · refine ⟨k + 1, by omega, ?_, ?_, by rw [if_pos c]⟩
      · unfold m_shf; rw [if_pos (by omega)]
      · unfold shR; rw [if_pos (by omega)]
    · refine ⟨k, by omega, ?_, ?_, by rw [if_neg c]⟩
      · unfold m_shf; rw [if_neg (by omega)]
      · unfold shR; rw [if_neg (by omega)]
  refine ⟨⟨?_, by rw [e1]; omega, fun k hk => ?_⟩, fun i hi => ?_⟩
  · rw [e1]; exact rI_same
  · rw [e1] at hk
    obtain ⟨j, j1, j2, j3, -⟩ := sh k hk
    obtain ⟨q1, q2⟩ := b3 j j1
    rw [e0, j2, eN.1.1.1]
    refine ⟨q1, ?_⟩
    show rH (sRW h 4 (shR h p _)) 4 k = _
    rw [rw_s, j3, q2]
  · rw [e1] at hi
    obtain ⟨j, j1, j2, -, j4⟩ := sh i hi
    obtain ⟨q1, q2, q3⟩ := hB j j1
    rw [e0, j2, eN.2.1]
    refine ⟨q1, fun i' hi' => ?_, fun x hx hx2 k hk => ?_⟩
    · obtain ⟨j', a1, a2, -, a4⟩ := sh i' (by omega)
      rw [e0, a2]
      refine q2 j' ?_
      rw [j4, a4]
      by_cases c : p ≤ i'
      · rw [if_pos c, if_pos (by omega)]; omega
      · rw [if_neg c]
        by_cases c2 : p ≤ i
        · rw [if_pos c2]; omega
        · rw [if_neg c2]; exact hi'
    · rw [eN.1.1.2] at hx2
      rw [eN.1.2 615 _ (by decide) (by decide) (by decide)] at hk
      rw [eN.1.2 (617 + x) _ (by omega) (by omega) (by omega)]
      exact q3 x hx hx2 k hk
theorem l_dropLive {h g : AH} {da sa : Nat → Nat} (hL : LayL h) {key : Int} (hp : kSta h g da sa) (hb : kB h g da) : Ct 2 0 0 mX11_dropLive [vr 0, vi key] h (QI fun x h' => x = a_drop g key ∧ LayL h' ∧ kSta h' (m_drop g key) da sa ∧ kB h' (m_drop g key) da ∧ hDrop h h') := by
  have hc := hp.1.1
  have b1 := hb.1.1
  have b2 := hb.1.2.1
  refine e_X11_dropLive (g := g) (da := da) (sa := sa) hL ⟨⟨hc.1, hb.1⟩, fun c => ⟨hc, fun c2 => ?_, fun c2 => ⟨_, rfl, ?_, hL, ?_, ?_, ⟨rfl, fun _ => rfl, fun _ _ _ => rfl, fun _ _ _ => rfl, fun _ _ _ => rfl⟩⟩⟩, fun c => ?_⟩
  · rcases m_sp_cs (nowOf hc) key with ⟨e, -⟩ | ⟨s, k, s1, k1, e, k64, s8, -⟩
    · exact absurd e c2
    · rw [e]
      have d1 : (100 * (s : Int) + (k : Int)) / 100 = (s : Int) := by omega
      have d2 : (100 * (s : Int) + (k : Int)) % 100 = (k : Int) := by omega
      rw [d1, d2, Int.toNat_natCast]
      have eg : m_drop g key = sI g 613 (iH g (617 + (iH g 1155 s).toNat) k).toNat 1 := by
        unfold m_drop m_dropD
        rw [if_neg (fun u => u c), if_pos c2, e, d1, d2, Int.toNat_natCast, Int.toNat_natCast]
      refine ⟨by omega, by omega, _, rfl, ?_, hL, ?_, ?_, ⟨rfl, fun _ => rfl, fun _ _ _ => rfl, fun x _ hx => sj_o hx, fun _ _ _ => rfl⟩⟩
      · unfold a_drop; rw [if_neg (fun u => u c), if_pos c2]
      · rw [eg]; exact dropS_kSta hp s1 k1
      · rw [eg]
        obtain ⟨⟨c1, c3, c4⟩, hB⟩ := hb
        have x0 : ∀ (d : Nat) (u : Int) x k, x ≠ 613 → iH (sI g 613 d u) x k = iH g x k := fun d u x k hx => rI_ne hx
        refine ⟨⟨by rw [x0 _ _ _ _ (by decide)]; exact c1, by rw [x0 _ _ _ _ (by decide)]; exact c3, fun i hi => ?_⟩, fun i hi => ?_⟩
        · rw [x0 _ _ _ _ (by decide)] at hi
          rw [x0 _ _ _ _ (by decide), x0 _ _ _ _ (by decide)]
          exact c4 i hi
        · rw [x0 _ _ _ _ (by decide)] at hi
          obtain ⟨q1, q2, q3⟩ := hB i hi
          have bi := (c4 i hi).1
          have st : 0 ≤ iH g 1155 s ∧ iH g 1155 s < iH g 89 5 := (hc.2.2.2.2 s s1).1
          have s520 := segs_520 hc.2.1
          have ne := q3 (iH g 1155 s).toNat (by omega) (by omega) k k1
          have m0 := (hc.2.1 _ (show (((iH g 1155 s).toNat : Nat) : Int) < iH g 89 5 by omega)).1.1.1.2.2 k (by rw [Int.toNat_natCast]; exact k1)
          rw [Int.toNat_natCast] at m0
          rw [x0 _ _ 1156 _ (by decide), rI_nk (by omega)]
          refine ⟨q1, fun i' hi' => by rw [x0 _ _ _ _ (by decide)]; exact q2 i' hi', fun x hx hx2 j hj => ?_⟩
          rw [x0 _ _ _ _ (by decide)] at hx2 hj
          rw [x0 _ _ _ _ (by omega)]
          exact q3 x hx hx2 j hj
  · unfold a_drop; rw [if_neg (fun u => u c), if_neg (fun u => u c2)]
  · unfold m_drop; rw [if_neg (fun u => u c), if_neg (fun u => u c2)]; exact hp
  · unfold m_drop; rw [if_neg (fun u => u c), if_neg (fun u => u c2)]; exact hb
  · rcases fst_cs (m_bufP g key) (iH g 89 15).toNat with ⟨e, -⟩ | ⟨p, p1, e, -, -⟩
    · exact absurd e c
    · have e : m_bp g key = (p : Int) := e
      rw [e, b1]
      have eg : m_drop g key = sI (sW g 1156 (m_shf g p)) 89 15 (iH g 89 15 - 1) := by
        unfold m_drop
        rw [if_pos c, e, Int.toNat_natCast]
      have ea : a_drop g key = 0 := if_pos c
      rw [eg, ea]
      have z : sI h 0 2 (iH g 89 15 - 1) = hBu h p 0 (iH g 89 15 - 1) := by
        unfold hBu
        have : shR h p 0 = rH h 4 := by funext k; unfold shR; rw [if_neg (by omega)]
        rw [this, rw_id]
      rw [z]
      refine ⟨by omega, ?_⟩
      have main := up (P := fun j => wp mX11_dropLive 2 0 0 (QI fun x h' => x = 0 ∧ LayL h' ∧ kSta h' (sI (sW g 1156 (m_shf g p)) 89 15 (iH g 89 15 - 1)) da sa ∧ kB h' (sI (sW g 1156 (m_shf g p)) 89 15 (iH g 89 15 - 1)) da ∧ hDrop h h') 23 [some (vr 0), none, none, some (vi ((p : Int) + (j : Int)))] [] (hBu h p j (iH g 89 15 - 1))) ((iH g 89 15).toNat - 1 - p) ?_ ?_
      · rw [show (p : Int) = (p : Int) + ((0 : Nat) : Int) by omega]
        exact main
      · have r : iH (hBu h p ((iH g 89 15).toNat - 1 - p) (iH g 89 15 - 1)) 0 2 = iH g 89 15 - 1 := rI_same
        refine t_X11_dropLive_23 (hBu_L hL) ?_
        rw [r]
        refine ⟨fun _ => ⟨_, rfl, rfl, hBu_L hL, ⟨?_, ?_⟩, buf_kB hc.1 hb (by omega), hBu_D⟩, fun c => absurd c (by omega)⟩
        · obtain ⟨f1, f2⟩ := hDrop_St (hBu_D (h := h) (p := p) (j := (iH g 89 15).toNat - 1 - p) (v := iH g 89 15 - 1)) (fun _ => rfl)
          exact kHd_N buf_N (kF_N (fun t _ => by rw [rI_ne (by decide), rW_ne (by decide)]) (by rw [rI_ne (by decide), rW_ne (by decide)]) (kHd_fr f1 f2 hp.1).2.2) (kHd_fr f1 f2 hp.1)
        · exact rI_N buf_N hp.1 hp.2.1 hp.2.2
      · intro j hj ih
        have r : iH (hBu h p j (iH g 89 15 - 1)) 0 2 = iH g 89 15 - 1 := rI_same
        refine t_X11_dropLive_23 (hBu_L hL) ?_
        rw [r, show ((p : Int) + (j : Int) + 1).toNat = p + j + 1 by omega, show ((p : Int) + (j : Int)).toNat = p + j by omega]
        refine ⟨fun c => absurd c (by omega), fun _ => ⟨by omega, by omega, ?_⟩⟩
        obtain ⟨q1, q2⟩ := hb.1.2.2 (p + j + 1) (by omega)
        have rr : rH (hBu h p j (iH g 89 15 - 1)) 4 (p + j + 1) = some (da (iH g 1156 (p + j + 1)).toNat) := by
          show rH (sRW h 4 (shR h p j)) 4 (p + j + 1) = _
          rw [rw_s]
          unfold shR
          rw [if_neg (by omega), q2]
        refine ⟨_, _, ⟨rr, iD_ag hBu_ag (hc.1 _ (by omega)).2.1⟩, by omega, ?_⟩
        rw [hBu_s q2]
        refine ⟨hBu_L hL, ?_⟩
        rw [show (p : Int) + (j : Int) + 1 = (p : Int) + ((j + 1 : Nat) : Int) by omega]
        exact ih
