/-! THE INDEX: A MERGE IS BEGUN -/
def b_X11_begin_0 : List IE := [(.aload_n 0, 1, 0, 0, 0, 0), (.getfield 52, 3, 0, 11, 10, 1), (.getfield 251, 3, 0, 3, 0, 0)]
theorem k_X11_begin_0 : ckIf mX11_begin 11 0 b_X11_begin_0 7 0 6 13 10 = true := by decide +kernel
def b_X11_begin_10 : List IE := [(.bipush (-3), 2, (-3), 0, 0, 0)]
theorem k_X11_begin_10 : ckI mX11_begin 11 10 b_X11_begin_10 12 = true := by decide +kernel
def b_X11_begin_13 : List IE := [(.aload_n 0, 1, 0, 0, 0, 0), (.getfield 45, 3, 0, 11, 9, 1), (.aload_n 0, 1, 0, 0, 0, 0), (.getfield 25, 3, 0, 11, 3, 1)]
theorem k_X11_begin_13 : ckB mX11_begin 11 13 b_X11_begin_13 21 = true := by decide +kernel
def b_X11_begin_24 : List IE := [(.istore_n 1, 1, 0, 0, 1, 0), (.iload_n 1, 1, 0, 0, 1, 0), (.iconst (-1), 1, (-1), 0, 0, 0)]
theorem k_X11_begin_24 : ckIc mX11_begin 11 24 b_X11_begin_24 27 1 5 32 30 = true := by decide +kernel
def b_X11_begin_30 : List IE := [(.iconst (-1), 1, (-1), 0, 0, 0)]
theorem k_X11_begin_30 : ckI mX11_begin 11 30 b_X11_begin_30 31 = true := by decide +kernel
def b_X11_begin_32 : List IE := [(.aload_n 0, 1, 0, 0, 0, 0), (.getfield 52, 3, 0, 11, 10, 1), (.aload_n 0, 1, 0, 0, 0, 0), (.getfield 25, 3, 0, 11, 3, 1), (.iload_n 1, 1, 0, 0, 1, 0), (.aload_n 0, 1, 0, 0, 0, 0), (.getfield 45, 3, 0, 11, 9, 1)]
theorem k_X11_begin_32 : ckB mX11_begin 11 32 b_X11_begin_32 45 = true := by decide +kernel
def b_X11_begin_48 : List IE := []
theorem k_X11_begin_48 : ckB mX11_begin 11 48 b_X11_begin_48 48 = true := by decide +kernel
def b_X11_begin_51 : List IE := [(.aload_n 0, 1, 0, 0, 0, 0), (.getfield 25, 3, 0, 11, 3, 1), (.iload_n 1, 1, 0, 0, 1, 0), (.iload_n 1, 1, 0, 0, 1, 0), (.aload_n 0, 1, 0, 0, 0, 0), (.getfield 52, 3, 0, 11, 10, 1), (.getfield 258, 3, 0, 3, 2, 0), (.iadd, 1, 0, 0, 0, 0)]
theorem k_X11_begin_51 : ckB mX11_begin 11 51 b_X11_begin_51 65 = true := by decide +kernel
def b_X11_begin_68 : List IE := []
theorem k_X11_begin_68 : ckI mX11_begin 11 68 b_X11_begin_68 68 = true := by decide +kernel
theorem s_X11_begin_21 : cV mX11_begin 21 mX4_choose 240 1 4 := ⟨by decide +kernel, ⟨ml_X4_choose, li_RX11_240, im_X4_choose, se_X4_choose⟩, ⟨by decide +kernel, by decide +kernel⟩, by decide +kernel⟩
theorem s_X11_begin_45 : cV mX11_begin 45 mX4_width 244 0 4 := ⟨by decide +kernel, ⟨ml_X4_width, li_RX11_244, im_X4_width, se_X4_width⟩, ⟨by decide +kernel, by decide +kernel⟩, by decide +kernel⟩
theorem s_X11_begin_48 : cV mX11_begin 48 mX3_start 254 3 3 := ⟨by decide +kernel, ⟨ml_X3_start, li_RX11_254, im_X3_start, se_X3_start⟩, ⟨by decide +kernel, by decide +kernel⟩, by decide +kernel⟩
theorem s_X11_begin_65 : cV mX11_begin 65 mX9_liveBetween 247 2 9 := ⟨by decide +kernel, ⟨ml_X9_liveBetween, li_RX11_247, im_X9_liveBetween, se_X9_liveBetween⟩, ⟨by decide +kernel, by decide +kernel⟩, by decide +kernel⟩
theorem t_X11_begin_0 {rc rs : Nat} {Q : Option AV → AH → Prop} {h : AH} {sa : Nat → Nat} {da : Nat → Nat} {g : AH}  (hL : LayL h) (hv : (((iH h 17 0) = 0 → (5 = 5 ∧ cPol h g ∧ cRd h g da sa) ∧ (((m_ch g) ≠ (-1) → (cPol h g) ∧ (∃ P11 : AH → Prop, Ct 0 0 0 mX3_start [vr 17, vr 5, vi (m_ch g), vi (m_width g)] h (QV P11) ∧ ∀ h9 : AH, P11 h9 → LayL h9 ∧ (-2147483648 ≤ ((m_ch g) + iH h9 17 2) ∧ ((m_ch g) + iH h9 17 2) < 2147483648) ∧ (5 = 5 ∧ cRd h9 g da sa ∧ 0 ≤ (m_ch g) ∧ (m_ch g) ≤ ((m_ch g) + iH h9 17 2) ∧ ((m_ch g) + iH h9 17 2) ≤ iH g 89 13) ∧ Q (some (vi (m_liveIn g (m_ch g) (((m_ch g) + iH h9 17 2) - (m_ch g))))) h9)) ∧ ((m_ch g) = (-1) → Q (some (vi (-1))) h))) ∧ ((iH h 17 0) ≠ 0 → Q (some (vi (-3))) h))) : wp mX11_begin 7 rc rs Q 0 [some (vr 0), none] [] h :=
  (show wp mX11_begin 7 rc rs Q 0 [some (vr 0), none] [] h from xIf k_X11_begin_0 (And.intro (ll_0 hL) (Exists.intro 17 (And.intro (lg_0_10 hL) (And.intro (ll_17 hL) (And.intro (fun c1 => have v3 := hv.1 c1; (show wp mX11_begin 7 rc rs Q 13 [some (vr 0), none] [] h from xcV k_X11_begin_13 s_X11_begin_21 (And.intro (ll_0 hL) (Exists.intro 16 (And.intro (lg_0_9 hL) (And.intro (ll_0 hL) (Exists.intro 5 (And.intro (lg_0_3 hL) (have c24 := v3.1; have v25 := v3.2; (Exists.intro [vr 5] (Exists.intro 16 (Exists.intro [] (And.intro (And.intro rfl (And.intro rfl (Nat.le_of_ble_eq_true rfl))) (And.intro (ll_16 hL) (Exists.intro 6 (Exists.intro 0 (Exists.intro 0 (Exists.intro _ (And.intro (l_choose (h := h) hL c24) (And.intro (And.intro (by decide) (And.intro (Nat.zero_le _) (Nat.zero_le _))) (eQP (show wp mX11_begin 7 rc rs Q 24 [some (vr 0), none] [vi (m_ch g)] h from xIc k_X11_begin_24 (And.intro rfl (And.intro (fun c5 => have v7 := v25.1 c5; (show wp mX11_begin 7 rc rs Q 32 [some (vr 0), some (vi (m_ch g))] [] h from xcV k_X11_begin_32 s_X11_begin_45 (And.intro (ll_0 hL) (Exists.intro 17 (And.intro (lg_0_10 hL) (And.intro (ll_0 hL) (Exists.intro 5 (And.intro (lg_0_3 hL) (And.intro (ll_0 hL) (Exists.intro 16 (And.intro (lg_0_9 hL) (have c21 := v7.1; have v22 := v7.2; (Exists.intro [] (Exists.intro 16 (Exists.intro [vi (m_ch g), vr 5, vr 17] (And.intro (And.intro rfl (And.intro rfl (Nat.le_of_ble_eq_true rfl))) (And.intro (ll_16 hL) (Exists.intro 0 (Exists.intro 0 (Exists.intro 0 (Exists.intro _ (And.intro (l_width (h := h) hL c21) (And.intro (And.intro (by decide) (And.intro (Nat.zero_le _) (Nat.zero_le _))) (eQP (show wp mX11_begin 7 rc rs Q 48 [some (vr 0), some (vi (m_ch g))] [vi (m_width g), vi (m_ch g), vr 5, vr 17] h from xcV k_X11_begin_48 s_X11_begin_48 (Exists.elim v22 (fun P11 v17 => (Exists.intro [vr 5, vi (m_ch g), vi (m_width g)] (Exists.intro 17 (Exists.intro [] (And.intro (And.intro rfl (And.intro rfl (Nat.le_of_ble_eq_true rfl))) (And.intro (ll_17 hL) (Exists.intro 0 (Exists.intro 0 (Exists.intro 0 (Exists.intro (QV P11) (And.intro v17.1 (And.intro (And.intro (by decide) (And.intro (Nat.zero_le _) (Nat.zero_le _))) (eQV (fun h9 e19 => have v18 := v17.2 h9 e19; have hL := v18.1; have v18 := v18.2; (show wp mX11_begin 7 rc rs Q 51 [some (vr 0), some (vi (m_ch g))] [] h9 from xcV k_X11_begin_51 s_X11_begin_65 (And.intro (ll_0 hL) (Exists.intro 5 (And.intro (lg_0_3 hL) (And.intro (ll_0 hL) (Exists.intro 17 (And.intro (lg_0_10 hL) (And.intro (ll_17 hL) (have c12 := v18.1; have v16 := v18.2; (And.intro c12 (have c13 := v16.1; have v14 := v16.2; (Exists.intro [vi (m_ch g), vi ((m_ch g) + iH h9 17 2)] (Exists.intro 5 (Exists.intro [] (And.intro (And.intro rfl (And.intro rfl (Nat.le_of_ble_eq_true rfl))) (And.intro (ll_5 hL) (Exists.intro 2 (Exists.intro 0 (Exists.intro 0 (Exists.intro _ (And.intro (l_liveBetween (h := h9) hL c13) (And.intro (And.intro (by decide) (And.intro (Nat.zero_le _) (Nat.zero_le _))) (eQP (show wp mX11_begin 7 rc rs Q 68 [some (vr 0), some (vi (m_ch g))] [vi (m_liveIn g (m_ch g) (((m_ch g) + iH h9 17 2) - (m_ch g)))] h9 from xI k_X11_begin_68 (And.intro rfl v14))))))))))))))))))))))))))))))))))))))))))))))))))))))))))))))))) (fun c6 => have v8 := v25.2 (Decidable.not_not.mp c6); (show wp mX11_begin 7 rc rs Q 30 [some (vr 0), some (vi (m_ch g))] [] h from xI k_X11_begin_30 (And.intro rfl v8))))))))))))))))))))))))))) (fun c2 => have v4 := hv.2 c2; (show wp mX11_begin 7 rc rs Q 10 [some (vr 0), none] [] h from xI k_X11_begin_10 (And.intro rfl v4)))))))))
theorem e_X11_begin {mc ms : Nat} {Q : Option AV → AH → Prop} {h : AH} {sa : Nat → Nat} {da : Nat → Nat} {g : AH}  (hL : LayL h) (hv : (((iH h 17 0) = 0 → (5 = 5 ∧ cPol h g ∧ cRd h g da sa) ∧ (((m_ch g) ≠ (-1) → (cPol h g) ∧ (∃ P11 : AH → Prop, Ct 0 0 0 mX3_start [vr 17, vr 5, vi (m_ch g), vi (m_width g)] h (QV P11) ∧ ∀ h9 : AH, P11 h9 → LayL h9 ∧ (-2147483648 ≤ ((m_ch g) + iH h9 17 2) ∧ ((m_ch g) + iH h9 17 2) < 2147483648) ∧ (5 = 5 ∧ cRd h9 g da sa ∧ 0 ≤ (m_ch g) ∧ (m_ch g) ≤ ((m_ch g) + iH h9 17 2) ∧ ((m_ch g) + iH h9 17 2) ≤ iH g 89 13) ∧ Q (some (vi (m_liveIn g (m_ch g) (((m_ch g) + iH h9 17 2) - (m_ch g))))) h9)) ∧ ((m_ch g) = (-1) → Q (some (vi (-1))) h))) ∧ ((iH h 17 0) ≠ 0 → Q (some (vi (-3))) h))) : Ct 7 mc ms mX11_begin [vr 0] h Q := Ct.of (by decide +kernel) (Nat.le_of_ble_eq_true rfl) (t_X11_begin_0 hL hv)
def kMg (h g : AH) : Prop := iH h 17 0 = iH g 89 24 ∧ (iH g 89 24 ≠ 0 → ∃ f w : Nat, cMg h g f w ∧ iH g 89 26 = (w : Int) ∧ iH g 89 25 = iH g 1155 f ∧ iH g 89 27 = ((v_cm g (mgRow g f) (mgLf h) w).1 : Int) ∧ ∀ i : Nat, i < (v_cm g (mgRow g f) (mgLf h) w).1 → iH g 1159 i = (v_cm g (mgRow g f) (mgLf h) w).2 i)
section
variable {g : AH}
theorem bgI_cnt (x : Nat) (p : Nat × (Nat → Int)) : ∀ k : Nat, ((m_bgI g x p k).1 : Int) = p.1 + cnt (fun k => iH g 613 (iH g (617 + x) k).toNat = 0) k
  | 0 => (Int.add_zero _).symm
  | k + 1 => by
    have ih := bgI_cnt x p k
    unfold m_bgI
    by_cases c : iH g 613 (iH g (617 + x) k).toNat = 0
    · rw [if_pos c, cnt_s (p := fun k => iH g 613 (iH g (617 + x) k).toNat = 0) c]
      show (((m_bgI g x p k).1 + 1 : Nat) : Int) = _
      omega
    · rw [if_neg c, cnt_n (p := fun k => iH g 613 (iH g (617 + x) k).toNat = 0) c, ih]
theorem bg_cnt (f : Nat) : ∀ w : Nat, ((m_bg g f w).1 : Int) = sumN (fun i => m_live g (iH g 1155 (f + i))) w
  | 0 => rfl
  | w + 1 => by
    show ((m_bgI g (iH g 1155 (f + w)).toNat (m_bg g f w) _).1 : Int) = sumN (fun i => m_live g (iH g 1155 (f + i))) w + m_live g (iH g 1155 (f + w))
    rw [bgI_cnt, bg_cnt f w]
    rfl
theorem bgI_eq {x : Int} {lf : Nat → Prop} {p p' : Nat × (Nat → Int)} (h1 : p.1 = p'.1) (h2 : ∀ i, i < p.1 → p.2 i = p'.2 i) : ∀ k : Nat, (∀ j, j < k → (lf j ↔ iH g 613 (iH g (617 + x.toNat) j).toNat ≠ 0)) → (m_bgI g x.toNat p k).1 = (v_cI g x lf p' k).1 ∧ ∀ i, i < (m_bgI g x.toNat p k).1 → (m_bgI g x.toNat p k).2 i = (v_cI g x lf p' k).2 i
  | 0, _ => ⟨h1, h2⟩
  | k + 1, hl => by
    obtain ⟨i1, i2⟩ := bgI_eq h1 h2 k fun j hj => hl j (by omega)
    unfold m_bgI v_cI
    by_cases c : iH g 613 (iH g (617 + x.toNat) k).toNat = 0
    · rw [if_pos c, if_neg (fun u => (hl k (by omega)).mp u c)]
      refine ⟨by show (m_bgI g x.toNat p k).1 + 1 = (v_cI g x lf p' k).1 + 1; omega, fun i hi => ?_⟩
      have hi : i < (m_bgI g x.toNat p k).1 + 1 := hi
      show (if i = (m_bgI g x.toNat p k).1 then iH g (617 + x.toNat) k else (m_bgI g x.toNat p k).2 i) = (if i = (v_cI g x lf p' k).1 then iH g (617 + x.toNat) k else (v_cI g x lf p' k).2 i)
      rw [← i1]
      by_cases e : i = (m_bgI g x.toNat p k).1
      · rw [if_pos e, if_pos e]
      · rw [if_neg e, if_neg e]; exact i2 i (by omega)
    · rw [if_neg c, if_pos ((hl k (by omega)).mpr c)]
      exact ⟨i1, i2⟩
theorem bg_eq {f : Nat} {lf : Nat → Nat → Prop} : ∀ w : Nat, (∀ i, i < w → ∀ k : Nat, (k : Int) < iH g 615 (iH g 1155 (f + i)).toNat → (lf i k ↔ iH g 613 (iH g (617 + (iH g 1155 (f + i)).toNat) k).toNat ≠ 0)) → (m_bg g f w).1 = (v_cm g (mgRow g f) lf w).1 ∧ ∀ i, i < (m_bg g f w).1 → (m_bg g f w).2 i = (v_cm g (mgRow g f) lf w).2 i
  | 0, _ => ⟨rfl, fun i hi => absurd hi (Nat.not_lt_zero _)⟩
  | w + 1, hl => by
    obtain ⟨i1, i2⟩ := bg_eq w fun i hi => hl i (by omega)
    exact bgI_eq i1 i2 _ fun j hj => hl w (by omega) j (by omega)
/-- who comes hangs on nothing but the rows and who is left -/
theorem cI_cg {g g' : AH} {x x' : Int} {lf lf' : Nat → Prop} {p : Nat × (Nat → Int)} : ∀ k : Nat, (∀ j, j < k → iH g' (617 + x'.toNat) j = iH g (617 + x.toNat) j ∧ (lf' j ↔ lf j)) → v_cI g' x' lf' p k = v_cI g x lf p k
  | 0, _ => rfl
  | k + 1, h => by
    have ih := cI_cg (p := p) k fun j hj => h j (by omega)
    obtain ⟨e1, e2⟩ := h k (by omega)
    unfold v_cI
    rw [ih, e1, propext e2]
theorem cm_cg {g g' : AH} {row row' : Nat → Int} {lf lf' : Nat → Nat → Prop} : ∀ w : Nat, (∀ i, i < w → iH g' 615 (row' i).toNat = iH g 615 (row i).toNat ∧ ∀ j : Nat, (j : Int) < iH g 615 (row i).toNat → iH g' (617 + (row' i).toNat) j = iH g (617 + (row i).toNat) j ∧ (lf' i j ↔ lf i j)) → v_cm g' row' lf' w = v_cm g row lf w
  | 0, _ => rfl
  | w + 1, h => by
    obtain ⟨e1, e2⟩ := h w (by omega)
    unfold v_cm
    rw [cm_cg w fun i hi => h i (by omega), e1]
    exact cI_cg _ fun j hj => e2 j (by omega)
end
def hBg (h : AH) (f w : Nat) (J : Nat → Int64) : AH := sJW (sI (sI (sI h 17 0 1) 17 1 f) 17 2 w) 18 J
theorem l_begin {h g : AH} {da sa : Nat → Nat} (hL : LayL h) (hp : kSta h g da sa) (hpo : cPol h g) (hm : kMg h g) : Ct 7 0 0 mX11_begin [vr 0] h (QI fun x h' => LayL h' ∧ ∃ g', p_begin g x g' ∧ kMg h' g' ∧ ((h' = h ∧ g' = g) ∨ (∃ f w J, h' = hBg h f w J) ∧ g' = m_begin g)) := by
  have hc := hp.1.1
  have h8 := hc.2.2.2.1
  refine e_X11_begin (g := g) (da := da) (sa := sa) hL ?_
  rw [hm.1]
  refine ⟨fun c => ⟨⟨rfl, hpo, hc⟩, fun c2 => ?_, fun c2 => ⟨_, rfl, hL, g, Or.inr (Or.inl ⟨c, c2, rfl, rfl⟩), hm, Or.inl ⟨rfl, rfl⟩⟩⟩, fun c => ⟨_, rfl, hL, g, Or.inl ⟨c, rfl, rfl⟩, hm, Or.inl ⟨rfl, rfl⟩⟩⟩
  have cb := m_ch_bd (h := g)
  have wb := m_width_bd g
  obtain ⟨f, hf⟩ := Int.eq_ofNat_of_zero_le (show 0 ≤ m_ch g by omega)
  obtain ⟨w, hw⟩ := Int.eq_ofNat_of_zero_le (show 0 ≤ m_width g by omega)
  have fw := cb.2 c2
  rw [hf, hw]
  refine ⟨hpo, _, l_startM hL hc (f := f) (w := w) (by omega), fun h1 hx => ?_⟩
  obtain ⟨J, rfl, hJ⟩ := hx
  have L1 : LayL (sJW (sI (sI (sI h 17 0 1) 17 1 f) 17 2 w) 18 J) := hL
  have r2 : iH (sJW (sI (sI (sI h 17 0 1) 17 1 f) 17 2 w) 18 J) 17 2 = w := by
    show iH (sI (sI (sI h 17 0 1) 17 1 f) 17 2 w) 17 2 = _
    rw [rI_same]
  have r1 : iH (sJW (sI (sI (sI h 17 0 1) 17 1 f) 17 2 w) 18 J) 17 1 = f := by
    show iH (sI (sI (sI h 17 0 1) 17 1 f) 17 2 w) 17 1 = _
    rw [rI_nk (by decide), rI_same]
  have r0 : iH (sJW (sI (sI (sI h 17 0 1) 17 1 f) 17 2 w) 18 J) 17 0 = 1 := by
    show iH (sI (sI (sI h 17 0 1) 17 1 f) 17 2 w) 17 0 = _
    rw [rI_nk (by decide), rI_nk (by decide), rI_same]
  have c1 : cRd (sJW (sI (sI (sI h 17 0 1) 17 1 f) 17 2 w) 18 J) g da sa := by
    have e : ∀ x k, x ≠ 17 → iH (sJW (sI (sI (sI h 17 0 1) 17 1 f) 17 2 w) 18 J) x k = iH h x k := fun x k hx => by
      show iH (sI (sI (sI h 17 0 1) 17 1 f) 17 2 w) x k = _
      rw [rI_ne hx, rI_ne hx, rI_ne hx]
    exact cRd_fr (h := h) (h' := sJW (sI (sI (sI h 17 0 1) 17 1 f) 17 2 w) 18 J) (agD_rf rfl (fun _ => rfl) fun x hx => ⟨fun k => e x k (by omega), fun k => rfl⟩) (e 5 2 (by decide)) (fun _ => rfl) (fun k => jw_o (by decide)) hc
  rw [r2]
  have dr : ∀ i, i < w → ∀ k : Nat, bt (J i) k ↔ (k : Int) < iH g 615 (iH g 1155 (f + i)).toNat ∧ iH g 613 (iH g (617 + (iH g 1155 (f + i)).toNat) k).toNat ≠ 0 := fun i hi k => by
    rw [hJ i hi]
    exact (hc.2.2.2.2 (f + i) (by omega)).2.2 k
  have lfe : ∀ i, i < w → ∀ k : Nat, (k : Int) < iH g 615 (iH g 1155 (f + i)).toNat → (mgLf (hBg h f w J) i k ↔ iH g 613 (iH g (617 + (iH g 1155 (f + i)).toNat) k).toNat ≠ 0) := fun i hi k hk => by
    have : mgLf (hBg h f w J) i k ↔ bt (J i) k := by
      unfold mgLf hBg
      rw [jw_s]
    rw [this, dr i hi k]
    exact ⟨fun u => u.2, fun u => ⟨hk, u⟩⟩
  obtain ⟨b1, b2⟩ := bg_eq w lfe
  have eN : (m_ch g).toNat = f := by omega
  have eW : (m_width g).toNat = w := by omega
  refine ⟨L1, by omega, ⟨rfl, c1, by omega, by omega, by omega⟩, _, rfl, L1, m_begin g, Or.inr (Or.inr ⟨c, c2, ?_, rfl⟩), ⟨?_, fun _ => ⟨f, w, ⟨r1, r2, ⟨by omega, ?_⟩, fun i hi k hk => ?_⟩, ?_, ?_, ?_, ?_⟩⟩, Or.inr ⟨⟨f, w, J, rfl⟩, rfl⟩⟩
  · rw [eN, eW, bg_cnt]
    unfold m_liveIn
    rw [show (f : Int).toNat = f from rfl, show ((f : Int) + (w : Int) - (f : Int)).toNat = w by omega]
  · rw [r0]
    unfold m_begin m_bgS m_bgB
    rw [rI_nk (by decide), rW_ne (by decide), rI_nk (by decide), rI_nk (by decide), rI_same]
  · unfold m_begin m_bgS m_bgB
    rw [rI_nk (by decide), rW_ne (by decide), rI_nk (by decide), rI_nk (by decide), rI_nk (by decide)]
    omega
  · have e1 : ∀ x k, x ≠ 89 → x ≠ 1159 → iH (m_begin g) x k = iH g x k := fun x k h1 h2 => by
      unfold m_begin m_bgS m_bgB
      rw [rI_ne h1, rW_ne h2, rI_ne h1, rI_ne h1, rI_ne h1]
    rw [e1 _ _ (by decide) (by decide), e1 _ _ (by decide) (by decide)]
    have : jH (sJW (sI (sI (sI h 17 0 1) 17 1 f) 17 2 w) 18 J) 18 i = J i := jw_s
    rw [this, dr i hi k] at hk
    exact hk.1
  · unfold m_begin m_bgS m_bgB
    rw [rI_nk (by decide), rW_ne (by decide), rI_same, hw]
  · unfold m_begin m_bgS m_bgB
    rw [rI_nk (by decide), rW_ne (by decide), rI_nk (by decide), rI_same, rI_ne (by decide), rW_ne (by decide), rI_ne (by decide), rI_ne (by decide), rI_ne (by decide), eN]
  · have e1 : ∀ x k, x ≠ 89 → x ≠ 1159 → iH (m_begin g) x k = iH g x k := fun x k h1 h2 => by
      unfold m_begin m_bgS m_bgB
      rw [rI_ne h1, rW_ne h2, rI_ne h1, rI_ne h1, rI_ne h1]
    have eC : v_cm (m_begin g) (mgRow (m_begin g) f) (mgLf (hBg h f w J)) w = v_cm g (mgRow g f) (mgLf (hBg h f w J)) w := cm_cg w fun i hi => by
      have q := (hc.2.2.2.2 (f + i) (by omega)).1
      have q1 : 0 ≤ iH g 1155 (f + i) ∧ iH g 1155 (f + i) < iH g 89 5 := q
      have := segs_520 hc.2.1
      have er : mgRow (m_begin g) f i = mgRow g f i := e1 _ _ (by decide) (by decide)
      rw [er]
      refine ⟨e1 _ _ (by decide) (by decide), fun j _ => ⟨e1 _ _ (by omega) (by unfold mgRow; omega), Iff.rfl⟩⟩
    show iH (m_begin g) 89 27 = ((v_cm (m_begin g) (mgRow (m_begin g) f) (mgLf (hBg h f w J)) w).1 : Int)
    rw [eC, ← b1, ← eN, ← eW]
    unfold m_begin m_bgS
    rw [rI_same]
  · have e1 : ∀ x k, x ≠ 89 → x ≠ 1159 → iH (m_begin g) x k = iH g x k := fun x k h1 h2 => by
      unfold m_begin m_bgS m_bgB
      rw [rI_ne h1, rW_ne h2, rI_ne h1, rI_ne h1, rI_ne h1]
    have eC : v_cm (m_begin g) (mgRow (m_begin g) f) (mgLf (hBg h f w J)) w = v_cm g (mgRow g f) (mgLf (hBg h f w J)) w := cm_cg w fun i hi => by
      have q := (hc.2.2.2.2 (f + i) (by omega)).1
      have q1 : 0 ≤ iH g 1155 (f + i) ∧ iH g 1155 (f + i) < iH g 89 5 := q
      have := segs_520 hc.2.1
      have er : mgRow (m_begin g) f i = mgRow g f i := e1 _ _ (by decide) (by decide)
      rw [er]
      refine ⟨e1 _ _ (by decide) (by decide), fun j _ => ⟨e1 _ _ (by omega) (by unfold mgRow; omega), Iff.rfl⟩⟩
    show ∀ i : Nat, i < (v_cm (m_begin g) (mgRow (m_begin g) f) (mgLf (hBg h f w J)) w).1 → iH (m_begin g) 1159 i = (v_cm (m_begin g) (mgRow (m_begin g) f) (mgLf (hBg h f w J)) w).2 i
    rw [eC, ← b1]
    intro i hi
    rw [← b2 i hi, ← eN, ← eW]
    unfold m_begin m_bgS
    rw [rI_ne (by decide), rW_same]
