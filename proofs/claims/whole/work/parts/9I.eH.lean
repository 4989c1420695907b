/-! THE LAW'S OWN STEPS: in one fixed context (its script is no cell of the pure heap) -/
abbrev mLw : MI := (yL_law, cL_law, 4, some .boolean)
section
variable {E : EN} {p : Program} {l : Launch} {e : Env} {R : Room} {s : State} {m : MethodId} {args : Array Value} {below : List Frame} {meth : Method} {c : Code} {Z : State → Prop} {H : Heap} {locs : List Loc} {ls : Array Slot} {cells slots : Nat}
variable {y z : MI} {d' mc ms i n a t pc : Nat} {Q' : Option AV → AH → Prop} {h : AH} {av st : List AV}
theorem c_callV (hC : Cx y E p s m args meth c) (hM : Ct d' mc ms z (vr a :: av) h Q') (hd : decode y.2.1 pc = .ok (.invokevirtual i, 3)) (hl : VL y z i n) (hn : av.length = n) (ha : a < nH h) (hk : kH h a = (t, 0)) (hc : t < 13 ∧ rx t = z.1.cls) (hf : d' + 1 ≤ R.frames ∧ 8 + (z.2.2.1 + 11) + 64 * d' ≤ R.locals) (hcc : cells + mc ≤ R.cells) (hss : slots + ms ≤ R.slots) (h8 : (st.map cat).sum ≤ 8) (hW : Wd E.2.1 E.2.2 E.1 h H) (hS : va_S (ab E.1) s.heap H locs) (hls : ls.size = y.2.2.1) (hst : ∀ v ∈ av, okV v)
    (kk : ∀ (v : Option AV) (h' : AH) (H1 : Heap) (locs1 : List Loc), (∀ w, v = some w → okV w) → Q' v h' → Wd E.2.1 E.2.2 E.1 h' H1 → va_S (ab E.1) s.heap H1 locs1 → W p l e R s m args below meth c H1 locs1 (cells + mc) (slots + ms) Z (F0 m (pc + 3) ls ((v.toList ++ st).map (cv E.1)))) : W p l e R s m args below meth c H locs cells slots Z (F0 m pc ls ((av.reverse ++ vr a :: st).map (cv E.1))) := by
  obtain ⟨⟨l1, l2, l3, l4, l5⟩, l6, l7, l8⟩ := hl
  have hts := hC.2.2.2.2.1
  have hcb : CallB R s args y.1.cls i z.1 z.2.1 z.2.2.1 z.2.2.2 (wsM z) (rmM d' mc ms) mc ms n := callB_of n hts (gt_good l1) rfl rfl rfl (hts _ l2) (hts _ l6) ⟨l3, l4, l5⟩ hf
  have hat := hW.2.1 a ha
  rw [cE_o hk hc.1] at hat
  obtain ⟨r, h1, cell, q1, q2, q3, -⟩ := hat
  have hfc := (hC.2.2.2.2.2.1.1.1 t _ (vwAt hc.1)).2.1
  have hstv : ∀ v ∈ vr a :: av, okV v := fun v hv => by
    rcases List.mem_cons.mp hv with rfl | hv
    · trivial
    · exact hst v hv
  rw [map_rev]
  exact w_fin (E := E) (va_runV (As := av.map (cv E.1)) (rest := st.map (cv E.1)) (b := E.1 + a) (C := z.1.cls) ⟨hC.1, hC.2.1, hC.2.2.1, hC.2.2.2.1, hts⟩ (hM l E) ⟨hcb, hts _ l7, hts _ l8⟩ ⟨PcM_blind E _ _, ⟨cell, q1, by rw [q3]; rfl, by rw [q2, ← hc.2]; exact hfc⟩, fun U hU hWm => ⟨rfl, hstv, by rw [hU]; exact hW, hC.2.2.2.2.2.1.go hWm (by rw [hU]; exact hS)⟩⟩ rfl (by rw [List.length_map]; exact hn) hls rfl (lv_room (by rw [cat_sum]; exact h8)) hd ⟨by omega, by omega⟩) hS kk
theorem c_callI (hC : Cx y E p s m args meth c) (hM : Ct d' mc ms z (vr a :: av) h Q') (hd : decode y.2.1 pc = .ok (.invokespecial i, 3)) (hl : IL y z i n) (hn : av.length = n) (hf : d' + 1 ≤ R.frames ∧ 8 + (z.2.2.1 + 11) + 64 * d' ≤ R.locals) (hcc : cells + mc ≤ R.cells) (hss : slots + ms ≤ R.slots) (h8 : (st.map cat).sum ≤ 8) (hW : Wd E.2.1 E.2.2 E.1 h H) (hS : va_S (ab E.1) s.heap H locs) (hls : ls.size = y.2.2.1) (hst : ∀ v ∈ av, okV v)
    (kk : ∀ (v : Option AV) (h' : AH) (H1 : Heap) (locs1 : List Loc), (∀ w, v = some w → okV w) → Q' v h' → Wd E.2.1 E.2.2 E.1 h' H1 → va_S (ab E.1) s.heap H1 locs1 → W p l e R s m args below meth c H1 locs1 (cells + mc) (slots + ms) Z (F0 m (pc + 3) ls ((v.toList ++ st).map (cv E.1)))) : W p l e R s m args below meth c H locs cells slots Z (F0 m pc ls ((av.reverse ++ vr a :: st).map (cv E.1))) := by
  obtain ⟨⟨l1, l2, l3, l4, l5⟩, l6, l7, l8, l9⟩ := hl
  have hts := hC.2.2.2.2.1
  have hstv : ∀ v ∈ vr a :: av, okV v := fun v hv => by
    rcases List.mem_cons.mp hv with rfl | hv
    · trivial
    · exact hst v hv
  rw [map_rev]
  have hpre : PreS s H (PcM E (vr a :: av) h) (Value.ref (E.1 + a) :: av.map (cv E.1)) := ⟨PcM_blind E _ _, fun U hU hWm => ⟨rfl, hstv, by rw [hU]; exact hW, hC.2.2.2.2.2.1.go hWm (by rw [hU]; exact hS)⟩⟩
  have hcb : CallB R s args y.1.cls i z.1 z.2.1 z.2.2.1 none (wsM z) (rmM d' mc ms) mc ms n := callB_of (ws' := gt) n hts (gt_good l1) (by rw [← l9]; rfl) rfl rfl (hts _ l2) (hts _ l6) ⟨l3, l4, l5⟩ hf
  exact w_fin (E := E) (va_runI (As := av.map (cv E.1)) (rest := st.map (cv E.1)) ⟨hC.1, hC.2.1, hC.2.2.1, hC.2.2.2.1, hts⟩ (hM l E) ⟨hcb, l8, hts _ l7⟩ hpre rfl (by rw [List.length_map]; exact hn) hls rfl (lv_room (by rw [cat_sum]; exact h8)) hd ⟨by omega, by omega⟩) hS kk
theorem c_new (hC : Cx y E p s m args meth c) (hc : t < 13) (hd : decode y.2.1 pc = .ok (.new i, 3)) (hl : Cond.classLink y.1.cls i (rx t) ∈ gt ∧ Cond.instantiable (rx t) (nf t) ∈ gt ∧ Cond.initialized (rx t) ∈ gt) (hcc : cells + 1 ≤ R.cells) (hss : slots + nf t ≤ R.slots) (hW : Wd E.2.1 E.2.2 E.1 h H) (hS : va_S (ab E.1) s.heap H locs)
    (kk : ∀ H1, Wd E.2.1 E.2.2 E.1 (nw h t 0) H1 → va_S (ab E.1) s.heap H1 locs → W p l e R s m args below meth c H1 locs (cells + 1) (slots + nf t) Z (F0 m (pc + 3) ls ((vr (nH h) :: st).map (cv E.1)))) : W p l e R s m args below meth c H locs cells slots Z (F0 m pc ls (st.map (cv E.1))) := by
  have hts := hC.2.2.2.2.1
  have hKn := hC.2.2.2.2.2.1.1.1 t _ (vwAt hc)
  refine W.newcK hC.1 hC.2.1 hC.2.2.2.1 (hts _ hl.1) (hts _ hl.2.1) (hts _ hl.2.2) rfl hd (by omega) (by omega) hKn.2.1 hW.1 fun H1 kC hkC e1 z1 o1 => ?_
  have hW1 : Wd E.2.1 E.2.2 E.1 (nw h t 0) H1 := by
    refine hW.push rfl (in_nw hW.2.2) (by rw [z1, hW.1]) ?_ (fun q hq => o1 q (by rw [← hW.1]; exact hq)) (fun x hx => cE_nw hx)
    rw [cE_o (kH_nw h t 0) hc]
    refine ⟨_, vwAt hc, (u_born (tyf t) hts (inG hc) hKn hkC e1 (tyAt hc)).to (fun j hj => ?_)⟩
    rw [vpV_ovs hj, dfl t hc j hj]
    unfold ov
    rw [rH_nw, iH_nw]
    rfl
  exact kk H1 hW1 ⟨Nat.le_trans hS.1 (by rw [z1, hW.1]; omega), fun x g1 g2 => (o1 x (by rw [← hW.1]; exact Nat.lt_of_lt_of_le g1 hS.1)).trans (hS.2.1 x g1 g2), hS.2.2⟩
end
/-- what the law's locals are, behind T calls -/
def lwS (ls : Array Slot) (q b T : Nat) : Prop := lv_has ls 4 [(3, .int (Int32.ofInt ((7 * T : Nat) : Int))), (2, .ref (q + 89)), (1, .ref (q + 0)), (0, .ref b)]
/-- the law's context -/
def LC (E : EN) (p : Program) (s : State) (m : MethodId) (meth : Method) (c : Code) (b L : Nat) (xs : Nat → Int32) : Prop := Cx mLw E p s m #[Value.ref b] meth c ∧ E.1 = s.heap.size ∧ va_X b L xs s s.heap ∧ b < s.heap.size ∧ L ≤ 3584
def XA (xs : Nat → Int32) (T j : Nat) : Int := (xs (7 * T + j)).toInt
/-- the places of a row of the script being pushed -/
def ckAr : Nat → List Nat → Nat → Bool
  | pc, [], q => pc == q
  | pc, j :: js, q => decide (decode cL_law pc = .ok (.aload_n 0, 1)) && decide (decode cL_law (pc + 1) = .ok (.iload_n 3, 1)) && (if j < 6 then decide (decode cL_law (pc + 2) = .ok (.iconst (j : Int), 1)) && decide (decode cL_law (pc + 3) = .ok (.iadd, 1)) && decide (decode cL_law (pc + 4) = .ok (.iaload, 1)) && ckAr (pc + 5) js q else decide (j = 6) && decide (decode cL_law (pc + 2) = .ok (.bipush 6, 2)) && decide (decode cL_law (pc + 4) = .ok (.iadd, 1)) && decide (decode cL_law (pc + 5) = .ok (.iaload, 1)) && ckAr (pc + 6) js q)
def ckCa (pc : Nat) (js : List Nat) (p1 i1 p2 i2 : Nat) : Bool := decide (decode cL_law pc = .ok (.aload_n 1, 1)) && ckAr (pc + 1) js p1 && decide (decode cL_law p1 = .ok (.invokevirtual i1, 3)) && decide (decode cL_law (p1 + 3) = .ok (.aload_n 2, 1)) && ckAr (p1 + 4) js p2 && decide (decode cL_law p2 = .ok (.invokevirtual i2, 3)) && decide (decode cL_law (p2 + 3) = .ok (.if_icmp .eq (1134 - ((p2 + 3 : Nat) : Int)), 3))
section
variable {E : EN} {p : Program} {l : Launch} {e : Env} {s : State} {m : MethodId} {below : List Frame} {meth : Method} {c : Code} {Z : State → Prop} {H : Heap} {locs : List Loc} {ls : Array Slot} {cells slots : Nat} {b L : Nat} {xs : Nat → Int32} {T : Nat} {h : AH}
theorem larg (hX : LC E p s m meth c b L xs) (hS : va_S (ab E.1) s.heap H locs) {j : Nat} {rest : List Value} (hj : j ≤ 6) (hT : 7 * T + 7 ≤ L) {pc : Nat} (hd : decode cL_law pc = .ok (.iaload, 1)) (k : W p l e room_1 s m #[Value.ref b] below meth c H locs cells slots Z (F0 m (pc + 1) ls (.int (xs (7 * T + j)) :: rest))) : W p l e room_1 s m #[Value.ref b] below meth c H locs cells slots Z (F0 m pc ls (.int (Int32.ofInt ((7 * T + j : Nat) : Int)) :: .ref b :: rest)) := by
  obtain ⟨hC, hq, hx, hb, hL⟩ := hX
  have hin : inr ((7 * T + j : Nat) : Int) := by unfold inr; omega
  have en := oi_nat hin
  refine va_sld hC.1 hC.2.1 hx hb (by show ¬ E.1 ≤ b; omega) hS ?_ hd ?_
  · unfold vp_in
    rw [en, oi_0, oi_lt hin in_0]; omega
  · rw [en, Int.toNat_natCast]; exact k
theorem largs (hX : LC E p s m meth c b L xs) (hS : va_S (ab E.1) s.heap H locs) (hl : lwS ls E.1 b T) (hT : 7 * T + 7 ≤ L) (js : List Nat) : ∀ (pc q : Nat) (st : List AV), ckAr pc js q = true → W p l e room_1 s m #[Value.ref b] below meth c H locs cells slots Z (F0 m q ls (((js.map (fun j => vi (XA xs T j))).reverse ++ st).map (cv E.1))) → W p l e room_1 s m #[Value.ref b] below meth c H locs cells slots Z (F0 m pc ls (st.map (cv E.1))) := by
  induction js with
  | nil =>
    intro pc q st ck k
    have : pc = q := by
      have c2 : (pc == q) = true := ck
      exact beq_iff_eq.mp c2
    subst this
    exact k
  | cons j js ih =>
    intro pc q st ck k
    have hC := hX.1
    have l0 := hl.2.2 (0, .ref b) (by simp)
    have l3 := hl.2.2 (3, .int (Int32.ofInt ((7 * T : Nat) : Int))) (by simp)
    have ek : ((((j :: js).map (fun j => vi (XA xs T j))).reverse ++ st) : List AV) = (js.map (fun j => vi (XA xs T j))).reverse ++ (vi (XA xs T j) :: st) := by simp
    rw [ek] at k
    have ev : Value.int (xs (7 * T + j)) = cv E.1 (vi (XA xs T j)) := by
      show _ = Value.int (Int32.ofInt (XA xs T j))
      unfold XA
      rw [oi_back]
    simp only [ckAr, Bool.and_eq_true, decide_eq_true_eq] at ck
    obtain ⟨⟨c1, c2⟩, c3⟩ := ck
    have ea : Int32.ofInt ((7 * T : Nat) : Int) + Int32.ofInt (j : Int) = Int32.ofInt ((7 * T + j : Nat) : Int) := by rw [oi_add]; congr 1
    refine lv_aload_n hC.1 hC.2.1 c1 rfl l0 (lv_iload_n hC.1 hC.2.1 c2 rfl l3 ?_)
    by_cases hj : j < 6
    · rw [if_pos hj] at c3
      simp only [Bool.and_eq_true, decide_eq_true_eq] at c3
      obtain ⟨⟨⟨d1, d2⟩, d3⟩, d4⟩ := c3
      refine lv_iconst hC.1 hC.2.1 d1 rfl (lv_iadd hC.1 hC.2.1 d2 ?_)
      rw [ea]
      refine larg hX hS (by omega) hT d3 ?_
      rw [ev]
      exact ih (pc + 5) q (vi (XA xs T j) :: st) d4 k
    · rw [if_neg hj] at c3
      simp only [Bool.and_eq_true, decide_eq_true_eq] at c3
      obtain ⟨⟨⟨⟨d0, d1⟩, d2⟩, d3⟩, d4⟩ := c3
      refine lv_bipush (v := Int32.ofInt (j : Int)) hC.1 hC.2.1 d1 (by rw [d0]; rfl) (lv_iadd hC.1 hC.2.1 d2 ?_)
      rw [ea]
      refine larg hX hS (by omega) hT d3 ?_
      rw [ev]
      exact ih (pc + 6) q (vi (XA xs T j) :: st) d4 k
theorem XA_ok {js : List Nat} : ∀ v ∈ js.map (fun j => vi (XA xs T j)), okV v := fun v hv => by
  obtain ⟨j, -, rfl⟩ := List.mem_map.mp hv
  exact oi_in _
/-- one call of the script: the class's, the reference's, the comparison -/
theorem lcase (hX : LC E p s m meth c b L xs) (hl : lwS ls E.1 b T) (hT : 7 * T + 7 ≤ L) {z1 z2 : MI} {js : List Nat} {pc p1 i1 p2 i2 : Nat} (S : St z1 z2 (js.map (fun j => vi (XA xs T j))) h T) (ck : ckCa pc js p1 i1 p2 i2 = true) (v1 : VL mLw z1 i1 js.length) (v2 : VL mLw z2 i2 js.length) (r1 : RX11 = z1.1.cls) (r2 : RX12 = z2.1.cls) (m1 : z1.2.2.1 ≤ 45) (m2 : z2.2.2.1 ≤ 45) (hI : Inv h T) (hW : Wd E.2.1 E.2.2 E.1 h H) (hS : va_S (ab E.1) s.heap H locs) (hc : cells + 5 ≤ 600000) (hs : slots + 2375 ≤ 7302250)
    (k : ∀ (h2 : AH) (H2 : Heap) (locs2 : List Loc) (cells2 slots2 : Nat), Inv h2 (T + 1) → Wd E.2.1 E.2.2 E.1 h2 H2 → va_S (ab E.1) s.heap H2 locs2 → cells2 ≤ cells + 5 → slots2 ≤ slots + 2375 → W p l e room_1 s m #[Value.ref b] below meth c H2 locs2 cells2 slots2 Z (F0 m 1134 ls [])) : W p l e room_1 s m #[Value.ref b] below meth c H locs cells slots Z (F0 m pc ls []) := by
  have hC := hX.1
  have rf : room_1.frames = 2048 := rfl
  have rl : room_1.locals = 84000 := rfl
  have rc : room_1.cells = 600000 := rfl
  have rs : room_1.slots = 7302250 := rfl
  simp only [ckCa, Bool.and_eq_true, decide_eq_true_eq] at ck
  obtain ⟨⟨⟨⟨⟨⟨c1, c2⟩, c3⟩, c4⟩, c5⟩, c6⟩, c7⟩ := ck
  obtain ⟨d, mc, ms, ⟨hd, hmc, hms⟩, S⟩ := S
  refine lv_aload_n hC.1 hC.2.1 c1 rfl (hl.2.2 (1, .ref (E.1 + 0)) (by simp)) ?_
  refine largs hX hS hl hT js (pc + 1) p1 [vr 0] c2 ?_
  refine c_callV hC S c3 v1 (by simp) (ll_0 hI.1).1 (ll_0 hI.1).2 ⟨by decide, r1⟩ ⟨by omega, by omega⟩ (by omega) (by omega) (by simp) hW hS hl.1 XA_ok ?_
  rintro v h1 H1 locs1 hok ⟨x, rfl, d', hd', hk, S2⟩ hW1 hS1
  have hx : inr x := hok _ rfl
  refine lv_aload_n hC.1 hC.2.1 c4 rfl (hl.2.2 (2, .ref (E.1 + 89)) (by simp)) ?_
  refine largs hX hS1 hl hT js (p1 + 4) p2 [vr 89, vi x] c5 ?_
  refine c_callV hC S2 c6 v2 (by simp) hk.1 hk.2 ⟨by decide, r2⟩ ⟨by omega, by omega⟩ (by omega) (by omega) (Nat.le_of_ble_eq_true rfl) hW1 hS1 hl.1 XA_ok ?_
  rintro v h2 H2 locs2 hok2 ⟨y, rfl, rfl, hI2⟩ hW2 hS2
  refine lv_icmp_eq hC.1 hC.2.1 c7 (tgt := 1134) (by omega) (fun _ => ?_) (fun q => absurd rfl q)
  exact k h2 H2 locs2 _ _ hI2 hW2 hS2 (by omega) (by omega)
end
