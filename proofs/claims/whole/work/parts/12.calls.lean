theorem StP.same {b : Nat} {u U : State} (hv : u.vm = U.vm) (hh : U.heap = u.heap) (h : StP b u u.heap) : StP b U U.heap := by
  rw [hh]
  have hA : u.vm.Alike U.vm := by rw [← hv]; exact Vm.Alike.refl _
  obtain ⟨⟨t, h1, h2⟩, ⟨t', h3, h4⟩, ⟨adK, adV, h5, h6, h7, h8⟩, h9, h10⟩ := h
  exact ⟨⟨t, va_Z.moved hA h1, va_T.moved hA h2⟩, ⟨t', va_Z.moved hA h3, va_T.moved hA h4⟩, ⟨adK, adV, vk_S.moved hA h5, vk_R.same hv.symm h6, vk_R.same hv.symm h7, vk_R.same hv.symm h8⟩, va_Z.moved hA h9, va_Zq.moved hA h10⟩
theorem Gs.same {E : EN} {u U : State} (hv : u.vm = U.vm) (hh : U.heap = u.heap) (h : Gs E u) : Gs E U := by
  have hA : u.vm.Alike U.vm := by rw [← hv]; exact Vm.Alike.refl _
  exact ⟨va_K.moved hA h.1, fun q hq => va_Nw.same rfl hv (h.2.1 q hq), va_Nw.same rfl hv h.2.2.1, ⟨fun C hC => va_AO.moved hA (h.2.2.2.1.1 C hC), aoA.moved hA h.2.2.2.1.2.1, aoA.moved hA h.2.2.2.1.2.2⟩, h.2.2.2.2.same hv hh⟩
theorem PcM_blind (E : EN) (av : List AV) (h : AH) : FrameBlind (PcM E av h) := fun a U g mk q => by
  obtain ⟨q0, q1, q2, q3⟩ := q
  exact ⟨q0, q1, q2, q3.same rfl rfl⟩
section CROWS
variable {y z : MI} {d d' rc rs mc ms : Nat} {Q Q' : Option AV → AH → Prop} {pc q : Nat} {lo : List (Option AV)} {st st' stk : List AV} {h : AH} {av : List AV}
/-- what the tables say of a method that is called -/
def ML (z : MI) (n : Nat) : Prop := cdw z ∈ gt ∧ Cond.initialized z.1.cls ∈ gt ∧ z.1.cls ≠ "java/lang/invoke/MethodHandle" ∧ z.1.cls ≠ "java/lang/invoke/VarHandle" ∧ (parseMethodDescriptor z.1.desc).map (fun d => d.parameters.length) = some n
def VL (y z : MI) (i n : Nat) : Prop := ML z n ∧ Cond.methodLink y.1.cls i z.1 ∈ gt ∧ Cond.instanceMethod z.1 ∈ gt ∧ Cond.selects z.1.cls z.1 z.1 ∈ gt
def SL (y z : MI) (i n : Nat) : Prop := ML z n ∧ Cond.methodLink y.1.cls i z.1 ∈ gt ∧ Cond.static z.1 ∈ gt
def IL (y z : MI) (i n : Nat) : Prop := ML z n ∧ Cond.methodLink y.1.cls i z.1 ∈ gt ∧ Cond.instanceMethod z.1 ∈ gt ∧ z.1.name = "<init>" ∧ z.2.2.2 = none
def NL (y z : MI) (i n : Nat) : Prop := ML z n ∧ y.1.cls = RX11 ∧ (i, z.1) ∈ nestM ∧ Cond.instanceMethod z.1 ∈ gt ∧ z.1.name = "<init>" ∧ z.2.2.2 = none
theorem w_fin {E : EN} {p : Program} {l : Launch} {e : Env} {R : Room} {s : State} {m : MethodId} {args : Array Value} {below : List Frame} {meth : Method} {c : Code} {Z : State → Prop} {H : Heap} {locs : List Loc} {ls : Array Slot} {cells slots : Nat} {st0 : List Value} {a : Array Value}
    (hr : va_Run p l e R s m args below meth c H locs cells slots mc ms (F0 m pc ls st0) (st.map (cv E.1)) (QcM E Q' a) (ab E.1)) (hS : va_S (ab E.1) s.heap H locs)
    (kk : ∀ (v : Option AV) (h' : AH) (H1 : Heap) (locs1 : List Loc), (∀ w, v = some w → okV w) → Q' v h' → Wd E.2.1 E.2.2 E.1 h' H1 → va_S (ab E.1) s.heap H1 locs1 → W p l e R s m args below meth c H1 locs1 (cells + mc) (slots + ms) Z (F0 m (pc + 3) ls ((v.toList ++ st).map (cv E.1)))) : W p l e R s m args below meth c H locs cells slots Z (F0 m pc ls st0) := by
  intro T hT X
  obtain ⟨v, st₀, t, T', L, h0, X', hL, e1, e2, ⟨v', h', ev, hok, hq, hWd, hz, hk⟩, stp⟩ := hr T hT X
  cases ev
  rw [h0] at hz hk
  obtain ⟨t2, a1, b1⟩ := kk v' h' T'.heap (locs ++ L) hok hq (by rw [e1]; exact hWd) ⟨Nat.le_trans hS.1 (by rw [e1]; exact hz), fun q h1 h2 => by rw [e1, hk q (Nat.lt_of_lt_of_le h1 hS.1) h2]; exact hS.2.1 q h1 h2, fun q hq => by
      rcases List.mem_append.mp hq with h | h
      · exact hS.2.2 q h
      · exact hL q h⟩ T' rfl X'
  refine ⟨t2, stp t2 ?_, b1⟩
  have : (v'.toList ++ st).map (cv E.1) = (v'.map (cv E.1)).toList ++ st.map (cv E.1) := by cases v' <;> rfl
  rw [this] at a1
  exact a1
theorem cat_sum (b : Nat) (st : List AV) : ((st.map (cv b)).map fun v => v.category).sum = (st.map cat).sum := by
  rw [List.map_map]
  congr 1
  exact List.map_congr_left (fun v _ => cv_cat b v)
theorem map_rev (b a : Nat) (av st : List AV) : (av.reverse ++ vr a :: st).map (cv b) = (av.map (cv b)).reverse ++ Value.ref (b + a) :: st.map (cv b) := by simp [cv, va_rf]
/-- a virtual call -/
theorem w_callV {i n c a : Nat} (hM : Ct d' mc ms z (vr a :: av) h Q') (hd : decode y.2.1 pc = .ok (.invokevirtual i, 3)) (hl : VL y z i n) (hs : stk = av.reverse ++ vr a :: st) (hn : av.length = n) (ha : a < nH h) (hk : kH h a = (c, 0)) (hc : c < 13 ∧ rx c = z.1.cls) (hdd : d' + 1 ≤ d) (hml : z.2.2.1 ≤ 45) (hmc : mc ≤ rc) (hms : ms ≤ rs) (h8 : (st.map cat).sum ≤ 8)
    (kk : ∀ (v : Option AV) (h' : AH), (∀ w, v = some w → okV w) → Q' v h' → wp y d (rc - mc) (rs - ms) Q (pc + 3) lo (v.toList ++ st) h') : wp y d rc rs Q pc lo stk h := by
  subst hs
  intro E p l e R s m args below meth c' Z hC hR hd1 hd2 hb H locs ls cells slots hcc hss hW hS hl' hst hlo
  obtain ⟨⟨l1, l2, l3, l4, l5⟩, l6, l7, l8⟩ := hl
  have hts := hC.2.2.2.2.1
  have hcb : CallB R s args y.1.cls i z.1 z.2.1 z.2.2.1 z.2.2.2 (wsM z) (rmM d' mc ms) mc ms n := callB_of n hts (gt_good l1) rfl rfl rfl (hts _ l2) (hts _ l6) ⟨l3, l4, l5⟩ ⟨by show d' + 1 ≤ R.frames; omega, by show 8 + (z.2.2.1 + 11) + 64 * d' ≤ R.locals; omega⟩
  have hat := hW.2.1 a ha
  rw [cE_o hk hc.1] at hat
  obtain ⟨r, h1, cell, q1, q2, q3, -⟩ := hat
  have hfc := (hC.2.2.2.2.2.1.1.1 c _ (vwAt hc.1)).2.1
  have hstv : ∀ v ∈ vr a :: av, okV v := fun v hv => by
    rcases List.mem_cons.mp hv with rfl | hv
    · trivial
    · exact hst v (List.mem_append_left _ (List.mem_reverse.mpr hv))
  rw [map_rev]
  refine w_fin (E := E) (va_runV (As := av.map (cv E.1)) (rest := st.map (cv E.1)) (b := E.1 + a) (C := z.1.cls) ⟨hC.1, hC.2.1, hC.2.2.1, hC.2.2.2.1, hts⟩ (hM l E) ⟨hcb, hts _ l7, hts _ l8⟩ ⟨PcM_blind E _ _, ⟨cell, q1, by rw [q3]; rfl, by rw [q2, ← hc.2]; exact hfc⟩, fun U hU hWm => ⟨rfl, hstv, by rw [hU]; exact hW, hC.2.2.2.2.2.1.go hWm (by rw [hU]; exact hS)⟩⟩ rfl (by rw [List.length_map]; exact hn) hl'.1 rfl (lv_room (by rw [cat_sum]; exact h8)) hd ⟨by omega, by omega⟩) hS ?_
  intro v h' H1 locs1 hok hq hW1 hS1
  exact kk v h' hok hq E p l e R s m args below meth c' Z hC hR hd1 hd2 hb H1 locs1 ls (cells + mc) (slots + ms) (by omega) (by omega) hW1 hS1 hl' (fun w hw => by
    rcases List.mem_append.mp hw with hw | hw
    · cases v with
      | none => simp at hw
      | some v => simp at hw; rw [hw]; exact hok v rfl
    · exact hst w (List.mem_append_right _ (List.mem_cons_of_mem _ hw))) hlo
/-- a static call -/
theorem w_callS {i n : Nat} (hM : Ct d' mc ms z av h Q') (hd : decode y.2.1 pc = .ok (.invokestatic i, 3)) (hl : SL y z i n) (hs : stk = av.reverse ++ st) (hn : av.length = n) (hdd : d' + 1 ≤ d) (hml : z.2.2.1 ≤ 45) (hmc : mc ≤ rc) (hms : ms ≤ rs) (h8 : (st.map cat).sum ≤ 8)
    (kk : ∀ (v : Option AV) (h' : AH), (∀ w, v = some w → okV w) → Q' v h' → wp y d (rc - mc) (rs - ms) Q (pc + 3) lo (v.toList ++ st) h') : wp y d rc rs Q pc lo stk h := by
  subst hs
  intro E p l e R s m args below meth c' Z hC hR hd1 hd2 hb H locs ls cells slots hcc hss hW hS hl' hst hlo
  obtain ⟨⟨l1, l2, l3, l4, l5⟩, l6, l7⟩ := hl
  have hts := hC.2.2.2.2.1
  have hcb : CallB R s args y.1.cls i z.1 z.2.1 z.2.2.1 z.2.2.2 (wsM z) (rmM d' mc ms) mc ms n := callB_of n hts (gt_good l1) rfl rfl rfl (hts _ l2) (hts _ l6) ⟨l3, l4, l5⟩ ⟨by show d' + 1 ≤ R.frames; omega, by show 8 + (z.2.2.1 + 11) + 64 * d' ≤ R.locals; omega⟩
  have hstv : ∀ v ∈ av, okV v := fun v hv => hst v (List.mem_append_left _ (List.mem_reverse.mpr hv))
  have em : (av.reverse ++ st).map (cv E.1) = (av.map (cv E.1)).reverse ++ st.map (cv E.1) := by simp
  rw [em]
  refine w_fin (E := E) (va_runS (As := av.map (cv E.1)) (rest := st.map (cv E.1)) ⟨hC.1, hC.2.1, hC.2.2.1, hC.2.2.2.1, hts⟩ (hM l E) ⟨hcb, hts _ l7⟩ ⟨PcM_blind E _ _, fun U hU hWm => ⟨rfl, hstv, by rw [hU]; exact hW, hC.2.2.2.2.2.1.go hWm (by rw [hU]; exact hS)⟩⟩ rfl (by rw [List.length_map]; exact hn) hl'.1 rfl (lv_room (by rw [cat_sum]; exact h8)) hd ⟨by omega, by omega⟩) hS ?_
  intro v h' H1 locs1 hok hq hW1 hS1
  exact kk v h' hok hq E p l e R s m args below meth c' Z hC hR hd1 hd2 hb H1 locs1 ls (cells + mc) (slots + ms) (by omega) (by omega) hW1 hS1 hl' (fun w hw => by
    rcases List.mem_append.mp hw with hw | hw
    · cases v with
      | none => simp at hw
      | some v => simp at hw; rw [hw]; exact hok v rfl
    · exact hst w (List.mem_append_right _ hw)) hlo
/-- a constructor -/
theorem w_callI {i n a : Nat} (hM : Ct d' mc ms z (vr a :: av) h Q') (hd : decode y.2.1 pc = .ok (.invokespecial i, 3)) (hl : IL y z i n ∨ NL y z i n) (hs : stk = av.reverse ++ vr a :: st) (hn : av.length = n) (hdd : d' + 1 ≤ d) (hml : z.2.2.1 ≤ 45) (hmc : mc ≤ rc) (hms : ms ≤ rs) (h8 : (st.map cat).sum ≤ 8)
    (kk : ∀ (v : Option AV) (h' : AH), (∀ w, v = some w → okV w) → Q' v h' → wp y d (rc - mc) (rs - ms) Q (pc + 3) lo (v.toList ++ st) h') : wp y d rc rs Q pc lo stk h := by
  subst hs
  intro E p l e R s m args below meth c' Z hC hR hd1 hd2 hb H locs ls cells slots hcc hss hW hS hl' hst hlo
  have hts := hC.2.2.2.2.1
  have hstv : ∀ v ∈ vr a :: av, okV v := fun v hv => by
    rcases List.mem_cons.mp hv with rfl | hv
    · trivial
    · exact hst v (List.mem_append_left _ (List.mem_reverse.mpr hv))
  rw [map_rev]
  have hrun : va_Run p l e R s m args below meth c' H locs cells slots mc ms (F0 m pc ls ((av.map (cv E.1)).reverse ++ Value.ref (E.1 + a) :: st.map (cv E.1))) (st.map (cv E.1)) (QcM E Q' (Value.ref (E.1 + a) :: av.map (cv E.1)).toArray) (ab E.1) := by
    have hpre : PreS s H (PcM E (vr a :: av) h) (Value.ref (E.1 + a) :: av.map (cv E.1)) := ⟨PcM_blind E _ _, fun U hU hWm => ⟨rfl, hstv, by rw [hU]; exact hW, hC.2.2.2.2.2.1.go hWm (by rw [hU]; exact hS)⟩⟩
    rcases hl with ⟨⟨l1, l2, l3, l4, l5⟩, l6, l7, l8, l9⟩ | ⟨⟨l1, l2, l3, l4, l5⟩, l6, l7, l8, l9, l10⟩
    · have hcb : CallB R s args y.1.cls i z.1 z.2.1 z.2.2.1 none (wsM z) (rmM d' mc ms) mc ms n := callB_of (ws' := gt) n hts (gt_good l1) (by rw [← l9]; rfl) rfl rfl (hts _ l2) (hts _ l6) ⟨l3, l4, l5⟩ ⟨by show d' + 1 ≤ R.frames; omega, by show 8 + (z.2.2.1 + 11) + 64 * d' ≤ R.locals; omega⟩
      exact va_runI (As := av.map (cv E.1)) (rest := st.map (cv E.1)) ⟨hC.1, hC.2.1, hC.2.2.1, hC.2.2.2.1, hts⟩ (hM l E) ⟨hcb, l8, hts _ l7⟩ hpre rfl (by rw [List.length_map]; exact hn) hl'.1 rfl (lv_room (by rw [cat_sum]; exact h8)) hd ⟨by omega, by omega⟩
    · have hcb : va_CN R s args y.1.cls i z.1 RX11 z.2.1 z.2.2.1 none (wsM z) (rmM d' mc ms) mc ms n := va_cnB (ws' := gt) n hts (gt_good l1) (by rw [← l10]; rfl) rfl rfl (by rw [l6]; exact hC.2.2.2.2.2.1.2.1 _ l7) (hts _ l2) ⟨l3, l4, l5⟩ ⟨by show d' + 1 ≤ R.frames; omega, by show 8 + (z.2.2.1 + 11) + 64 * d' ≤ R.locals; omega⟩
      exact va_runIN (As := av.map (cv E.1)) (rest := st.map (cv E.1)) ⟨hC.1, hC.2.1, hC.2.2.1, hC.2.2.2.1, hts⟩ (hM l E) ⟨hcb, l9, hts _ l8⟩ hpre rfl (by rw [List.length_map]; exact hn) hl'.1 rfl (lv_room (by rw [cat_sum]; exact h8)) hd ⟨by omega, by omega⟩
  refine w_fin (E := E) hrun hS ?_
  intro v h' H1 locs1 hok hq hW1 hS1
  exact kk v h' hok hq E p l e R s m args below meth c' Z hC hR hd1 hd2 hb H1 locs1 ls (cells + mc) (slots + ms) (by omega) (by omega) hW1 hS1 hl' (fun w hw => by
    rcases List.mem_append.mp hw with hw | hw
    · cases v with
      | none => simp at hw
      | some v => simp at hw; rw [hw]; exact hok v rfl
    · exact hst w (List.mem_append_right _ (List.mem_cons_of_mem _ hw))) hlo
/-- Object's own constructor -/
theorem w_obj {i a : Nat} (hd : decode y.2.1 pc = .ok (.invokespecial i, 3)) (hl : Cond.methodLink y.1.cls i objectInit ∈ gt ∧ Cond.instanceMethod objectInit ∈ gt ∧ Cond.code objectInit ⟨#[0xb1]⟩ 1 none ∈ gt) (hdd : 1 ≤ d) (h8 : (st.map cat).sum ≤ 8) (kk : wp y d rc rs Q (pc + 3) lo st h) : wp y d rc rs Q pc lo (vr a :: st) h := by
  intro E p l e R s m args below meth c' Z hC hR hd1 hd2 hb H locs ls cells slots hcc hss hW hS hl' hst hlo
  have hts := hC.2.2.2.2.1
  refine W.objInit hC.1 hC.2.1 hC.2.2.2.1 (hts _ hl.1) (hts _ hl.2.1) (hts _ hl.2.2) rfl (by rw [hC.2.2.1]; exact hl'.1) rfl hd (by omega) ?_ ?_
  · have := lv_room (m := m) (pc := pc) (ls := ls) (rest := (vr a :: st).map (cv E.1)) (st := st.map (cv E.1)) (by rw [cat_sum]; exact h8)
    exact Nat.le_trans (Nat.add_le_add_right this 12) (by omega)
  · exact kk E p l e R s m args below meth c' Z hC hR hd1 hd2 hb H locs ls cells slots hcc hss hW hS hl' (ok_cons.mp hst).2 hlo
end CROWS
