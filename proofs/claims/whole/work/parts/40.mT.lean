/-! STRINGS: the constants or, and, not; length() and charAt(int) of a string, walked over the kit's W -/
def SP (E : EN) (ad : (Nat → Nat) × (Nat → Nat)) (U : State) : Prop := vk_S 3 sLen sByt ad.1 ad.2 (ab E.1) U U.heap ∧ va_Z "java/lang/String" "COMPACT_STRINGS" "Z" (.int 1) (ab E.1) U U.heap ∧ va_Zq "jdk/internal/util/Preconditions" "SIOOBE_FORMATTER" "Ljava/util/function/BiFunction;" (ab E.1) U U.heap
theorem SP.go {E : EN} {ad : (Nat → Nat) × (Nat → Nat)} {s U : State} {locs : List Loc} (h : SP E ad s) (hW : s.WarmedH U.vm) (hS : va_S (ab E.1) s.heap U.heap locs) : SP E ad U := by
  have hA := hW.alike
  have hq : ∀ a : Nat, a < s.heap.size → ¬ ab E.1 a → U.heap[a]? = s.heap[a]? := hS.2.1
  exact ⟨vk_S.moved hA (h.1.kept hq), va_Z.moved hA (h.2.1.kept hq), va_Zq.moved hA (h.2.2.kept hq)⟩
theorem SP.same {E : EN} {ad : (Nat → Nat) × (Nat → Nat)} {u U : State} (hv : u.vm = U.vm) (hh : U.heap = u.heap) (h : SP E ad u) : SP E ad U := by
  unfold SP
  rw [hh]
  have hA : u.vm.Alike U.vm := by rw [← hv]; exact Vm.Alike.refl _
  exact ⟨vk_S.moved hA h.1, va_Z.moved hA h.2.1, va_Zq.moved hA h.2.2⟩
def PcS (E : EN) (ad : (Nat → Nat) × (Nat → Nat)) (vals : List Value) (h : AH) : Array Value → State → Prop := va_Pc vals (fun U => Wd E.2.1 E.2.2 E.1 h U.heap ∧ Gs E U ∧ SP E ad U)
def QcS (E : EN) (h : AH) (res : Option Value) : Array Value → State → Outcome → State → Prop := fun _ st oc t => oc = .returned res ∧ Wd E.2.1 E.2.2 E.1 h t.heap ∧ va_F (ab E.1) st t
theorem PcS_blind (E : EN) (ad : (Nat → Nat) × (Nat → Nat)) (vals : List Value) (h : AH) : FrameBlind (PcS E ad vals h) := fun a U g mk q => by
  obtain ⟨q0, q2, q3, q4⟩ := q
  exact ⟨q0, q2, q3.same rfl rfl, q4.same rfl rfl⟩
/-- a method over values that the class's world doesn't hold; it changes nothing -/
def CtS (l : Launch) (E : EN) (ad : (Nat → Nat) × (Nat → Nat)) (d : Nat) (y : MI) (vals : List Value) (h : AH) (res : Option Value) : Prop := Met l y.1 (wsM y) (rmM d 0 0) (PcS E ad vals h) (QcS E h res) 0 0 (ab E.1)
def rtS (y : MI) (v : Option Value) (pc : Nat) : Prop :=
  (∃ x ty, v = some (.int x) ∧ narrow ty (.int x) = .int x ∧ y.2.2.2 = some ty ∧ decode y.2.1 pc = .ok (.ireturn, 1)) ∨ (v = none ∧ y.2.2.2 = none ∧ decode y.2.1 pc = .ok (.return_, 1))
def RtS (y : MI) (E : EN) (h : AH) (res : Option Value) (p : Program) (l : Launch) (e : Env) (R : Room) (s : State) (m : MethodId) (args : Array Value) (below : List Frame) (meth : Method) (c : Code) (Z : State → Prop) : Prop :=
  ∀ (pc : Nat) (ls : Array Slot) (H : Heap) (locs : List Loc), rtS y res pc → Wd E.2.1 E.2.2 E.1 h H → va_S (ab E.1) s.heap H locs → W p l e R s m args below meth c H locs 0 0 Z (F0 m pc ls res.toList)
/-- what a walk has at hand -/
def CxS (y : MI) (E : EN) (ad : (Nat → Nat) × (Nat → Nat)) (d : Nat) (h : AH) (res : Option Value) (p : Program) (l : Launch) (e : Env) (R : Room) (s : State) (m : MethodId) (args : Array Value) (below : List Frame) (meth : Method) (c : Code) (Z : State → Prop) : Prop :=
  Cx y E p s m args meth c ∧ SP E ad s ∧ RtS y E h res p l e R s m args below meth c Z ∧ d ≤ R.frames ∧ 64 * d ≤ R.locals
theorem CtS.of {l : Launch} {E : EN} {ad : (Nat → Nat) × (Nat → Nat)} {d : Nat} {y : MI} {vals : List Value} {h : AH} {res : Option Value} (hy : plainName y.1.cls = true) (hlen : (lg_sl vals).length ≤ y.2.2.1)
    (hw : ∀ (p : Program) (e : Env) (R : Room) (s : State) (m : MethodId) (args : Array Value) (below : List Frame) (meth : Method) (c : Code) (Z : State → Prop) (ls : Array Slot), CxS y E ad d h res p l e R s m args below meth c Z → lv_has ls y.2.2.1 (lv_args 0 vals) → Wd E.2.1 E.2.2 E.1 h s.heap → va_S (ab E.1) s.heap s.heap [] → W p l e R s m args below meth c s.heap [] 0 0 Z (F0 m 0 ls [])) : CtS l E ad d y vals h res := by
  refine Met.ofW (cc := y.2.1) (maxL := y.2.2.1) (ret := y.2.2.2) hy rfl ?_
  intro p e s m args below meth c s₁ B hml hv
  obtain ⟨rfl, hWd, hG, hSP⟩ := hv
  have hts := atoms_spec (ws := wsM y) B.pre
  have hown : s.vm.findClass y.1.cls = some m.cls := findClass_of_methodNamed B.named
  have hlocks := B.notSynchronized
  have hx := B.exec
  have hb := B.bytes
  have hr := B.returns
  have hin : meth.name = y.1.name := (name_of_methodNamed B.named B.method).1
  have hl := lv_entry vals (n := y.2.2.1) hlen
  rw [lg_entry_eq]
  refine hw p e _ s m _ below meth c _ _ ⟨⟨hx, hb, hml, hown, fun w h => hts w (List.mem_cons_of_mem _ h), hG, fun e => hin.trans e⟩, hSP, ?_, Nat.le_refl _, Nat.le_refl _⟩ hl hWd va_S.rf
  intro pc ls H locs hi hWd' hS
  have hq : ∀ t : State, t.heap = H → s.WarmedH t.vm → QcS E h res vals.toArray s (.returned res) t := fun t ht _ => ⟨rfl, by rw [ht]; exact hWd', hS.F ht⟩
  rcases hi with ⟨x, ty, rfl, e1, e2, e3⟩ | ⟨rfl, e1, e2⟩
  · exact W.zret (v := x) (ty := ty) hx hb (hr.trans e2) e1 hq hS.2.2 e3
  · exact W.vret hx hb (hr.trans e1) hq hS.2.2 e2
section SROWS
variable {l : Launch} {E : EN} {ad : (Nat → Nat) × (Nat → Nat)} {d d' i n k pc : Nat} {y z : MI} {h : AH} {res rz : Option Value} {p : Program} {e : Env} {R : Room} {s : State} {m : MethodId} {args : Array Value} {below : List Frame} {meth : Method} {c : Code} {Z : State → Prop} {ls : Array Slot} {H : Heap} {locs : List Loc} {As rest st0 : List Value}
theorem s_fin {a : Array Value} (hr : va_Run p l e R s m args below meth c H locs 0 0 0 0 (F0 m pc ls st0) rest (QcS E h rz a) (ab E.1)) (hS : va_S (ab E.1) s.heap H locs)
    (kk : ∀ (H1 : Heap) (locs1 : List Loc), Wd E.2.1 E.2.2 E.1 h H1 → va_S (ab E.1) s.heap H1 locs1 → W p l e R s m args below meth c H1 locs1 0 0 Z (F0 m (pc + 3) ls (rz.toList ++ rest))) : W p l e R s m args below meth c H locs 0 0 Z (F0 m pc ls st0) := by
  intro T hT X
  obtain ⟨v, st₀, t, T', L, h0, X', hL, e1, e2, ⟨ev, hWd, hz, hk⟩, stp⟩ := hr T hT X
  cases ev
  rw [h0] at hz hk
  obtain ⟨t2, a1, b1⟩ := kk T'.heap (locs ++ L) (by rw [e1]; exact hWd) ⟨Nat.le_trans hS.1 (by rw [e1]; exact hz), fun q h1 h2 => by rw [e1, hk q (Nat.lt_of_lt_of_le h1 hS.1) h2]; exact hS.2.1 q h1 h2, fun q hq => by
      rcases List.mem_append.mp hq with h | h
      · exact hS.2.2 q h
      · exact hL q h⟩ T' rfl X'
  exact ⟨t2, stp t2 a1, b1⟩
theorem s_callV (hM : CtS l E ad d' z (.ref (ad.1 k) :: As) h rz) (hd : decode y.2.1 pc = .ok (.invokevirtual i, 3)) (hl : VL y z i n) (hcls : z.1.cls = "java/lang/String") (hn : As.length = n) (hk : k < 3) (hX : CxS y E ad d h res p l e R s m args below meth c Z) (hdd : d' + 1 ≤ d) (hml : z.2.2.1 ≤ 45) (hls : ls.size = y.2.2.1) (h8 : (rest.map fun v => v.category).sum ≤ 8) (hW : Wd E.2.1 E.2.2 E.1 h H) (hS : va_S (ab E.1) s.heap H locs)
    (kk : ∀ (H1 : Heap) (locs1 : List Loc), Wd E.2.1 E.2.2 E.1 h H1 → va_S (ab E.1) s.heap H1 locs1 → W p l e R s m args below meth c H1 locs1 0 0 Z (F0 m (pc + 3) ls (rz.toList ++ rest))) : W p l e R s m args below meth c H locs 0 0 Z (F0 m pc ls (As.reverse ++ .ref (ad.1 k) :: rest)) := by
  obtain ⟨⟨l1, l2, l3, l4, l5⟩, l6, l7, l8⟩ := hl
  obtain ⟨hC, hSP, -, hR1, hR2⟩ := hX
  have hts := hC.2.2.2.2.1
  have hcb : CallB R s args y.1.cls i z.1 z.2.1 z.2.2.1 z.2.2.2 (wsM z) (rmM d' 0 0) 0 0 n := callB_of n hts (gt_good l1) rfl rfl rfl (hts _ l2) (hts _ l6) ⟨l3, l4, l5⟩ ⟨by show d' + 1 ≤ R.frames; omega, by show 8 + (z.2.2.1 + 11) + 64 * d' ≤ R.locals; omega⟩
  obtain ⟨cell, q1, q2, q3⟩ := vk_recv hSP.1 hk hS
  refine s_fin (va_runV (As := As) (rest := rest) (b := ad.1 k) (C := z.1.cls) ⟨hC.1, hC.2.1, hC.2.2.1, hC.2.2.2.1, hts⟩ hM ⟨hcb, hts _ l7, hts _ l8⟩ ⟨PcS_blind E _ _ _, ⟨cell, q1, q2, by rw [hcls]; exact q3⟩, fun U hU hWm => ⟨rfl, by rw [hU]; exact hW, hC.2.2.2.2.2.1.go hWm (by rw [hU]; exact hS), hSP.go hWm (by rw [hU]; exact hS)⟩⟩ rfl hn hls rfl (lv_room h8) hd ⟨Nat.zero_le _, Nat.zero_le _⟩) hS kk
theorem s_callS (hM : CtS l E ad d' z As h rz) (hd : decode y.2.1 pc = .ok (.invokestatic i, 3)) (hl : SL y z i n) (hn : As.length = n) (hX : CxS y E ad d h res p l e R s m args below meth c Z) (hdd : d' + 1 ≤ d) (hml : z.2.2.1 ≤ 45) (hls : ls.size = y.2.2.1) (h8 : (rest.map fun v => v.category).sum ≤ 8) (hW : Wd E.2.1 E.2.2 E.1 h H) (hS : va_S (ab E.1) s.heap H locs)
    (kk : ∀ (H1 : Heap) (locs1 : List Loc), Wd E.2.1 E.2.2 E.1 h H1 → va_S (ab E.1) s.heap H1 locs1 → W p l e R s m args below meth c H1 locs1 0 0 Z (F0 m (pc + 3) ls (rz.toList ++ rest))) : W p l e R s m args below meth c H locs 0 0 Z (F0 m pc ls (As.reverse ++ rest)) := by
  obtain ⟨⟨l1, l2, l3, l4, l5⟩, l6, l7⟩ := hl
  obtain ⟨hC, hSP, -, hR1, hR2⟩ := hX
  have hts := hC.2.2.2.2.1
  have hcb : CallB R s args y.1.cls i z.1 z.2.1 z.2.2.1 z.2.2.2 (wsM z) (rmM d' 0 0) 0 0 n := callB_of n hts (gt_good l1) rfl rfl rfl (hts _ l2) (hts _ l6) ⟨l3, l4, l5⟩ ⟨by show d' + 1 ≤ R.frames; omega, by show 8 + (z.2.2.1 + 11) + 64 * d' ≤ R.locals; omega⟩
  refine s_fin (va_runS (As := As) (rest := rest) ⟨hC.1, hC.2.1, hC.2.2.1, hC.2.2.2.1, hts⟩ hM ⟨hcb, hts _ l7⟩ ⟨PcS_blind E _ _ _, fun U hU hWm => ⟨rfl, by rw [hU]; exact hW, hC.2.2.2.2.2.1.go hWm (by rw [hU]; exact hS), hSP.go hWm (by rw [hU]; exact hS)⟩⟩ rfl hn hls rfl (lv_room h8) hd ⟨Nat.zero_le _, Nat.zero_le _⟩) hS kk
end SROWS
