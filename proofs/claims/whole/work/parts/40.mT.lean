/-! STRINGS: the constants or, and, not; length() and charAt(int) of a string, walked over the kit's W -/
def SP (E : EN) (ad : (Nat → Nat) × (Nat → Nat)) (U : State) : Prop := vk_S 3 sLen sByt ad.1 ad.2 (ab E.1) U U.heap ∧ va_Z "java/lang/String" "COMPACT_STRINGS" "Z" (.int 1) (ab E.1) U U.heap ∧ va_Zq "jdk/internal/util/Preconditions" "SIOOBE_FORMATTER" "Ljava/util/function/BiFunction;" (ab E.1) U U.heap
theorem SP.go {E : EN} {ad : (Nat → Nat) × (Nat → Nat)} {s U : State} {locs : List Loc} (h : SP E ad s) (hW : s.WarmedH U.vm) (hS : va_S (ab E.1) s.heap U.heap locs) : SP E ad U := by
  have hA := hW.alike
  have hq : ∀ a : Nat, a < s.heap.size → ¬ ab E.1 a → U.heap[a]? = s.heap[a]? := hS.2.1
  exact ⟨vk_S.moved hA (h.1.kept hq), va_Z.moved hA (h.2.1.kept hq), va_Zq.moved hA (h.2.2.kept hq)⟩
theorem SP.same {E : EN} {ad : (Nat → Nat) × (Nat → Nat)} {u U : State} (hv : u.vm = U.vm) (hh : U.heap = u.heap) (h : SP E ad u) : SP E ad U := by
  unfold SP
  rw [hh]
  have hA : u.vm.Alike U.vm := by rw [← hv]; exact Vm.Alike.refl _
  exact ⟨vk_S.moved hA h.1, va_Z.moved hA h.2.1, va_Zq.moved hA h.2.2⟩
def PcS (E : EN) (ad : (Nat → Nat) × (Nat → Nat)) (vals : List Value) (h : AH) : Array Value → State → Prop := va_Pc vals (fun U => Wd E.2.1 E.2.2 E.1 h U.heap ∧ Gs E U ∧ SP E ad U)
def QcS (E : EN) (h : AH) (res : Option Value) : Array Value → State → Outcome → State → Prop := fun _ st oc t => oc = .returned res ∧ Wd E.2.1 E.2.2 E.1 h t.heap ∧ va_F (ab E.1) st t
theorem PcS_blind (E : EN) (ad : (Nat → Nat) × (Nat → Nat)) (vals : List Value) (h : AH) : FrameBlind (PcS E ad vals h) := fun a U g mk q => by
  obtain ⟨q0, q2, q3, q4⟩ := q
  exact ⟨q0, q2, q3.same rfl rfl, q4.same rfl rfl⟩
/-- a method over values that the class's world doesn't hold; it changes nothing -/
def CtS (l : Launch) (E : EN) (ad : (Nat → Nat) × (Nat → Nat)) (d : Nat) (y : MI) (vals : List Value) (h : AH) (res : Option Value) : Prop := Met l y.1 (wsM y) (rmM d 0 0) (PcS E ad vals h) (QcS E h res) 0 0 (ab E.1)
def rtS (y : MI) (v : Option Value) (pc : Nat) : Prop :=
  (∃ x ty, v = some (.int x) ∧ narrow ty (.int x) = .int x ∧ y.2.2.2 = some ty ∧ decode y.2.1 pc = .ok (.ireturn, 1)) ∨ (v = none ∧ y.2.2.2 = none ∧ decode y.2.1 pc = .ok (.return_, 1))
def RtS (y : MI) (E : EN) (h : AH) (res : Option Value) (p : Program) (l : Launch) (e : Env) (R : Room) (s : State) (m : MethodId) (args : Array Value) (below : List Frame) (meth : Method) (c : Code) (Z : State → Prop) : Prop :=
  ∀ (pc : Nat) (ls : Array Slot) (H : Heap) (locs : List Loc), rtS y res pc → Wd E.2.1 E.2.2 E.1 h H → va_S (ab E.1) s.heap H locs → W p l e R s m args below meth c H locs 0 0 Z (F0 m pc ls res.toList)
/-- what a walk has at hand -/
def CxS (y : MI) (E : EN) (ad : (Nat → Nat) × (Nat → Nat)) (d : Nat) (h : AH) (res : Option Value) (p : Program) (l : Launch) (e : Env) (R : Room) (s : State) (m : MethodId) (args : Array Value) (below : List Frame) (meth : Method) (c : Code) (Z : State → Prop) : Prop :=
  Cx y E p s m args meth c ∧ SP E ad s ∧ RtS y E h res p l e R s m args below meth c Z ∧ d ≤ R.frames ∧ 64 * d ≤ R.locals
theorem CtS.of {l : Launch} {E : EN} {ad : (Nat → Nat) × (Nat → Nat)} {d : Nat} {y : MI} {vals : List Value} {h : AH} {res : Option Value} (hy : plainName y.1.cls = true) (hlen : (lg_sl vals).length ≤ y.2.2.1)
    (hw : ∀ (p : Program) (e : Env) (R : Room) (s : State) (m : MethodId) (args : Array Value) (below : List Frame) (meth : Method) (c : Code) (Z : State → Prop) (ls : Array Slot), CxS y E ad d h res p l e R s m args below meth c Z → lv_has ls y.2.2.1 (lv_args 0 vals) → Wd E.2.1 E.2.2 E.1 h s.heap → va_S (ab E.1) s.heap s.heap [] → W p l e R s m args below meth c s.heap [] 0 0 Z (F0 m 0 ls [])) : CtS l E ad d y vals h res := by
  refine Met.ofW (cc := y.2.1) (maxL := y.2.2.1) (ret := y.2.2.2) hy rfl ?_
  intro p e s m args below meth c s₁ B hml hv
  obtain ⟨rfl, hWd, hG, hSP⟩ := hv
  have hts := atoms_spec (ws := wsM y) B.pre
  have hown : s.vm.findClass y.1.cls = some m.cls := findClass_of_methodNamed B.named
  have hlocks := B.notSynchronized
  have hx := B.exec
  have hb := B.bytes
  have hr := B.returns
  have hin : meth.name = y.1.name := (name_of_methodNamed B.named B.method).1
  have hl := lv_entry vals (n := y.2.2.1) hlen
  rw [lg_entry_eq]
  refine hw p e _ s m _ below meth c _ _ ⟨⟨hx, hb, hml, hown, fun w h => hts w (List.mem_cons_of_mem _ h), hG, fun e => hin.trans e⟩, hSP, ?_, Nat.le_refl _, Nat.le_refl _⟩ hl hWd va_S.rf
  intro pc ls H locs hi hWd' hS
  have hq : ∀ t : State, t.heap = H → s.WarmedH t.vm → QcS E h res vals.toArray s (.returned res) t := fun t ht _ => ⟨rfl, by rw [ht]; exact hWd', hS.F ht⟩
  rcases hi with ⟨x, ty, rfl, e1, e2, e3⟩ | ⟨rfl, e1, e2⟩
  · exact W.zret (v := x) (ty := ty) hx hb (hr.trans e2) e1 hq hS.2.2 e3
  · exact W.vret hx hb (hr.trans e1) hq hS.2.2 e2
section SROWS
variable {l : Launch} {E : EN} {ad : (Nat → Nat) × (Nat → Nat)} {d d' i n k pc : Nat} {y z : MI} {h : AH} {res rz : Option Value} {p : Program} {e : Env} {R : Room} {s : State} {m : MethodId} {args : Array Value} {below : List Frame} {meth : Method} {c : Code} {Z : State → Prop} {ls : Array Slot} {H : Heap} {locs : List Loc} {As rest st0 : List Value}
theorem s_fin {a : Array Value} (hr : va_Run p l e R s m args below meth c H locs 0 0 0 0 (F0 m pc ls st0) rest (QcS E h rz a) (ab E.1)) (hS : va_S (ab E.1) s.heap H locs)
    (kk : ∀ (H1 : Heap) (locs1 : List Loc), Wd E.2.1 E.2.2 E.1 h H1 → va_S (ab E.1) s.heap H1 locs1 → W p l e R s m args below meth c H1 locs1 0 0 Z (F0 m (pc + 3) ls (rz.toList ++ rest))) : W p l e R s m args below meth c H locs 0 0 Z (F0 m pc ls st0) := by
  intro T hT X
  obtain ⟨v, st₀, t, T', L, h0, X', hL, e1, e2, ⟨ev, hWd, hz, hk⟩, stp⟩ := hr T hT X
  cases ev
  rw [h0] at hz hk
  obtain ⟨t2, a1, b1⟩ := kk T'.heap (locs ++ L) (by rw [e1]; exact hWd) ⟨Nat.le_trans hS.1 (by rw [e1]; exact hz), fun q h1 h2 => by rw [e1, hk q (Nat.lt_of_lt_of_le h1 hS.1) h2]; exact hS.2.1 q h1 h2, fun q hq => by
      rcases List.mem_append.mp hq with h | h
      · exact hS.2.2 q h
      · exact hL q h⟩ T' rfl X'
  exact ⟨t2, stp t2 a1, b1⟩
theorem s_callV (hM : CtS l E ad d' z (.ref (ad.1 k) :: As) h rz) (hd : decode y.2.1 pc = .ok (.invokevirtual i, 3)) (hl : VL y z i n) (hcls : z.1.cls = "java/lang/String") (hn : As.length = n) (hk : k < 3) (hX : CxS y E ad d h res p l e R s m args below meth c Z) (hdd : d' + 1 ≤ d) (hml : z.2.2.1 ≤ 45) (hls : ls.size = y.2.2.1) (h8 : (rest.map fun v => v.category).sum ≤ 8) (hW : Wd E.2.1 E.2.2 E.1 h H) (hS : va_S (ab E.1) s.heap H locs)
    (kk : ∀ (H1 : Heap) (locs1 : List Loc), Wd E.2.1 E.2.2 E.1 h H1 → va_S (ab E.1) s.heap H1 locs1 → W p l e R s m args below meth c H1 locs1 0 0 Z (F0 m (pc + 3) ls (rz.toList ++ rest))) : W p l e R s m args below meth c H locs 0 0 Z (F0 m pc ls (As.reverse ++ .ref (ad.1 k) :: rest)) := by
  obtain ⟨⟨l1, l2, l3, l4, l5⟩, l6, l7, l8⟩ := hl
  obtain ⟨hC, hSP, -, hR1, hR2⟩ := hX
  have hts := hC.2.2.2.2.1
  have hcb : CallB R s args y.1.cls i z.1 z.2.1 z.2.2.1 z.2.2.2 (wsM z) (rmM d' 0 0) 0 0 n := callB_of n hts (gt_good l1) rfl rfl rfl (hts _ l2) (hts _ l6) ⟨l3, l4, l5⟩ ⟨by show d' + 1 ≤ R.frames; omega, by show 8 + (z.2.2.1 + 11) + 64 * d' ≤ R.locals; omega⟩
  obtain ⟨cell, q1, q2, q3⟩ := vk_recv hSP.1 hk hS
  refine s_fin (va_runV (As := As) (rest := rest) (b := ad.1 k) (C := z.1.cls) ⟨hC.1, hC.2.1, hC.2.2.1, hC.2.2.2.1, hts⟩ hM ⟨hcb, hts _ l7, hts _ l8⟩ ⟨PcS_blind E _ _ _, ⟨cell, q1, q2, by rw [hcls]; exact q3⟩, fun U hU hWm => ⟨rfl, by rw [hU]; exact hW, hC.2.2.2.2.2.1.go hWm (by rw [hU]; exact hS), hSP.go hWm (by rw [hU]; exact hS)⟩⟩ rfl hn hls rfl (lv_room h8) hd ⟨Nat.zero_le _, Nat.zero_le _⟩) hS kk
theorem s_callS (hM : CtS l E ad d' z As h rz) (hd : decode y.2.1 pc = .ok (.invokestatic i, 3)) (hl : SL y z i n) (hn : As.length = n) (hX : CxS y E ad d h res p l e R s m args below meth c Z) (hdd : d' + 1 ≤ d) (hml : z.2.2.1 ≤ 45) (hls : ls.size = y.2.2.1) (h8 : (rest.map fun v => v.category).sum ≤ 8) (hW : Wd E.2.1 E.2.2 E.1 h H) (hS : va_S (ab E.1) s.heap H locs)
    (kk : ∀ (H1 : Heap) (locs1 : List Loc), Wd E.2.1 E.2.2 E.1 h H1 → va_S (ab E.1) s.heap H1 locs1 → W p l e R s m args below meth c H1 locs1 0 0 Z (F0 m (pc + 3) ls (rz.toList ++ rest))) : W p l e R s m args below meth c H locs 0 0 Z (F0 m pc ls (As.reverse ++ rest)) := by
  obtain ⟨⟨l1, l2, l3, l4, l5⟩, l6, l7⟩ := hl
  obtain ⟨hC, hSP, -, hR1, hR2⟩ := hX
  have hts := hC.2.2.2.2.1
  have hcb : CallB R s args y.1.cls i z.1 z.2.1 z.2.2.1 z.2.2.2 (wsM z) (rmM d' 0 0) 0 0 n := callB_of n hts (gt_good l1) rfl rfl rfl (hts _ l2) (hts _ l6) ⟨l3, l4, l5⟩ ⟨by show d' + 1 ≤ R.frames; omega, by show 8 + (z.2.2.1 + 11) + 64 * d' ≤ R.locals; omega⟩
  refine s_fin (va_runS (As := As) (rest := rest) ⟨hC.1, hC.2.1, hC.2.2.1, hC.2.2.2.1, hts⟩ hM ⟨hcb, hts _ l7⟩ ⟨PcS_blind E _ _ _, fun U hU hWm => ⟨rfl, by rw [hU]; exact hW, hC.2.2.2.2.2.1.go hWm (by rw [hU]; exact hS), hSP.go hWm (by rw [hU]; exact hS)⟩⟩ rfl hn hls rfl (lv_room h8) hd ⟨Nat.zero_le _, Nat.zero_le _⟩) hS kk
end SROWS
abbrev mJpre : MI := (yJ3_checkIndex_8e157, prog_21_method_11_code, 3, some .int)
abbrev mJck : MI := (yJ0_checkIndex_df160, prog_17_method_155_code, 2, none)
abbrev mJl1 : MI := (yJ1_charAt_3b067, prog_18_method_2_code, 2, some .char)
abbrev mJis : MI := (yJ0_isLatin1_aae02, prog_17_method_154_code, 1, some .boolean)
abbrev mJcod : MI := (yJ0_coder_7d493, prog_17_method_152_code, 1, some .byte)
abbrev mJch : MI := (yJ0_charAt_5068e, prog_17_method_56_code, 2, some .char)
abbrev mJlen : MI := (yJ0_length_8abf5, prog_17_method_54_code, 1, some .int)
theorem ml_Jpre : ML mJpre 3 := ⟨gt_ok (List.mem_of_getElem? (i := 1397) (by decide +kernel)) (by decide +kernel), gt_ok (List.mem_of_getElem? (i := 108) (by decide +kernel)) (by decide +kernel), by decide +kernel, by decide +kernel, by decide +kernel⟩
theorem vl_Jpre : SL mJck mJpre 1059 3 := ⟨ml_Jpre, gt_ok (List.mem_of_getElem? (i := 1395) (by decide +kernel)) (by decide +kernel), gt_ok (List.mem_of_getElem? (i := 1396) (by decide +kernel)) (by decide +kernel)⟩
theorem ml_Jck : ML mJck 2 := ⟨gt_ok (List.mem_of_getElem? (i := 1392) (by decide +kernel)) (by decide +kernel), gt_ok (List.mem_of_getElem? (i := 106) (by decide +kernel)) (by decide +kernel), by decide +kernel, by decide +kernel, by decide +kernel⟩
theorem vl_Jck : SL mJl1 mJck 9 2 := ⟨ml_Jck, gt_ok (List.mem_of_getElem? (i := 1390) (by decide +kernel)) (by decide +kernel), gt_ok (List.mem_of_getElem? (i := 1391) (by decide +kernel)) (by decide +kernel)⟩
theorem ml_Jl1 : ML mJl1 2 := ⟨gt_ok (List.mem_of_getElem? (i := 1389) (by decide +kernel)) (by decide +kernel), gt_ok (List.mem_of_getElem? (i := 107) (by decide +kernel)) (by decide +kernel), by decide +kernel, by decide +kernel, by decide +kernel⟩
theorem vl_Jl1 : SL mJch mJl1 495 2 := ⟨ml_Jl1, gt_ok (List.mem_of_getElem? (i := 1387) (by decide +kernel)) (by decide +kernel), gt_ok (List.mem_of_getElem? (i := 1388) (by decide +kernel)) (by decide +kernel)⟩
theorem ml_Jis : ML mJis 0 := ⟨gt_ok (List.mem_of_getElem? (i := 1386) (by decide +kernel)) (by decide +kernel), gt_ok (List.mem_of_getElem? (i := 106) (by decide +kernel)) (by decide +kernel), by decide +kernel, by decide +kernel, by decide +kernel⟩
theorem vl_Jis : VL mJch mJis 492 0 := ⟨ml_Jis, gt_ok (List.mem_of_getElem? (i := 1383) (by decide +kernel)) (by decide +kernel), gt_ok (List.mem_of_getElem? (i := 1384) (by decide +kernel)) (by decide +kernel), gt_ok (List.mem_of_getElem? (i := 1385) (by decide +kernel)) (by decide +kernel)⟩
theorem ml_Jcod : ML mJcod 0 := ⟨gt_ok (List.mem_of_getElem? (i := 1376) (by decide +kernel)) (by decide +kernel), gt_ok (List.mem_of_getElem? (i := 106) (by decide +kernel)) (by decide +kernel), by decide +kernel, by decide +kernel, by decide +kernel⟩
theorem vl_Jcod : VL mJlen mJcod 335 0 := ⟨ml_Jcod, gt_ok (List.mem_of_getElem? (i := 1373) (by decide +kernel)) (by decide +kernel), gt_ok (List.mem_of_getElem? (i := 1374) (by decide +kernel)) (by decide +kernel), gt_ok (List.mem_of_getElem? (i := 1375) (by decide +kernel)) (by decide +kernel)⟩
theorem ml_Jch : ML mJch 1 := ⟨gt_ok (List.mem_of_getElem? (i := 1382) (by decide +kernel)) (by decide +kernel), gt_ok (List.mem_of_getElem? (i := 106) (by decide +kernel)) (by decide +kernel), by decide +kernel, by decide +kernel, by decide +kernel⟩
theorem vl_Jch : VL mX12_wordOf mJch 284 1 := ⟨ml_Jch, gt_ok (List.mem_of_getElem? (i := 1379) (by decide +kernel)) (by decide +kernel), gt_ok (List.mem_of_getElem? (i := 1380) (by decide +kernel)) (by decide +kernel), gt_ok (List.mem_of_getElem? (i := 1381) (by decide +kernel)) (by decide +kernel)⟩
theorem ml_Jlen : ML mJlen 0 := ⟨gt_ok (List.mem_of_getElem? (i := 1372) (by decide +kernel)) (by decide +kernel), gt_ok (List.mem_of_getElem? (i := 106) (by decide +kernel)) (by decide +kernel), by decide +kernel, by decide +kernel, by decide +kernel⟩
theorem vl_Jlen : VL mX12_wordOf mJlen 279 0 := ⟨ml_Jlen, gt_ok (List.mem_of_getElem? (i := 1369) (by decide +kernel)) (by decide +kernel), gt_ok (List.mem_of_getElem? (i := 1370) (by decide +kernel)) (by decide +kernel), gt_ok (List.mem_of_getElem? (i := 1371) (by decide +kernel)) (by decide +kernel)⟩
theorem fl_Jval : Cond.fieldLink "java/lang/String" 9 "java/lang/String" "value" "[B" ∈ gt := gt_ok (List.mem_of_getElem? (i := 1576) (by decide +kernel)) (by decide +kernel)
theorem fl_Jcod : Cond.fieldLink "java/lang/String" 15 "java/lang/String" "coder" "B" ∈ gt := gt_ok (List.mem_of_getElem? (i := 1577) (by decide +kernel)) (by decide +kernel)
theorem fl_Jcom : Cond.fieldLink "java/lang/String" 38 "java/lang/String" "COMPACT_STRINGS" "Z" ∈ gt := gt_ok (List.mem_of_getElem? (i := 1377) (by decide +kernel)) (by decide +kernel)
theorem fl_Jsio : Cond.fieldLink "java/lang/String" 1053 "jdk/internal/util/Preconditions" "SIOOBE_FORMATTER" "Ljava/util/function/BiFunction;" ∈ gt := gt_ok (List.mem_of_getElem? (i := 1393) (by decide +kernel)) (by decide +kernel)
section JROWS
variable {l : Launch} {E : EN} {ad : (Nat → Nat) × (Nat → Nat)} {h : AH} {i : Nat}
theorem cJ_pre {x n : Int32} {w : Value} (h0 : ¬ x < 0) (h1 : x < n) (hw : w = .null ∨ ∃ t, w = .ref t) : CtS l E ad 0 mJpre [.int x, .int n, w] h (some (.int x)) := by
  refine CtS.of (by decide +kernel) (by rcases hw with rfl | ⟨t, rfl⟩ <;> simp [lg_sl, Value.category]) ?_
  intro p e R s m args below meth c Z ls hX hl hW hS
  have hC := hX.1
  have L0 : ls[0]? = some (.val (.int x)) := lv_at hl 0 (i := 0) (v := .int x) rfl
  have L1 : ls[1]? = some (.val (.int n)) := lv_at hl 1 (i := 1) (v := .int n) rfl
  refine lv_iload_n (k := 0) hC.1 hC.2.1 (by decide +kernel) rfl L0 ?_
  refine lv_if_lt (off := 8) (tgt := 9) hC.1 hC.2.1 (by decide +kernel) (by decide) (fun q => absurd q h0) (fun _ => ?_)
  refine lv_iload_n (k := 0) hC.1 hC.2.1 (by decide +kernel) rfl L0 ?_
  refine lv_iload_n (k := 1) hC.1 hC.2.1 (by decide +kernel) rfl L1 ?_
  refine lv_icmp_lt (off := 10) (tgt := 16) hC.1 hC.2.1 (by decide +kernel) (by decide) (fun _ => ?_) (fun q => absurd h1 q)
  refine lv_iload_n (k := 0) hC.1 hC.2.1 (by decide +kernel) rfl L0 ?_
  exact hX.2.2.1 _ _ _ _ (Or.inl ⟨x, .int, rfl, rfl, rfl, by decide +kernel⟩) hW hS
theorem cJ_ck {x n : Int32} (h0 : ¬ x < 0) (h1 : x < n) : CtS l E ad 1 mJck [.int x, .int n] h none := by
  refine CtS.of (by decide +kernel) (by simp [lg_sl, Value.category]) ?_
  intro p e R s m args below meth c Z ls hX hl hW hS
  have hC := hX.1
  have L0 : ls[0]? = some (.val (.int x)) := lv_at hl 0 (i := 0) (v := .int x) rfl
  have L1 : ls[1]? = some (.val (.int n)) := lv_at hl 1 (i := 1) (v := .int n) rfl
  refine lv_iload_n (k := 0) hC.1 hC.2.1 (by decide +kernel) rfl L0 ?_
  refine lv_iload_n (k := 1) hC.1 hC.2.1 (by decide +kernel) rfl L1 ?_
  have go : ∀ w : Value, (w = .null ∨ ∃ t, w = .ref t) → va_Z "jdk/internal/util/Preconditions" "SIOOBE_FORMATTER" "Ljava/util/function/BiFunction;" w (ab E.1) s s.heap → W p l e R s m args below meth c s.heap [] 0 0 Z (F0 m 2 ls [.int n, .int x]) := fun w hw hZ => by
    refine va_gets hC.1 hC.2.1 hZ hS hC.2.2.2.1 (hC.2.2.2.2.1 _ fl_Jsio) (fun _ q => q) (by decide +kernel) ?_
    refine s_callS (As := [.int x, .int n, w]) (rest := []) (cJ_pre h0 h1 hw) (i := 1059) (by decide +kernel) vl_Jpre rfl hX (by omega) (by decide) hl.1 (by simp) hW hS fun H1 locs1 hW1 hS1 => ?_
    refine lv_pop hC.1 hC.2.1 (by decide +kernel) rfl ?_
    exact hX.2.2.1 _ _ _ _ (Or.inr ⟨rfl, rfl, by decide +kernel⟩) hW1 hS1
  rcases hX.2.1.2.2 with hZ | ⟨t, hZ⟩
  · exact go _ (Or.inl rfl) hZ
  · exact go _ (Or.inr ⟨t, rfl⟩) hZ
theorem cJ_cod (hi : i < 3) : CtS l E ad 0 mJcod [.ref (ad.1 i)] h (some (.int 0)) := by
  refine CtS.of (by decide +kernel) (by simp [lg_sl, Value.category]) ?_
  intro p e R s m args below meth c Z ls hX hl hW hS
  have hC := hX.1
  have L0 : ls[0]? = some (.val (.ref (ad.1 i))) := lv_at hl 0 (i := 0) rfl
  refine va_gets hC.1 hC.2.1 hX.2.1.2.1 hS hC.2.2.2.1 (hC.2.2.2.2.1 _ fl_Jcom) (fun _ q => q) (by decide +kernel) ?_
  refine lv_if_eq (off := 10) (tgt := 13) hC.1 hC.2.1 (by decide +kernel) (by decide) (fun q => absurd q (by decide)) (fun _ => ?_)
  refine lv_aload_n (k := 0) hC.1 hC.2.1 (by decide +kernel) rfl L0 ?_
  refine vk_getf hC.1 hC.2.1 (hX.2.1.1.1 i hi).2.1 hS hC.2.2.2.1 (hC.2.2.2.2.1 _ fl_Jcod) (fun _ q => q) (by decide +kernel) ?_
  refine lv_goto (off := 4) (tgt := 14) hC.1 hC.2.1 (by decide +kernel) (by decide) ?_
  exact hX.2.2.1 _ _ _ _ (Or.inl ⟨0, .byte, rfl, by decide, rfl, by decide +kernel⟩) hW hS
theorem cJ_is (hi : i < 3) : CtS l E ad 0 mJis [.ref (ad.1 i)] h (some (.int 1)) := by
  refine CtS.of (by decide +kernel) (by simp [lg_sl, Value.category]) ?_
  intro p e R s m args below meth c Z ls hX hl hW hS
  have hC := hX.1
  have L0 : ls[0]? = some (.val (.ref (ad.1 i))) := lv_at hl 0 (i := 0) rfl
  refine va_gets hC.1 hC.2.1 hX.2.1.2.1 hS hC.2.2.2.1 (hC.2.2.2.2.1 _ fl_Jcom) (fun _ q => q) (by decide +kernel) ?_
  refine lv_if_eq (off := 14) (tgt := 17) hC.1 hC.2.1 (by decide +kernel) (by decide) (fun q => absurd q (by decide)) (fun _ => ?_)
  refine lv_aload_n (k := 0) hC.1 hC.2.1 (by decide +kernel) rfl L0 ?_
  refine vk_getf hC.1 hC.2.1 (hX.2.1.1.1 i hi).2.1 hS hC.2.2.2.1 (hC.2.2.2.2.1 _ fl_Jcod) (fun _ q => q) (by decide +kernel) ?_
  refine lv_if_ne (off := 7) (tgt := 17) hC.1 hC.2.1 (by decide +kernel) (by decide) (fun q => absurd rfl q) (fun _ => ?_)
  refine lv_iconst (n := 1) (v := 1) hC.1 hC.2.1 (by decide +kernel) rfl ?_
  refine lv_goto (off := 4) (tgt := 18) hC.1 hC.2.1 (by decide +kernel) (by decide) ?_
  exact hX.2.2.1 _ _ _ _ (Or.inl ⟨1, .boolean, rfl, by decide, rfl, by decide +kernel⟩) hW hS
theorem cJ_len (hi : i < 3) : CtS l E ad 1 mJlen [.ref (ad.1 i)] h (some (.int (Int32.ofNat (sLen.getD i 0)))) := by
  refine CtS.of (by decide +kernel) (by simp [lg_sl, Value.category]) ?_
  intro p e R s m args below meth c Z ls hX hl hW hS
  have hC := hX.1
  have L0 : ls[0]? = some (.val (.ref (ad.1 i))) := lv_at hl 0 (i := 0) rfl
  refine lv_aload_n (k := 0) hC.1 hC.2.1 (by decide +kernel) rfl L0 ?_
  refine vk_getf hC.1 hC.2.1 (hX.2.1.1.1 i hi).2.2.1 hS hC.2.2.2.1 (hC.2.2.2.2.1 _ fl_Jval) (fun _ q => q) (by decide +kernel) ?_
  refine va_tlen hC.1 hC.2.1 (hX.2.1.1.1 i hi).2.2.2 hS rfl (by decide +kernel) ?_
  refine lv_aload_n (k := 0) hC.1 hC.2.1 (by decide +kernel) rfl L0 ?_
  refine s_callV (As := []) (rest := [.int (Int32.ofNat (sLen.getD i 0))]) (cJ_cod hi) (i := 335) (by decide +kernel) vl_Jcod rfl rfl hi hX (by omega) (by decide) hl.1 (by simp [Value.category]) hW hS fun H1 locs1 hW1 hS1 => ?_
  refine lv_ishr hC.1 hC.2.1 (by decide +kernel) ?_
  have e1 : (Int32.ofNat (sLen.getD i 0)) >>> ((0 : Int32) &&& 31) = Int32.ofNat (sLen.getD i 0) := by
    rcases (show i = 0 ∨ i = 1 ∨ i = 2 by omega) with rfl | rfl | rfl <;> decide
  rw [e1]
  exact hX.2.2.1 _ _ _ _ (Or.inl ⟨_, .int, rfl, rfl, rfl, by decide +kernel⟩) hW1 hS1
/-- the letter at k -/
def sCh (i k : Nat) : Int32 := (sByt.getD i []).getD k 0
theorem sLen_in {i k : Nat} (hi : i < 3) (hk : k < sLen.getD i 0) : ¬ Int32.ofNat k < 0 ∧ Int32.ofNat k < Int32.ofNat (sLen.getD i 0) ∧ (Int32.ofNat k).toNatClampNeg = k ∧ (((sCh i k &&& 255).toUInt32 % 65536).toInt32 = sCh i k) ∧ narrow .char (.int (sCh i k)) = .int (sCh i k) := by
  have h3 : k < 3 := by
    rcases (show i = 0 ∨ i = 1 ∨ i = 2 by omega) with rfl | rfl | rfl
    · have : k < 2 := hk
      omega
    · exact hk
    · exact hk
  rcases (show i = 0 ∨ i = 1 ∨ i = 2 by omega) with rfl | rfl | rfl <;> rcases (show k = 0 ∨ k = 1 ∨ k = 2 by omega) with rfl | rfl | rfl <;> first | (revert hk; decide) | decide
theorem cJ_l1 {k : Nat} (hi : i < 3) (hk : k < sLen.getD i 0) : CtS l E ad 2 mJl1 [.ref (ad.2 i), .int (Int32.ofNat k)] h (some (.int (sCh i k))) := by
  obtain ⟨k0, k1, k2, k3, k4⟩ := sLen_in hi hk
  refine CtS.of (by decide +kernel) (by simp [lg_sl, Value.category]) ?_
  intro p e R s m args below meth c Z ls hX hl hW hS
  have hC := hX.1
  have hT := (hX.2.1.1.1 i hi).2.2.2
  have L0 : ls[0]? = some (.val (.ref (ad.2 i))) := lv_at hl 0 (i := 0) rfl
  have L1 : ls[1]? = some (.val (.int (Int32.ofNat k))) := lv_at hl 1 (i := 1) (v := .int (Int32.ofNat k)) rfl
  refine lv_iload_n (k := 1) hC.1 hC.2.1 (by decide +kernel) rfl L1 ?_
  refine lv_aload_n (k := 0) hC.1 hC.2.1 (by decide +kernel) rfl L0 ?_
  refine va_tlen hC.1 hC.2.1 hT hS rfl (by decide +kernel) ?_
  refine s_callS (As := [.int (Int32.ofNat k), .int (Int32.ofNat (sLen.getD i 0))]) (rest := []) (cJ_ck k0 k1) (i := 9) (by decide +kernel) vl_Jck rfl hX (by omega) (by decide) hl.1 (by simp) hW hS fun H1 locs1 hW1 hS1 => ?_
  refine lv_aload_n (k := 0) hC.1 hC.2.1 (by decide +kernel) rfl L0 ?_
  refine lv_iload_n (k := 1) hC.1 hC.2.1 (by decide +kernel) rfl L1 ?_
  refine va_tb (v := .int (sCh i k)) hC.1 hC.2.1 hT hS1 (fun q => ?_) (by rw [k2]; rfl) (by decide +kernel) ?_
  · rcases q with q | q
    · exact k0 q
    · rw [k2] at q; omega
  refine lv_sipush (n := 255) (v := 255) hC.1 hC.2.1 (by decide +kernel) (by decide) ?_
  refine lv_iand hC.1 hC.2.1 (by decide +kernel) ?_
  refine lv_i2c (v := sCh i k) hC.1 hC.2.1 (by decide +kernel) k3 ?_
  exact hX.2.2.1 _ _ _ _ (Or.inl ⟨_, .char, rfl, k4, rfl, by decide +kernel⟩) hW1 hS1
theorem cJ_ch {k : Nat} (hi : i < 3) (hk : k < sLen.getD i 0) : CtS l E ad 3 mJch [.ref (ad.1 i), .int (Int32.ofNat k)] h (some (.int (sCh i k))) := by
  obtain ⟨k0, k1, k2, k3, k4⟩ := sLen_in hi hk
  refine CtS.of (by decide +kernel) (by simp [lg_sl, Value.category]) ?_
  intro p e R s m args below meth c Z ls hX hl hW hS
  have hC := hX.1
  have L0 : ls[0]? = some (.val (.ref (ad.1 i))) := lv_at hl 0 (i := 0) rfl
  have L1 : ls[1]? = some (.val (.int (Int32.ofNat k))) := lv_at hl 1 (i := 1) (v := .int (Int32.ofNat k)) rfl
  refine lv_aload_n (k := 0) hC.1 hC.2.1 (by decide +kernel) rfl L0 ?_
  refine s_callV (As := []) (rest := []) (cJ_is hi) (i := 492) (by decide +kernel) vl_Jis rfl rfl hi hX (by omega) (by decide) hl.1 (by simp) hW hS fun H1 locs1 hW1 hS1 => ?_
  refine lv_if_eq (off := 12) (tgt := 16) hC.1 hC.2.1 (by decide +kernel) (by decide) (fun q => absurd q (by decide)) (fun _ => ?_)
  refine lv_aload_n (k := 0) hC.1 hC.2.1 (by decide +kernel) rfl L0 ?_
  refine vk_getf hC.1 hC.2.1 (hX.2.1.1.1 i hi).2.2.1 hS1 hC.2.2.2.1 (hC.2.2.2.2.1 _ fl_Jval) (fun _ q => q) (by decide +kernel) ?_
  refine lv_iload_n (k := 1) hC.1 hC.2.1 (by decide +kernel) rfl L1 ?_
  refine s_callS (As := [.ref (ad.2 i), .int (Int32.ofNat k)]) (rest := []) (cJ_l1 hi hk) (i := 495) (by decide +kernel) vl_Jl1 rfl hX (by omega) (by decide) hl.1 (by simp) hW1 hS1 fun H2 locs2 hW2 hS2 => ?_
  exact hX.2.2.1 _ _ _ _ (Or.inl ⟨_, .char, rfl, k4, rfl, by decide +kernel⟩) hW2 hS2
end JROWS
def sWd (i : Nat) : Nat → Int32
  | 0 => 0
  | k + 1 => 27 * sWd i k + (if k < sLen.getD i 0 then sCh i k - 97 + 1 else 0)
theorem sWd_v : sWd 0 6 = 224799543 ∧ sWd 1 6 = 21867813 ∧ sWd 2 6 = 209249973 := by decide
theorem cJ_word {l : Launch} {E : EN} {ad : (Nat → Nat) × (Nat → Nat)} {h : AH} {i : Nat} (hi : i < 3) : CtS l E ad 4 mX12_wordOf [.ref (ad.1 i)] h (some (.int (sWd i 6))) := by
  refine CtS.of (by decide +kernel) (by simp [lg_sl, Value.category]) ?_
  intro p e R s m args below meth c Z ls hX hl hW hS
  have hC := hX.1
  have main : ∀ n k : Nat, n + k = 6 → ∀ (ls : Array Slot) (H : Heap) (locs : List Loc), lv_has ls 3 [(2, .int (Int32.ofNat k)), (1, .int (sWd i k)), (0, .ref (ad.1 i))] → Wd E.2.1 E.2.2 E.1 h H → va_S (ab E.1) s.heap H locs → W p l e R s m args below meth c H locs 0 0 Z (F0 m 4 ls []) := by
    intro n
    induction n with
    | zero =>
      intro k hk ls H locs hl hW hS
      have : k = 6 := by omega
      subst this
      refine lv_iload_n (k := 2) hC.1 hC.2.1 (by decide +kernel) rfl (lv_at hl 0 (i := 2) (v := .int (Int32.ofNat 6)) rfl) ?_
      refine lv_bipush (n := 6) (v := 6) hC.1 hC.2.1 (by decide +kernel) (by decide) ?_
      refine lv_icmp_ge (off := 37) (tgt := 44) hC.1 hC.2.1 (by decide +kernel) (by decide) (fun _ => ?_) (fun q => absurd (by decide) q)
      refine lv_iload_n (k := 1) hC.1 hC.2.1 (by decide +kernel) rfl (lv_at hl 1 (i := 1) (v := .int (sWd i 6)) rfl) ?_
      exact hX.2.2.1 _ _ _ _ (Or.inl ⟨_, .int, rfl, rfl, rfl, by decide +kernel⟩) hW hS
    | succ n ih =>
      intro k hk ls H locs hl hW hS
      have L2 : ls[2]? = some (.val (.int (Int32.ofNat k))) := lv_at hl 0 (i := 2) (v := .int (Int32.ofNat k)) rfl
      have L1 : ls[1]? = some (.val (.int (sWd i k))) := lv_at hl 1 (i := 1) (v := .int (sWd i k)) rfl
      have L0 : ls[0]? = some (.val (.ref (ad.1 i))) := lv_at hl 2 (i := 0) rfl
      have k6 : ¬ (6 : Int32) ≤ Int32.ofNat k := by
        rcases (show k = 0 ∨ k = 1 ∨ k = 2 ∨ k = 3 ∨ k = 4 ∨ k = 5 by omega) with rfl | rfl | rfl | rfl | rfl | rfl <;> decide
      have kk : Int32.ofNat k + Int32.ofInt 1 = Int32.ofNat (k + 1) := by
        rcases (show k = 0 ∨ k = 1 ∨ k = 2 ∨ k = 3 ∨ k = 4 ∨ k = 5 by omega) with rfl | rfl | rfl | rfl | rfl | rfl <;> decide
      have kl : Int32.ofNat (sLen.getD i 0) ≤ Int32.ofNat k ↔ ¬ k < sLen.getD i 0 := by
        rcases (show k = 0 ∨ k = 1 ∨ k = 2 ∨ k = 3 ∨ k = 4 ∨ k = 5 by omega) with rfl | rfl | rfl | rfl | rfl | rfl <;> rcases (show i = 0 ∨ i = 1 ∨ i = 2 by omega) with rfl | rfl | rfl <;> decide
      have fin : ∀ (v : Int32) (H : Heap) (locs : List Loc), v = (if k < sLen.getD i 0 then sCh i k - 97 + 1 else 0) → Wd E.2.1 E.2.2 E.1 h H → va_S (ab E.1) s.heap H locs → W p l e R s m args below meth c H locs 0 0 Z (F0 m 36 ls [.int v, .int (27 * sWd i k)]) := fun v H locs hv hW hS => by
        refine lv_iadd hC.1 hC.2.1 (by decide +kernel) ?_
        rw [hv]
        refine lv_istore_n (k := 1) (i := 1) (lv' := [(1, .int (sWd i (k + 1))), (2, .int (Int32.ofNat k)), (0, .ref (ad.1 i))]) hC.1 hC.2.1 (by decide +kernel) rfl hl (by decide) rfl (fun ls' hl' => ?_)
        refine lv_iinc (i := 2) (k := 1) (n := 1) (v := Int32.ofNat (k + 1)) (lv' := [(2, .int (Int32.ofNat (k + 1))), (1, .int (sWd i (k + 1))), (0, .ref (ad.1 i))]) hC.1 hC.2.1 (by decide +kernel) hl' rfl kk (by decide) rfl (fun ls'' hl'' => ?_)
        refine lv_goto (off := -37) (tgt := 4) hC.1 hC.2.1 (by decide +kernel) (by decide) ?_
        exact ih (k + 1) (by omega) ls'' H locs hl'' hW hS
      refine lv_iload_n (k := 2) hC.1 hC.2.1 (by decide +kernel) rfl L2 ?_
      refine lv_bipush (n := 6) (v := 6) hC.1 hC.2.1 (by decide +kernel) (by decide) ?_
      refine lv_icmp_ge (off := 37) (tgt := 44) hC.1 hC.2.1 (by decide +kernel) (by decide) (fun q => absurd q k6) (fun _ => ?_)
      refine lv_bipush (n := 27) (v := 27) hC.1 hC.2.1 (by decide +kernel) (by decide) ?_
      refine lv_iload_n (k := 1) hC.1 hC.2.1 (by decide +kernel) rfl L1 ?_
      refine lv_imul hC.1 hC.2.1 (by decide +kernel) ?_
      refine lv_iload_n (k := 2) hC.1 hC.2.1 (by decide +kernel) rfl L2 ?_
      refine lv_aload_n (k := 0) hC.1 hC.2.1 (by decide +kernel) rfl L0 ?_
      refine s_callV (As := []) (rest := [.int (Int32.ofNat k), .int (27 * sWd i k)]) (cJ_len hi) (i := 279) (by decide +kernel) vl_Jlen rfl rfl hi hX (by omega) (by decide) hl.1 (by simp [Value.category]) hW hS fun H1 locs1 hW1 hS1 => ?_
      refine lv_icmp_ge (off := 16) (tgt := 35) hC.1 hC.2.1 (by decide +kernel) (by decide) (fun q => ?_) (fun q => ?_)
      · refine lv_iconst (n := 0) (v := 0) hC.1 hC.2.1 (by decide +kernel) rfl ?_
        exact fin 0 H1 locs1 (by rw [if_neg (kl.mp q)]) hW1 hS1
      · have hk3 : k < sLen.getD i 0 := Decidable.byContradiction fun z => q (kl.mpr z)
        refine lv_aload_n (k := 0) hC.1 hC.2.1 (by decide +kernel) rfl L0 ?_
        refine lv_iload_n (k := 2) hC.1 hC.2.1 (by decide +kernel) rfl L2 ?_
        refine s_callV (As := [.int (Int32.ofNat k)]) (rest := [.int (27 * sWd i k)]) (cJ_ch hi hk3) (i := 284) (by decide +kernel) vl_Jch rfl rfl hi hX (by omega) (by decide) hl.1 (by simp [Value.category]) hW1 hS1 fun H2 locs2 hW2 hS2 => ?_
        refine lv_bipush (n := 97) (v := 97) hC.1 hC.2.1 (by decide +kernel) (by decide) ?_
        refine lv_isub hC.1 hC.2.1 (by decide +kernel) ?_
        refine lv_iconst (n := 1) (v := 1) hC.1 hC.2.1 (by decide +kernel) rfl ?_
        refine lv_iadd hC.1 hC.2.1 (by decide +kernel) ?_
        refine lv_goto (off := 4) (tgt := 36) hC.1 hC.2.1 (by decide +kernel) (by decide) ?_
        exact fin _ H2 locs2 (by rw [if_pos hk3]) hW2 hS2
  refine lv_iconst (n := 0) (v := 0) hC.1 hC.2.1 (by decide +kernel) rfl ?_
  refine lv_istore_n (k := 1) (i := 1) (lv' := [(1, .int 0), (0, .ref (ad.1 i))]) hC.1 hC.2.1 (by decide +kernel) rfl hl (by decide) rfl (fun ls' hl' => ?_)
  refine lv_iconst (n := 0) (v := 0) hC.1 hC.2.1 (by decide +kernel) rfl ?_
  refine lv_istore_n (k := 2) (i := 2) (lv' := [(2, .int 0), (1, .int 0), (0, .ref (ad.1 i))]) hC.1 hC.2.1 (by decide +kernel) rfl hl' (by decide) rfl (fun ls'' hl'' => ?_)
  exact main 6 0 rfl ls'' s.heap [] hl'' hW hS
section KROWS
variable {p : Program} {l : Launch} {e : Env} {R : Room} {s : State} {m : MethodId} {args : Array Value} {below : List Frame} {meth : Method} {c : Code}
theorem ldcStringW {T : State} {locs : List Loc} {cells slots : Nat} (X : Stand p l e R s m args below meth c T locs cells slots) (hexec : p.tables.exec = Jvm.exec) {own text : String} {index : Nat} {a : Addr} (hown : s.vm.findClass own = some m.cls)
    (hconst : (Cond.stringRef own index text).before #[] s = true) (hev : (Term.string own index).eval #[] s none [] s = some (.ref a)) {g : JFrame} (hg : g.method = m) (hdg : decode c.code g.pc = .ok (.ldc_w index, 3)) :
    ∀ target, Steps p.tables e below (T.setTop { g with pc := g.pc + 3, stack := .ref a :: g.stack }) target → Steps p.tables e below (T.setTop g) target := by
  obtain ⟨k, cf, i, a', hk, hcf, hcp, -, hr, hev'⟩ := Cond.stringRef_spec hown hconst
  cases hev.symm.trans hev'
  obtain ⟨k', hk', he⟩ := X.warmed.alike.2.2 _ _ hk
  have hr' : k'.resolved[index]? = some (some (.string a)) := by
    rcases X.warmed.entry hk hk' index with h | ⟨h, -⟩
    · rw [h]; exact hr
    · rw [hr] at h; cases h
  intro target hrest
  subst hg
  jvm_step X.here [hexec, hdg, ldc_w.wp_string (e := e) (s := T) (f := g) X.here.top hk' (by rw [he]; exact hcf) hcp hr']
  exact hrest
theorem lv_ldcSW {H : Heap} {locs : List Loc} {cells slots : Nat} {Q : State → Prop} {cc : ByteArray} {pc : Nat} {ls : Array Slot} {rest : List Value} (hexec : p.tables.exec = Jvm.exec) (hb : c.code = cc) {own tx : String} {index q : Nat} (hown : s.vm.findClass own = some m.cls) (hZ : vk_R own index tx q s) (hdg : decode cc pc = .ok (.ldc_w index, 3))
    (k : W p l e R s m args below meth c H locs cells slots Q (F0 m (pc + 3) ls (.ref q :: rest))) : W p l e R s m args below meth c H locs cells slots Q (F0 m pc ls rest) := by
  intro T hT X
  obtain ⟨t, a1, b1⟩ := k T hT X
  exact ⟨t, ldcStringW X hexec hown (text := tx) (a := q) hZ.1 hZ.2 (g := F0 m pc ls rest) rfl (by rw [hb]; exact hdg) t a1, b1⟩
end KROWS
/-- a constant's number is asked: two instructions in one -/
theorem w_key {d rc rs pc idx i : Nat} {Q : Option AV → AH → Prop} {lo : List (Option AV)} {st : List AV} {h : AH} (hd1 : decode mX12_keyAt.2.1 pc = .ok (.ldc_w idx, 3)) (hd2 : decode mX12_keyAt.2.1 (pc + 3) = .ok (.invokestatic 271, 3)) (hi : (idx = 269 ∧ i = 0) ∨ (idx = 275 ∧ i = 1) ∨ (idx = 277 ∧ i = 2)) (hdd : 5 ≤ d) (h8 : (st.map cat).sum ≤ 8)
    (k : wp mX12_keyAt d rc rs Q (pc + 6) lo (vi (sWd i 6).toInt :: st) h) : wp mX12_keyAt d rc rs Q pc lo st h := by
  intro E p l e R s m args below meth c' Z hC hR hd1' hd2' hb H locs ls cells slots hcc hss hW hS hl' hst hlo
  have hts := hC.2.2.2.2.1
  have hG := hC.2.2.2.2.2.1
  obtain ⟨-, -, ⟨adK, adV, h5, h6, h7, h8'⟩, h9, h10⟩ := hG.2.2.2.2
  have hSP : SP E (adK, adV) s := ⟨h5, h9, h10⟩
  have hi3 : i < 3 := by omega
  have hZ : ∃ tx, vk_R "LiveIndexModel" idx tx (adK i) s := by
    rcases hi with ⟨rfl, rfl⟩ | ⟨rfl, rfl⟩ | ⟨rfl, rfl⟩
    · exact ⟨_, h6⟩
    · exact ⟨_, h7⟩
    · exact ⟨_, h8'⟩
  obtain ⟨tx, hZ⟩ := hZ
  refine lv_ldcSW (own := "LiveIndexModel") hC.1 hC.2.1 hC.2.2.2.1 hZ hd1 ?_
  obtain ⟨l1, l2, l3, l4, l5⟩ := ml_X12_wordOf
  have hcb : CallB R s args mX12_keyAt.1.cls 271 mX12_wordOf.1 mX12_wordOf.2.1 mX12_wordOf.2.2.1 mX12_wordOf.2.2.2 (wsM mX12_wordOf) (rmM 4 0 0) 0 0 1 := callB_of 1 hts (gt_good l1) rfl rfl rfl (hts _ l2) (hts _ li_RX12_271) ⟨l3, l4, l5⟩ ⟨by show 4 + 1 ≤ R.frames; omega, by show 8 + (3 + 11) + 64 * 4 ≤ R.locals; omega⟩
  have hr := va_runS (p := p) (l := l) (e := e) (R := R) (s := s) (m := m) (args := args) (below := below) (meth := meth) (c := c') (H := H) (locs := locs) (cells := cells) (slots := slots) (As := [.ref (adK i)]) (rest := st.map (cv E.1)) (g := F0 m (pc + 3) ls (.ref (adK i) :: st.map (cv E.1))) ⟨hC.1, hC.2.1, hC.2.2.1, hC.2.2.2.1, hts⟩ (cJ_word (l := l) (E := E) (ad := (adK, adV)) (h := h) hi3) ⟨hcb, hts _ st_X12_wordOf⟩ ⟨PcS_blind E _ _ _, fun U hU hWm => ⟨rfl, by rw [hU]; exact hW, hG.go hWm (by rw [hU]; exact hS), hSP.go hWm (by rw [hU]; exact hS)⟩⟩ rfl rfl hl'.1 rfl (lv_room (by rw [cat_sum]; exact h8)) hd2 ⟨by omega, by omega⟩
  intro T hT X
  obtain ⟨v, st₀, t, T', L, h0, X', hL, e1, e2, ⟨ev, hWd, hz, hk⟩, stp⟩ := hr T hT X
  cases ev
  rw [h0] at hz hk
  have kk := k E p l e R s m args below meth c' Z hC hR hd1' hd2' hb T'.heap (locs ++ L) ls cells slots hcc hss (by rw [e1]; exact hWd) ⟨Nat.le_trans hS.1 (by rw [e1]; exact hz), fun q h1 h2 => by rw [e1, hk q (Nat.lt_of_lt_of_le h1 hS.1) h2]; exact hS.2.1 q h1 h2, fun q hq => by
      rcases List.mem_append.mp hq with h | h
      · exact hS.2.2 q h
      · exact hL q h⟩ hl' (ok_cons.mpr ⟨oi_in _, hst⟩) hlo
  rw [show List.map (cv E.1) (vi (sWd i 6).toInt :: st) = Value.int (sWd i 6) :: st.map (cv E.1) from by
    show Value.int (Int32.ofInt (sWd i 6).toInt) :: _ = _
    rw [oi_back]] at kk
  obtain ⟨t2, a1, b1⟩ := kk T' rfl X'
  exact ⟨t2, stp t2 a1, b1⟩
def m_key (v : Int) : Int := if v = 224799543 then 0 else if v = 21867813 then 1 else if v = 209249973 then 2 else -1
theorem sWd_i : (sWd 0 6).toInt = 224799543 ∧ (sWd 1 6).toInt = 21867813 ∧ (sWd 2 6).toInt = 209249973 := by decide
theorem c_keyAt {h : AH} (hL : LayM h) {a b : Int} (hl : m_let h a b ∧ a ≤ 64) : Ct 5 0 0 mX12_keyAt [vr 89, vi a, vi b] h (QI fun x h' => x = m_key (m_wf h a b 6) ∧ h' = h) := by
  refine Ct.of (by decide +kernel) (Nat.le_of_ble_eq_true rfl) ?_
  have h71 := lm_89 hL
  obtain ⟨s0, s1, s2⟩ := sWd_i
  show wp mX12_keyAt 5 0 0 _ 0 [some (vr 89), some (vi a), some (vi b), none] [] h
  refine w_aload (i := 0) (x := 89) (ins := .aload_n 0) (n := 1) (by decide +kernel) (Or.inl ⟨0, rfl, rfl, rfl⟩) rfl ?_
  refine w_iload (i := 1) (x := a) (ins := .iload_n 1) (n := 1) (by decide +kernel) (Or.inl ⟨1, rfl, rfl, rfl⟩) rfl ?_
  refine w_iload (i := 2) (x := b) (ins := .iload_n 2) (n := 1) (by decide +kernel) (Or.inl ⟨2, rfl, rfl, rfl⟩) rfl ?_
  refine w_callV (i := 136) (n := 2) (c := 12) (a := 89) (av := [vi a, vi b]) (st := []) (c_wordFrom hL hl) (by decide +kernel) ⟨ml_X12_wordFrom, li_RX12_136, im_X12_wordFrom, se_X12_wordFrom⟩ rfl rfl h71.1 h71.2 (by decide) (by omega) (by decide) (Nat.le_refl _) (Nat.le_refl _) (by decide) ?_
  rintro v h' hok ⟨x, rfl, rfl, rfl⟩
  generalize hv : m_wf h' a b 6 = v at *
  refine w_istore (i := 3) (ins := .istore_n 3) (n := 1) (by decide +kernel) (Or.inl ⟨3, rfl, rfl, rfl⟩) (by decide) rfl ?_
  have fin : ∀ r : Int, r = m_key v → wp mX12_keyAt 5 0 0 (QI fun x h'' => x = m_key v ∧ h'' = h') 50 [some (vr 89), some (vi a), some (vi b), some (vi v)] [vi r] h' := fun r hr => w_iret rfl (by decide +kernel) ⟨r, rfl, hr, rfl⟩
  have lv : ∀ q st, decode mX12_keyAt.2.1 q = .ok (.iload_n 3, 1) → wp mX12_keyAt 5 0 0 (QI fun x h'' => x = m_key v ∧ h'' = h') (q + 1) [some (vr 89), some (vi a), some (vi b), some (vi v)] (vi v :: st) h' → wp mX12_keyAt 5 0 0 (QI fun x h'' => x = m_key v ∧ h'' = h') q [some (vr 89), some (vi a), some (vi b), some (vi v)] st h' := fun q st hd k => w_iload (i := 3) (x := v) (ins := .iload_n 3) (n := 1) hd (Or.inl ⟨3, rfl, rfl, rfl⟩) rfl k
  refine lv 7 [] (by decide +kernel) ?_
  refine w_key (idx := 269) (i := 0) (by decide +kernel) (by decide +kernel) (Or.inl ⟨rfl, rfl⟩) (by omega) (Nat.le_of_ble_eq_true rfl) ?_
  rw [s0]
  refine w_ic (o := 1) (off := 7) (t := 21) (by omega) (by decide +kernel) (by decide) (fun c1 => ?_) (fun c1 => ?_)
  · have c1 : v ≠ 224799543 := c1
    refine lv 21 [] (by decide +kernel) ?_
    refine w_key (idx := 275) (i := 1) (by decide +kernel) (by decide +kernel) (Or.inr (Or.inl ⟨rfl, rfl⟩)) (by omega) (Nat.le_of_ble_eq_true rfl) ?_
    rw [s1]
    refine w_ic (o := 1) (off := 7) (t := 35) (by omega) (by decide +kernel) (by decide) (fun c2 => ?_) (fun c2 => ?_)
    · have c2 : v ≠ 21867813 := c2
      refine lv 35 [] (by decide +kernel) ?_
      refine w_key (idx := 277) (i := 2) (by decide +kernel) (by decide +kernel) (Or.inr (Or.inr ⟨rfl, rfl⟩)) (by omega) (Nat.le_of_ble_eq_true rfl) ?_
      rw [s2]
      refine w_ic (o := 1) (off := 7) (t := 49) (by omega) (by decide +kernel) (by decide) (fun c3 => ?_) (fun c3 => ?_)
      · have c3 : v ≠ 209249973 := c3
        refine w_push (-1) (by unfold inr; omega) (i := .iconst (-1)) (n := 1) (by decide +kernel) (Or.inl ⟨rfl, rfl⟩) ?_
        exact fin (-1) (by unfold m_key; rw [if_neg c1, if_neg c2, if_neg c3])
      · have c3 : v = 209249973 := Decidable.byContradiction c3
        refine w_push 2 (by unfold inr; omega) (i := .iconst 2) (n := 1) (by decide +kernel) (Or.inl ⟨rfl, rfl⟩) ?_
        refine w_goto (off := 4) (t := 50) (by decide +kernel) (by decide) ?_
        exact fin 2 (by unfold m_key; rw [if_neg c1, if_neg c2, if_pos c3])
    · have c2 : v = 21867813 := Decidable.byContradiction c2
      refine w_push 1 (by unfold inr; omega) (i := .iconst 1) (n := 1) (by decide +kernel) (Or.inl ⟨rfl, rfl⟩) ?_
      refine w_goto (off := 18) (t := 50) (by decide +kernel) (by decide) ?_
      exact fin 1 (by unfold m_key; rw [if_neg c1, if_pos c2])
  · have c1 : v = 224799543 := Decidable.byContradiction c1
    refine w_push 0 (by unfold inr; omega) (i := .iconst 0) (n := 1) (by decide +kernel) (Or.inl ⟨rfl, rfl⟩) ?_
    refine w_goto (off := 32) (t := 50) (by decide +kernel) (by decide) ?_
    exact fin 0 (by unfold m_key; rw [if_pos c1])
