/-! ===== a row of rows, made in one piece: multianewarray with two counts (6.5), over the machine itself ===== -/
section MULTI
variable {p : Program} {l : Launch} {e : Env} {R : Room} {s : State} {m : MethodId} {args : Array Value} {below : List Frame} {meth : Method} {c : Code} {T : State} {locs : List Loc} {cells slots : Nat}
/-- the row of rows that begins at b, when i of its rows stand behind it -/
def mq_o (cA : ClassId) (n b i : Nat) : Cell := arrV cA n (fun j => if j < i then .ref (b + 1 + j) else .null)
/-- a row of like values -/
def mq_i (cC : ClassId) (k : Nat) (v : Value) : Cell := { cls := cC, slots := Array.replicate k v, vm := .none }
/-- the heap when i rows stand -/
def mq_h (H : Heap) (cA cC : ClassId) (n k : Nat) (v : Value) (i : Nat) : Heap := H.push (mq_o cA n H.size i) ++ Array.replicate i (mq_i cC k v)
theorem mq_hsize (H : Heap) (cA cC : ClassId) (n k : Nat) (v : Value) (i : Nat) : (mq_h H cA cC n k v i).size = H.size + 1 + i := by
  simp [mq_h]
/-- what stands where -/
theorem mq_hat (H : Heap) (cA cC : ClassId) (n k : Nat) (v : Value) (i a : Nat) :
    (mq_h H cA cC n k v i)[a]? = if a < H.size then H[a]? else if a = H.size then some (mq_o cA n H.size i) else if a < H.size + 1 + i then some (mq_i cC k v) else none := by
  show (H.push (mq_o cA n H.size i) ++ Array.replicate i (mq_i cC k v))[a]? = _
  rw [Array.getElem?_append, Array.size_push, Array.getElem?_push, Array.getElem?_replicate]
  rcases Nat.lt_trichotomy a H.size with h | h | h
  · rw [if_pos (by omega), if_neg (by omega), if_pos h]
  · subst h
    rw [if_pos (by omega), if_pos rfl, if_neg (by omega), if_pos rfl]
  · rw [if_neg (by omega), if_neg (show ¬ a < H.size by omega), if_neg (show ¬ a = H.size by omega)]
    by_cases q : a < H.size + 1 + i
    · rw [if_pos (by omega), if_pos q]
    · rw [if_neg (by omega), if_neg q]
/-- the state when i rows stand -/
def mq_s (U : State) (cA cC : ClassId) (n k : Nat) (v : Value) (i : Nat) : State :=
  { U with heap := mq_h U.heap cA cC n k v i, slotsUsed := U.slotsUsed + n + i * k }
theorem mq_size (U : State) (cA cC : ClassId) (n k : Nat) (v : Value) (i : Nat) : (mq_s U cA cC n k v i).heap.size = U.heap.size + 1 + i := mq_hsize U.heap cA cC n k v i
theorem mq_at (U : State) (cA cC : ClassId) (n k : Nat) (v : Value) (i a : Nat) :
    (mq_s U cA cC n k v i).heap[a]? = if a < U.heap.size then U.heap[a]? else if a = U.heap.size then some (mq_o cA n U.heap.size i) else if a < U.heap.size + 1 + i then some (mq_i cC k v) else none := mq_hat U.heap cA cC n k v i a
theorem mq_zero (U : State) (cA cC : ClassId) (n k : Nat) (v : Value) : U.pushCell { cls := cA, slots := Array.replicate n .null, vm := .none } = mq_s U cA cC n k v 0 := by
  have h : (mq_o cA n U.heap.size 0) = ({ cls := cA, slots := Array.replicate n .null, vm := .none } : Cell) := by
    rw [arrV_new]
    show arrV cA n _ = _
    congr 1
  unfold mq_s mq_h State.pushCell
  rw [h]
  simp
/-- one row more -/
theorem mq_step (U : State) (cA cC : ClassId) (n k : Nat) (v : Value) (i : Nat) :
    ((mq_s U cA cC n k v i).pushCell (mq_i cC k v)).setCell U.heap.size ((mq_o cA n U.heap.size i).setSlot i (.ref (U.heap.size + 1 + i))) = mq_s U cA cC n k v (i + 1) := by
  have ho : (mq_o cA n U.heap.size i).setSlot i (.ref (U.heap.size + 1 + i)) = mq_o cA n U.heap.size (i + 1) := by
    show (arrV cA n _).setSlot i _ = arrV cA n _
    rw [arrV_store]
    congr 1
    funext j
    unfold updV
    by_cases q : j = i
    · subst q; simp
    · by_cases w : j < i
      · simp [q, w, show j < i + 1 by omega]
      · simp [q, w, show ¬ j < i + 1 by omega]
  have hh : ((mq_s U cA cC n k v i).heap.push (mq_i cC k v)).setIfInBounds U.heap.size (mq_o cA n U.heap.size (i + 1)) = (mq_s U cA cC n k v (i + 1)).heap := by
    apply Array.ext_getElem?
    intro a
    rw [Array.getElem?_setIfInBounds, Array.getElem?_push, Array.size_push, mq_size, mq_at, mq_at]
    rcases Nat.lt_trichotomy a U.heap.size with h | h | h
    · rw [if_neg (by omega), if_neg (by omega), if_pos h, if_pos h]
    · subst h
      rw [if_pos rfl, if_pos (by omega), if_neg (Nat.lt_irrefl _), if_pos rfl]
    · rw [if_neg (by omega), if_neg (show ¬ a < U.heap.size by omega), if_neg (show ¬ a = U.heap.size by omega), if_neg (show ¬ a < U.heap.size by omega), if_neg (show ¬ a = U.heap.size by omega)]
      by_cases q : a = U.heap.size + 1 + i
      · rw [if_pos q, if_pos (by omega)]
      · rw [if_neg q]
        by_cases w : a < U.heap.size + 1 + i
        · rw [if_pos w, if_pos (by omega)]
        · rw [if_neg w, if_neg (by omega)]
  rw [ho]
  show ({ (mq_s U cA cC n k v i) with heap := ((mq_s U cA cC n k v i).heap.push (mq_i cC k v)).setIfInBounds U.heap.size (mq_o cA n U.heap.size (i + 1)), slotsUsed := (U.slotsUsed + n + i * k) + (mq_i cC k v).slots.size } : State) = _
  rw [hh]
  have hs : U.slotsUsed + n + i * k + (mq_i cC k v).slots.size = U.slotsUsed + n + (i + 1) * k := by
    have : (mq_i cC k v).slots.size = k := by simp [mq_i]
    rw [this, Nat.succ_mul]; omega
  rw [hs]
  rfl
/-- nothing old is touched -/
theorem mq_new (U : State) (cA cC : ClassId) (n k : Nat) (v : Value) {x : Thread} (hx : U.threads[U.cur]? = some x) : U.sameButNew (mq_s U cA cC n k v n) [] (1 + n) (n + n * k) := by
  have hd : (((mq_s U cA cC n k v n).heap.toList.drop U.heap.size).map (·.slots.size)).sum = n + n * k := by
    have : (mq_s U cA cC n k v n).heap.toList.drop U.heap.size = mq_o cA n U.heap.size n :: List.replicate n (mq_i cC k v) := by
      show (U.heap.push (mq_o cA n U.heap.size n) ++ Array.replicate n (mq_i cC k v)).toList.drop U.heap.size = _
      rw [Array.toList_append, Array.toList_push, List.append_assoc, ← Array.length_toList, List.drop_left]
      simp
    rw [this]
    simp [mq_o, mq_i, arrV_size, List.map_replicate, List.sum_replicate_nat]
  refine ⟨?_, by rw [mq_size]; omega, by rw [mq_size]; omega, ?_, by rw [hd]; exact Nat.le_refl _, fun a c hc => ⟨c, ?_, rfl, rfl, fun _ _ => rfl⟩⟩
  · show _ = ({ U.setFrames U.frames with heap := (mq_s U cA cC n k v n).heap, slotsUsed := (mq_s U cA cC n k v n).slotsUsed } : State)
    rw [State.setFrames_self hx]
    rfl
  · rw [hd]; show U.slotsUsed + n + n * k = _; omega
  · have hl : a < U.heap.size := (Array.getElem?_eq_some_iff.mp hc).1
    rw [mq_at, if_pos hl]; exact hc
theorem mq_stand (X : Stand p l e R s m args below meth c T locs cells slots) (cA cC : ClassId) (n k : Nat) (v : Value) :
    Stand p l e R s m args below meth c (mq_s T cA cC n k v n) locs (cells + (1 + n)) (slots + (n + n * k)) := by
  obtain ⟨g0, hg⟩ := Option.isSome_iff_exists.mp X.here.top
  obtain ⟨r, hr⟩ := State.topJava?_eq_some.mp hg
  obtain ⟨t, ht, -⟩ := State.frames_cons hr
  have h := mq_new T cA cC n k v ht
  have h' := X.moved (T₂ := mq_s T cA cC n k v n) (l₂ := []) (c₂ := 1 + n) (n₂ := n + n * k) ⟨X.here.top, X.here.above, X.here.running, X.here.runnable, X.here.alone, X.here.code, X.here.plain⟩ X.tail rfl rfl (State.WarmedH.refl T) h
  rw [List.append_nil] at h'
  exact h'
section WP
variable {E : CtlPost} {d : Bool} {acts : List Action} {U : State}
/-- an array of like values is made -/
theorem mq_array {cA comp : ClassId} {kA : Class} {ty : FieldType} {n : Nat} {v : Value} (hk : U.vm.classes[cA]? = some kA) (hkind : kA.kind = .array comp ty) (hv : fits ty v = true)
    (h1 : n ≤ e.platform.arrayLengthLimit) (h2 : n * componentBytes ty ≤ e.platform.maxHeapBytes) (h3 : U.heap.size < e.platform.maxCells) (h4 : U.slotsUsed + n ≤ e.platform.maxSlots) {Q : Addr → Pre}
    (hq : ∀ acts', Q U.heap.size d acts' (U.pushCell { cls := cA, slots := Array.replicate n v, vm := .none })) : wp (Jvm.newArray cA n v) Q E e d acts U := by
  simp only [Jvm.newArray, Jvm.arrayFits, wp_bind', W.ask, W.ite, W.theClass, hk, Option.some.injEq, exists_eq_left', hkind, wp_pure', W.alloc, W.stop]
  rw [if_neg (by omega)]
  simp only [if_neg (show ¬ n * componentBytes ty > e.platform.maxHeapBytes by omega), if_neg (show ¬ n > e.platform.maxSlots by omega)]
  refine ⟨h3, by rw [Array.size_replicate]; exact h4, fun i w hw => ?_, hq _⟩
  rw [Array.getElem?_replicate] at hw
  split at hw
  · cases hw; simp [State.fitsSlot, State.slotType?, hk, hkind, hv]
  · cases hw
/-- the innermost rows -/
theorem mq_make1 {cC comp : ClassId} {kC : Class} {ty : FieldType} {k : Int32} (hk : U.vm.classes[cC]? = some kC) (hkind : kC.kind = .array comp ty) (hn : ¬ k < 0)
    (h1 : k.toNatClampNeg ≤ e.platform.arrayLengthLimit) (h2 : k.toNatClampNeg * componentBytes ty ≤ e.platform.maxHeapBytes) (h3 : U.heap.size < e.platform.maxCells) (h4 : U.slotsUsed + k.toNatClampNeg ≤ e.platform.maxSlots) {Q : Addr → Pre}
    (hq : ∀ acts', Q U.heap.size d acts' (U.pushCell (mq_i cC k.toNatClampNeg (defaultValue ty)))) : wp (Op.multianewarray.make cC [k]) Q E e d acts U := by
  unfold Op.multianewarray.make
  simp only [wp_bind', W.ite, if_neg hn, wp_pure', W.theClass, hk, Option.some.injEq, exists_eq_left', hkind]
  exact mq_array hk hkind (fits_default ty) h1 h2 h3 h4 hq
/-- the rows one behind another -/
theorem mq_rows {cA cC comp : ClassId} {kA kC : Class} {t0 ty : FieldType} {k : Int32} {n : Nat} (hkA : U.vm.classes[cA]? = some kA) (hkindA : kA.kind = .array cC t0) (href : ∀ a, fits t0 (.ref a) = true)
    (hkC : U.vm.classes[cC]? = some kC) (hkindC : kC.kind = .array comp ty) (hn : ¬ k < 0)
    (h1 : k.toNatClampNeg ≤ e.platform.arrayLengthLimit) (h2 : k.toNatClampNeg * componentBytes ty ≤ e.platform.maxHeapBytes) (h3 : U.heap.size + (1 + n) ≤ e.platform.maxCells) (h4 : U.slotsUsed + (n + n * k.toNatClampNeg) ≤ e.platform.maxSlots)
    (f : Nat → PUnit → Sem (ForInStep PUnit)) (hf : ∀ i u, f i u = (do Jvm.writeLoc U.heap.size i (.ref (← Op.multianewarray.make cC [k])); Pure.pure (ForInStep.yield PUnit.unit))) {Q : PUnit → Pre}
    (hq : ∀ d' acts', Q PUnit.unit d' acts' (mq_s U cA cC n k.toNatClampNeg (defaultValue ty) n)) :
    ∀ (r i : Nat) (d : Bool) (acts : List Action), i + r = n → wp (forIn (List.range' i r) PUnit.unit f) Q E e d acts (mq_s U cA cC n k.toNatClampNeg (defaultValue ty) i)
  | 0, i, d, acts, g => by
    simp only [List.range'_zero, List.forIn_nil, wp_pure']
    rw [show i = n by omega]
    exact hq d acts
  | r + 1, i, d, acts, g => by
    have hle : i * k.toNatClampNeg + k.toNatClampNeg ≤ n * k.toNatClampNeg := by
      rw [← Nat.succ_mul]; exact Nat.mul_le_mul_right _ (by omega)
    simp only [List.range'_succ, List.forIn_cons, wp_bind', hf]
    refine mq_make1 (U := mq_s U cA cC n k.toNatClampNeg (defaultValue ty) i) hkC hkindC hn h1 h2 (by rw [mq_size]; omega) (by show U.slotsUsed + n + i * k.toNatClampNeg + _ ≤ _; omega) fun acts' => ?_
    rw [wp_bind', W.writeLoc]
    refine ⟨mq_o cA n U.heap.size i, ?_, by simp [mq_o, arrV], by simp only [mq_o, arrV_size]; omega, ?_, ?_⟩
    · show ((mq_s U cA cC n k.toNatClampNeg (defaultValue ty) i).heap.push _)[U.heap.size]? = _
      rw [Array.getElem?_push, mq_size, if_neg (by omega), mq_at, if_neg (Nat.lt_irrefl _), if_pos rfl]
    · simp [State.fitsSlot, State.slotType?, mq_o, arrV, State.pushCell, mq_s, hkA, hkindA, href]
    · rw [mq_size, mq_step]
      simp only [wp_pure']
      exact mq_rows hkA hkindA href hkC hkindC hn h1 h2 h3 h4 f hf hq r (i + 1) _ _ (by omega)
/-- the whole -/
theorem mq_make {cA cC comp : ClassId} {kA kC : Class} {t0 ty : FieldType} {n k : Int32} (hkA : U.vm.classes[cA]? = some kA) (hkindA : kA.kind = .array cC (.array t0))
    (hkC : U.vm.classes[cC]? = some kC) (hkindC : kC.kind = .array comp ty) (hn : ¬ n < 0) (hk : ¬ k < 0)
    (h1 : n.toNatClampNeg ≤ e.platform.arrayLengthLimit) (h2 : n.toNatClampNeg * 4 ≤ e.platform.maxHeapBytes) (h1' : k.toNatClampNeg ≤ e.platform.arrayLengthLimit) (h2' : k.toNatClampNeg * componentBytes ty ≤ e.platform.maxHeapBytes)
    (h3 : U.heap.size + (1 + n.toNatClampNeg) ≤ e.platform.maxCells) (h4 : U.slotsUsed + (n.toNatClampNeg + n.toNatClampNeg * k.toNatClampNeg) ≤ e.platform.maxSlots) {Q : Addr → Pre}
    (hq : ∀ d' acts', Q U.heap.size d' acts' (mq_s U cA cC n.toNatClampNeg k.toNatClampNeg (defaultValue ty) n.toNatClampNeg)) : wp (Op.multianewarray.make cA [n, k]) Q E e d acts U := by
  unfold Op.multianewarray.make
  simp only [wp_bind', W.ite, if_neg hn, wp_pure', W.theClass, hkA, Option.some.injEq, exists_eq_left', hkindA]
  refine mq_array hkA hkindA rfl h1 h2 (by omega) (by omega) fun acts' => ?_
  have hfind : List.find? (fun x : Int32 => decide (x < 0)) [k] = none := by simp [hk]
  rw [mq_zero U cA cC n.toNatClampNeg k.toNatClampNeg (defaultValue ty)]
  simp only [hfind, ite_self, wp_bind', wp_pure', Std.Legacy.Range.forIn_eq_forIn_range']
  refine mq_rows (t0 := .array t0) hkA hkindA (fun a => rfl) hkC hkindC hk h1' h2' h3 h4 _ (fun i u => rfl) (fun d' acts'' => hq d' acts'') _ 0 d acts' ?_
  simp [Std.Legacy.Range.size]
/-- the instruction, once its entry is resolved -/
theorem mq_sem {g : JFrame} {index : Nat} {rest : List Value} {cA cC comp : ClassId} {kA kC : Class} {t0 ty : FieldType} {n k : Int32} (hs : U.topJava?.isSome) (hr : U.vm.classReady g.method.cls index cA)
    (hkA : U.vm.classes[cA]? = some kA) (hkindA : kA.kind = .array cC (.array t0)) (hkC : U.vm.classes[cC]? = some kC) (hkindC : kC.kind = .array comp ty) (hstack : g.stack = .int k :: .int n :: rest) (hn : ¬ n < 0) (hk : ¬ k < 0)
    (h1 : n.toNatClampNeg ≤ e.platform.arrayLengthLimit) (h2 : n.toNatClampNeg * 4 ≤ e.platform.maxHeapBytes) (h1' : k.toNatClampNeg ≤ e.platform.arrayLengthLimit) (h2' : k.toNatClampNeg * componentBytes ty ≤ e.platform.maxHeapBytes)
    (h3 : U.heap.size + (1 + n.toNatClampNeg) ≤ e.platform.maxCells) (h4 : U.slotsUsed + (n.toNatClampNeg + n.toNatClampNeg * k.toNatClampNeg) ≤ e.platform.maxSlots) {Q : Unit → Pre}
    (hq : ∀ acts', Q () true acts' ((mq_s U cA cC n.toNatClampNeg k.toNatClampNeg (defaultValue ty) n.toNatClampNeg).setTop { g with stack := .ref U.heap.size :: rest })) :
    wp (Op.multianewarray.sem index 2) Q E e d acts (U.setTop g) := by
  simp only [Op.multianewarray.sem, wp_bind', W.resolveClassAt_ready (State.method?_setTop g hs) hr, W.popN]
  rw [if_neg (by omega)]
  refine ⟨g, State.topJava?_setTop' _ hs, [.int n, .int k], rest, rfl, by rw [hstack]; rfl, ?_⟩
  simp only [List.mapM_cons, List.mapM_nil, wp_bind', wp_pure', State.setTop_setTop]
  refine mq_make (U := U.setTop { g with stack := rest }) hkA hkindA hkC hkindC hn hk h1 h2 h1' h2' h3 h4 fun d' acts' => ?_
  have ht : (mq_s U cA cC n.toNatClampNeg k.toNatClampNeg (defaultValue ty) n.toNatClampNeg).topJava?.isSome := hs
  show wp (Jvm.mark _ >>= fun _ => Jvm.pushRef _) Q E e d' acts' ((mq_s U cA cC n.toNatClampNeg k.toNatClampNeg (defaultValue ty) n.toNatClampNeg).setTop { g with stack := rest })
  simp only [wp_bind', W.mark, W.pushRef, State.topJava?_setTop' _ ht, Option.some.injEq, exists_eq_left', State.setTop_setTop]
  exact hq acts'
end WP
/-- multianewarray of two counts, in a walk -/
theorem mq_walk (X : Stand p l e R s m args below meth c T locs cells slots) (hexec : p.tables.exec = Jvm.exec) {own : String} {index : Nat} {ty : FieldType} (hown : s.vm.findClass own = some m.cls)
    (hclink : (Cond.classLink own index ("[" ++ (FieldType.array ty).toString)).before args s = true) (hover : (Cond.arrayOver (.array ty)).before args s = true) (harr : (Cond.arrayClass ty).before args s = true)
    {g : JFrame} (hg : g.method = m) (hdg : decode c.code g.pc = .ok (.multianewarray index 2, 4)) {n k : Int32} {rest : List Value} (hstack : g.stack = .int k :: .int n :: rest) (hn : ¬ n < 0) (hk : ¬ k < 0)
    (hb1 : n.toNatClampNeg * 4 ≤ 536870912) (hb2 : k.toNatClampNeg * componentBytes ty ≤ 536870912) (hb3 : k.toNatClampNeg ≤ 536870912)
    (hcells : cells + (1 + n.toNatClampNeg) ≤ R.cells) (hslots : slots + (n.toNatClampNeg + n.toNatClampNeg * k.toNatClampNeg) ≤ R.slots) :
    ∃ (vm1 : Vm) (cA cC : ClassId), s.vm.findClass ("[" ++ (FieldType.array ty).toString) = some cA ∧ s.vm.findClass (FieldType.array ty).toString = some cC ∧
      Stand p l e R s m args below meth c (mq_s (T.setVm vm1) cA cC n.toNatClampNeg k.toNatClampNeg (defaultValue ty) n.toNatClampNeg) locs (cells + (1 + n.toNatClampNeg)) (slots + (n.toNatClampNeg + n.toNatClampNeg * k.toNatClampNeg)) ∧
      ∀ target, Steps p.tables e below ((mq_s (T.setVm vm1) cA cC n.toNatClampNeg k.toNatClampNeg (defaultValue ty) n.toNatClampNeg).setTop { g with pc := g.pc + 4, stack := .ref T.heap.size :: rest }) target → Steps p.tables e below (T.setTop g) target := by
  subst hg
  have hpl : e.platform.magicAccessors = ({} : Platform).magicAccessors := by rw [X.admits.platform]
  obtain ⟨cC, cA, kA, hcC, -, hkA, hkindA, hcA⟩ := arrayOverA_spec hover
  obtain ⟨cC', kC, comp, hcC', hkC, hkindC⟩ := Cond.arrayClass_spec harr
  cases Option.some.inj (hcC.symm.trans hcC')
  obtain ⟨cL, hcL, hcl⟩ := Cond.classLink_spec hown hclink e.platform hpl
  cases Option.some.inj (hcA.symm.trans hcL)
  obtain ⟨hgi, hwarm, hready⟩ := State.classEntry (e := e) X.warmed hcl
  generalize T.vm.noted g.method.cls index (.cls cA) = vm1 at hgi hwarm hready
  have hal : s.vm.Alike vm1 := hwarm.alike
  obtain ⟨kA1, hkA1, heA⟩ := hal.2.2 _ _ hkA
  obtain ⟨kC1, hkC1, heC⟩ := hal.2.2 _ _ hkC
  have hkindA1 : kA1.kind = .array cC (.array ty) := by rw [heA]; exact hkindA
  have hkindC1 : kC1.kind = .array comp ty := by rw [heC]; exact hkindC
  have X1 := X.noted hwarm
  have X2 := mq_stand X1 cA cC n.toNatClampNeg k.toNatClampNeg (defaultValue ty)
  obtain ⟨hr1, hr2⟩ := X.roomAbove hcells hslots
  refine ⟨vm1, cA, cC, hcA, hcC, X2, fun target hrest => ?_⟩
  have hlim : e.platform.arrayLengthLimit = 2147483645 := by rw [Launch.admits_arrayLengthLimit X.admits]
  have hheap : e.platform.maxHeapBytes = 536870912 := by rw [Launch.admits_maxHeapBytes X.admits]
  refine Steps.instr (c := c) X.here ?_
  rw [hdg]
  show wpRun (p.tables.exec (.multianewarray index 2)) _ _ e (T.setTop g)
  rw [hexec]
  show wp (Op.multianewarray.sem index 2) _ _ e false [] (T.setTop g)
  have hmove : ∀ {Q : Unit → Pre} {E : CtlPost}, wp (Op.multianewarray.sem index 2) Q E e false [] ((T.setVm vm1).setTop g) → wp (Op.multianewarray.sem index 2) Q E e false [] (T.setTop g) := fun {Q E} h => by
    simp only [Op.multianewarray.sem, wp_bind'] at h ⊢
    exact (W.resolveClassAt_transfer (s := T.setTop g) (State.method?_setTop g X.here.top) hgi hready).mpr h
  refine hmove (mq_sem (U := T.setVm vm1) X1.here.top hready hkA1 hkindA1 hkC1 hkindC1 hstack hn hk (by omega) (by omega) (by omega) (by omega) hr1 hr2 fun acts' => ?_)
  intro acts
  rw [afterInstr_ok]
  exact hrest
/-- .. and over a known heap -/
theorem mq_W {H : Heap} {Q : State → Prop} {cc : ByteArray} (hexec : p.tables.exec = Jvm.exec) (hb : c.code = cc) {own : String} {index : Nat} {ty : FieldType} (hown : s.vm.findClass own = some m.cls)
    (hclink : (Cond.classLink own index ("[" ++ (FieldType.array ty).toString)).before args s = true) (hover : (Cond.arrayOver (.array ty)).before args s = true) (harr : (Cond.arrayClass ty).before args s = true)
    {g : JFrame} (hg : g.method = m) (hdg : decode cc g.pc = .ok (.multianewarray index 2, 4)) {n k : Int32} {rest : List Value} (hstack : g.stack = .int k :: .int n :: rest) (hn : ¬ n < 0) (hk : ¬ k < 0)
    (hb1 : n.toNatClampNeg * 4 ≤ 536870912) (hb2 : k.toNatClampNeg * componentBytes ty ≤ 536870912) (hb3 : k.toNatClampNeg ≤ 536870912)
    (hcells : cells + (1 + n.toNatClampNeg) ≤ R.cells) (hslots : slots + (n.toNatClampNeg + n.toNatClampNeg * k.toNatClampNeg) ≤ R.slots)
    (kk : ∀ cA cC : ClassId, s.vm.findClass ("[" ++ (FieldType.array ty).toString) = some cA → s.vm.findClass (FieldType.array ty).toString = some cC →
      W p l e R s m args below meth c (mq_h H cA cC n.toNatClampNeg k.toNatClampNeg (defaultValue ty) n.toNatClampNeg) locs (cells + (1 + n.toNatClampNeg)) (slots + (n.toNatClampNeg + n.toNatClampNeg * k.toNatClampNeg)) Q { g with pc := g.pc + 4, stack := .ref H.size :: rest }) :
    W p l e R s m args below meth c H locs cells slots Q g := by
  intro T hT X
  subst hT; subst hb
  obtain ⟨vm1, cA, cC, hcA, hcC, X', st⟩ := mq_walk X hexec hown hclink hover harr hg hdg hstack hn hk hb1 hb2 hb3 hcells hslots
  obtain ⟨t, a1, b1⟩ := kk cA cC hcA hcC _ rfl X'
  exact ⟨t, st t a1, b1⟩
end MULTI
