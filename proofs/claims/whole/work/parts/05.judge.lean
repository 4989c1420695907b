/-! THE JUDGEMENT: the kit's W with all its context packed; what stays fixed below the base b -/
def undr (j : Nat) : Int32 := match j with
  | 0 => -1
  | 1 => 0
  | 2 => 0
  | 3 => 1
  | 4 => 2
  | _ => 0
def spn (j : Nat) : Int32 := match j with
  | 0 => 387420489
  | 1 => 14348907
  | 2 => 531441
  | 3 => 19683
  | 4 => 729
  | 5 => 27
  | _ => 1
abbrev ab (b : Nat) : Nat → Prop := fun q => b ≤ q
abbrev sLen : List Nat := [2, 3, 3]
abbrev sByt : List (List Int32) := [[111, 114], [97, 110, 100], [110, 111, 116]]
def StP (b : Nat) (U : State) (H : Heap) : Prop :=
  (∃ t, va_Z "LiveIndex$Policy" "UNDER" "[I" (.ref t) (ab b) U H ∧ va_T .int t 6 (fun j => .int (undr j)) (ab b) U H) ∧
  (∃ t, va_Z "LiveIndex" "SPANS" "[I" (.ref t) (ab b) U H ∧ va_T .int t 7 (fun j => .int (spn j)) (ab b) U H) ∧
  (∃ adK adV : Nat → Nat, vk_S 3 sLen sByt adK adV (ab b) U H ∧ vk_R "LiveIndexModel" 269 "or" (adK 0) U ∧ vk_R "LiveIndexModel" 275 "and" (adK 1) U ∧ vk_R "LiveIndexModel" 277 "not" (adK 2) U) ∧
  va_Z "java/lang/String" "COMPACT_STRINGS" "Z" (.int 1) (ab b) U H ∧ va_Zq "jdk/internal/util/Preconditions" "SIOOBE_FORMATTER" "Ljava/util/function/BiFunction;" (ab b) U H
theorem StP.go {b : Nat} {s U : State} {locs : List Loc} (h : StP b s s.heap) (hW : s.WarmedH U.vm) (hS : va_S (ab b) s.heap U.heap locs) : StP b U U.heap := by
  have hA := hW.alike
  have hq : ∀ a : Nat, a < s.heap.size → ¬ ab b a → U.heap[a]? = s.heap[a]? := hS.2.1
  obtain ⟨⟨t, h1, h2⟩, ⟨t', h3, h4⟩, ⟨adK, adV, h5, h6, h7, h8⟩, h9, h10⟩ := h
  exact ⟨⟨t, va_Z.moved hA (h1.kept hq), va_T.moved hA (h2.kept hq)⟩, ⟨t', va_Z.moved hA (h3.kept hq), va_T.moved hA (h4.kept hq)⟩, ⟨adK, adV, vk_S.moved hA (h5.kept hq), vk_R.warm hW h6, vk_R.warm hW h7, vk_R.warm hW h8⟩, va_Z.moved hA (h9.kept hq), va_Zq.moved hA (h10.kept hq)⟩
/-- the words of the nest and of arrays of objects -/
def nestM : List (Nat × MethodName) := [(9, yX10_init), (24, yX9_init), (44, yX4_init), (51, yX3_init), (77, yX2_init), (90, yX1_init), (106, yX5_init), (107, yX8_init)]
def aoL : List String := [RX0, RX5, RX7, RX8, RX9]
abbrev EN : Type := Nat × va_G × (Nat → ClassId)
/-- the same for arrays of rows -/
def aoA (t : FieldType) (U : State) : Prop := (Cond.arrayOver (.array t)).before #[] U = true
theorem aoA.use {t : FieldType} {A : Array Value} {U : State} (h : aoA t U) : (Cond.arrayOver (.array t)).before A U = true := h
theorem aoA.moved {t : FieldType} {u U : State} (hv : u.vm.Alike U.vm) (h : aoA t u) : aoA t U := by
  have h1 : (Cond.arrayOver (.array t)).before #[] (u.setVm U.vm) = true := by
    rw [Cond.arrayOver_setVmC hv]; exact h
  exact h1
def Gs (E : EN) (U : State) : Prop := va_K E.2.1 vwCl (tyL E.2.2) U ∧ (∀ q ∈ nestM, va_Nw (.methodLinkNest RX11 q.1 q.2 RX11) U) ∧ va_Nw (.fieldLinkNest RX6 97 RX11 "SPANS" "[I" RX11) U ∧ ((∀ C ∈ aoL, va_AO C U) ∧ aoA .int U ∧ aoA .boolean U) ∧ StP E.1 U U.heap
theorem Gs.go {E : EN} {s U : State} {locs : List Loc} (h : Gs E s) (hW : s.WarmedH U.vm) (hS : va_S (ab E.1) s.heap U.heap locs) : Gs E U :=
  ⟨va_K.moved hW.alike h.1, fun q hq => va_Nw.warmM hW (h.2.1 q hq), va_Nw.warmF hW h.2.2.1, ⟨fun C hC => va_AO.moved hW.alike (h.2.2.2.1.1 C hC), aoA.moved hW.alike h.2.2.2.1.2.1, aoA.moved hW.alike h.2.2.2.1.2.2⟩, h.2.2.2.2.go hW hS⟩
def Cx (y : MI) (E : EN) (p : Program) (s : State) (m : MethodId) (args : Array Value) (meth : Method) (c : Code) : Prop :=
  p.tables.exec = Jvm.exec ∧ c.code = y.2.1 ∧ c.maxLocals = y.2.2.1 ∧ s.vm.findClass y.1.cls = some m.cls ∧ (∀ w ∈ gt, w.before args s = true) ∧ Gs E s ∧ (y.1.name = "<init>" → meth.name = "<init>")
/-- a return: the instruction, by the method's type -/
def rtI (y : MI) (v : Option AV) (pc : Nat) : Prop :=
  (∃ x, v = some (vi x) ∧ y.2.2.2 = some .int ∧ decode y.2.1 pc = .ok (.ireturn, 1)) ∨
  (∃ x, v = some (vi x) ∧ (x = 0 ∨ x = 1) ∧ y.2.2.2 = some .boolean ∧ decode y.2.1 pc = .ok (.ireturn, 1)) ∨
  (∃ x, v = some (vl x) ∧ y.2.2.2 = some .long ∧ decode y.2.1 pc = .ok (.lreturn, 1)) ∨
  (∃ x t, v = some (vr x) ∧ y.2.2.2 = some (.array t) ∧ decode y.2.1 pc = .ok (.areturn, 1)) ∨
  (v = none ∧ y.2.2.2 = none ∧ decode y.2.1 pc = .ok (.return_, 1))
def Rt (y : MI) (E : EN) (Q : Option AV → AH → Prop) (p : Program) (l : Launch) (e : Env) (R : Room) (s : State) (m : MethodId) (args : Array Value) (below : List Frame) (meth : Method) (c : Code) (Z : State → Prop) : Prop :=
  ∀ (v : Option AV) (h : AH) (pc : Nat) (ls : Array Slot) (H : Heap) (locs : List Loc) (cells slots : Nat), rtI y v pc → (∀ w, v = some w → okV w) → Q v h → Wd E.2.1 E.2.2 E.1 h H → va_S (ab E.1) s.heap H locs → cells ≤ R.cells → slots ≤ R.slots → W p l e R s m args below meth c H locs cells slots Z (F0 m pc ls (v.toList.map (cv E.1)))
def wp (y : MI) (d rc rs : Nat) (Q : Option AV → AH → Prop) (pc : Nat) (lo : List (Option AV)) (st : List AV) (h : AH) : Prop :=
  ∀ (E : EN) (p : Program) (l : Launch) (e : Env) (R : Room) (s : State) (m : MethodId) (args : Array Value) (below : List Frame) (meth : Method) (c : Code) (Z : State → Prop), Cx y E p s m args meth c → Rt y E Q p l e R s m args below meth c Z → d ≤ R.frames → 64 * d ≤ R.locals → E.1 ≤ s.heap.size →
  ∀ (H : Heap) (locs : List Loc) (ls : Array Slot) (cells slots : Nat), cells + rc ≤ R.cells → slots + rs ≤ R.slots → Wd E.2.1 E.2.2 E.1 h H → va_S (ab E.1) s.heap H locs → Lc E.1 y.2.2.1 ls lo → (∀ v ∈ st, okV v) → (∀ i v, lg lo i = some v → okV v) → W p l e R s m args below meth c H locs cells slots Z (F0 m pc ls (st.map (cv E.1)))
/-- a method's contract over the pure heap: depth of frames, new cells, new slots -/
def PcM (E : EN) (av : List AV) (h : AH) : Array Value → State → Prop := va_Pc (av.map (cv E.1)) (fun U => (∀ v ∈ av, okV v) ∧ Wd E.2.1 E.2.2 E.1 h U.heap ∧ Gs E U)
def QcM (E : EN) (Q : Option AV → AH → Prop) : Array Value → State → Outcome → State → Prop := fun _ st oc t => ∃ (v : Option AV) (h : AH), oc = .returned (v.map (cv E.1)) ∧ (∀ w, v = some w → okV w) ∧ Q v h ∧ Wd E.2.1 E.2.2 E.1 h t.heap ∧ va_F (ab E.1) st t
abbrev rmM (d mc ms : Nat) : Room := { frames := d, cells := mc, slots := ms, locals := 64 * d }
def Ct (d mc ms : Nat) (y : MI) (av : List AV) (h : AH) (Q : Option AV → AH → Prop) : Prop :=
  ∀ (l : Launch) (E : EN), Met l y.1 (wsM y) (rmM d mc ms) (PcM E av h) (QcM E Q) mc ms (ab E.1)
/-- locals at the entry -/
def enL : List AV → List (Option AV)
  | [] => []
  | v :: l => if cat v = 2 then some v :: none :: enL l else some v :: enL l
def lo0 (av : List AV) (n : Nat) : List (Option AV) := enL av ++ List.replicate (n - (enL av).length) none
theorem lg_app : ∀ (a : List (Option AV)) (k i : Nat), lg (a ++ List.replicate k none) i = lg a i
  | [], k, i => by
    have : ∀ (k i : Nat), lg (List.replicate k none) i = none := by
      intro k
      induction k with
      | zero => intro i; rfl
      | succ k ih => intro i; cases i with
        | zero => rfl
        | succ i => simpa [List.replicate_succ, lg] using ih i
    simpa [lg] using this k i
  | x :: a, k, 0 => rfl
  | x :: a, k, i + 1 => by simpa [lg] using lg_app a k i
theorem enL_args (b : Nat) : ∀ (av : List AV) (k i : Nat) (v : AV), lg (enL av) i = some v → (k + i, cv b v) ∈ lv_args k (av.map (cv b))
  | [], k, i, v, h => by simp [enL, lg] at h
  | x :: av, k, i, v, h => by
    by_cases hc : cat x = 2
    · rw [enL, if_pos hc] at h
      have hc' : (cv b x).category = 2 := by rw [cv_cat]; exact hc
      match i, h with
      | 0, h => cases h; simp [lv_args]
      | 1, h => cases h
      | i + 2, h =>
        have := enL_args b av (k + 2) i v (by simpa [lg] using h)
        simp [lv_args, hc']
        rw [show k + (i + 2) = k + 2 + i by omega]
        exact this
    · rw [enL, if_neg hc] at h
      have hc' : ¬ (cv b x).category = 2 := by rw [cv_cat]; exact hc
      match i, h with
      | 0, h => cases h; simp [lv_args]
      | i + 1, h =>
        have := enL_args b av (k + 1) i v (by simpa [lg] using h)
        simp [lv_args, hc']
        rw [show k + (i + 1) = k + 1 + i by omega]
        exact this
