/-! THE PURE HEAP: how many cells; each cell's kind (0 .. 12 objects by class, 13 int[], 14 long[], 15 boolean[], 16 .. 20 arrays of objects, 21 int[][], 22 boolean[][]) and length; three memories: ints (as whole numbers within the range of an int), longs, references -/
abbrev AH : Type := Nat × (Nat → Nat × Nat) × (Nat → Nat → Int) × (Nat → Nat → Int64) × (Nat → Nat → Option Nat)
def nH (h : AH) : Nat := h.1
def kH (h : AH) (a : Nat) : Nat × Nat := h.2.1 a
def iH (h : AH) (a k : Nat) : Int := h.2.2.1 a k
def jH (h : AH) (a k : Nat) : Int64 := h.2.2.2.1 a k
def rH (h : AH) (a k : Nat) : Option Nat := h.2.2.2.2 a k
def u2 {α : Type} (f : Nat → Nat → α) (a k : Nat) (v : α) : Nat → Nat → α := fun x y => if x = a then (if y = k then v else f x y) else f x y
def r2 {α : Type} (f : Nat → Nat → α) (a : Nat) (g : Nat → α) : Nat → Nat → α := fun x y => if x = a then g y else f x y
def sI (h : AH) (a k : Nat) (v : Int) : AH := (h.1, h.2.1, u2 h.2.2.1 a k v, h.2.2.2.1, h.2.2.2.2)
def sJ (h : AH) (a k : Nat) (v : Int64) : AH := (h.1, h.2.1, h.2.2.1, u2 h.2.2.2.1 a k v, h.2.2.2.2)
def sR (h : AH) (a k : Nat) (v : Option Nat) : AH := (h.1, h.2.1, h.2.2.1, h.2.2.2.1, u2 h.2.2.2.2 a k v)
def sW (h : AH) (a : Nat) (g : Nat → Int) : AH := (h.1, h.2.1, r2 h.2.2.1 a g, h.2.2.2.1, h.2.2.2.2)
def nw (h : AH) (t n : Nat) : AH := (h.1 + 1, (fun x => if x = h.1 then (t, n) else h.2.1 x), r2 h.2.2.1 h.1 (fun _ => 0), r2 h.2.2.2.1 h.1 (fun _ => 0), r2 h.2.2.2.2 h.1 (fun _ => none))
/-- which fields of a kind are references -/
def fR (t : Nat) : List Bool := match t with
  | 0 => [false, true]
  | 1 => [true, true, true, false, false]
  | 2 => [false, true, false]
  | 3 => [false, false, false, true]
  | 4 => [false, false]
  | 5 => [true, true, true, false, true, false, true]
  | 6 => [true, true, false, false, false, false, false, false]
  | 7 => [false, true, true, true, true, false, false]
  | 8 => [true, false, false]
  | 9 => [true, true, false, false]
  | 10 => [true, false, true, false]
  | 11 => [true, true, false, true, true, true, true, true, false, true, true, false, true, false, true, true, true, true, true, true]
  | 12 => [false, true, true, true, true, false, true, true, true, true, true, true, true, false, true, false, true, true, false, true, false, false, false, false, false, false, false, false, true, true, false, true, true, true, false, false, false, false, false, false, false, true, false, false, true, true, false, false, true, true, true, true, true, true]
  | _ => []
abbrev vwCl : List vw_C := [(RX0, TX0, 2), (RX1, TX1, 5), (RX2, TX2, 3), (RX3, TX3, 4), (RX4, TX4, 2), (RX5, TX5, 7), (RX6, TX6, 8), (RX7, TX7, 7), (RX8, TX8, 3), (RX9, TX9, 4), (RX10, TX10, 4), (RX11, TX11, 20), (RX12, TX12, 54)]
def ov (b : Nat) (h : AH) (a t k : Nat) : Value := if (fR t).getD k false = true then va_rf ((rH h a k).map (fun x => b + x)) else .int (Int32.ofInt (iH h a k))
def ovs (b : Nat) (h : AH) (a t : Nat) : List Value := (List.range (fR t).length).map (ov b h a t)
def cE (cy : Nat → ClassId) (b : Nat) (h : AH) (a : Nat) : va_E :=
  if (kH h a).1 < 13 then .inr ((kH h a).1, ovs b h a (kH h a).1)
  else if (kH h a).1 = 14 then .inl (cy (kH h a).1, (kH h a).2, .inr (.inl (jH h a)))
  else if (kH h a).1 < 16 then .inl (cy (kH h a).1, (kH h a).2, .inl (fun j => Int32.ofInt (iH h a j)))
  else .inl (cy (kH h a).1, (kH h a).2, .inr (.inr (.inr (.inr (fun j => (rH h a j).map (fun x => b + x))))))
/-- a value: a whole number (an int), a long, a reference -/
abbrev AV : Type := Int ⊕ (Int64 ⊕ Option Nat)
abbrev vi (x : Int) : AV := .inl x
abbrev vl (x : Int64) : AV := .inr (.inl x)
abbrev vq (r : Option Nat) : AV := .inr (.inr r)
abbrev vr (a : Nat) : AV := .inr (.inr (some a))
def inr (x : Int) : Prop := -2147483648 ≤ x ∧ x < 2147483648
def okV (v : AV) : Prop := match v with
  | .inl x => inr x
  | _ => True
/-- the world: the pure heap stands in the machine's heap from b on, and is all that stands there -/
def Wd (D : va_G) (cy : Nat → ClassId) (b : Nat) (h : AH) (H : Heap) : Prop := H.size = b + nH h ∧ (∀ a, a < nH h → va_at D vwCl (b + a, cE cy b h a) H) ∧ ∀ a k, inr (iH h a k)
def cv (b : Nat) (v : AV) : Value := match v with
  | .inl x => .int (Int32.ofInt x)
  | .inr (.inl x) => .long x
  | .inr (.inr r) => va_rf (r.map (fun x => b + x))
def cat (v : AV) : Nat := match v with
  | .inr (.inl _) => 2
  | _ => 1
def lg : List (Option AV) → Nat → Option AV
  | [], _ => none
  | x :: _, 0 => x
  | _ :: l, n + 1 => lg l n
def lst : List (Option AV) → Nat → Option AV → List (Option AV)
  | [], _, _ => []
  | _ :: l, 0, v => v :: l
  | x :: l, n + 1, v => x :: lst l n v
def lvs (b : Nat) (lo : List (Option AV)) : List (Nat × Value) := (List.range lo.length).filterMap (fun i => (lg lo i).map (fun v => (i, cv b v)))
abbrev Lc (b : Nat) (n : Nat) (ls : Array Slot) (lo : List (Option AV)) : Prop := lv_has ls n (lvs b lo)
def tyA (t : Nat) : FieldType := match t with
  | 13 => .int
  | 14 => .long
  | 15 => .boolean
  | 16 => .object RX0
  | 17 => .object RX5
  | 18 => .object RX7
  | 19 => .object RX8
  | 20 => .object RX9
  | 21 => .array .int
  | _ => .array .boolean
def tyL (cy : Nat → ClassId) : List (ClassId × FieldType) := (List.range 10).map (fun i => (cy (13 + i), tyA (13 + i)))
/-- the words of the tables that any method keeps -/
def gt : List Cond := lw_tbl.filter goodWord
theorem gt_ok {w : Cond} (h : w ∈ lw_tbl) (g : goodWord w = true) : w ∈ gt := List.mem_filter.mpr ⟨h, g⟩
abbrev MI : Type := MethodName × ByteArray × Nat × Option FieldType
abbrev cdw (y : MI) : Cond := Cond.code y.1 y.2.1 y.2.2.1 y.2.2.2
def wsM (y : MI) : List Cond := cdw y :: gt
theorem gt_good {y : MI} (h : cdw y ∈ gt) : GoodIn gt (wsM y) := fun w hw => by
  have hm : w ∈ gt := by
    rcases List.mem_cons.mp hw with e | e
    · rw [e]; exact h
    · exact e
  exact ⟨hm, good_of_word (List.mem_filter.mp hm).2⟩
