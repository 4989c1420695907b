/-! STRAIGHT PIECES OF CODE, as one step: an entry is an instruction, its length, a constant, a kind, a place or field, a flag -/
abbrev IE : Type := Instr × Nat × Int × Nat × Nat × Nat
abbrev KT : Type := List (Option AV) → List AV → AH → Prop
def pI (st : List AV) (k : Int → List AV → Prop) : Prop := match st with
  | .inl x :: r => k x r
  | _ => False
def pL (st : List AV) (k : Int64 → List AV → Prop) : Prop := match st with
  | .inr (.inl x) :: r => k x r
  | _ => False
def pR (st : List AV) (k : Nat → List AV → Prop) : Prop := match st with
  | .inr (.inr (some x)) :: r => k x r
  | _ => False
def pV (st : List AV) (k : AV → List AV → Prop) : Prop := match st with
  | v :: r => cat v = 1 ∧ k v r
  | _ => False
def lI (lo : List (Option AV)) (i : Nat) (k : Int → Prop) : Prop := match lg lo i with
  | some (.inl x) => k x
  | _ => False
def lL (lo : List (Option AV)) (i : Nat) (k : Int64 → Prop) : Prop := match lg lo i with
  | some (.inr (.inl x)) => k x
  | _ => False
def lR (lo : List (Option AV)) (i : Nat) (k : Nat → Prop) : Prop := match lg lo i with
  | some (.inr (.inr (some x))) => k x
  | _ => False
theorem pI_e {st : List AV} {k : Int → List AV → Prop} (h : pI st k) : ∃ x r, st = vi x :: r ∧ k x r := by
  unfold pI at h; split at h
  · exact ⟨_, _, rfl, h⟩
  · exact h.elim
theorem pL_e {st : List AV} {k : Int64 → List AV → Prop} (h : pL st k) : ∃ x r, st = vl x :: r ∧ k x r := by
  unfold pL at h; split at h
  · exact ⟨_, _, rfl, h⟩
  · exact h.elim
theorem pR_e {st : List AV} {k : Nat → List AV → Prop} (h : pR st k) : ∃ x r, st = vr x :: r ∧ k x r := by
  unfold pR at h; split at h
  · exact ⟨_, _, rfl, h⟩
  · exact h.elim
theorem pV_e {st : List AV} {k : AV → List AV → Prop} (h : pV st k) : ∃ x r, st = x :: r ∧ cat x = 1 ∧ k x r := by
  unfold pV at h; split at h
  · exact ⟨_, _, rfl, h⟩
  · exact h.elim
theorem lI_e {lo : List (Option AV)} {i : Nat} {k : Int → Prop} (h : lI lo i k) : ∃ x, lg lo i = some (vi x) ∧ k x := by
  unfold lI at h; split at h
  · exact ⟨_, by assumption, h⟩
  · exact h.elim
theorem lL_e {lo : List (Option AV)} {i : Nat} {k : Int64 → Prop} (h : lL lo i k) : ∃ x, lg lo i = some (vl x) ∧ k x := by
  unfold lL at h; split at h
  · exact ⟨_, by assumption, h⟩
  · exact h.elim
theorem lR_e {lo : List (Option AV)} {i : Nat} {k : Nat → Prop} (h : lR lo i k) : ∃ x, lg lo i = some (vr x) ∧ k x := by
  unfold lR at h; split at h
  · exact ⟨_, by assumption, h⟩
  · exact h.elim
def lcs (k : Nat) : Int64 := match k with
  | 0 => 0
  | _ => 1
def andI (x z : Int) : Int := (Int32.ofInt x &&& Int32.ofInt z).toInt
def orI (x z : Int) : Int := (Int32.ofInt x ||| Int32.ofInt z).toInt
def shlI (x z : Int) : Int := (Int32.ofInt x <<< (Int32.ofInt z &&& 31)).toInt
def i2bI (x : Int) : Int := ((Int32.ofInt x).toInt8.toInt32).toInt
def lcI (x z : Int64) : Int := (lg_cmp x z).toInt
def fldK (f : Nat) (h : AH) (a k : Nat) (K : AV → Prop) : Prop := match f with
  | 0 => K (vi (iH h a k))
  | _ => ∃ b, rH h a k = some b ∧ K (vr b)
def putK (f : Nat) (st : List AV) (h : AH) (c k : Nat) (K : List AV → AH → Prop) : Prop := match f with
  | 0 => pI st fun x r => pR r fun a r => (a < nH h ∧ kH h a = (c, 0)) ∧ K r (sI h a k x)
  | 1 => pR st fun b r => pR r fun a r => (a < nH h ∧ kH h a = (c, 0)) ∧ K r (sR h a k (some b))
  | _ => pI st fun x r => pR r fun a r => (a < nH h ∧ kH h a = (c, 0)) ∧ (x = 0 ∨ x = 1) ∧ K r (sI h a k x)
def st1 (e : IE) (lo : List (Option AV)) (st : List AV) (h : AH) (K : KT) : Prop := match e with
  | (i, _, v, c, k, f) => match i with
    | .iconst _ => K lo (vi v :: st) h
    | .bipush _ => K lo (vi v :: st) h
    | .sipush _ => K lo (vi v :: st) h
    | .lconst _ => K lo (vl (lcs k) :: st) h
    | .iload_n _ => lI lo k fun x => K lo (vi x :: st) h
    | .iload _ => lI lo k fun x => K lo (vi x :: st) h
    | .aload_n _ => lR lo k fun x => K lo (vr x :: st) h
    | .aload _ => lR lo k fun x => K lo (vr x :: st) h
    | .lload_n _ => lL lo k fun x => K lo (vl x :: st) h
    | .istore_n _ => pI st fun x r => noL lo k = true ∧ K (lst lo k (some (vi x))) r h
    | .istore _ => pI st fun x r => noL lo k = true ∧ K (lst lo k (some (vi x))) r h
    | .astore_n _ => pR st fun x r => noL lo k = true ∧ K (lst lo k (some (vr x))) r h
    | .astore _ => pR st fun x r => noL lo k = true ∧ K (lst lo k (some (vr x))) r h
    | .lstore_n _ => pL st fun x r => noL lo k = true ∧ K (lst (lst lo (k + 1) none) k (some (vl x))) r h
    | .iinc _ _ => lI lo k fun x => inr (x + v) ∧ noL lo k = true ∧ K (lst lo k (some (vi (x + v)))) st h
    | .iadd => pI st fun z r => pI r fun x r => inr (x + z) ∧ K lo (vi (x + z) :: r) h
    | .isub => pI st fun z r => pI r fun x r => inr (x - z) ∧ K lo (vi (x - z) :: r) h
    | .imul => pI st fun z r => pI r fun x r => inr (x * z) ∧ K lo (vi (x * z) :: r) h
    | .idiv => pI st fun z r => pI r fun x r => (0 ≤ x ∧ 0 < z ∧ inr (x / z)) ∧ K lo (vi (x / z) :: r) h
    | .irem => pI st fun z r => pI r fun x r => (0 ≤ x ∧ 0 < z ∧ inr (x % z)) ∧ K lo (vi (x % z) :: r) h
    | .iand => pI st fun z r => pI r fun x r => K lo (vi (andI x z) :: r) h
    | .ior => pI st fun z r => pI r fun x r => K lo (vi (orI x z) :: r) h
    | .ishl => pI st fun z r => pI r fun x r => K lo (vi (shlI x z) :: r) h
    | .i2b => pI st fun x r => K lo (vi (i2bI x) :: r) h
    | .ineg => pI st fun x r => inr (-x) ∧ K lo (vi (-x) :: r) h
    | .l2i => pL st fun x r => K lo (vi (x.toInt32).toInt :: r) h
    | .ladd => pL st fun z r => pL r fun x r => K lo (vl (x + z) :: r) h
    | .lsub => pL st fun z r => pL r fun x r => K lo (vl (x - z) :: r) h
    | .land => pL st fun z r => pL r fun x r => K lo (vl (x &&& z) :: r) h
    | .lor => pL st fun z r => pL r fun x r => K lo (vl (x ||| z) :: r) h
    | .lshl => pI st fun z r => pL r fun x r => K lo (vl (shl6 x z) :: r) h
    | .lushr => pI st fun z r => pL r fun x r => K lo (vl (shr6 x z) :: r) h
    | .lcmp => pL st fun z r => pL r fun x r => K lo (vi (lcI x z) :: r) h
    | .dup => pV st fun v r => K lo (v :: v :: r) h
    | .dup2 => pV st fun v r => pV r fun w r => K lo (v :: w :: v :: w :: r) h
    | .pop => pV st fun _ r => K lo r h
    | .getfield _ => pR st fun a r => (a < nH h ∧ kH h a = (c, 0)) ∧ fldK f h a k (fun v => K lo (v :: r) h)
    | .putfield _ => putK f st h c k (fun r h' => K lo r h')
    | .iaload => pI st fun x r => pR r fun a r => (a < nH h ∧ (kH h a).1 = 13 ∧ 0 ≤ x ∧ x < ((kH h a).2 : Int)) ∧ K lo (vi (iH h a x.toNat) :: r) h
    | .baload => pI st fun x r => pR r fun a r => (a < nH h ∧ (kH h a).1 = 15 ∧ 0 ≤ x ∧ x < ((kH h a).2 : Int)) ∧ K lo (vi (iH h a x.toNat) :: r) h
    | .laload => pI st fun x r => pR r fun a r => (a < nH h ∧ (kH h a).1 = 14 ∧ 0 ≤ x ∧ x < ((kH h a).2 : Int)) ∧ K lo (vl (jH h a x.toNat) :: r) h
    | .aaload => pI st fun x r => pR r fun a r => (a < nH h ∧ 15 < (kH h a).1 ∧ (kH h a).1 < 23 ∧ 0 ≤ x ∧ x < ((kH h a).2 : Int)) ∧ ∃ b, rH h a x.toNat = some b ∧ K lo (vr b :: r) h
    | .arraylength => pR st fun a r => (a < nH h ∧ 13 ≤ (kH h a).1 ∧ (kH h a).1 < 23 ∧ inr ((kH h a).2 : Int)) ∧ K lo (vi ((kH h a).2 : Int) :: r) h
    | .iastore => pI st fun z r => pI r fun x r => pR r fun a r => (a < nH h ∧ (kH h a).1 = 13 ∧ 0 ≤ x ∧ x < ((kH h a).2 : Int)) ∧ K lo r (sI h a x.toNat z)
    | .bastore => pI st fun z r => pI r fun x r => pR r fun a r => (a < nH h ∧ (kH h a).1 = 15 ∧ 0 ≤ x ∧ x < ((kH h a).2 : Int) ∧ (z = 0 ∨ z = 1)) ∧ K lo r (sI h a x.toNat z)
    | .lastore => pL st fun z r => pI r fun x r => pR r fun a r => (a < nH h ∧ (kH h a).1 = 14 ∧ 0 ≤ x ∧ x < ((kH h a).2 : Int)) ∧ K lo r (sJ h a x.toNat z)
    | .aastore => pR st fun b r => pI r fun x r => pR r fun a r => (a < nH h ∧ 15 < (kH h a).1 ∧ (kH h a).1 < 21 ∧ 0 ≤ x ∧ x < ((kH h a).2 : Int) ∧ b < nH h ∧ (kH h b).1 = elK (kH h a).1) ∧ K lo r (sR h a x.toNat (some b))
    | _ => False
def isI (t : FieldType) : Bool := match t with
  | .int => true
  | _ => false
def isZ (t : FieldType) : Bool := match t with
  | .boolean => true
  | _ => false
def isQ (t : FieldType) : Bool := match t with
  | .object _ => true
  | .array _ => true
  | _ => false
def inb (v : Int) : Bool := decide (-2147483648 ≤ v) && decide (v < 2147483648)
def chkP (y : MI) (c k f : Nat) : Bool := ((!(tf c k).2.2.2) || (decide ((tf c k).1 = y.1.cls) && decide ((tf c k).1 = rx c) && decide (y.1.name = "<init>"))) && (match f with
  | 0 => isI (tyf c k) && !((fR c).getD k false)
  | 1 => isQ (tyf c k) && (fR c).getD k false
  | _ => isZ (tyf c k) && !((fR c).getD k false))
def chkE (y : MI) (o : Nat) (e : IE) : Bool := match e with
  | (i, n, v, c, k, f) => match i with
    | .iconst u => decide (n = 1) && decide (u = v) && inb v
    | .bipush u => decide (n = 2) && decide ((Int8.ofInt u).toInt32 = Int32.ofInt v) && inb v
    | .sipush u => decide (n = 3) && decide ((Int16.ofInt u).toInt32 = Int32.ofInt v) && inb v
    | .lconst w => decide (n = 1) && decide (Int64.ofNat (w : Nat) = lcs k)
    | .iload_n w => decide (n = 1) && decide ((w : Nat) = k)
    | .iload w => decide (n = 2) && decide (w = k)
    | .aload_n w => decide (n = 1) && decide ((w : Nat) = k)
    | .aload w => decide (n = 2) && decide (w = k)
    | .lload_n w => decide (n = 1) && decide ((w : Nat) = k)
    | .istore_n w => decide (n = 1) && decide ((w : Nat) = k) && decide (k < y.2.2.1)
    | .istore w => decide (n = 2) && decide (w = k) && decide (k < y.2.2.1)
    | .astore_n w => decide (n = 1) && decide ((w : Nat) = k) && decide (k < y.2.2.1)
    | .astore w => decide (n = 2) && decide (w = k) && decide (k < y.2.2.1)
    | .lstore_n w => decide (n = 1) && decide ((w : Nat) = k) && decide (k + 1 < y.2.2.1)
    | .iinc w u => decide (n = 3) && decide (w = k) && decide (u = v) && decide (k < y.2.2.1)
    | .getfield w => decide (n = 3) && flq o w c k && (match f with
      | 0 => !((fR c).getD k false)
      | _ => (fR c).getD k false)
    | .putfield w => decide (n = 3) && flq o w c k && chkP y c k f
    | _ => decide (n = 1)
def wpB : List IE → List (Option AV) → List AV → AH → KT → Prop
  | [], lo, st, h, K => K lo st h
  | e :: es, lo, st, h, K => st1 e lo st h (fun lo st h => wpB es lo st h K)
def chkB (y : MI) (o : Nat) : Nat → List IE → Nat → Bool
  | pc, [], q => decide (pc = q)
  | pc, e :: es, q => decide (decode y.2.1 pc = .ok (e.1, e.2.1)) && chkE y o e && chkB y o (pc + e.2.1) es q
