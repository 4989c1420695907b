section EXITS
variable {y z : MI} {d d' rc rs mc ms : Nat} {Q Q' : Option AV → AH → Prop} {o pc q n t cnd i c a : Nat} {off : Int} {es : List IE} {lo : List (Option AV)} {st stk : List AV} {av : List AV} {h : AH}
def ckB (y : MI) (o pc : Nat) (es : List IE) (q : Nat) : Bool := decide (y.1.cls = rx o) && chkB y o pc es q
def ckIf (y : MI) (o pc : Nat) (es : List IE) (q cnd : Nat) (off : Int) (t n : Nat) : Bool := ckB y o pc es q && decide (decode y.2.1 q = .ok (ifI cnd off, 3)) && decide ((q : Int) + off = (t : Int)) && decide (cnd < 6) && decide (q + 3 = n)
def ckIc (y : MI) (o pc : Nat) (es : List IE) (q cnd : Nat) (off : Int) (t n : Nat) : Bool := ckB y o pc es q && decide (decode y.2.1 q = .ok (icI cnd off, 3)) && decide ((q : Int) + off = (t : Int)) && decide (cnd < 6) && decide (q + 3 = n)
def ckGo (y : MI) (o pc : Nat) (es : List IE) (q : Nat) (off : Int) (t : Nat) : Bool := ckB y o pc es q && decide (decode y.2.1 q = .ok (.goto off, 3)) && decide ((q : Int) + off = (t : Int))
def ckTs (y : MI) (o pc : Nat) (es : List IE) (q : Nat) (dflt lw hi : Int) (offs : Array Int) (len t0 : Nat) (r : List (Int × Nat)) : Bool := ckB y o pc es q && decide (decode y.2.1 q = .ok (.tableswitch dflt lw hi offs, len)) && decide (lw + offs.toList.length = hi + 1) && decide ((q : Int) + dflt = (t0 : Int)) && chkT q lw offs.toList r
def ckLs (y : MI) (o pc : Nat) (es : List IE) (q : Nat) (dflt : Int) (ps : Array (Int × Int)) (len t0 : Nat) (r : List (Int × Nat)) : Bool := ckB y o pc es q && decide (decode y.2.1 q = .ok (.lookupswitch dflt ps, len)) && (ps.toList.zip (ps.toList.drop 1)).all (fun (a, next) => a.1 < next.1) && decide ((q : Int) + dflt = (t0 : Int)) && chkL q ps.toList r
def ckI (y : MI) (o pc : Nat) (es : List IE) (q : Nat) : Bool := ckB y o pc es q && decide (decode y.2.1 q = .ok (.ireturn, 1)) && (match y.2.2.2 with
  | some .int => true
  | _ => false)
def ckZ (y : MI) (o pc : Nat) (es : List IE) (q : Nat) : Bool := ckB y o pc es q && decide (decode y.2.1 q = .ok (.ireturn, 1)) && (match y.2.2.2 with
  | some .boolean => true
  | _ => false)
def ckV (y : MI) (o pc : Nat) (es : List IE) (q : Nat) : Bool := ckB y o pc es q && decide (decode y.2.1 q = .ok (.return_, 1)) && (match y.2.2.2 with
  | none => true
  | _ => false)
theorem xB (hb : ckB y o pc es q = true) (k : wpB es lo st h (fun lo st h => wp y d rc rs Q q lo st h)) : wp y d rc rs Q pc lo st h := by
  simp only [ckB, Bool.and_eq_true, decide_eq_true_eq] at hb
  exact wB hb.1 hb.2 k
theorem wpB_mono {K K' : KT} (m : ∀ lo st h, K lo st h → K' lo st h) : ∀ {es : List IE} {lo : List (Option AV)} {st : List AV} {h : AH}, wpB es lo st h K → wpB es lo st h K'
  | [], _, _, _, hk => m _ _ _ hk
  | _ :: _, _, _, _, hk => st1_mono (fun _ _ _ q => wpB_mono m q) hk
theorem xIf (hb : ckIf y o pc es q cnd off t n = true) (k : wpB es lo st h (fun lo st h => pI st fun x r => (cmp cnd x 0 → wp y d rc rs Q t lo r h) ∧ (¬ cmp cnd x 0 → wp y d rc rs Q n lo r h))) : wp y d rc rs Q pc lo st h := by
  simp only [ckIf, Bool.and_eq_true, decide_eq_true_eq] at hb
  obtain ⟨⟨⟨⟨h1, h2⟩, h3⟩, h4⟩, rfl⟩ := hb
  refine xB h1 (wpB_mono ?_ k)
  intro lo st h hk
  obtain ⟨x, r, rfl, h5, h6⟩ := pI_e hk
  exact w_if h4 h2 h3 h5 h6
theorem xIc (hb : ckIc y o pc es q cnd off t n = true) (k : wpB es lo st h (fun lo st h => pI st fun z r => pI r fun x r => (cmp cnd x z → wp y d rc rs Q t lo r h) ∧ (¬ cmp cnd x z → wp y d rc rs Q n lo r h))) : wp y d rc rs Q pc lo st h := by
  simp only [ckIc, Bool.and_eq_true, decide_eq_true_eq] at hb
  obtain ⟨⟨⟨⟨h1, h2⟩, h3⟩, h4⟩, rfl⟩ := hb
  refine xB h1 (wpB_mono ?_ k)
  intro lo st h hk
  obtain ⟨z, r, rfl, hk2⟩ := pI_e hk
  obtain ⟨x, r, rfl, h5, h6⟩ := pI_e hk2
  exact w_ic h4 h2 h3 h5 h6
theorem xGo (hb : ckGo y o pc es q off t = true) (k : wpB es lo st h (fun lo st h => wp y d rc rs Q t lo st h)) : wp y d rc rs Q pc lo st h := by
  simp only [ckGo, Bool.and_eq_true, decide_eq_true_eq] at hb
  obtain ⟨⟨h1, h2⟩, h3⟩ := hb
  refine xB h1 (wpB_mono ?_ k)
  intro lo st h hk
  exact w_goto h2 h3 hk
theorem xTs {dflt lw hi : Int} {offs : Array Int} {len t0 : Nat} {r : List (Int × Nat)} (hb : ckTs y o pc es q dflt lw hi offs len t0 r = true) (k : wpB es lo st h (fun lo st h => pI st fun x s => swK x (fun t => wp y d rc rs Q t lo s h) t0 r)) : wp y d rc rs Q pc lo st h := by
  simp only [ckTs, Bool.and_eq_true, decide_eq_true_eq] at hb
  obtain ⟨⟨⟨⟨h1, h2⟩, h3⟩, h4⟩, h5⟩ := hb
  refine xB h1 (wpB_mono ?_ k)
  intro lo st h hk
  obtain ⟨x, r, rfl, hk2⟩ := pI_e hk
  exact w_ts h2 h3 h4 h5 hk2
theorem xLs {dflt : Int} {ps : Array (Int × Int)} {len t0 : Nat} {r : List (Int × Nat)} (hb : ckLs y o pc es q dflt ps len t0 r = true) (k : wpB es lo st h (fun lo st h => pI st fun x s => swK x (fun t => wp y d rc rs Q t lo s h) t0 r)) : wp y d rc rs Q pc lo st h := by
  simp only [ckLs, Bool.and_eq_true, decide_eq_true_eq] at hb
  obtain ⟨⟨⟨⟨h1, h2⟩, h3⟩, h4⟩, h5⟩ := hb
  refine xB h1 (wpB_mono ?_ k)
  intro lo st h hk
  obtain ⟨x, r, rfl, hk2⟩ := pI_e hk
  exact w_lsw h2 h3 h4 h5 hk2
theorem xI (hb : ckI y o pc es q = true) (k : wpB es lo st h (fun _ st h => pI st fun x r => r = [] ∧ Q (some (vi x)) h)) : wp y d rc rs Q pc lo st h := by
  simp only [ckI, Bool.and_eq_true, decide_eq_true_eq] at hb
  obtain ⟨⟨h1, h2⟩, h3⟩ := hb
  refine xB h1 (wpB_mono ?_ k)
  intro lo st h hk
  obtain ⟨x, r, rfl, rfl, hq⟩ := pI_e hk
  refine w_iret ?_ h2 hq
  split at h3
  · assumption
  · cases h3
theorem xZ (hb : ckZ y o pc es q = true) (k : wpB es lo st h (fun _ st h => pI st fun x r => r = [] ∧ (x = 0 ∨ x = 1) ∧ Q (some (vi x)) h)) : wp y d rc rs Q pc lo st h := by
  simp only [ckZ, Bool.and_eq_true, decide_eq_true_eq] at hb
  obtain ⟨⟨h1, h2⟩, h3⟩ := hb
  refine xB h1 (wpB_mono ?_ k)
  intro lo st h hk
  obtain ⟨x, r, rfl, rfl, h01, hq⟩ := pI_e hk
  refine w_zret ?_ h2 h01 hq
  split at h3
  · assumption
  · cases h3
theorem xV (hb : ckV y o pc es q = true) (k : wpB es lo st h (fun _ st h => st = [] ∧ Q none h)) : wp y d rc rs Q pc lo st h := by
  simp only [ckV, Bool.and_eq_true, decide_eq_true_eq] at hb
  obtain ⟨⟨h1, h2⟩, h3⟩ := hb
  refine xB h1 (wpB_mono ?_ k)
  intro lo st h hk
  obtain ⟨rfl, hq⟩ := hk
  refine w_vret ?_ h2 hq
  split at h3
  · assumption
  · cases h3
/-- a place of a call: the instruction, what is called, how many arguments, the kind of the receiver -/
def cV (y : MI) (pc : Nat) (z : MI) (i n c : Nat) : Prop := decode y.2.1 pc = .ok (.invokevirtual i, 3) ∧ VL y z i n ∧ (c < 13 ∧ rx c = z.1.cls) ∧ z.2.2.1 ≤ 45
def cS (y : MI) (pc : Nat) (z : MI) (i n : Nat) : Prop := decode y.2.1 pc = .ok (.invokestatic i, 3) ∧ SL y z i n ∧ z.2.2.1 ≤ 45
def cI (y : MI) (pc : Nat) (z : MI) (i n : Nat) : Prop := decode y.2.1 pc = .ok (.invokespecial i, 3) ∧ (IL y z i n ∨ NL y z i n) ∧ z.2.2.1 ≤ 45
/-- what a call leaves, by the kind of the answer -/
def QI (P : Int → AH → Prop) : Option AV → AH → Prop := fun v h => ∃ x, v = some (vi x) ∧ P x h
def QJ (P : Int64 → AH → Prop) : Option AV → AH → Prop := fun v h => ∃ x, v = some (vl x) ∧ P x h
def QR (P : Nat → AH → Prop) : Option AV → AH → Prop := fun v h => ∃ x, v = some (vr x) ∧ P x h
def QV (P : AH → Prop) : Option AV → AH → Prop := fun v h => v = none ∧ P h
theorem eQI {P : Int → AH → Prop} {K : Option AV → AH → Prop} (k : ∀ x h, inr x → P x h → K (some (vi x)) h) : ∀ v h, (∀ w, v = some w → okV w) → QI P v h → K v h := by
  rintro v h ok ⟨x, rfl, hp⟩
  exact k x h (ok _ rfl) hp
theorem eQJ {P : Int64 → AH → Prop} {K : Option AV → AH → Prop} (k : ∀ x h, P x h → K (some (vl x)) h) : ∀ v h, (∀ w, v = some w → okV w) → QJ P v h → K v h := by
  rintro v h ok ⟨x, rfl, hp⟩
  exact k x h hp
theorem eQR {P : Nat → AH → Prop} {K : Option AV → AH → Prop} (k : ∀ x h, P x h → K (some (vr x)) h) : ∀ v h, (∀ w, v = some w → okV w) → QR P v h → K v h := by
  rintro v h ok ⟨x, rfl, hp⟩
  exact k x h hp
theorem eQV {P : AH → Prop} {K : Option AV → AH → Prop} (k : ∀ h, P h → K none h) : ∀ v h, (∀ w, v = some w → okV w) → QV P v h → K v h := by
  rintro v h ok ⟨rfl, hp⟩
  exact k h hp
/-- behind a call -/
def aft (y z : MI) (d rc rs : Nat) (Q : Option AV → AH → Prop) (q : Nat) (lo : List (Option AV)) (st : List AV) (ar : List AV) (h : AH) : Prop := ∃ (d' mc ms : Nat) (R : Option AV → AH → Prop), Ct d' mc ms z ar h R ∧ (d' + 1 ≤ d ∧ mc ≤ rc ∧ ms ≤ rs) ∧ ∀ v h', (∀ w, v = some w → okV w) → R v h' → wp y d (rc - mc) (rs - ms) Q q lo (v.toList ++ st) h'
theorem xcV (hb : ckB y o pc es q = true) (s : cV y q z i n c) (k : wpB es lo st h (fun lo stk h => ∃ (av : List AV) (a : Nat) (st : List AV), (stk = av.reverse ++ vr a :: st ∧ av.length = n ∧ (st.map cat).sum ≤ 8) ∧ (a < nH h ∧ kH h a = (c, 0)) ∧ aft y z d rc rs Q (q + 3) lo st (vr a :: av) h)) : wp y d rc rs Q pc lo st h := by
  refine xB hb (wpB_mono ?_ k)
  rintro lo stk h ⟨av, a, st, ⟨rfl, h2, h3⟩, ⟨h4, h5⟩, d', mc, ms, R, h6, ⟨h7, h8, h9⟩, h10⟩
  exact w_callV h6 s.1 s.2.1 rfl h2 h4 h5 s.2.2.1 h7 s.2.2.2 h8 h9 h3 h10
theorem xcS (hb : ckB y o pc es q = true) (s : cS y q z i n) (k : wpB es lo st h (fun lo stk h => ∃ (av : List AV) (st : List AV), (stk = av.reverse ++ st ∧ av.length = n ∧ (st.map cat).sum ≤ 8) ∧ aft y z d rc rs Q (q + 3) lo st av h)) : wp y d rc rs Q pc lo st h := by
  refine xB hb (wpB_mono ?_ k)
  rintro lo stk h ⟨av, st, ⟨rfl, h2, h3⟩, d', mc, ms, R, h6, ⟨h7, h8, h9⟩, h10⟩
  exact w_callS h6 s.1 s.2.1 rfl h2 h7 s.2.2 h8 h9 h3 h10
theorem xcI (hb : ckB y o pc es q = true) (s : cI y q z i n) (k : wpB es lo st h (fun lo stk h => ∃ (av : List AV) (a : Nat) (st : List AV), (stk = av.reverse ++ vr a :: st ∧ av.length = n ∧ (st.map cat).sum ≤ 8) ∧ a < nH h ∧ aft y z d rc rs Q (q + 3) lo st (vr a :: av) h)) : wp y d rc rs Q pc lo st h := by
  refine xB hb (wpB_mono ?_ k)
  rintro lo stk h ⟨av, a, st, ⟨rfl, h2, h3⟩, h4, d', mc, ms, R, h6, ⟨h7, h8, h9⟩, h10⟩
  exact w_callI h6 s.1 s.2.1 rfl h2 h7 s.2.2 h8 h9 h3 h10
def ckJ (y : MI) (o pc : Nat) (es : List IE) (q : Nat) : Bool := ckB y o pc es q && decide (decode y.2.1 q = .ok (.lreturn, 1)) && (match y.2.2.2 with
  | some .long => true
  | _ => false)
def ckA (y : MI) (o pc : Nat) (es : List IE) (q : Nat) : Bool := ckB y o pc es q && decide (decode y.2.1 q = .ok (.areturn, 1)) && (match y.2.2.2 with
  | some (.array _) => true
  | _ => false)
theorem xJ (hb : ckJ y o pc es q = true) (k : wpB es lo st h (fun _ st h => pL st fun x r => r = [] ∧ Q (some (vl x)) h)) : wp y d rc rs Q pc lo st h := by
  simp only [ckJ, Bool.and_eq_true, decide_eq_true_eq] at hb
  obtain ⟨⟨h1, h2⟩, h3⟩ := hb
  refine xB h1 (wpB_mono ?_ k)
  intro lo st h hk
  obtain ⟨x, r, rfl, rfl, hq⟩ := pL_e hk
  refine w_lret ?_ h2 hq
  split at h3
  · assumption
  · cases h3
theorem xA (hb : ckA y o pc es q = true) (k : wpB es lo st h (fun _ st h => pR st fun x r => r = [] ∧ Q (some (vr x)) h)) : wp y d rc rs Q pc lo st h := by
  simp only [ckA, Bool.and_eq_true, decide_eq_true_eq] at hb
  obtain ⟨⟨h1, h2⟩, h3⟩ := hb
  refine xB h1 (wpB_mono ?_ k)
  intro lo st h hk
  obtain ⟨x, r, rfl, rfl, hq⟩ := pR_e hk
  split at h3
  · rename_i t e
    exact w_aret e h2 hq
  · cases h3
/-- what is not used any more is left out -/
def mk : List Bool → List (Option AV) → List (Option AV)
  | [], lo => lo
  | _, [] => []
  | true :: ms, x :: lo => x :: mk ms lo
  | false :: ms, _ :: lo => none :: mk ms lo
theorem lg_mk : ∀ (ms : List Bool) (lo : List (Option AV)) (i : Nat) (v : AV), lg (mk ms lo) i = some v → lg lo i = some v
  | [], lo, i, v, h => by simpa [mk] using h
  | _ :: _, [], i, v, h => by simp [mk, lg] at h
  | true :: ms, x :: lo, 0, v, h => h
  | true :: ms, x :: lo, i + 1, v, h => lg_mk ms lo i v h
  | false :: ms, x :: lo, 0, v, h => by cases h
  | false :: ms, x :: lo, i + 1, v, h => lg_mk ms lo i v h
theorem w_fg (ms : List Bool) (k : wp y d rc rs Q q (mk ms lo) st h) : wp y d rc rs Q q lo st h := by
  intro E p l e R s m args below meth c Z hC hR hd1 hd2 hb H locs ls cells slots hc hs hW hS hl hst hlo
  refine k E p l e R s m args below meth c Z hC hR hd1 hd2 hb H locs ls cells slots hc hs hW hS ⟨hl.1, hl.2.1, fun r hr => ?_⟩ hst (fun i v hi => hlo i v (lg_mk _ _ _ _ hi))
  obtain ⟨v, h1, h2⟩ := lvs_mem.mp hr
  exact hl.2.2 r (lvs_mem.mpr ⟨v, lg_mk _ _ _ _ h1, h2⟩)
/-- from the end of a row of states back to its first -/
theorem up {P : Nat → Prop} (n : Nat) (e : P n) (s : ∀ k, k < n → P (k + 1) → P k) : P 0 := by
  have : ∀ j, j ≤ n → P (n - j) := by
    intro j
    induction j with
    | zero => intro _; exact e
    | succ j ih =>
      intro hj
      refine s _ (by omega) ?_
      rw [show n - (j + 1) + 1 = n - j by omega]
      exact ih (by omega)
  simpa using this n (Nat.le_refl n)
theorem tnl {x : Int} {n : Nat} (c : 0 ≤ x ∧ x < (n : Int)) : x.toNat < n := by omega
theorem sdI {a n : Nat} {x : Int} (hk : a < nH h ∧ kH h a = (13, n)) (c : 0 ≤ x ∧ x < (n : Int)) : a < nH h ∧ (kH h a).1 = 13 ∧ 0 ≤ x ∧ x < ((kH h a).2 : Int) := by rw [hk.2]; exact ⟨hk.1, rfl, c.1, c.2⟩
theorem sdJ {a n : Nat} {x : Int} (hk : a < nH h ∧ kH h a = (14, n)) (c : 0 ≤ x ∧ x < (n : Int)) : a < nH h ∧ (kH h a).1 = 14 ∧ 0 ≤ x ∧ x < ((kH h a).2 : Int) := by rw [hk.2]; exact ⟨hk.1, rfl, c.1, c.2⟩
theorem sdZ {a n : Nat} {x : Int} (hk : a < nH h ∧ kH h a = (15, n)) (c : 0 ≤ x ∧ x < (n : Int)) : a < nH h ∧ (kH h a).1 = 15 ∧ 0 ≤ x ∧ x < ((kH h a).2 : Int) := by rw [hk.2]; exact ⟨hk.1, rfl, c.1, c.2⟩
theorem sdZs {a n : Nat} {x z : Int} (hk : a < nH h ∧ kH h a = (15, n)) (c : 0 ≤ x ∧ x < (n : Int)) (b : z = 0 ∨ z = 1) : a < nH h ∧ (kH h a).1 = 15 ∧ 0 ≤ x ∧ x < ((kH h a).2 : Int) ∧ (z = 0 ∨ z = 1) := by rw [hk.2]; exact ⟨hk.1, rfl, c.1, c.2, b⟩
theorem sdQt {t : Nat} (h1 : Nat.blt 15 t = true) (h2 : Nat.blt t 23 = true) : 15 < t ∧ t < 23 := ⟨Nat.le_of_ble_eq_true h1, Nat.le_of_ble_eq_true h2⟩
theorem sdQ {a t n : Nat} {x : Int} (hk : a < nH h ∧ kH h a = (t, n)) (c : 0 ≤ x ∧ x < (n : Int)) (ht : 15 < t ∧ t < 23 := by exact sdQt rfl rfl) : a < nH h ∧ 15 < (kH h a).1 ∧ (kH h a).1 < 23 ∧ 0 ≤ x ∧ x < ((kH h a).2 : Int) := by rw [hk.2]; exact ⟨hk.1, ht.1, ht.2, c.1, c.2⟩
theorem sdL {a t n : Nat} (hk : a < nH h ∧ kH h a = (t, n)) (c : 13 ≤ t ∧ t < 23 ∧ n < 2147483648) : a < nH h ∧ 13 ≤ (kH h a).1 ∧ (kH h a).1 < 23 ∧ inr ((kH h a).2 : Int) := by rw [hk.2]; exact ⟨hk.1, c.1, c.2.1, by unfold inr; dsimp only; omega⟩
theorem sd_idiv {x z : Int} (hz : 0 < z) (c : 0 ≤ x ∧ x < 2147483648) : 0 ≤ x ∧ 0 < z ∧ inr (x / z) := by
  have h1 : x / z ≤ x := Int.ediv_le_self _ c.1
  have h2 : 0 ≤ x / z := Int.ediv_nonneg c.1 (by omega)
  exact ⟨c.1, hz, by unfold inr; omega⟩
theorem sd_irem {x z : Int} (hz : 0 < z) (c : 0 ≤ x ∧ x < 2147483648) : 0 ≤ x ∧ 0 < z ∧ inr (x % z) := by
  have h1 : x % z ≤ x := by
    have := Int.emod_add_mul_ediv x z
    have h3 : 0 ≤ z * (x / z) := Int.mul_nonneg (by omega) (Int.ediv_nonneg c.1 (by omega))
    omega
  have h2 : 0 ≤ x % z := Int.emod_nonneg _ (by omega)
  exact ⟨c.1, hz, by unfold inr; omega⟩
theorem Ct.mono {Q1 Q2 : Option AV → AH → Prop} (hm : ∀ v h, Q1 v h → Q2 v h) (hc : Ct d mc ms y av h Q1) : Ct d mc ms y av h Q2 := by
  intro l E
  have := hc l E
  intro p e ha hcc hk s m args below hf happ hP hr
  obtain ⟨t, oc, h1, h2, h3, ⟨v, h', e1, e2, e3, e4⟩, L, h5⟩ := this p e ha hcc hk s m args below hf happ hP hr
  exact ⟨t, oc, h1, h2, h3, ⟨v, h', e1, e2, hm v h' e3, e4⟩, L, h5⟩
end EXITS
