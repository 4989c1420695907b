section EXITS
variable {y z : MI} {d d' rc rs mc ms : Nat} {Q Q' : Option AV → AH → Prop} {o pc q n t cnd i c a : Nat} {off : Int} {es : List IE} {lo : List (Option AV)} {st stk : List AV} {av : List AV} {h : AH}
def ckB (y : MI) (o pc : Nat) (es : List IE) (q : Nat) : Bool := decide (y.1.cls = rx o) && chkB y o pc es q
def ckIf (y : MI) (o pc : Nat) (es : List IE) (q cnd : Nat) (off : Int) (t n : Nat) : Bool := ckB y o pc es q && decide (decode y.2.1 q = .ok (ifI cnd off, 3)) && decide ((q : Int) + off = (t : Int)) && decide (cnd < 6) && decide (q + 3 = n)
def ckIc (y : MI) (o pc : Nat) (es : List IE) (q cnd : Nat) (off : Int) (t n : Nat) : Bool := ckB y o pc es q && decide (decode y.2.1 q = .ok (icI cnd off, 3)) && decide ((q : Int) + off = (t : Int)) && decide (cnd < 6) && decide (q + 3 = n)
def ckGo (y : MI) (o pc : Nat) (es : List IE) (q : Nat) (off : Int) (t : Nat) : Bool := ckB y o pc es q && decide (decode y.2.1 q = .ok (.goto off, 3)) && decide ((q : Int) + off = (t : Int))
def ckTs (y : MI) (o pc : Nat) (es : List IE) (q : Nat) (dflt lw hi : Int) (offs : Array Int) (len t0 : Nat) (r : List (Int × Nat)) : Bool := ckB y o pc es q && decide (decode y.2.1 q = .ok (.tableswitch dflt lw hi offs, len)) && decide (lw + offs.toList.length = hi + 1) && decide ((q : Int) + dflt = (t0 : Int)) && chkT q lw offs.toList r
def ckLs (y : MI) (o pc : Nat) (es : List IE) (q : Nat) (dflt : Int) (ps : Array (Int × Int)) (len t0 : Nat) (r : List (Int × Nat)) : Bool := ckB y o pc es q && decide (decode y.2.1 q = .ok (.lookupswitch dflt ps, len)) && (ps.toList.zip (ps.toList.drop 1)).all (fun (a, next) => a.1 < next.1) && decide ((q : Int) + dflt = (t0 : Int)) && chkL q ps.toList r
def ckI (y : MI) (o pc : Nat) (es : List IE) (q : Nat) : Bool := ckB y o pc es q && decide (decode y.2.1 q = .ok (.ireturn, 1)) && (match y.2.2.2 with
  | some .int => true
  | _ => false)
def ckZ (y : MI) (o pc : Nat) (es : List IE) (q : Nat) : Bool := ckB y o pc es q && decide (decode y.2.1 q = .ok (.ireturn, 1)) && (match y.2.2.2 with
  | some .boolean => true
  | _ => false)
def ckV (y : MI) (o pc : Nat) (es : List IE) (q : Nat) : Bool := ckB y o pc es q && decide (decode y.2.1 q = .ok (.return_, 1)) && (match y.2.2.2 with
  | none => true
  | _ => false)
theorem xB (hb : ckB y o pc es q = true) (k : wpB es lo st h (fun lo st h => wp y d rc rs Q q lo st h)) : wp y d rc rs Q pc lo st h := by
  simp only [ckB, Bool.and_eq_true, decide_eq_true_eq] at hb
  exact wB hb.1 hb.2 k
theorem wpB_mono {K K' : KT} (m : ∀ lo st h, K lo st h → K' lo st h) : ∀ {es : List IE} {lo : List (Option AV)} {st : List AV} {h : AH}, wpB es lo st h K → wpB es lo st h K'
  | [], _, _, _, hk => m _ _ _ hk
  | _ :: _, _, _, _, hk => st1_mono (fun _ _ _ q => wpB_mono m q) hk
theorem xIf (hb : ckIf y o pc es q cnd off t n = true) (k : wpB es lo st h (fun lo st h => pI st fun x r => (cmp cnd x 0 → wp y d rc rs Q t lo r h) ∧ (¬ cmp cnd x 0 → wp y d rc rs Q n lo r h))) : wp y d rc rs Q pc lo st h := by
  simp only [ckIf, Bool.and_eq_true, decide_eq_true_eq] at hb
  obtain ⟨⟨⟨⟨h1, h2⟩, h3⟩, h4⟩, rfl⟩ := hb
  refine xB h1 (wpB_mono ?_ k)
  intro lo st h hk
  obtain ⟨x, r, rfl, h5, h6⟩ := pI_e hk
  exact w_if h4 h2 h3 h5 h6
theorem xIc (hb : ckIc y o pc es q cnd off t n = true) (k : wpB es lo st h (fun lo st h => pI st fun z r => pI r fun x r => (cmp cnd x z → wp y d rc rs Q t lo r h) ∧ (¬ cmp cnd x z → wp y d rc rs Q n lo r h))) : wp y d rc rs Q pc lo st h := by
  simp only [ckIc, Bool.and_eq_true, decide_eq_true_eq] at hb
  obtain ⟨⟨⟨⟨h1, h2⟩, h3⟩, h4⟩, rfl⟩ := hb
  refine xB h1 (wpB_mono ?_ k)
  intro lo st h hk
  obtain ⟨z, r, rfl, hk⟩ := pI_e hk
  obtain ⟨x, r, rfl, h5, h6⟩ := pI_e hk
  exact w_ic h4 h2 h3 h5 h6
theorem xGo (hb : ckGo y o pc es q off t = true) (k : wpB es lo st h (fun lo st h => wp y d rc rs Q t lo st h)) : wp y d rc rs Q pc lo st h := by
  simp only [ckGo, Bool.and_eq_true, decide_eq_true_eq] at hb
  obtain ⟨⟨h1, h2⟩, h3⟩ := hb
  refine xB h1 (wpB_mono ?_ k)
  intro lo st h hk
  exact w_goto h2 h3 hk
theorem xTs {dflt lw hi : Int} {offs : Array Int} {len t0 : Nat} {r : List (Int × Nat)} (hb : ckTs y o pc es q dflt lw hi offs len t0 r = true) (k : wpB es lo st h (fun lo st h => pI st fun x s => swK x (fun t => wp y d rc rs Q t lo s h) t0 r)) : wp y d rc rs Q pc lo st h := by
  simp only [ckTs, Bool.and_eq_true, decide_eq_true_eq] at hb
  obtain ⟨⟨⟨⟨h1, h2⟩, h3⟩, h4⟩, h5⟩ := hb
  refine xB h1 (wpB_mono ?_ k)
  intro lo st h hk
  obtain ⟨x, r, rfl, hk⟩ := pI_e hk
  exact w_ts h2 h3 h4 h5 hk
theorem xLs {dflt : Int} {ps : Array (Int × Int)} {len t0 : Nat} {r : List (Int × Nat)} (hb : ckLs y o pc es q dflt ps len t0 r = true) (k : wpB es lo st h (fun lo st h => pI st fun x s => swK x (fun t => wp y d rc rs Q t lo s h) t0 r)) : wp y d rc rs Q pc lo st h := by
  simp only [ckLs, Bool.and_eq_true, decide_eq_true_eq] at hb
  obtain ⟨⟨⟨⟨h1, h2⟩, h3⟩, h4⟩, h5⟩ := hb
  refine xB h1 (wpB_mono ?_ k)
  intro lo st h hk
  obtain ⟨x, r, rfl, hk⟩ := pI_e hk
  exact w_lsw h2 h3 h4 h5 hk
theorem xI (hb : ckI y o pc es q = true) (k : wpB es lo st h (fun _ st h => pI st fun x r => r = [] ∧ Q (some (vi x)) h)) : wp y d rc rs Q pc lo st h := by
  simp only [ckI, Bool.and_eq_true, decide_eq_true_eq] at hb
  obtain ⟨⟨h1, h2⟩, h3⟩ := hb
  refine xB h1 (wpB_mono ?_ k)
  intro lo st h hk
  obtain ⟨x, r, rfl, rfl, hq⟩ := pI_e hk
  refine w_iret ?_ h2 hq
  split at h3
  · assumption
  · cases h3
theorem xZ (hb : ckZ y o pc es q = true) (k : wpB es lo st h (fun _ st h => pI st fun x r => r = [] ∧ (x = 0 ∨ x = 1) ∧ Q (some (vi x)) h)) : wp y d rc rs Q pc lo st h := by
  simp only [ckZ, Bool.and_eq_true, decide_eq_true_eq] at hb
  obtain ⟨⟨h1, h2⟩, h3⟩ := hb
  refine xB h1 (wpB_mono ?_ k)
  intro lo st h hk
  obtain ⟨x, r, rfl, rfl, h01, hq⟩ := pI_e hk
  refine w_zret ?_ h2 h01 hq
  split at h3
  · assumption
  · cases h3
theorem xV (hb : ckV y o pc es q = true) (k : wpB es lo st h (fun _ st h => st = [] ∧ Q none h)) : wp y d rc rs Q pc lo st h := by
  simp only [ckV, Bool.and_eq_true, decide_eq_true_eq] at hb
  obtain ⟨⟨h1, h2⟩, h3⟩ := hb
  refine xB h1 (wpB_mono ?_ k)
  intro lo st h hk
  obtain ⟨rfl, hq⟩ := hk
  refine w_vret ?_ h2 hq
  split at h3
  · assumption
  · cases h3
/-- a place of a call: the instruction, what is called, how many arguments, the kind of the receiver -/
def cV (y : MI) (pc : Nat) (z : MI) (i n c : Nat) : Prop := decode y.2.1 pc = .ok (.invokevirtual i, 3) ∧ VL y z i n ∧ (c < 13 ∧ rx c = z.1.cls) ∧ z.2.2.1 ≤ 45
def cS (y : MI) (pc : Nat) (z : MI) (i n : Nat) : Prop := decode y.2.1 pc = .ok (.invokestatic i, 3) ∧ SL y z i n ∧ z.2.2.1 ≤ 45
def cI (y : MI) (pc : Nat) (z : MI) (i n : Nat) : Prop := decode y.2.1 pc = .ok (.invokespecial i, 3) ∧ (IL y z i n ∨ NL y z i n) ∧ z.2.2.1 ≤ 45
theorem kV (s : cV y pc z i n c) (hM : Ct d' mc ms z (vr a :: av) h Q') (hs : stk = av.reverse ++ vr a :: st) (hn : av.length = n) (ha : a < nH h) (hk : kH h a = (c, 0)) (hdd : d' + 1 ≤ d) (hmc : mc ≤ rc) (hms : ms ≤ rs) (h8 : (st.map cat).sum ≤ 8) (hq : pc + 3 = q)
    (kk : ∀ (v : Option AV) (h' : AH), (∀ w, v = some w → okV w) → Q' v h' → wp y d (rc - mc) (rs - ms) Q q lo (v.toList ++ st) h') : wp y d rc rs Q pc lo stk h := by
  subst hq
  exact w_callV hM s.1 s.2.1 hs hn ha hk s.2.2.1 hdd s.2.2.2 hmc hms h8 kk
theorem kS (s : cS y pc z i n) (hM : Ct d' mc ms z av h Q') (hs : stk = av.reverse ++ st) (hn : av.length = n) (hdd : d' + 1 ≤ d) (hmc : mc ≤ rc) (hms : ms ≤ rs) (h8 : (st.map cat).sum ≤ 8) (hq : pc + 3 = q)
    (kk : ∀ (v : Option AV) (h' : AH), (∀ w, v = some w → okV w) → Q' v h' → wp y d (rc - mc) (rs - ms) Q q lo (v.toList ++ st) h') : wp y d rc rs Q pc lo stk h := by
  subst hq
  exact w_callS hM s.1 s.2.1 hs hn hdd s.2.2 hmc hms h8 kk
theorem kI (s : cI y pc z i n) (hM : Ct d' mc ms z (vr a :: av) h Q') (hs : stk = av.reverse ++ vr a :: st) (hn : av.length = n) (hdd : d' + 1 ≤ d) (hmc : mc ≤ rc) (hms : ms ≤ rs) (h8 : (st.map cat).sum ≤ 8) (hq : pc + 3 = q)
    (kk : ∀ (v : Option AV) (h' : AH), (∀ w, v = some w → okV w) → Q' v h' → wp y d (rc - mc) (rs - ms) Q q lo (v.toList ++ st) h') : wp y d rc rs Q pc lo stk h := by
  subst hq
  exact w_callI hM s.1 s.2.1 hs hn hdd s.2.2 hmc hms h8 kk
theorem Ct.mono {Q1 Q2 : Option AV → AH → Prop} (hm : ∀ v h, Q1 v h → Q2 v h) (hc : Ct d mc ms y av h Q1) : Ct d mc ms y av h Q2 := by
  intro l E
  have := hc l E
  intro p e ha hcc hk s m args below hf happ hP hr
  obtain ⟨t, oc, h1, h2, h3, ⟨v, h', e1, e2, e3, e4⟩, L, h5⟩ := this p e ha hcc hk s m args below hf happ hP hr
  exact ⟨t, oc, h1, h2, h3, ⟨v, h', e1, e2, hm v h' e3, e4⟩, L, h5⟩
end EXITS
