section AROWS
variable {y : MI} {d rc rs : Nat} {Q : Option AV → AH → Prop} {pc q : Nat} {lo : List (Option AV)} {st st' : List AV} {h : AH}
theorem w_iald {a n : Nat} {x : Int} (hd : decode y.2.1 pc = .ok (.iaload, 1)) (ha : a < nH h) (hk : kH h a = (13, n)) (h0 : 0 ≤ x) (h1 : x < n) (kk : wp y d rc rs Q (pc + 1) lo (vi (iH h a x.toNat) :: st) h) : wp y d rc rs Q pc lo (vi x :: vr a :: st) h := by
  intro E p l e R s m args below meth c' Z hC hR hd1 hd2 hb H locs ls cells slots hc hs hW hS hl hst hlo
  have hx : inr x := (ok_cons.mp hst).1
  refine va_iald hC.1 hC.2.1 hC.2.2.2.2.2.1.1 (hW.one ha (cE_i hk (Or.inl rfl))) 0 0 rfl (tyL_at _ (t := 13) (by omega) (by omega)) (in_ix hx h0 h1) hd ?_
  rw [oi_nat hx]
  exact kk E p l e R s m args below meth c' Z hC hR hd1 hd2 hb H locs ls cells slots hc hs hW hS hl (ok_cons.mpr ⟨hW.2.2 _ _, (ok_cons.mp (ok_cons.mp hst).2).2⟩) hlo
theorem w_bald {a n : Nat} {x : Int} (hd : decode y.2.1 pc = .ok (.baload, 1)) (ha : a < nH h) (hk : kH h a = (15, n)) (h0 : 0 ≤ x) (h1 : x < n) (kk : wp y d rc rs Q (pc + 1) lo (vi (iH h a x.toNat) :: st) h) : wp y d rc rs Q pc lo (vi x :: vr a :: st) h := by
  intro E p l e R s m args below meth c' Z hC hR hd1 hd2 hb H locs ls cells slots hc hs hW hS hl hst hlo
  have hx : inr x := (ok_cons.mp hst).1
  refine va_zald hC.1 hC.2.1 hC.2.2.2.2.2.1.1 (hW.one ha (cE_i hk (Or.inr rfl))) 0 2 rfl (tyL_at _ (t := 15) (by omega) (by omega)) (in_ix hx h0 h1) hd ?_
  rw [oi_nat hx]
  exact kk E p l e R s m args below meth c' Z hC hR hd1 hd2 hb H locs ls cells slots hc hs hW hS hl (ok_cons.mpr ⟨hW.2.2 _ _, (ok_cons.mp (ok_cons.mp hst).2).2⟩) hlo
theorem w_lald {a n : Nat} {x : Int} (hd : decode y.2.1 pc = .ok (.laload, 1)) (ha : a < nH h) (hk : kH h a = (14, n)) (h0 : 0 ≤ x) (h1 : x < n) (kk : wp y d rc rs Q (pc + 1) lo (vl (jH h a x.toNat) :: st) h) : wp y d rc rs Q pc lo (vi x :: vr a :: st) h := by
  intro E p l e R s m args below meth c' Z hC hR hd1 hd2 hb H locs ls cells slots hc hs hW hS hl hst hlo
  have hx : inr x := (ok_cons.mp hst).1
  refine va_lald hC.1 hC.2.1 hC.2.2.2.2.2.1.1 (hW.one ha (cE_j hk)) 0 1 rfl (tyL_at _ (t := 14) (by omega) (by omega)) (in_ix hx h0 h1) hd ?_
  rw [oi_nat hx]
  exact kk E p l e R s m args below meth c' Z hC hR hd1 hd2 hb H locs ls cells slots hc hs hW hS hl (ok_cons.mpr ⟨trivial, (ok_cons.mp (ok_cons.mp hst).2).2⟩) hlo
theorem tyA_ref {t : Nat} (h1 : 15 < t) (h2 : t < 23) : (tyA t).isReference = true := by
  rcases (show t = 16 ∨ t = 17 ∨ t = 18 ∨ t = 19 ∨ t = 20 ∨ t = 21 ∨ t = 22 by omega) with rfl | rfl | rfl | rfl | rfl | rfl | rfl <;> rfl
theorem w_aald {a t n : Nat} {x : Int} (hd : decode y.2.1 pc = .ok (.aaload, 1)) (ha : a < nH h) (hk : kH h a = (t, n)) (ht : 15 < t ∧ t < 23) (h0 : 0 ≤ x) (h1 : x < n) (kk : wp y d rc rs Q (pc + 1) lo (vq (rH h a x.toNat) :: st) h) : wp y d rc rs Q pc lo (vi x :: vr a :: st) h := by
  intro E p l e R s m args below meth c' Z hC hR hd1 hd2 hb H locs ls cells slots hc hs hW hS hl hst hlo
  have hx : inr x := (ok_cons.mp hst).1
  have hi := in_ix hx h0 h1
  have hat := hW.2.1 a ha
  rw [cE_q hk ht.1] at hat
  have hlt : (Int32.ofInt x).toNatClampNeg < n := Nat.not_le.mp fun q => hi (Or.inr q)
  refine W.aald (v := cv E.1 (vq (rH h a x.toNat))) (ty := tyA t) hC.1 hC.2.1 hat ((hC.2.2.2.2.2.1.1.2 (t - 13) _ (tyL_at E.2.2 (t := t) (by omega) (by omega))).1 n _) (tyA_ref ht.1 ht.2) (fun q => by cases q) (by show ¬ (_ < 0 ∨ (arrV _ _ _).slots.size ≤ _); rw [arrV_size]; exact hi) (by show (arrV _ _ _).slots[_]? = _; rw [arrV_read _ _ hlt, oi_nat hx]; rfl) rfl rfl hd ?_
  exact kk E p l e R s m args below meth c' Z hC hR hd1 hd2 hb H locs ls cells slots hc hs hW hS hl (ok_cons.mpr ⟨trivial, (ok_cons.mp (ok_cons.mp hst).2).2⟩) hlo
theorem w_alen {a t n : Nat} (hd : decode y.2.1 pc = .ok (.arraylength, 1)) (ha : a < nH h) (hk : kH h a = (t, n)) (ht : 13 ≤ t ∧ t < 23) (hn : inr (n : Int)) (kk : wp y d rc rs Q (pc + 1) lo (vi (n : Int) :: st) h) : wp y d rc rs Q pc lo (vr a :: st) h := by
  intro E p l e R s m args below meth c' Z hC hR hd1 hd2 hb H locs ls cells slots hc hs hW hS hl hst hlo
  have hw : ∃ x : vp_A, x.1 = n ∧ cE E.2.2 E.1 h a = .inl (E.2.2 t, x) := by
    by_cases e : t = 14
    · subst e; exact ⟨_, rfl, cE_j hk⟩
    · by_cases e2 : 15 < t
      · exact ⟨_, rfl, cE_q hk e2⟩
      · exact ⟨_, rfl, cE_i hk (by omega)⟩
  obtain ⟨x, hx1, hx2⟩ := hw
  refine va_alen (v := Int32.ofInt (n : Int)) hC.1 hC.2.1 hC.2.2.2.2.2.1.1 (hW.one ha hx2) 0 (t - 13) rfl (tyL_at _ ht.1 ht.2) (by rw [hx1]; rfl) hd ?_
  exact kk E p l e R s m args below meth c' Z hC hR hd1 hd2 hb H locs ls cells slots hc hs hW hS hl (ok_cons.mpr ⟨hn, (ok_cons.mp hst).2⟩) hlo
theorem updI {f : Nat → Int} {k : Nat} {x : Int} : updV (fun j => Value.int (Int32.ofInt (f j))) k (.int (Int32.ofInt x)) = fun j => Value.int (Int32.ofInt (if j = k then x else f j)) := by
  funext j
  by_cases e : j = k <;> simp [updV, e]
theorem w_iast {a n : Nat} {x z : Int} (hd : decode y.2.1 pc = .ok (.iastore, 1)) (ha : a < nH h) (hk : kH h a = (13, n)) (h0 : 0 ≤ x) (h1 : x < n) (kk : wp y d rc rs Q (pc + 1) lo st (sI h a x.toNat z)) : wp y d rc rs Q pc lo (vi z :: vi x :: vr a :: st) h := by
  intro E p l e R s m args below meth c' Z hC hR hd1 hd2 hb H locs ls cells slots hc hs hW hS hl hst hlo
  have hz : inr z := (ok_cons.mp hst).1
  have hx : inr x := (ok_cons.mp (ok_cons.mp hst).2).1
  have hat := hW.2.1 a ha
  rw [cE_i hk (Or.inl rfl)] at hat
  refine W.iast hC.1 hC.2.1 hat ((hC.2.2.2.2.2.1.1.2 0 _ (tyL_at E.2.2 (t := 13) (by omega) (by omega))).1 n _) (fun q => by cases q) (by show ¬ (_ < 0 ∨ (arrV _ _ _).slots.size ≤ _); rw [arrV_size]; exact in_ix hx h0 h1) rfl rfl hd fun H1 e1 z1 oq => ?_
  refine kk E p l e R s m args below meth c' Z hC hR hd1 hd2 hb H1 _ ls cells slots hc hs (hW.upd rfl (in_sI hW.2.2 hz) z1 ?_ oq (fun x hx => cE_sI hx)) (hS.put z1 oq (by show E.1 ≤ E.1 + a; omega)) hl (ok_cons.mp (ok_cons.mp (ok_cons.mp hst).2).2).2 hlo
  rw [cE_i (h := sI h a x.toNat z) hk (Or.inl rfl)]
  show H1[E.1 + a]? = some (vp_cell _ _)
  rw [e1, vp_cell_i, vp_cell_i, arrV_store, oi_nat hx, updI]
  congr 2
  funext j
  simp [iH, sI, u2]
theorem w_bast {a n : Nat} {x z : Int} (hd : decode y.2.1 pc = .ok (.bastore, 1)) (ha : a < nH h) (hk : kH h a = (15, n)) (h0 : 0 ≤ x) (h1 : x < n) (hz1 : z = 0 ∨ z = 1) (kk : wp y d rc rs Q (pc + 1) lo st (sI h a x.toNat z)) : wp y d rc rs Q pc lo (vi z :: vi x :: vr a :: st) h := by
  intro E p l e R s m args below meth c' Z hC hR hd1 hd2 hb H locs ls cells slots hc hs hW hS hl hst hlo
  have hz : inr z := (ok_cons.mp hst).1
  have hx : inr x := (ok_cons.mp (ok_cons.mp hst).2).1
  have hat := hW.2.1 a ha
  rw [cE_i hk (Or.inr rfl)] at hat
  refine W.zast hC.1 hC.2.1 hat ((hC.2.2.2.2.2.1.1.2 2 _ (tyL_at E.2.2 (t := 15) (by omega) (by omega))).1 n _) (fun q => by cases q) (by show ¬ (_ < 0 ∨ (arrV _ _ _).slots.size ≤ _); rw [arrV_size]; exact in_ix hx h0 h1) rfl rfl hd fun H1 e1 z1 oq => ?_
  refine kk E p l e R s m args below meth c' Z hC hR hd1 hd2 hb H1 _ ls cells slots hc hs (hW.upd rfl (in_sI hW.2.2 hz) z1 ?_ oq (fun x hx => cE_sI hx)) (hS.put z1 oq (by show E.1 ≤ E.1 + a; omega)) hl (ok_cons.mp (ok_cons.mp (ok_cons.mp hst).2).2).2 hlo
  rw [cE_i (h := sI h a x.toNat z) hk (Or.inr rfl)]
  show H1[E.1 + a]? = some (vp_cell _ _)
  have en : narrow .boolean (.int (Int32.ofInt z)) = .int (Int32.ofInt z) := by rcases hz1 with rfl | rfl <;> decide +kernel
  rw [e1, en, vp_cell_i, vp_cell_i, arrV_store, oi_nat hx, updI]
  congr 2
  funext j
  simp [iH, sI, u2]
theorem w_last {a n : Nat} {x : Int} {z : Int64} (hd : decode y.2.1 pc = .ok (.lastore, 1)) (ha : a < nH h) (hk : kH h a = (14, n)) (h0 : 0 ≤ x) (h1 : x < n) (kk : wp y d rc rs Q (pc + 1) lo st (sJ h a x.toNat z)) : wp y d rc rs Q pc lo (vl z :: vi x :: vr a :: st) h := by
  intro E p l e R s m args below meth c' Z hC hR hd1 hd2 hb H locs ls cells slots hc hs hW hS hl hst hlo
  have hx : inr x := (ok_cons.mp (ok_cons.mp hst).2).1
  have hat := hW.2.1 a ha
  rw [cE_j hk] at hat
  refine W.last hC.1 hC.2.1 hat ((hC.2.2.2.2.2.1.1.2 1 _ (tyL_at E.2.2 (t := 14) (by omega) (by omega))).1 n _) (fun q => by cases q) (by show ¬ (_ < 0 ∨ (arrV _ _ _).slots.size ≤ _); rw [arrV_size]; exact in_ix hx h0 h1) rfl rfl hd fun H1 e1 z1 oq => ?_
  refine kk E p l e R s m args below meth c' Z hC hR hd1 hd2 hb H1 _ ls cells slots hc hs (hW.upd rfl hW.2.2 z1 ?_ oq (fun x hx => cE_sJ hx)) (hS.put z1 oq (by show E.1 ≤ E.1 + a; omega)) hl (ok_cons.mp (ok_cons.mp (ok_cons.mp hst).2).2).2 hlo
  rw [cE_j (h := sJ h a x.toNat z) hk]
  show H1[E.1 + a]? = some (vp_cell _ _)
  rw [e1, vp_cell_l, vp_cell_l, arrV_store, oi_nat hx]
  congr 2
  funext j
  by_cases e : j = x.toNat <;> simp [jH, sJ, u2, updV, e]
/-- which kind of object an array of objects holds -/
def elK (t : Nat) : Nat := match t with
  | 16 => 0
  | 17 => 5
  | 18 => 7
  | 19 => 8
  | _ => 9
theorem elK_ok {t : Nat} (h1 : 15 < t) (h2 : t < 21) : elK t < 13 ∧ tyA t = .object (rx (elK t)) := by
  rcases (show t = 16 ∨ t = 17 ∨ t = 18 ∨ t = 19 ∨ t = 20 by omega) with rfl | rfl | rfl | rfl | rfl <;> exact ⟨by decide, rfl⟩
theorem w_aast {a t n v nv : Nat} {x : Int} (hd : decode y.2.1 pc = .ok (.aastore, 1)) (ha : a < nH h) (hk : kH h a = (t, n)) (ht : 15 < t ∧ t < 21) (h0 : 0 ≤ x) (h1 : x < n) (hv : v < nH h) (hkv : kH h v = (elK t, nv)) (kk : wp y d rc rs Q (pc + 1) lo st (sR h a x.toNat (some v))) : wp y d rc rs Q pc lo (vr v :: vi x :: vr a :: st) h := by
  intro E p l e R s m args below meth c' Z hC hR hd1 hd2 hb H locs ls cells slots hc hs hW hS hl hst hlo
  have hx : inr x := (ok_cons.mp (ok_cons.mp hst).2).1
  have hi := in_ix hx h0 h1
  have hlt : (Int32.ofInt x).toNatClampNeg < n := Nat.not_le.mp fun q => hi (Or.inr q)
  have hneg : ¬ Int32.ofInt x < 0 := fun q => hi (Or.inl q)
  obtain ⟨hl13, hty⟩ := elK_ok ht.1 ht.2
  have hat := hW.2.1 a ha
  rw [cE_q hk ht.1] at hat
  have hatv := hW.2.1 v hv
  rw [cE_o hkv hl13] at hatv
  have hKall := hC.2.2.2.2.2.1.1
  obtain ⟨r', hr', cellV, g1, g2, g3, -⟩ := hatv
  have hcls := (hKall.1 (elK t) _ (vwAt hl13)).2
  have hRA := (hKall.2 (t - 13) _ (tyL_at E.2.2 (t := t) (by omega) (by omega))).2
  rw [hty] at hRA
  obtain ⟨kA, comp, k1, k2, k3, -⟩ := hRA
  have hcomp : comp = E.2.1.1 (elK t) := Option.some.inj (k3.symm.trans hcls.1)
  subst hcomp
  obtain ⟨kC, hkC, -⟩ := hcls.2
  refine W.aast hC.1 hC.2.1 hat (fun q h => by cases h) (fun h => by cases h) k1 k2 rfl hkC ⟨hneg, by show _ < (arrV _ _ _).slots.size; rw [arrV_size]; exact hlt⟩ g1 (fun q h => by rw [g3] at h; cases h) (by rw [g2]; exact hkC) (by rw [g2]; exact va_assign hcls) rfl rfl hd fun H1 e1 z1 oq => ?_
  refine kk E p l e R s m args below meth c' Z hC hR hd1 hd2 hb H1 _ ls cells slots hc hs (hW.upd rfl hW.2.2 z1 ?_ oq (fun x hx => cE_sR hx)) (hS.put z1 oq (by show E.1 ≤ E.1 + a; omega)) hl (ok_cons.mp (ok_cons.mp (ok_cons.mp hst).2).2).2 hlo
  rw [cE_q (h := sR h a x.toNat (some v)) hk ht.1]
  show H1[E.1 + a]? = some (vp_cell _ _)
  rw [e1, vp_cell_q, vp_cell_q, arrV_store, oi_nat hx]
  congr 2
  funext j
  by_cases e : j = x.toNat <;> simp [rH, sR, u2, updV, e, va_rf]
end AROWS
