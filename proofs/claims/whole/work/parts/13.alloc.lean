section NROWS
variable {y : MI} {d rc rs : Nat} {Q : Option AV → AH → Prop} {pc q : Nat} {lo : List (Option AV)} {st st' : List AV} {h : AH}
theorem in_nw {h : AH} {t n : Nat} (hh : ∀ a k, inr (iH h a k)) : ∀ x j, inr (iH (nw h t n) x j) := by
  intro x j
  show inr (r2 h.2.2.1 h.1 (fun _ => 0) x j)
  unfold r2
  by_cases e : x = h.1
  · rw [if_pos e]; exact in_0
  · rw [if_neg e]; exact hh x j
theorem kH_nw (h : AH) (t n : Nat) : kH (nw h t n) (nH h) = (t, n) := by simp [kH, nw, nH]
theorem iH_nw (h : AH) (t n j : Nat) : iH (nw h t n) (nH h) j = 0 := by simp [iH, nw, nH, r2]
theorem jH_nw (h : AH) (t n j : Nat) : jH (nw h t n) (nH h) j = 0 := by simp [jH, nw, nH, r2]
theorem rH_nw (h : AH) (t n j : Nat) : rH (nw h t n) (nH h) j = none := by simp [rH, nw, nH, r2]
theorem dfl : ∀ c, c < 13 → ∀ k, k < nf c → defaultValue (tyf c k) = if (fR c).getD k false = true then Value.null else Value.int 0 := by decide +kernel
/-- a new object -/
theorem w_new {i c : Nat} (hc : c < 13) (hd : decode y.2.1 pc = .ok (.new i, 3)) (hl : Cond.classLink y.1.cls i (rx c) ∈ gt ∧ Cond.instantiable (rx c) (nf c) ∈ gt ∧ Cond.initialized (rx c) ∈ gt) (h1 : 1 ≤ rc) (h2 : nf c ≤ rs) (kk : wp y d (rc - 1) (rs - nf c) Q (pc + 3) lo (vr (nH h) :: st) (nw h c 0)) : wp y d rc rs Q pc lo st h := by
  intro E p l e R s m args below meth c' Z hC hR hd1 hd2 hb H locs ls cells slots hcc hss hW hS hl' hst hlo
  have hts := hC.2.2.2.2.1
  have hKn := hC.2.2.2.2.2.1.1.1 c _ (vwAt hc)
  refine W.newcK hC.1 hC.2.1 hC.2.2.2.1 (hts _ hl.1) (hts _ hl.2.1) (hts _ hl.2.2) rfl hd (by omega) (by omega) hKn.2.1 hW.1 fun H1 kC hkC e1 z1 o1 => ?_
  have hW1 : Wd E.2.1 E.2.2 E.1 (nw h c 0) H1 := by
    refine hW.push rfl (in_nw hW.2.2) (by rw [z1, hW.1]) ?_ (fun q hq => o1 q (by rw [← hW.1]; exact hq)) (fun x hx => cE_nw hx)
    rw [cE_o (kH_nw h c 0) hc]
    refine ⟨_, vwAt hc, (u_born (tyf c) hts (inG hc) hKn hkC e1 (tyAt hc)).to (fun j hj => ?_)⟩
    rw [vpV_ovs hj, dfl c hc j hj]
    unfold ov
    rw [rH_nw, iH_nw]
    rfl
  exact kk E p l e R s m args below meth c' Z hC hR hd1 hd2 hb H1 locs ls (cells + 1) (slots + nf c) (by omega) (by omega) hW1 ⟨Nat.le_trans hS.1 (by rw [z1, hW.1]; omega), fun x g1 g2 => (o1 x (by rw [← hW.1]; exact Nat.lt_of_lt_of_le g1 hS.1)).trans (hS.2.1 x g1 g2), hS.2.2⟩ hl' (ok_cons.mpr ⟨trivial, hst⟩) hlo
/-- a new array of whole numbers, longs, truths -/
theorem w_newa {t : Nat} {x : Int} {at' : ArrayType} (hd : decode y.2.1 pc = .ok (.newarray at', 2)) (ht : (t = 13 ∧ at' = .int) ∨ (t = 14 ∧ at' = .long) ∨ (t = 15 ∧ at' = .boolean)) (hl : Cond.arrayClass (newarray.typeOf at') ∈ gt) (h0 : 0 ≤ x) (hx1 : x ≤ 100000) (h1 : 1 ≤ rc) (h2 : x.toNat ≤ rs) (kk : wp y d (rc - 1) (rs - x.toNat) Q (pc + 2) lo (vr (nH h) :: st) (nw h t x.toNat)) : wp y d rc rs Q pc lo (vi x :: st) h := by
  intro E p l e R s m args below meth c' Z hC hR hd1 hd2 hb H locs ls cells slots hcc hss hW hS hl' hst hlo
  have hts := hC.2.2.2.2.1
  have hx : inr x := (ok_cons.mp hst).1
  refine va_newaK (N := x.toNat) hC.1 hC.2.1 (hts _ hl) rfl hd rfl (by rw [oi_0, oi_lt hx in_0]; omega) (oi_nat hx) ?_ (by omega) (by omega) hW.1 fun H1 cA e1 z1 o1 hAr hNm => ?_
  · rcases ht with ⟨-, rfl⟩ | ⟨-, rfl⟩ | ⟨-, rfl⟩
    · show x.toNat * 4 ≤ 536870912; omega
    · show x.toNat * 8 ≤ 536870912; omega
    · show x.toNat * 1 ≤ 536870912; omega
  · have hW1 : Wd E.2.1 E.2.2 E.1 (nw h t x.toNat) H1 := by
      refine hW.push rfl (in_nw hW.2.2) (by rw [z1, hW.1]) ?_ (fun q hq => o1 q (by rw [← hW.1]; exact hq)) (fun x hx => cE_nw hx)
      have hRA := fun t (g1 : 13 ≤ t) (g2 : t < 23) => (hC.2.2.2.2.2.1.1.2 (t - 13) _ (tyL_at E.2.2 (t := t) g1 g2)).2
      rcases ht with ⟨rfl, rfl⟩ | ⟨rfl, rfl⟩ | ⟨rfl, rfl⟩
      · rw [cE_i (kH_nw h 13 x.toNat) (Or.inl rfl)]
        have : E.2.2 13 = cA := Option.some.inj ((hRA 13 (by omega) (by omega)).symm.trans hNm)
        show H1[E.1 + nH h]? = some (vp_cell _ _)
        rw [e1, this, vp_cell_i]
        simp only [iH_nw]
        rfl
      · rw [cE_j (kH_nw h 14 x.toNat)]
        have : E.2.2 14 = cA := Option.some.inj ((hRA 14 (by omega) (by omega)).symm.trans hNm)
        show H1[E.1 + nH h]? = some (vp_cell _ _)
        rw [e1, this, vp_cell_l]
        simp only [jH_nw]
        rfl
      · rw [cE_i (kH_nw h 15 x.toNat) (Or.inr rfl)]
        have : E.2.2 15 = cA := Option.some.inj ((hRA 15 (by omega) (by omega)).symm.trans hNm)
        show H1[E.1 + nH h]? = some (vp_cell _ _)
        rw [e1, this, vp_cell_i]
        simp only [iH_nw]
        rfl
    have := kk E p l e R s m args below meth c' Z hC hR hd1 hd2 hb H1 locs ls (cells + 1) (slots + x.toNat) (by omega) (by omega) hW1 ⟨Nat.le_trans hS.1 (by rw [z1, hW.1]; omega), fun x g1 g2 => (o1 x (by rw [← hW.1]; exact Nat.lt_of_lt_of_le g1 hS.1)).trans (hS.2.1 x g1 g2), hS.2.2⟩ hl' (ok_cons.mpr ⟨trivial, (ok_cons.mp hst).2⟩) hlo
    exact this
/-- a new array of objects -/
theorem w_anew {i t : Nat} {x : Int} (ht : 15 < t ∧ t < 21) (hd : decode y.2.1 pc = .ok (.anewarray i, 3)) (hl : Cond.classLink y.1.cls i (rx (elK t)) ∈ gt) (hao : rx (elK t) ∈ aoL) (h0 : 0 ≤ x) (hx1 : x ≤ 100000) (h1 : 1 ≤ rc) (h2 : x.toNat ≤ rs) (kk : wp y d (rc - 1) (rs - x.toNat) Q (pc + 3) lo (vr (nH h) :: st) (nw h t x.toNat)) : wp y d rc rs Q pc lo (vi x :: st) h := by
  intro E p l e R s m args below meth c' Z hC hR hd1 hd2 hb H locs ls cells slots hcc hss hW hS hl' hst hlo
  have hts := hC.2.2.2.2.1
  have hx : inr x := (ok_cons.mp hst).1
  have hxn := oi_nat hx
  refine W.anew hC.1 hC.2.1 hC.2.2.2.1 (hts _ hl) (va_AO.use (hC.2.2.2.2.2.1.2.2.2.1 _ hao)) rfl hd rfl (by rw [oi_0, oi_lt hx in_0]; omega) (by rw [hxn]; omega) (by omega) (by rw [hxn]; omega) fun cA kA comp f1 f2 f3 f4 => ?_
  rw [hxn]
  generalize hH1 : H.push ({ cls := cA, slots := Array.replicate x.toNat .null, vm := .none } : Cell) = H1
  have z1 : H1.size = H.size + 1 := by rw [← hH1, Array.size_push]
  have e1 : H1[H.size]? = some (arrV cA x.toNat (fun _ => .null)) := by rw [← hH1, Array.getElem?_push_size, ← arrV_new]
  have o1 : ∀ q : Nat, q < H.size → H1[q]? = H[q]? := fun q hq => by rw [← hH1, Array.getElem?_push, if_neg (Nat.ne_of_lt hq)]
  obtain ⟨hl13, hty⟩ := elK_ok ht.1 ht.2
  have hRA := (hC.2.2.2.2.2.1.1.2 (t - 13) _ (tyL_at E.2.2 (t := t) (by omega) (by omega))).2
  rw [hty] at hRA
  obtain ⟨kA', comp', k1, k2, k3, k4⟩ := hRA
  have hcA : E.2.2 t = cA := Option.some.inj (k4.symm.trans f1)
  have hW1 : Wd E.2.1 E.2.2 E.1 (nw h t x.toNat) H1 := by
    refine hW.push rfl (in_nw hW.2.2) z1 ?_ o1 (fun x hx => cE_nw hx)
    rw [cE_q (kH_nw h t x.toNat) ht.1]
    show H1[E.1 + nH h]? = some (vp_cell _ _)
    rw [← hW.1, e1, hcA, vp_cell_q]
    simp only [rH_nw]
    rfl
  have := kk E p l e R s m args below meth c' Z hC hR hd1 hd2 hb H1 locs ls (cells + 1) (slots + x.toNat) (by omega) (by omega) hW1 ⟨Nat.le_trans hS.1 (by rw [z1]; omega), fun x g1 g2 => (o1 x (Nat.lt_of_lt_of_le g1 hS.1)).trans (hS.2.1 x g1 g2), hS.2.2⟩ hl' (ok_cons.mpr ⟨trivial, (ok_cons.mp hst).2⟩) hlo
  rw [hW.1]
  exact this
end NROWS
