section NROWS
variable {y : MI} {d rc rs : Nat} {Q : Option AV → AH → Prop} {pc q : Nat} {lo : List (Option AV)} {st st' : List AV} {h : AH}
theorem in_nw {h : AH} {t n : Nat} (hh : ∀ a k, inr (iH h a k)) : ∀ x j, inr (iH (nw h t n) x j) := by
  intro x j
  show inr (r2 h.2.2.1 h.1 (fun _ => 0) x j)
  unfold r2
  by_cases e : x = h.1
  · rw [if_pos e]; exact in_0
  · rw [if_neg e]; exact hh x j
theorem kH_nw (h : AH) (t n : Nat) : kH (nw h t n) (nH h) = (t, n) := by simp [kH, nw, nH]
theorem iH_nw (h : AH) (t n j : Nat) : iH (nw h t n) (nH h) j = 0 := by simp [iH, nw, nH, r2]
theorem jH_nw (h : AH) (t n j : Nat) : jH (nw h t n) (nH h) j = 0 := by simp [jH, nw, nH, r2]
theorem rH_nw (h : AH) (t n j : Nat) : rH (nw h t n) (nH h) j = none := by simp [rH, nw, nH, r2]
theorem dfl : ∀ c, c < 13 → ∀ k, k < nf c → defaultValue (tyf c k) = if (fR c).getD k false = true then Value.null else Value.int 0 := by decide +kernel
/-- a new object -/
theorem w_new {i c : Nat} (hc : c < 13) (hd : decode y.2.1 pc = .ok (.new i, 3)) (hl : Cond.classLink y.1.cls i (rx c) ∈ gt ∧ Cond.instantiable (rx c) (nf c) ∈ gt ∧ Cond.initialized (rx c) ∈ gt) (h1 : 1 ≤ rc) (h2 : nf c ≤ rs) (kk : wp y d (rc - 1) (rs - nf c) Q (pc + 3) lo (vr (nH h) :: st) (nw h c 0)) : wp y d rc rs Q pc lo st h := by
  intro E p l e R s m args below meth c' Z hC hR hd1 hd2 hb H locs ls cells slots hcc hss hW hS hl' hst hlo
  have hts := hC.2.2.2.2.1
  have hKn := hC.2.2.2.2.2.1.1.1 c _ (vwAt hc)
  refine W.newcK hC.1 hC.2.1 hC.2.2.2.1 (hts _ hl.1) (hts _ hl.2.1) (hts _ hl.2.2) rfl hd (by omega) (by omega) hKn.2.1 hW.1 fun H1 kC hkC e1 z1 o1 => ?_
  have hW1 : Wd E.2.1 E.2.2 E.1 (nw h c 0) H1 := by
    refine hW.push rfl (in_nw hW.2.2) (by rw [z1, hW.1]) ?_ (fun q hq => o1 q (by rw [← hW.1]; exact hq)) (fun x hx => cE_nw hx)
    rw [cE_o (kH_nw h c 0) hc]
    refine ⟨_, vwAt hc, (u_born (tyf c) hts (inG hc) hKn hkC e1 (tyAt hc)).to (fun j hj => ?_)⟩
    rw [vpV_ovs hj, dfl c hc j hj]
    unfold ov
    rw [rH_nw, iH_nw]
    rfl
  exact kk E p l e R s m args below meth c' Z hC hR hd1 hd2 hb H1 locs ls (cells + 1) (slots + nf c) (by omega) (by omega) hW1 ⟨Nat.le_trans hS.1 (by rw [z1, hW.1]; omega), fun x g1 g2 => (o1 x (by rw [← hW.1]; exact Nat.lt_of_lt_of_le g1 hS.1)).trans (hS.2.1 x g1 g2), hS.2.2⟩ hl' (ok_cons.mpr ⟨trivial, hst⟩) hlo
/-- a new array of whole numbers, longs, truths -/
theorem w_newa {t : Nat} {x : Int} {at' : ArrayType} (hd : decode y.2.1 pc = .ok (.newarray at', 2)) (ht : (t = 13 ∧ at' = .int) ∨ (t = 14 ∧ at' = .long) ∨ (t = 15 ∧ at' = .boolean)) (hl : Cond.arrayClass (newarray.typeOf at') ∈ gt) (h0 : 0 ≤ x) (hx1 : x ≤ 100000) (h1 : 1 ≤ rc) (h2 : x.toNat ≤ rs) (kk : wp y d (rc - 1) (rs - x.toNat) Q (pc + 2) lo (vr (nH h) :: st) (nw h t x.toNat)) : wp y d rc rs Q pc lo (vi x :: st) h := by
  intro E p l e R s m args below meth c' Z hC hR hd1 hd2 hb H locs ls cells slots hcc hss hW hS hl' hst hlo
  have hts := hC.2.2.2.2.1
  have hx : inr x := (ok_cons.mp hst).1
  refine va_newaK (N := x.toNat) hC.1 hC.2.1 (hts _ hl) rfl hd rfl (by rw [oi_0, oi_lt hx in_0]; omega) (oi_nat hx) ?_ (by omega) (by omega) hW.1 fun H1 cA e1 z1 o1 hAr hNm => ?_
  · rcases ht with ⟨-, rfl⟩ | ⟨-, rfl⟩ | ⟨-, rfl⟩
    · show x.toNat * 4 ≤ 536870912; omega
    · show x.toNat * 8 ≤ 536870912; omega
    · show x.toNat * 1 ≤ 536870912; omega
  · have hW1 : Wd E.2.1 E.2.2 E.1 (nw h t x.toNat) H1 := by
      refine hW.push rfl (in_nw hW.2.2) (by rw [z1, hW.1]) ?_ (fun q hq => o1 q (by rw [← hW.1]; exact hq)) (fun x hx => cE_nw hx)
      have hRA := fun t (g1 : 13 ≤ t) (g2 : t < 23) => (hC.2.2.2.2.2.1.1.2 (t - 13) _ (tyL_at E.2.2 (t := t) g1 g2)).2
      rcases ht with ⟨rfl, rfl⟩ | ⟨rfl, rfl⟩ | ⟨rfl, rfl⟩
      · rw [cE_i (kH_nw h 13 x.toNat) (Or.inl rfl)]
        have : E.2.2 13 = cA := Option.some.inj ((hRA 13 (by omega) (by omega)).symm.trans hNm)
        show H1[E.1 + nH h]? = some (vp_cell _ _)
        rw [e1, this, vp_cell_i]
        simp only [iH_nw]
        rfl
      · rw [cE_j (kH_nw h 14 x.toNat)]
        have : E.2.2 14 = cA := Option.some.inj ((hRA 14 (by omega) (by omega)).symm.trans hNm)
        show H1[E.1 + nH h]? = some (vp_cell _ _)
        rw [e1, this, vp_cell_l]
        simp only [jH_nw]
        rfl
      · rw [cE_i (kH_nw h 15 x.toNat) (Or.inr rfl)]
        have : E.2.2 15 = cA := Option.some.inj ((hRA 15 (by omega) (by omega)).symm.trans hNm)
        show H1[E.1 + nH h]? = some (vp_cell _ _)
        rw [e1, this, vp_cell_i]
        simp only [iH_nw]
        rfl
    have := kk E p l e R s m args below meth c' Z hC hR hd1 hd2 hb H1 locs ls (cells + 1) (slots + x.toNat) (by omega) (by omega) hW1 ⟨Nat.le_trans hS.1 (by rw [z1, hW.1]; omega), fun x g1 g2 => (o1 x (by rw [← hW.1]; exact Nat.lt_of_lt_of_le g1 hS.1)).trans (hS.2.1 x g1 g2), hS.2.2⟩ hl' (ok_cons.mpr ⟨trivial, (ok_cons.mp hst).2⟩) hlo
    exact this
/-- a new array of objects -/
theorem w_anew {i t : Nat} {x : Int} (ht : 15 < t ∧ t < 21) (hd : decode y.2.1 pc = .ok (.anewarray i, 3)) (hl : Cond.classLink y.1.cls i (rx (elK t)) ∈ gt) (hao : rx (elK t) ∈ aoL) (h0 : 0 ≤ x) (hx1 : x ≤ 100000) (h1 : 1 ≤ rc) (h2 : x.toNat ≤ rs) (kk : wp y d (rc - 1) (rs - x.toNat) Q (pc + 3) lo (vr (nH h) :: st) (nw h t x.toNat)) : wp y d rc rs Q pc lo (vi x :: st) h := by
  intro E p l e R s m args below meth c' Z hC hR hd1 hd2 hb H locs ls cells slots hcc hss hW hS hl' hst hlo
  have hts := hC.2.2.2.2.1
  have hx : inr x := (ok_cons.mp hst).1
  have hxn := oi_nat hx
  refine W.anew hC.1 hC.2.1 hC.2.2.2.1 (hts _ hl) (va_AO.use (hC.2.2.2.2.2.1.2.2.2.1.1 _ hao)) rfl hd rfl (by rw [oi_0, oi_lt hx in_0]; omega) (by rw [hxn]; omega) (by omega) (by rw [hxn]; omega) fun cA kA comp f1 f2 f3 f4 => ?_
  rw [hxn]
  generalize hH1 : H.push ({ cls := cA, slots := Array.replicate x.toNat .null, vm := .none } : Cell) = H1
  have z1 : H1.size = H.size + 1 := by rw [← hH1, Array.size_push]
  have e1 : H1[H.size]? = some (arrV cA x.toNat (fun _ => .null)) := by rw [← hH1, Array.getElem?_push_size, ← arrV_new]
  have o1 : ∀ q : Nat, q < H.size → H1[q]? = H[q]? := fun q hq => by rw [← hH1, Array.getElem?_push, if_neg (Nat.ne_of_lt hq)]
  obtain ⟨hl13, hty⟩ := elK_ok ht.1 ht.2
  have hRA := (hC.2.2.2.2.2.1.1.2 (t - 13) _ (tyL_at E.2.2 (t := t) (by omega) (by omega))).2
  rw [hty] at hRA
  obtain ⟨kA', comp', k1, k2, k3, k4⟩ := hRA
  have hcA : E.2.2 t = cA := Option.some.inj (k4.symm.trans f1)
  have hW1 : Wd E.2.1 E.2.2 E.1 (nw h t x.toNat) H1 := by
    refine hW.push rfl (in_nw hW.2.2) z1 ?_ o1 (fun x hx => cE_nw hx)
    rw [cE_q (kH_nw h t x.toNat) ht.1]
    show H1[E.1 + nH h]? = some (vp_cell _ _)
    rw [← hW.1, e1, hcA, vp_cell_q]
    simp only [rH_nw]
    rfl
  have := kk E p l e R s m args below meth c' Z hC hR hd1 hd2 hb H1 locs ls (cells + 1) (slots + x.toNat) (by omega) (by omega) hW1 ⟨Nat.le_trans hS.1 (by rw [z1]; omega), fun x g1 g2 => (o1 x (Nat.lt_of_lt_of_le g1 hS.1)).trans (hS.2.1 x g1 g2), hS.2.2⟩ hl' (ok_cons.mpr ⟨trivial, (ok_cons.mp hst).2⟩) hlo
  rw [hW.1]
  exact this
/-- a row of rows, made in one piece -/
def mu (h : AH) (t n rk k : Nat) : AH := (h.1 + 1 + n, (fun x => if x < h.1 then h.2.1 x else if x = h.1 then (t, n) else (rk, k)), (fun x y => if x < h.1 then h.2.2.1 x y else 0), (fun x y => if x < h.1 then h.2.2.2.1 x y else 0), (fun x y => if x < h.1 then h.2.2.2.2 x y else if x = h.1 ∧ y < n then some (h.1 + 1 + y) else none))
theorem cE_mu {cy : Nat → ClassId} {b : Nat} {h : AH} {t n rk k : Nat} {x : Nat} (e : x < nH h) : cE cy b (mu h t n rk k) x = cE cy b h x := by
  have e' : x < h.1 := e
  have h0 : kH (mu h t n rk k) x = kH h x := by simp [kH, mu, e']
  have h1 : rH (mu h t n rk k) x = rH h x := by funext y; simp [rH, mu, e']
  have h3 : iH (mu h t n rk k) x = iH h x := by funext y; simp [iH, mu, e']
  have h4 : jH (mu h t n rk k) x = jH h x := by funext y; simp [jH, mu, e']
  have h2 : ∀ t', ovs b (mu h t n rk k) x t' = ovs b h x t' := fun t' => by
    unfold ovs; congr 1; funext j; unfold ov; rw [h1, h3]
  unfold cE
  rw [h0, h1, h2, h3, h4]
theorem w_multi {i t rk : Nat} {ft : FieldType} {n k : Int} (ht : (t = 21 ∧ rk = 13 ∧ ft = .int) ∨ (t = 22 ∧ rk = 15 ∧ ft = .boolean)) (hd : decode y.2.1 pc = .ok (.multianewarray i 2, 4)) (hl : Cond.classLink y.1.cls i ("[" ++ (FieldType.array ft).toString) ∈ gt) (hac : Cond.arrayClass ft ∈ gt) (hn : 0 ≤ n) (hk : 0 ≤ k) (hn' : n ≤ 100000) (hk' : k ≤ 100000) (h1 : 1 + n.toNat ≤ rc) (h2 : n.toNat + n.toNat * k.toNat ≤ rs) (kk : wp y d (rc - (1 + n.toNat)) (rs - (n.toNat + n.toNat * k.toNat)) Q (pc + 4) lo (vr (nH h) :: st) (mu h t n.toNat rk k.toNat)) : wp y d rc rs Q pc lo (vi k :: vi n :: st) h := by
  intro E p l e R s m args below meth c' Z hC hR hd1 hd2 hb H locs ls cells slots hcc hss hW hS hl' hst hlo
  have hts := hC.2.2.2.2.1
  have hov : aoA ft s := by
    rcases ht with ⟨-, -, rfl⟩ | ⟨-, -, rfl⟩
    · exact hC.2.2.2.2.2.1.2.2.2.1.2.1
    · exact hC.2.2.2.2.2.1.2.2.2.1.2.2
  have hik : inr k := (ok_cons.mp hst).1
  have hin : inr n := (ok_cons.mp (ok_cons.mp hst).2).1
  have hst' := (ok_cons.mp (ok_cons.mp hst).2).2
  have en := oi_nat hin
  have ek := oi_nat hik
  have hbk : (Int32.ofInt k).toNatClampNeg * componentBytes ft ≤ 536870912 := by
    rw [ek]
    rcases ht with ⟨-, -, rfl⟩ | ⟨-, -, rfl⟩
    · show k.toNat * 4 ≤ _; omega
    · show k.toNat * 1 ≤ _; omega
  refine mq_W hC.1 hC.2.1 hC.2.2.2.1 (hts _ hl) (hov.use) (hts _ hac) (g := F0 m pc ls ((vi k :: vi n :: st).map (cv E.1))) rfl hd (n := Int32.ofInt n) (k := Int32.ofInt k) (rest := st.map (cv E.1)) rfl (by rw [oi_0, oi_lt hin in_0]; omega) (by rw [oi_0, oi_lt hik in_0]; omega) (by rw [en]; omega) hbk (by rw [ek]; omega) (by rw [en]; omega) (by rw [en, ek]; omega) fun cA comp hfA hfC => ?_
  rw [en, ek]
  have f1 := mq_hsize H cA comp n.toNat k.toNat (defaultValue ft) n.toNat
  have fat := mq_hat H cA comp n.toNat k.toNat (defaultValue ft) n.toNat
  have fold : ∀ a, a < H.size → (mq_h H cA comp n.toNat k.toNat (defaultValue ft) n.toNat)[a]? = H[a]? := fun a ha => by rw [fat, if_pos ha]
  generalize mq_h H cA comp n.toNat k.toNat (defaultValue ft) n.toNat = F at f1 fat fold
  have hRA := fun t (g1 : 13 ≤ t) (g2 : t < 23) => (hC.2.2.2.2.2.1.1.2 (t - 13) _ (tyL_at E.2.2 (t := t) g1 g2)).2
  have hcA : E.2.2 t = cA := by
    rcases ht with ⟨rfl, rfl, rfl⟩ | ⟨rfl, rfl, rfl⟩
    · exact Option.some.inj ((hRA 21 (by omega) (by omega)).symm.trans hfA)
    · exact Option.some.inj ((hRA 22 (by omega) (by omega)).symm.trans hfA)
  have hcC : E.2.2 rk = comp := by
    rcases ht with ⟨rfl, rfl, rfl⟩ | ⟨rfl, rfl, rfl⟩
    · exact Option.some.inj ((hRA 13 (by omega) (by omega)).symm.trans hfC)
    · exact Option.some.inj ((hRA 15 (by omega) (by omega)).symm.trans hfC)
  have ht15 : 15 < t := by rcases ht with ⟨rfl, -⟩ | ⟨rfl, -⟩ <;> omega
  have hrk : rk = 13 ∨ rk = 15 := by rcases ht with ⟨-, rfl, -⟩ | ⟨-, rfl, -⟩ <;> simp
  have hdv : defaultValue ft = .int 0 := by rcases ht with ⟨-, -, rfl⟩ | ⟨-, -, rfl⟩ <;> rfl
  have hz : E.1 + h.1 = H.size := hW.1.symm
  have hW1 : Wd E.2.1 E.2.2 E.1 (mu h t n.toNat rk k.toNat) F := by
    refine ⟨by rw [f1, ← hz]; show _ = E.1 + (h.1 + 1 + n.toNat); omega, fun a ha => ?_, fun a j => ?_⟩
    · have ha' : a < h.1 + 1 + n.toNat := ha
      rcases Nat.lt_trichotomy a h.1 with q | q | q
      · rw [cE_mu q]
        exact (hW.2.1 a q).kept (fold _ (by omega))
      · subst q
        have hk0 : kH (mu h t n.toNat rk k.toNat) h.1 = (t, n.toNat) := by simp [kH, mu]
        rw [cE_q hk0 ht15]
        show F[E.1 + h.1]? = some (vp_cell _ _)
        rw [fat, if_neg (by omega), if_pos hz, hcA, vp_cell_q, ← hz]
        congr 1
        have hfun : ∀ j, j < n.toNat → (if j < n.toNat then Value.ref (E.1 + h.1 + 1 + j) else .null) = va_rf (Option.map (fun x => E.1 + x) (rH (mu h t n.toNat rk k.toNat) h.1 j)) := fun j hj => by
          have : rH (mu h t n.toNat rk k.toNat) h.1 j = some (h.1 + 1 + j) := by
            show (if h.1 < h.1 then h.2.2.2.2 h.1 j else if h.1 = h.1 ∧ j < n.toNat then some (h.1 + 1 + j) else none) = _
            rw [if_neg (Nat.lt_irrefl _), if_pos ⟨rfl, hj⟩]
          rw [if_pos hj, this]
          show Value.ref _ = Value.ref _
          congr 1
          show E.1 + h.1 + 1 + j = E.1 + (h.1 + 1 + j); omega
        unfold mq_o arrV
        congr 1
        apply Array.ext
        · simp
        · intro j hj1 hj2
          simp only [Array.getElem_ofFn]
          exact hfun j (by simpa using hj1)
      · have hk0 : kH (mu h t n.toNat rk k.toNat) a = (rk, k.toNat) := by simp [kH, mu, show ¬ a < h.1 by omega, show ¬ a = h.1 by omega]
        rw [cE_i hk0 hrk]
        show F[E.1 + a]? = some (vp_cell _ _)
        rw [fat, if_neg (by omega), if_neg (by omega), if_pos (by omega), hcC, vp_cell_i]
        congr 1
        unfold mq_i
        rw [arrV_new, hdv]
        congr 1
        funext j
        have : iH (mu h t n.toNat rk k.toNat) a j = 0 := by simp [iH, mu, show ¬ a < h.1 by omega]
        rw [this]; rfl
    · show inr (if a < h.1 then h.2.2.1 a j else 0)
      split
      · exact hW.2.2 a j
      · exact in_0
  have := kk E p l e R s m args below meth c' Z hC hR hd1 hd2 hb F locs ls (cells + (1 + n.toNat)) (slots + (n.toNat + n.toNat * k.toNat)) (by omega) (by omega) hW1 ⟨Nat.le_trans hS.1 (by rw [f1]; omega), fun x g1 g2 => (fold x (Nat.lt_of_lt_of_le g1 hS.1)).trans (hS.2.1 x g1 g2), hS.2.2⟩ hl' (ok_cons.mpr ⟨trivial, hst'⟩) hlo
  rw [hW.1]
  exact this
end NROWS
