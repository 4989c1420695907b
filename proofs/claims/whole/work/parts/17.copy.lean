section
section COPY
variable {y z : MI} {d rc rs : Nat} {Q : Option AV → AH → Prop} {o pc q : Nat} {es : List IE} {lo : List (Option AV)} {st : List AV} {h : AH}
/-- System.arraycopy of whole numbers (or truths) -/
def cpI (h : AH) (a i b j n : Nat) : AH := sW h b (fun k => if j ≤ k ∧ k < j + n then iH h a (i + (k - j)) else iH h b k)
theorem in_cpI {h : AH} {a i b j n : Nat} (hh : ∀ a k, inr (iH h a k)) : ∀ x k, inr (iH (cpI h a i b j n) x k) := by
  intro x k
  show inr (if x = b then (fun k => if j ≤ k ∧ k < j + n then iH h a (i + (k - j)) else iH h b k) k else iH h x k)
  split
  · dsimp only
    split
    · exact hh _ _
    · exact hh _ _
  · exact hh x k
def cCp (y : MI) (q i : Nat) : Prop := decode y.2.1 q = .ok (.invokestatic i, 3) ∧ Cond.methodLink y.1.cls i arraycopyName ∈ gt ∧ Cond.native arraycopyName ∈ gt ∧ Cond.static arraycopyName ∈ gt ∧ Cond.initialized "java/lang/System" ∈ gt
theorem w_copy {a i b na nb t : Nat} {sp dp n : Int} (s : cCp y pc i) (hd1 : 1 ≤ d) (h8 : (st.map cat).sum ≤ 8) (ha : a < nH h ∧ kH h a = (t, na)) (hb' : b < nH h ∧ kH h b = (t, nb)) (ht : t = 13 ∨ (t = 15 ∧ ∀ i, i < n.toNat → iH h a (sp.toNat + i) = 0 ∨ iH h a (sp.toNat + i) = 1)) (c : 0 ≤ sp ∧ 0 ≤ dp ∧ 0 ≤ n ∧ sp + n ≤ (na : Int) ∧ dp + n ≤ (nb : Int)) (kk : wp y d rc rs Q (pc + 3) lo st (cpI h a sp.toNat b dp.toNat n.toNat)) : wp y d rc rs Q pc lo (vi n :: vi dp :: vr b :: vi sp :: vr a :: st) h := by
  intro E p l e R s' m args below meth c' Z hC hR hdd1 hdd2 hb H locs ls cells slots hc hs hW hS hl hst hlo
  have hts := hC.2.2.2.2.1
  have hn : inr n := (ok_cons.mp hst).1
  have hdp : inr dp := (ok_cons.mp (ok_cons.mp hst).2).1
  have hsp : inr sp := (ok_cons.mp (ok_cons.mp (ok_cons.mp (ok_cons.mp hst).2).2).2).1
  have hst5 : ∀ v ∈ st, okV v := (ok_cons.mp (ok_cons.mp (ok_cons.mp (ok_cons.mp (ok_cons.mp hst).2).2).2).2).2
  have hneg : ∀ {z : Int}, inr z → 0 ≤ z → ¬ Int32.ofInt z < 0 := fun hz h0 => by rw [oi_0, oi_lt hz in_0]; omega
  have ht13 : 13 ≤ t ∧ t < 23 := by rcases ht with e | ⟨e, -⟩ <;> omega
  have h1315 : t = 13 ∨ t = 15 := by rcases ht with e | ⟨e, -⟩ <;> omega
  have hpr : refKind (tyA t) = false := by rcases h1315 with rfl | rfl <;> rfl
  have hfit : ∀ i : Nat, i < (Int32.ofInt n).toNatClampNeg → fits (tyA t) (.int ((fun j => Int32.ofInt (iH h a j)) ((Int32.ofInt sp).toNatClampNeg + i))) = true := by
    intro i hi
    rw [oi_nat hn] at hi
    rw [oi_nat hsp]
    rcases ht with rfl | ⟨rfl, hz⟩
    · rfl
    · rcases hz i hi with e | e <;> (dsimp only; rw [e]; decide +kernel)
  have hloc : (((st.map (cv E.1)).map fun v => v.category).sum) + (nativeFrameWords "java/lang/System" "arraycopy" 5 + 11) ≤ R.locals := by
    rw [cat_sum]
    have : nativeFrameWords "java/lang/System" "arraycopy" 5 + 11 ≤ 40 := by decide +kernel
    omega
  have nn : ∀ {z : Int}, inr z → 0 ≤ z → (Int32.ofInt z).toInt = (((Int32.ofInt z).toNatClampNeg : Nat) : Int) := fun hz h0 => by
    rw [oi_nat hz, oi_to hz]; omega
  have hca := hW.2.1 a ha.1
  rw [cE_i ha.2 h1315] at hca
  have hcb := hW.2.1 b hb'.1
  rw [cE_i hb'.2 h1315] at hcb
  have hca' : H[E.1 + a]? = some (vp_cell (E.2.2 t) (na, .inl (fun j => Int32.ofInt (iH h a j)))) := hca
  have hcb' : H[E.1 + b]? = some (vp_cell (E.2.2 t) (nb, .inl (fun j => Int32.ofInt (iH h b j)))) := hcb
  intro T hT X
  have hK := hC.2.2.2.2.2.1.1
  obtain ⟨-, k0, hk0, cm0, hkk0⟩ := (hK.2 _ _ (tyL_at E.2.2 ht13.1 ht13.2)).1 na (fun j => .int (Int32.ofInt (iH h a j)))
  obtain ⟨-, k1, hk1, cm1, hkk1⟩ := (hK.2 _ _ (tyL_at E.2.2 ht13.1 ht13.2)).1 nb (fun j => .int (Int32.ofInt (iH h b j)))
  obtain ⟨vm', X', step⟩ := X.arraycopy hC.1 hC.2.2.2.1 (hts _ s.2.1) (hts _ s.2.2.1) (hts _ s.2.2.2.1) (hts _ s.2.2.2.2) (src := E.1 + a) (dst := E.1 + b) (cs := vp_cell (E.2.2 t) (na, .inl (fun j => Int32.ofInt (iH h a j)))) (cd := vp_cell (E.2.2 t) (nb, .inl (fun j => Int32.ofInt (iH h b j)))) (srcPos := Int32.ofInt sp) (destPos := Int32.ofInt dp) (n := Int32.ofInt n) (by rw [hT]; exact hca') (by rw [hT]; exact hcb')
    (fun _ h => by cases h) (fun _ h => by cases h) (fun h => by cases h) (fun h => by cases h) hk0 hk1 hkk0 hkk1 (by simp [hpr]) (hneg hsp c.1) (hneg hdp c.2.1) (hneg hn c.2.2.1)
    (by rw [nn hsp c.1, nn hn c.2.2.1, oi_nat hsp, oi_nat hn]; show ¬ _ > ((arrV _ na _).slots.size : Int); rw [arrV_size]; omega)
    (by rw [nn hdp c.2.1, nn hn c.2.2.1, oi_nat hdp, oi_nat hn]; show ¬ _ > ((arrV _ nb _).slots.size : Int); rw [arrV_size]; omega)
    (fun vm₁ _ i hi => by
      have e : (vp_cell (E.2.2 t) (na, .inl (fun j => Int32.ofInt (iH h a j)))).slots.getD ((Int32.ofInt sp).toNatClampNeg + i) .null = .int (Int32.ofInt (iH h a ((Int32.ofInt sp).toNatClampNeg + i))) := by
        show (arrV _ na _).slots.getD _ _ = _
        rw [Array.getD_eq_getD_getElem?, arrV_read _ _ (by rw [oi_nat hsp]; rw [oi_nat hn] at hi; omega)]
        rfl
      rw [e]
      exact ⟨hfit i hi, trivial⟩)
    (g := F0 m pc ls ((vi n :: vi dp :: vr b :: vi sp :: vr a :: st).map (cv E.1))) rfl (by show ls.size = c'.maxLocals; exact hl.1.trans hC.2.2.1.symm) (rest := st.map (cv E.1)) rfl (by rw [hC.2.1]; exact s.1) (by omega) (by show 2 * 0 + _ + _ ≤ _; omega)
  have e1 : copied (vp_cell (E.2.2 t) (na, .inl (fun j => Int32.ofInt (iH h a j)))) (vp_cell (E.2.2 t) (nb, .inl (fun j => Int32.ofInt (iH h b j)))) (Int32.ofInt sp) (Int32.ofInt dp) (Int32.ofInt n) = vp_cell (E.2.2 t) (nb, .inl (va_cpy (fun j => Int32.ofInt (iH h a j)) (fun j => Int32.ofInt (iH h b j)) (Int32.ofInt sp).toNatClampNeg (Int32.ofInt dp).toNatClampNeg (Int32.ofInt n).toNatClampNeg)) := va_copied (n0 := na) (n1 := nb) (sp := (Int32.ofInt sp).toNatClampNeg) (dp := (Int32.ofInt dp).toNatClampNeg) (n := (Int32.ofInt n).toNatClampNeg) (fun z => .int z) (E.2.2 t) (E.2.2 t) (fun j => Int32.ofInt (iH h a j)) (fun j => Int32.ofInt (iH h b j)) (by rw [oi_nat hsp, oi_nat hn]; omega)
  have e2 : vp_cell (E.2.2 t) (nb, .inl (va_cpy (fun j => Int32.ofInt (iH h a j)) (fun j => Int32.ofInt (iH h b j)) (Int32.ofInt sp).toNatClampNeg (Int32.ofInt dp).toNatClampNeg (Int32.ofInt n).toNatClampNeg)) = vp_cell (E.2.2 t) (nb, .inl (fun j => Int32.ofInt (iH (cpI h a sp.toNat b dp.toNat n.toNat) b j))) := by
    congr 3
    funext j
    rw [oi_nat hsp, oi_nat hdp, oi_nat hn]
    show _ = Int32.ofInt ((if b = b then (fun k => if dp.toNat ≤ k ∧ k < dp.toNat + n.toNat then iH h a (sp.toNat + (k - dp.toNat)) else iH h b k) j else iH h b j))
    rw [if_pos rfl]
    unfold va_cpy
    dsimp only
    by_cases hq : dp.toNat ≤ j ∧ j < dp.toNat + n.toNat
    · rw [if_pos hq, if_pos hq]
    · rw [if_neg hq, if_neg hq]
  rw [e1, e2] at X' step
  have hlb : E.1 + b < H.size := (Array.getElem?_eq_some_iff.mp hcb').1
  generalize hcell : vp_cell (E.2.2 t) (nb, .inl (fun j => Int32.ofInt (iH (cpI h a sp.toNat b dp.toNat n.toNat) b j))) = cell at X' step
  have hheap : ((T.setVm vm').setCell (E.1 + b) cell).heap = H.setIfInBounds (E.1 + b) cell := by rw [← hT]; rfl
  have oq : ∀ q : Nat, q ≠ E.1 + b → (H.setIfInBounds (E.1 + b) cell)[q]? = H[q]? := fun q hq => by simp [Array.getElem?_setIfInBounds, Ne.symm hq]
  have hz : (H.setIfInBounds (E.1 + b) cell).size = H.size := by simp
  have hWd : Wd E.2.1 E.2.2 E.1 (cpI h a sp.toNat b dp.toNat n.toNat) (H.setIfInBounds (E.1 + b) cell) := by
    refine hW.upd rfl (in_cpI hW.2.2) hz ?_ oq (fun x hx => cE_sW hx)
    rw [cE_i (h := cpI h a sp.toNat b dp.toNat n.toNat) hb'.2 h1315]
    show (H.setIfInBounds (E.1 + b) cell)[E.1 + b]? = some (vp_cell _ _)
    rw [hcell]
    simp [Array.getElem?_setIfInBounds, hlb]
  obtain ⟨t', a1, b1⟩ := kk E p l e R s' m args below meth c' Z hC hR hdd1 hdd2 hb _ _ ls cells slots hc hs hWd ⟨by rw [hz]; exact hS.1, fun q g1 g2 => by
      rw [oq q (fun e => g2 (by rw [e]; show E.1 ≤ E.1 + b; omega))]
      exact hS.2.1 q g1 g2, fun q hq => by
      rcases List.mem_append.mp hq with h | h
      · exact hS.2.2 q h
      · obtain ⟨z, -, hz⟩ := List.mem_map.mp h
        rw [← hz]
        show E.1 ≤ E.1 + b; omega⟩ hl hst5 hlo _ hheap X'
  exact ⟨t', step t' a1, b1⟩
theorem xcp {i : Nat} (hb : ckB y o pc es q = true) (s : cCp y q i) (k : wpB es lo st h (fun lo stk h => pI stk fun n r => pI r fun dp r => pR r fun b r => pI r fun sp r => pR r fun a r => ∃ na nb t, (a < nH h ∧ kH h a = (t, na)) ∧ (b < nH h ∧ kH h b = (t, nb)) ∧ (t = 13 ∨ (t = 15 ∧ ∀ i, i < n.toNat → iH h a (sp.toNat + i) = 0 ∨ iH h a (sp.toNat + i) = 1)) ∧ (0 ≤ sp ∧ 0 ≤ dp ∧ 0 ≤ n ∧ sp + n ≤ (na : Int) ∧ dp + n ≤ (nb : Int)) ∧ (1 ≤ d ∧ (r.map cat).sum ≤ 8) ∧ wp y d rc rs Q (q + 3) lo r (cpI h a sp.toNat b dp.toNat n.toNat))) : wp y d rc rs Q pc lo st h := by
  refine xB hb (wpB_mono ?_ k)
  intro lo st h hk
  obtain ⟨n, r1, rfl, k1⟩ := pI_e hk
  obtain ⟨dp, r2, rfl, k2⟩ := pI_e k1
  obtain ⟨b, r3, rfl, k3⟩ := pR_e k2
  obtain ⟨sp, r4, rfl, k4⟩ := pI_e k3
  obtain ⟨a, r5, rfl, na, nb, t, h1, h2, h3, h4, h5, h6⟩ := pR_e k4
  exact w_copy s h5.1 h5.2 h1 h2 h3 h4 h6
end COPY
end
