section HROWS
variable {y : MI} {d rc rs : Nat} {Q : Option AV → AH → Prop} {pc q : Nat} {lo : List (Option AV)} {st st' : List AV} {h : AH}
theorem cE_o {cy : Nat → ClassId} {b : Nat} {h : AH} {a t n : Nat} (hk : kH h a = (t, n)) (ht : t < 13) : cE cy b h a = .inr (t, ovs b h a t) := by
  unfold cE; rw [hk]; simp [ht]
theorem cE_i {cy : Nat → ClassId} {b : Nat} {h : AH} {a t n : Nat} (hk : kH h a = (t, n)) (ht : t = 13 ∨ t = 15) : cE cy b h a = .inl (cy t, n, .inl (fun j => Int32.ofInt (iH h a j))) := by
  unfold cE; rw [hk]; rcases ht with rfl | rfl <;> simp
theorem cE_j {cy : Nat → ClassId} {b : Nat} {h : AH} {a n : Nat} (hk : kH h a = (14, n)) : cE cy b h a = .inl (cy 14, n, .inr (.inl (jH h a))) := by
  unfold cE; rw [hk]; simp
theorem cE_q {cy : Nat → ClassId} {b : Nat} {h : AH} {a t n : Nat} (hk : kH h a = (t, n)) (ht : 15 < t) : cE cy b h a = .inl (cy t, n, .inr (.inr (.inr (.inr (fun j => (rH h a j).map (fun x => b + x)))))) := by
  unfold cE; rw [hk]; simp [show ¬ t < 13 by omega, show ¬ t = 14 by omega, show ¬ t < 16 by omega]
theorem ovs_get {b : Nat} {h : AH} {a t k : Nat} (hk : k < nf t) : (ovs b h a t)[k]? = some (ov b h a t k) := by
  unfold nf at hk; unfold ovs; rw [List.getElem?_map, List.getElem?_range hk]; rfl
theorem vpV_ovs {b : Nat} {h : AH} {a t k : Nat} (hk : k < nf t) : vp_V (ovs b h a t) k = ov b h a t k := by
  unfold vp_V; rw [List.getD_eq_getElem?_getD, ovs_get hk]; rfl
theorem tyL_at (cy : Nat → ClassId) {t : Nat} (h1 : 13 ≤ t) (h2 : t < 23) : (tyL cy)[t - 13]? = some (cy t, tyA t) := by
  unfold tyL
  rw [List.getElem?_map, List.getElem?_range (by omega)]
  show some (cy (13 + (t - 13)), tyA (13 + (t - 13))) = _
  rw [show 13 + (t - 13) = t by omega]
theorem Wd.one {D : va_G} {cy : Nat → ClassId} {b a : Nat} {h : AH} {H : Heap} (w : Wd D cy b h H) (ha : a < nH h) {x : va_E} (hx : cE cy b h a = x) : va_P D vwCl [(b + a, x)] H := by
  intro k q hq
  match k, hq with
  | 0, hq => cases hq; rw [← hx]; exact w.2.1 a ha
theorem in_ix {x : Int} {n : Nat} (hx : inr x) (h0 : 0 ≤ x) (h1 : x < n) : vp_in (Int32.ofInt x) n := by
  unfold vp_in
  rw [oi_nat hx, oi_0, oi_lt hx in_0]
  omega
/-- a field is read -/
theorem w_get {o i c k a : Nat} (ho : y.1.cls = rx o) (hd : decode y.2.1 pc = .ok (.getfield i, 3)) (hf : flq o i c k = true) (ha : a < nH h) (hk : kH h a = (c, 0)) {v : AV} (hv : ∀ b, ov b h a c k = cv b v) (hok : (∀ a k, inr (iH h a k)) → okV v) (kk : wp y d rc rs Q (pc + 3) lo (v :: st) h) : wp y d rc rs Q pc lo (vr a :: st) h := by
  obtain ⟨hc13, hkn, hlk⟩ := flq_ok hf
  intro E p l e R s m args below meth c' Z hC hR hd1 hd2 hb H locs ls cells slots hc hs hW hS hl hst hlo
  have hP := hW.one ha (cE_o hk hc13)
  refine va_get (D := E.2.1) (ci := c) (C := rx c) (T := tf c) (N := nf c) (own := y.1.cls) (ref := (tf c k).1) hC.1 hC.2.1 hC.2.2.2.2.1 (inG hc13) hC.2.2.2.1 hC.2.2.2.2.2.1.1 hP 0 rfl (vwAt hc13) k hkn (hC.2.2.2.2.1 _ (by rw [ho]; exact hlk)) (fun _ z => z) (v := cv E.1 v) ?_ hd ?_
  · rw [ovs_get hkn, hv]
  · exact kk E p l e R s m args below meth c' Z hC hR hd1 hd2 hb H locs ls cells slots hc hs hW hS hl (ok_cons.mpr ⟨hok hW.2.2, (ok_cons.mp hst).2⟩) hlo
/-- what a store into a cell's field does to the world -/
theorem w_putx {o i c k a : Nat} (ho : y.1.cls = rx o) (hd : decode y.2.1 pc = .ok (.putfield i, 3)) (hf : flq o i c k = true) (hfin : (tf c k).2.2.2 = false ∨ ((tf c k).1 = y.1.cls ∧ (tf c k).1 = rx c ∧ y.1.name = "<init>")) (ha : a < nH h) (hk : kH h a = (c, 0)) {v : AV} {h' : AH} (hv : ∀ b, narrow (tyf c k) (cv b v) = cv b v ∧ fits (tyf c k) (cv b v) = true) (hn : nH h' = nH h) (hkk : kH h' = kH h) (hr : (∀ a k, inr (iH h a k)) → okV v → ∀ a k, inr (iH h' a k)) (hc : ∀ cy b x, x ≠ a → cE cy b h' x = cE cy b h x) (hov : ∀ b j, j < nf c → ov b h' a c j = if j = k then cv b v else ov b h a c j) (kk : wp y d rc rs Q (pc + 3) lo st h') : wp y d rc rs Q pc lo (v :: vr a :: st) h := by
  obtain ⟨hc13, hkn, hlk⟩ := flq_ok hf
  intro E p l e R s m args below meth c' Z hC hR hd1 hd2 hb H locs ls cells slots hcc hss hW hS hl hst hlo
  have hKall := hC.2.2.2.2.2.1.1
  have hcl := vwAt hc13
  have hts := hC.2.2.2.2.1
  have hap := va_apart (own := y.1.cls) hts (inG hc13) (tyf c) (tyAt hc13) (nmAt hc13) hKall hcl
  have hat := hW.2.1 a ha
  rw [cE_o hk hc13] at hat
  obtain ⟨r, h1, cell, q1, q2, q3, q4⟩ := hat
  have hr' : r = (rx c, tf c, nf c) := Option.some.inj (h1.symm.trans hcl)
  subst hr'
  obtain ⟨hSl, hfc, kC, hkC, hkind⟩ := hKall.1 c _ hcl
  obtain ⟨cf, kf, fi, f, hi, hsl⟩ := hSl k hkn
  have hst' := (u_facts hfc hkC (u_lays hts (inG hc13) hkn) hi).1
  have hlink := hts _ (show Cond.fieldLink y.1.cls i (tf c k).1 (tf c k).2.1 (tf c k).2.2.1 ∈ gt by rw [ho]; exact hlk)
  have hlay := hts _ (inG hc13 _ (u_in_lay hkn))
  have fin : ∀ H' : Heap, H'[E.1 + a]? = some (cell.setSlot f.slot (cv E.1 v)) → H'.size = H.size → (∀ q, q ≠ E.1 + a → H'[q]? = H[q]?) → W p l e R s m args below meth c' H' (locs ++ [⟨E.1 + a, f.slot⟩]) cells slots Z { (F0 m pc ls (List.map (cv E.1) (v :: vr a :: st))) with pc := pc + 3, stack := List.map (cv E.1) st } := by
    intro H' e1 e2 e3
    rw [hsl] at e1
    have hW' : Wd E.2.1 E.2.2 E.1 h' H' := by
      refine hW.upd hn (hr hW.2.2 (ok_cons.mp hst).1) e2 ?_ e3 (fun x hx => hc _ _ x hx)
      rw [cE_o (by rw [hkk]; exact hk) hc13]
      refine ⟨_, hcl, t_OB.to (V := updV (vp_V (ovs E.1 h a c)) k (cv E.1 v)) ⟨_, e1, q2, q3, t_set q4 hap hkn _⟩ (fun j hj => ?_)⟩
      rw [vpV_ovs hj, hov _ j hj]
      by_cases e : j = k
      · subst e; simp [updV]
      · simp [updV, e, vpV_ovs hj]
    exact kk E p l e R s m args below meth c' Z hC hR hd1 hd2 hb H' _ ls cells slots hcc hss hW' (hS.put e2 e3 (by show E.1 ≤ E.1 + a; omega)) hl (ok_cons.mp (ok_cons.mp hst).2).2 hlo
  rcases hfin with hfin | ⟨hdecl, hdecl2, hini⟩
  · by_cases hf2 : (tf c k).2.2.2 = true
    · rw [hfin] at hf2; cases hf2
    · unfold u_lay at hlay
      rw [if_neg hf2] at hlay
      have h6 := u_store hfc hkC hkind hlay hi (tyAt hc13 k hkn) (hv E.1).1 (hv E.1).2
      exact W.putK hC.1 hC.2.1 (f := f) ⟨hC.2.2.2.1, hlink, ⟨_, _, _, hi⟩, hst'⟩ (by rw [q2]; exact h6) q1 q3 (by rw [hsl]; exact k2_hasslot (q4 k hkn)) rfl rfl hd fin
  · by_cases hf2 : (tf c k).2.2.2 = true
    · unfold u_lay at hlay
      rw [if_pos hf2] at hlay
      have hcf : m.cls = cf := by
        obtain ⟨_, _, c'', _, _, _, -, -, hf', -, -, -, hown2, -⟩ := Cond.laysFinal_spec hlay
        have e1 : c'' = cf := by have := hi.symm.trans hf'; simp at this; exact this.1.symm
        rw [hdecl] at hown2
        rw [← e1]; exact Option.some.inj (hC.2.2.2.1.symm.trans hown2)
      have h6 := u_fits hfc hkC hkind (Or.inr hlay) hi (tyAt hc13 k hkn) (hv E.1).1 (hv E.1).2
      exact W.putFinK hC.1 hC.2.1 hC.2.2.2.1 hlink hi hst' hcf (hC.2.2.2.2.2.2 hini) (by rw [q2]; exact h6) q1 q3 (by rw [hsl]; exact k2_hasslot (q4 k hkn)) rfl rfl hd fin
    · unfold u_lay at hlay
      rw [if_neg hf2] at hlay
      have h6 := u_store hfc hkC hkind hlay hi (tyAt hc13 k hkn) (hv E.1).1 (hv E.1).2
      exact W.putK hC.1 hC.2.1 (f := f) ⟨hC.2.2.2.1, hlink, ⟨_, _, _, hi⟩, hst'⟩ (by rw [q2]; exact h6) q1 q3 (by rw [hsl]; exact k2_hasslot (q4 k hkn)) rfl rfl hd fin
theorem in_sI {h : AH} {a k : Nat} {v : Int} (hh : ∀ a k, inr (iH h a k)) (hv : inr v) : ∀ x j, inr (iH (sI h a k v) x j) := by
  intro x j
  show inr (u2 h.2.2.1 a k v x j)
  unfold u2
  by_cases e : x = a
  · rw [if_pos e]
    by_cases e2 : j = k
    · rw [if_pos e2]; exact hv
    · rw [if_neg e2]; exact hh x j
  · rw [if_neg e]; exact hh x j
/-- a whole number comes into a field -/
theorem w_putI {o i c k a : Nat} {x : Int} (ho : y.1.cls = rx o) (hd : decode y.2.1 pc = .ok (.putfield i, 3)) (hf : flq o i c k = true) (hfin : (tf c k).2.2.2 = false ∨ ((tf c k).1 = y.1.cls ∧ (tf c k).1 = rx c ∧ y.1.name = "<init>")) (ht : (fR c).getD k false = false ∧ (tyf c k = .int ∨ (tyf c k = .boolean ∧ (x = 0 ∨ x = 1)))) (ha : a < nH h) (hk : kH h a = (c, 0)) (kk : wp y d rc rs Q (pc + 3) lo st (sI h a k x)) : wp y d rc rs Q pc lo (vi x :: vr a :: st) h := by
  refine w_putx (v := vi x) (h' := sI h a k x) ho hd hf hfin ha hk (fun b => ?_) rfl rfl (fun h1 h2 => in_sI h1 h2) (fun cy b z hz => cE_sI hz) (fun b j hj => ?_) kk
  · rcases ht.2 with e | ⟨e, rfl | rfl⟩
    · rw [e]; exact ⟨rfl, rfl⟩
    · rw [e]; exact ⟨show narrow FieldType.boolean (.int (Int32.ofInt 0)) = .int (Int32.ofInt 0) by decide +kernel, show fits FieldType.boolean (.int (Int32.ofInt 0)) = true by decide +kernel⟩
    · rw [e]; exact ⟨show narrow FieldType.boolean (.int (Int32.ofInt 1)) = .int (Int32.ofInt 1) by decide +kernel, show fits FieldType.boolean (.int (Int32.ofInt 1)) = true by decide +kernel⟩
  · by_cases e : j = k
    · subst e
      rw [if_pos rfl]
      unfold ov
      rw [ht.1]
      simp [iH, sI, u2, cv]
    · rw [if_neg e]
      unfold ov
      simp [iH, rH, sI, u2, e]
/-- a reference comes into a field -/
theorem w_putR {o i c k a b0 : Nat} (ho : y.1.cls = rx o) (hd : decode y.2.1 pc = .ok (.putfield i, 3)) (hf : flq o i c k = true) (hfin : (tf c k).2.2.2 = false ∨ ((tf c k).1 = y.1.cls ∧ (tf c k).1 = rx c ∧ y.1.name = "<init>")) (ht : (fR c).getD k false = true ∧ ((∃ C, tyf c k = .object C) ∨ ∃ t, tyf c k = .array t)) (ha : a < nH h) (hk : kH h a = (c, 0)) (kk : wp y d rc rs Q (pc + 3) lo st (sR h a k (some b0))) : wp y d rc rs Q pc lo (vr b0 :: vr a :: st) h := by
  refine w_putx (v := vr b0) (h' := sR h a k (some b0)) ho hd hf hfin ha hk (fun b => ?_) rfl rfl (fun h1 _ => h1) (fun cy b z hz => cE_sR hz) (fun b j hj => ?_) kk
  · rcases ht.2 with ⟨C, e⟩ | ⟨t, e⟩ <;> (rw [e]; exact ⟨rfl, rfl⟩)
  · by_cases e : j = k
    · subst e
      rw [if_pos rfl]
      unfold ov
      rw [ht.1]
      simp [rH, sR, u2, cv]
    · rw [if_neg e]
      unfold ov
      simp [iH, rH, sR, u2, e]
end HROWS
