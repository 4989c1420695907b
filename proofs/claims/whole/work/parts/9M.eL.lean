/-! THE START: what the tables and the Statement say of it, as the walk wants it -/
section
variable {A : Array Value} {s : State}
theorem ar_p {ty : FieldType} (h : (Cond.arrayClass ty).before A s = true) : ∃ cA : ClassId, ArrOfT s cA ty ∧ s.vm.findClass ("[" ++ ty.toString) = some cA := by
  obtain ⟨cA, kA, comp, h1, h2, h3⟩ := Cond.arrayClass_spec h
  exact ⟨cA, fun n z => ⟨fun k h => (by cases h), kA, h2, comp, h3⟩, h1⟩
theorem ar_o {C : String} (h : (Cond.arrayOver (.object C)).before A s = true) : ∃ cA : ClassId, ArrOfT s cA (.object C) ∧ va_RA s cA (.object C) := by
  obtain ⟨comp, cA, kA, h1, h2, h3, h4, h5⟩ := Cond.arrayOver_spec h
  exact ⟨cA, fun n z => ⟨fun k h => (by cases h), kA, h3, comp, h4⟩, kA, comp, h3, h4, h1, h5⟩
theorem ar_a {t : FieldType} (h : (Cond.arrayOver (.array t)).before A s = true) : ∃ cA : ClassId, ArrOfT s cA (.array t) ∧ va_RA s cA (.array t) := by
  obtain ⟨comp, cA, kA, h1, h2, h3, h4, h5⟩ := arrayOverA_spec h
  exact ⟨cA, fun n z => ⟨fun k h => (by cases h), kA, h3, comp, h4⟩, h5⟩
theorem tb {w : Cond} (hts : ∀ w ∈ lw_tbl, w.before A s = true) (i : Nat) (h : lw_tbl[i]? = some w) : w.before A s = true := hts w (List.mem_of_getElem? h)
theorem gs_t (hts : ∀ w ∈ lw_tbl, w.before A s = true) : ∀ t, 13 ≤ t → t < 23 → ∃ cA : ClassId, ArrOfT s cA (tyA t) ∧ va_RA s cA (tyA t) := by
  intro t h1 h2
  have : t = 13 ∨ t = 14 ∨ t = 15 ∨ t = 16 ∨ t = 17 ∨ t = 18 ∨ t = 19 ∨ t = 20 ∨ t = 21 ∨ t = 22 := by omega
  rcases this with rfl | rfl | rfl | rfl | rfl | rfl | rfl | rfl | rfl | rfl
  · exact ar_p (ty := .int) (tb hts 140 (by decide +kernel))
  · exact ar_p (ty := .long) (tb hts 176 (by decide +kernel))
  · exact ar_p (ty := .boolean) (tb hts 1144 (by decide +kernel))
  · exact ar_o (C := RX0) (tb hts 142 (by decide +kernel))
  · exact ar_o (C := RX5) (tb hts 216 (by decide +kernel))
  · exact ar_o (C := RX7) (tb hts 150 (by decide +kernel))
  · exact ar_o (C := RX8) (tb hts 266 (by decide +kernel))
  · exact ar_o (C := RX9) (tb hts 177 (by decide +kernel))
  · exact ar_a (t := .int) (tb hts 978 (by decide +kernel))
  · exact ar_a (t := .boolean) (tb hts 980 (by decide +kernel))
def insI : List Nat := [449, 268, 249, 194, 179, 294, 218, 527, 321, 144, 119, 111, 972]
theorem ins_tb : ∀ c, c < 13 → lw_tbl[insI.getD c 0]? = some (Cond.instantiable (rx c) (nf c)) := by decide +kernel
theorem gs_gt (hts : ∀ w ∈ lw_tbl, w.before A s = true) : ∀ w ∈ gt, w.before A s = true := fun w hw => hts w (List.mem_filter.mp hw).1
theorem gs_c (hts : ∀ w ∈ lw_tbl, w.before A s = true) (c : Nat) : ∃ q : ClassId × (Nat → Nat), c < 13 → u_Kn s (rx c) (tf c) (nf c) q.1 q.2 := by
  by_cases h : c < 13
  · obtain ⟨cC, iS, hk⟩ := u_known (gs_gt hts) (inG h) (tb hts _ (ins_tb c h))
    exact ⟨(cC, iS), fun _ => hk⟩
  · obtain ⟨cA, -⟩ := gs_t hts 13 (by omega) (by omega)
    exact ⟨(cA, fun k => k), fun h' => absurd h' h⟩
theorem gs_K (hts : ∀ w ∈ lw_tbl, w.before A s = true) : ∃ (D : va_G) (cy : Nat → ClassId), va_K D vwCl (tyL cy) s := by
  have hT : ∀ t, ∃ cA : ClassId, 13 ≤ t → t < 23 → ArrOfT s cA (tyA t) ∧ va_RA s cA (tyA t) := fun t => by
    by_cases h : 13 ≤ t ∧ t < 23
    · obtain ⟨cA, q⟩ := gs_t hts t h.1 h.2
      exact ⟨cA, fun _ _ => q⟩
    · obtain ⟨cA, -⟩ := gs_t hts 13 (by omega) (by omega)
      exact ⟨cA, fun a b => absurd ⟨a, b⟩ h⟩
  refine ⟨(fun c => (Classical.choose (gs_c hts c)).1, fun c => (Classical.choose (gs_c hts c)).2), fun t => Classical.choose (hT t), fun c q hq => ?_, fun k q hk => ?_⟩
  · have hc : c < 13 := (List.getElem?_eq_some_iff.mp hq).1
    rw [vwAt hc] at hq
    cases hq
    exact Classical.choose_spec (gs_c hts c) hc
  · unfold tyL at hk
    rw [List.getElem?_map] at hk
    have hk2 : k < 10 := by
      rcases Nat.lt_or_ge k 10 with h | h
      · exact h
      · rw [List.getElem?_eq_none (by rw [List.length_range]; exact h)] at hk; cases hk
    rw [List.getElem?_range hk2] at hk
    cases hk
    exact Classical.choose_spec (hT (13 + k)) (by omega) (by omega)
theorem gs_nest (hts : ∀ w ∈ lw_tbl, w.before A s = true) : ∀ q ∈ nestM, va_Nw (.methodLinkNest RX11 q.1 q.2 RX11) s := by
  unfold nestM
  refine List.forall_mem_cons.mpr ⟨va_Nw.of rfl (tb hts 120 (by decide +kernel)), List.forall_mem_cons.mpr ⟨va_Nw.of rfl (tb hts 145 (by decide +kernel)), List.forall_mem_cons.mpr ⟨va_Nw.of rfl (tb hts 180 (by decide +kernel)), List.forall_mem_cons.mpr ⟨va_Nw.of rfl (tb hts 195 (by decide +kernel)), List.forall_mem_cons.mpr ⟨va_Nw.of rfl (tb hts 250 (by decide +kernel)), List.forall_mem_cons.mpr ⟨va_Nw.of rfl (tb hts 269 (by decide +kernel)), List.forall_mem_cons.mpr ⟨va_Nw.of rfl (tb hts 295 (by decide +kernel)), List.forall_mem_cons.mpr ⟨va_Nw.of rfl (tb hts 322 (by decide +kernel)), fun _ h => absurd h List.not_mem_nil⟩⟩⟩⟩⟩⟩⟩⟩
theorem aoA_of {t : FieldType} (h : (Cond.arrayOver (.array t)).before A s = true) : aoA t s := h
theorem gs_ao (hts : ∀ w ∈ lw_tbl, w.before A s = true) : (∀ C ∈ aoL, va_AO C s) ∧ aoA .int s ∧ aoA .boolean s := by
  refine ⟨?_, aoA_of (A := A) (tb hts 978 (by decide +kernel)), aoA_of (A := A) (tb hts 980 (by decide +kernel))⟩
  unfold aoL
  exact List.forall_mem_cons.mpr ⟨va_AO.of (tb hts 142 (by decide +kernel)), List.forall_mem_cons.mpr ⟨va_AO.of (tb hts 216 (by decide +kernel)), List.forall_mem_cons.mpr ⟨va_AO.of (tb hts 150 (by decide +kernel)), List.forall_mem_cons.mpr ⟨va_AO.of (tb hts 266 (by decide +kernel)), List.forall_mem_cons.mpr ⟨va_AO.of (tb hts 177 (by decide +kernel)), fun _ h => absurd h List.not_mem_nil⟩⟩⟩⟩⟩
def tmU : Term := .static "LiveIndex$Policy" "UNDER" "[I"
def tmP : Term := .static "LiveIndex" "SPANS" "[I"
def tmS (i : Nat) : Term := match i with
  | 0 => .string "LiveIndexModel" 269
  | 1 => .string "LiveIndexModel" 275
  | _ => .string "LiveIndexModel" 277
def gvF : List Cond := flatC (Cond.and given_1 narrow_1)
theorem gv_U : ∀ j, j < 6 → Cond.eq (.elem tmU (.int (Int32.ofNat j))) (.int (undr j)) ∈ gvF := by decide +kernel
theorem gv_P : ∀ j, j < 7 → Cond.eq (.elem tmP (.int (Int32.ofNat j))) (.int (spn j)) ∈ gvF := by decide +kernel
theorem gv_S : ∀ i, i < 3 → (Cond.exactly (tmS i) "java/lang/String" ∈ gvF ∧ Cond.eq (.field (tmS i) "java/lang/String" "coder" "B") (.int 0) ∈ gvF ∧ Cond.arrayOf (.field (tmS i) "java/lang/String" "value" "[B") .byte ∈ gvF ∧ Cond.eq (.length (.field (tmS i) "java/lang/String" "value" "[B")) (.int (Int32.ofNat (sLen.getD i 0))) ∈ gvF) ∧ ∀ j, j < sLen.getD i 0 → Cond.eq (.elem (.field (tmS i) "java/lang/String" "value" "[B") (.int (Int32.ofNat j))) (.int ((sByt.getD i []).getD j 0)) ∈ gvF := by decide +kernel
theorem gv_N : ∀ i, i < 3 → ∀ j, j < 3 → i ≠ j → Cond.not (Cond.eq (tmS i) (tmS j)) ∈ gvF ∨ Cond.not (Cond.eq (tmS j) (tmS i)) ∈ gvF := by decide +kernel
theorem gs_st (hts : ∀ w ∈ lw_tbl, w.before A s = true) (hgv : (Cond.and given_1 narrow_1).before A s = true) : StP s.heap.size s s.heap := by
  have hs : ∀ c ∈ gvF, c.before A s = true := flat_of_before _ hgv
  have hA : ∀ a : Nat, a < s.heap.size → ¬ ab s.heap.size a := fun a h1 h2 => absurd (show s.heap.size ≤ a from h2) (by omega)
  obtain ⟨t, e1, e2⟩ := va_Tof (args := A) (tm := tmU) (ty := .int) (N := 6) (f := fun j => .int (undr j)) (by decide) (hs _ (by decide +kernel)) (va_eqt (z := Int32.ofNat 6) (hs _ (by decide +kernel))) (fun j hj => va_eqt (hs _ (gv_U j hj))) hA
  obtain ⟨t', e3, e4⟩ := va_Tof (args := A) (tm := tmP) (ty := .int) (N := 7) (f := fun j => .int (spn j)) (by decide) (hs _ (by decide +kernel)) (va_eqt (z := Int32.ofNat 7) (hs _ (by decide +kernel))) (fun j hj => va_eqt (hs _ (gv_P j hj))) hA
  obtain ⟨adK, adV, e5, e6⟩ := vk_Sof (args := A) (s := s) (N := 3) (tm := tmS) (len := sLen) (byt := sByt) (A := ab s.heap.size) (by decide) (fun i hi => hs _ (gv_S i hi).1.1) (fun i hi => hs _ (gv_S i hi).1.2.1) (fun i hi => hs _ (gv_S i hi).1.2.2.1) (fun i hi => hs _ (gv_S i hi).1.2.2.2) (fun i hi j hj => hs _ ((gv_S i hi).2 j hj)) (fun i j hi hj n => (gv_N i hi j hj n).imp (hs _) (hs _)) hA
  refine ⟨⟨t, va_Zof (tb hts 648 (by decide +kernel)) (tb hts 93 (by decide +kernel)) e1 hA, e2⟩, ⟨t', va_Zof (tb hts 797 (by decide +kernel)) (tb hts 90 (by decide +kernel)) e3 hA, e4⟩, ⟨adK, adV, e5, vk_R.of (A := A) (tb hts 1365 (by decide +kernel)) (e6 0 (by decide)), vk_R.of (A := A) (tb hts 1417 (by decide +kernel)) (e6 1 (by decide)), vk_R.of (A := A) (tb hts 1418 (by decide +kernel)) (e6 2 (by decide))⟩, va_Zof (tb hts 1378 (by decide +kernel)) (tb hts 106 (by decide +kernel)) (va_eqi (hs _ (by decide +kernel))) hA, va_Zqof (tb hts 1394 (by decide +kernel)) (tb hts 108 (by decide +kernel)) (hs _ (by decide +kernel)) hA⟩
theorem gs_all (hts : ∀ w ∈ lw_tbl, w.before A s = true) (hgv : (Cond.and given_1 narrow_1).before A s = true) : ∃ E : EN, E.1 = s.heap.size ∧ Gs E s := by
  obtain ⟨D, cy, hK⟩ := gs_K hts
  exact ⟨(s.heap.size, D, cy), rfl, hK, gs_nest hts, va_Nw.of rfl (tb hts 796 (by decide +kernel)), gs_ao hts, gs_st hts hgv⟩
end
