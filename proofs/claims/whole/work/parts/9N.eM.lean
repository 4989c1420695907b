/-! THE LAW FROM ITS ENTRY -/
theorem nl_11 : Cond.classLink RL 7 (rx 11) ∈ gt ∧ Cond.instantiable (rx 11) (nf 11) ∈ gt ∧ Cond.initialized (rx 11) ∈ gt := ⟨gt_ok (List.mem_of_getElem? (i := 110) (by decide +kernel)) (by decide +kernel), gt_ok (List.mem_of_getElem? (i := 111) (by decide +kernel)) (by decide +kernel), gt_ok (List.mem_of_getElem? (i := 90) (by decide +kernel)) (by decide +kernel)⟩
theorem nl_12 : Cond.classLink RL 10 (rx 12) ∈ gt ∧ Cond.instantiable (rx 12) (nf 12) ∈ gt ∧ Cond.initialized (rx 12) ∈ gt := ⟨gt_ok (List.mem_of_getElem? (i := 971) (by decide +kernel)) (by decide +kernel), gt_ok (List.mem_of_getElem? (i := 972) (by decide +kernel)) (by decide +kernel), gt_ok (List.mem_of_getElem? (i := 100) (by decide +kernel)) (by decide +kernel)⟩
section
variable {E : EN} {p : Program} {l : Launch} {e : Env} {s : State} {m : MethodId} {below : List Frame} {meth : Method} {c : Code} {Z : State → Prop} {b L : Nat} {xs : Nat → Int32}
theorem lw_begin (hX : LC E p s m meth c b L xs) (hEnd : ∀ (H : Heap) (ls : Array Slot), W p l e room_1 s m #[Value.ref b] below meth c H [] 600000 7302250 Z (F0 m 1141 ls [.int 1])) : W p l e room_1 s m #[Value.ref b] below meth c s.heap [] 0 0 Z (entryFrame m ([Value.ref b] : List Value).toArray 4) := by
  have hC := hX.1
  have hq := hX.2.1
  have rf : room_1.frames = 2048 := rfl
  have rl : room_1.locals = 84000 := rfl
  have rc : room_1.cells = 600000 := rfl
  have rs : room_1.slots = 7302250 := rfl
  have n11 : nf 11 = 20 := rfl
  have n12 : nf 12 = 54 := rfl
  rw [lg_entry_eq]
  have hl0 := lv_entry ([Value.ref b] : List Value) (n := 4) (Nat.le_of_ble_eq_true rfl)
  generalize (lg_sl ([Value.ref b] : List Value) ++ List.replicate (4 - (lg_sl ([Value.ref b] : List Value)).length) Slot.unset).toArray = ls0 at hl0 ⊢
  have hW0 : Wd E.2.1 E.2.2 E.1 hE s.heap := ⟨hq.symm, fun a ha => absurd ha (Nat.not_lt_zero a), fun a k => in_0⟩
  have hS0 : va_S (ab E.1) s.heap s.heap [] := va_S.rf
  refine c_new (t := 11) (i := 7) (st := []) hC (by decide) (by decide +kernel) nl_11 (by omega) (by omega) hW0 hS0 fun H1 hW1 hS1 => ?_
  refine lv_dup hC.1 hC.2.1 (cc := cL_law) (by decide +kernel) rfl ?_
  refine c_callI (h := cH1) (a := 0) (av := []) (st := [vr 0]) (i := 9) hC cHok (by decide +kernel) vl_X11_init rfl ⟨by omega, by decide⟩ (by omega) (by omega) (Nat.le_of_ble_eq_true rfl) hW1 hS1 hl0.1 (fun v hv => absurd hv List.not_mem_nil) ?_
  rintro v h2 H2 locs2 - ⟨rfl, rfl⟩ hW2 hS2
  refine lv_astore_n (i := 1) (x := E.1 + 0) (lv' := [(1, .ref (E.1 + 0)), (0, .ref b)]) hC.1 hC.2.1 (show decode cL_law 7 = .ok (.astore_n 1, 1) from by decide +kernel) rfl hl0 (by decide) rfl fun ls1 hl1 => ?_
  refine c_new (t := 12) (i := 10) (st := []) hC (by decide) (by decide +kernel) nl_12 (by omega) (by omega) hW2 hS2 fun H3 hW3 hS3 => ?_
  refine lv_dup hC.1 hC.2.1 (cc := cL_law) (by decide +kernel) rfl ?_
  refine c_callI (h := cM1) (a := 89) (av := []) (st := [vr 89]) (i := 12) hC cMok (by decide +kernel) vl_X12_init rfl ⟨by omega, by decide⟩ (by omega) (by omega) (Nat.le_of_ble_eq_true rfl) hW3 hS3 hl1.1 (fun v hv => absurd hv List.not_mem_nil) ?_
  rintro v h4 H4 locs4 - ⟨rfl, rfl⟩ hW4 hS4
  refine lv_astore_n (i := 2) (x := E.1 + 89) (lv' := [(2, .ref (E.1 + 89)), (1, .ref (E.1 + 0)), (0, .ref b)]) hC.1 hC.2.1 (show decode cL_law 15 = .ok (.astore_n 2, 1) from by decide +kernel) rfl hl1 (by decide) rfl fun ls2 hl2 => ?_
  refine lv_iconst (n := 0) (v := Int32.ofInt ((7 * 0 : Nat) : Int)) hC.1 hC.2.1 (cc := cL_law) (by decide +kernel) rfl ?_
  refine lv_istore_n (i := 3) (lv' := [(3, .int (Int32.ofInt ((7 * 0 : Nat) : Int))), (2, .ref (E.1 + 89)), (1, .ref (E.1 + 0)), (0, .ref b)]) hC.1 hC.2.1 (show decode cL_law 17 = .ok (.istore_n 3, 1) from by decide +kernel) rfl hl2 (by decide) rfl fun ls3 hl3 => ?_
  exact lw_loop hX hEnd 512 0 cM65 H4 locs4 ls3 _ _ (by omega) (by omega) Inv_0 hW4 hS4 hl3 (by omega) (by omega)
end
