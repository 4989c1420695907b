/-! THE LAW: its loop -/
theorem and31 (x : Int32) : ∃ j : Nat, j < 32 ∧ (x &&& 31).toInt = (j : Int) := by
  have e : (x &&& 31).toInt = ((x.toBitVec &&& (BitVec.ofNat 32 31)).toNat : Int) := by
    show (x &&& 31).toBitVec.toInt = _
    rw [Int32.toBitVec_and]
    have h31 : (31 : Int32).toBitVec = (BitVec.ofNat 32 31) := rfl
    rw [h31, BitVec.toInt_eq_toNat_of_lt]
    rw [BitVec.toNat_and]
    have : x.toBitVec.toNat &&& ((BitVec.ofNat 32 31)).toNat ≤ ((BitVec.ofNat 32 31)).toNat := Nat.and_le_right
    have e2 : ((BitVec.ofNat 32 31)).toNat = 31 := rfl
    omega
  refine ⟨(x.toBitVec &&& (BitVec.ofNat 32 31)).toNat, ?_, e⟩
  rw [BitVec.toNat_and]
  have : x.toBitVec.toNat &&& ((BitVec.ofNat 32 31)).toNat ≤ ((BitVec.ofNat 32 31)).toNat := Nat.and_le_right
  have e2 : ((BitVec.ofNat 32 31)).toNat = 31 := rfl
  omega
section
variable {E : EN} {p : Program} {l : Launch} {e : Env} {s : State} {m : MethodId} {below : List Frame} {meth : Method} {c : Code} {Z : State → Prop} {H : Heap} {locs : List Loc} {ls : Array Slot} {cells slots : Nat} {b L : Nat} {xs : Nat → Int32} {T : Nat} {h : AH}

theorem lw_sw : decode cL_law 33 = .ok (.tableswitch 1101 0 31 #[143, 218, 241, 264, 287, 300, 323, 356, 399, 442, 475, 498, 521, 534, 547, 560, 583, 596, 609, 622, 635, 658, 681, 724, 757, 800, 833, 886, 929, 952, 995, 1038], 143) := by decide +kernel
theorem lw_any (hX : LC E p s m meth c b L xs) (hl : lwS ls E.1 b T) (hT : 7 * T + 7 ≤ L) (hI : Inv h T) (hW : Wd E.2.1 E.2.2 E.1 h H) (hS : va_S (ab E.1) s.heap H locs) (hc : cells + 5 ≤ 600000) (hs : slots + 2375 ≤ 7302250) (k : ∀ (h2 : AH) (H2 : Heap) (locs2 : List Loc) (cells2 slots2 : Nat), Inv h2 (T + 1) → Wd E.2.1 E.2.2 E.1 h2 H2 → va_S (ab E.1) s.heap H2 locs2 → cells2 ≤ cells + 5 → slots2 ≤ slots + 2375 → W p l e room_1 s m #[Value.ref b] below meth c H2 locs2 cells2 slots2 Z (F0 m 1134 ls [])) (j : Nat) (hj : j < 32) : W p l e room_1 s m #[Value.ref b] below meth c H locs cells slots Z (F0 m (lwT j) ls []) := by
  match j, hj with
  | 0, _ => exact lw_0 hX hl hT hI hW hS hc hs k
  | 1, _ => exact lw_1 hX hl hT hI hW hS hc hs k
  | 2, _ => exact lw_2 hX hl hT hI hW hS hc hs k
  | 3, _ => exact lw_3 hX hl hT hI hW hS hc hs k
  | 4, _ => exact lw_4 hX hl hT hI hW hS hc hs k
  | 5, _ => exact lw_5 hX hl hT hI hW hS hc hs k
  | 6, _ => exact lw_6 hX hl hT hI hW hS hc hs k
  | 7, _ => exact lw_7 hX hl hT hI hW hS hc hs k
  | 8, _ => exact lw_8 hX hl hT hI hW hS hc hs k
  | 9, _ => exact lw_9 hX hl hT hI hW hS hc hs k
  | 10, _ => exact lw_10 hX hl hT hI hW hS hc hs k
  | 11, _ => exact lw_11 hX hl hT hI hW hS hc hs k
  | 12, _ => exact lw_12 hX hl hT hI hW hS hc hs k
  | 13, _ => exact lw_13 hX hl hT hI hW hS hc hs k
  | 14, _ => exact lw_14 hX hl hT hI hW hS hc hs k
  | 15, _ => exact lw_15 hX hl hT hI hW hS hc hs k
  | 16, _ => exact lw_16 hX hl hT hI hW hS hc hs k
  | 17, _ => exact lw_17 hX hl hT hI hW hS hc hs k
  | 18, _ => exact lw_18 hX hl hT hI hW hS hc hs k
  | 19, _ => exact lw_19 hX hl hT hI hW hS hc hs k
  | 20, _ => exact lw_20 hX hl hT hI hW hS hc hs k
  | 21, _ => exact lw_21 hX hl hT hI hW hS hc hs k
  | 22, _ => exact lw_22 hX hl hT hI hW hS hc hs k
  | 23, _ => exact lw_23 hX hl hT hI hW hS hc hs k
  | 24, _ => exact lw_24 hX hl hT hI hW hS hc hs k
  | 25, _ => exact lw_25 hX hl hT hI hW hS hc hs k
  | 26, _ => exact lw_26 hX hl hT hI hW hS hc hs k
  | 27, _ => exact lw_27 hX hl hT hI hW hS hc hs k
  | 28, _ => exact lw_28 hX hl hT hI hW hS hc hs k
  | 29, _ => exact lw_29 hX hl hT hI hW hS hc hs k
  | 30, _ => exact lw_30 hX hl hT hI hW hS hc hs k
  | 31, _ => exact lw_31 hX hl hT hI hW hS hc hs k
  | n + 32, q => exact absurd q (by omega)
theorem lw_off (j : Nat) (hj : j < 32) : ∃ o : Int, (#[143, 218, 241, 264, 287, 300, 323, 356, 399, 442, 475, 498, 521, 534, 547, 560, 583, 596, 609, 622, 635, 658, 681, 724, 757, 800, 833, 886, 929, 952, 995, 1038] : Array Int)[j]? = some o ∧ (33 : Int) + o = (lwT j : Int) := by
  match j, hj with
  | 0, _ => exact ⟨143, rfl, rfl⟩
  | 1, _ => exact ⟨218, rfl, rfl⟩
  | 2, _ => exact ⟨241, rfl, rfl⟩
  | 3, _ => exact ⟨264, rfl, rfl⟩
  | 4, _ => exact ⟨287, rfl, rfl⟩
  | 5, _ => exact ⟨300, rfl, rfl⟩
  | 6, _ => exact ⟨323, rfl, rfl⟩
  | 7, _ => exact ⟨356, rfl, rfl⟩
  | 8, _ => exact ⟨399, rfl, rfl⟩
  | 9, _ => exact ⟨442, rfl, rfl⟩
  | 10, _ => exact ⟨475, rfl, rfl⟩
  | 11, _ => exact ⟨498, rfl, rfl⟩
  | 12, _ => exact ⟨521, rfl, rfl⟩
  | 13, _ => exact ⟨534, rfl, rfl⟩
  | 14, _ => exact ⟨547, rfl, rfl⟩
  | 15, _ => exact ⟨560, rfl, rfl⟩
  | 16, _ => exact ⟨583, rfl, rfl⟩
  | 17, _ => exact ⟨596, rfl, rfl⟩
  | 18, _ => exact ⟨609, rfl, rfl⟩
  | 19, _ => exact ⟨622, rfl, rfl⟩
  | 20, _ => exact ⟨635, rfl, rfl⟩
  | 21, _ => exact ⟨658, rfl, rfl⟩
  | 22, _ => exact ⟨681, rfl, rfl⟩
  | 23, _ => exact ⟨724, rfl, rfl⟩
  | 24, _ => exact ⟨757, rfl, rfl⟩
  | 25, _ => exact ⟨800, rfl, rfl⟩
  | 26, _ => exact ⟨833, rfl, rfl⟩
  | 27, _ => exact ⟨886, rfl, rfl⟩
  | 28, _ => exact ⟨929, rfl, rfl⟩
  | 29, _ => exact ⟨952, rfl, rfl⟩
  | 30, _ => exact ⟨995, rfl, rfl⟩
  | 31, _ => exact ⟨1038, rfl, rfl⟩
  | n + 32, q => exact absurd q (by omega)
theorem lw_step (hX : LC E p s m meth c b L xs) (hEnd : ∀ (H : Heap) (ls : Array Slot), W p l e room_1 s m #[Value.ref b] below meth c H [] 600000 7302250 Z (F0 m 1141 ls [.int 1])) (hI : Inv h T) (hW : Wd E.2.1 E.2.2 E.1 h H) (hS : va_S (ab E.1) s.heap H locs) (hl : lwS ls E.1 b T) (hc : cells ≤ 2000 + 5 * T) (hs : slots ≤ 60000 + 2375 * T) (h7 : 7 * T ≤ L)
    (k : 7 * T + 7 ≤ L → ∀ (h2 : AH) (H2 : Heap) (locs2 : List Loc) (ls2 : Array Slot) (cells2 slots2 : Nat), Inv h2 (T + 1) → Wd E.2.1 E.2.2 E.1 h2 H2 → va_S (ab E.1) s.heap H2 locs2 → lwS ls2 E.1 b (T + 1) → cells2 ≤ cells + 5 → slots2 ≤ slots + 2375 → W p l e room_1 s m #[Value.ref b] below meth c H2 locs2 cells2 slots2 Z (F0 m 18 ls2 [])) : W p l e room_1 s m #[Value.ref b] below meth c H locs cells slots Z (F0 m 18 ls []) := by
  have hC := hX.1
  obtain ⟨-, hq, hx, hb, hL⟩ := id hX
  have l0 := hl.2.2 (0, .ref b) (by simp)
  have l3 := hl.2.2 (3, .int (Int32.ofInt ((7 * T : Nat) : Int))) (by simp)
  have hbA : ¬ ab E.1 b := by show ¬ E.1 ≤ b; omega
  have i7 : inr ((7 * T : Nat) : Int) := by unfold inr; omega
  have iL : inr ((L : Int) - 7) := by unfold inr; omega
  refine lv_iload_n hC.1 hC.2.1 (show decode cL_law 18 = .ok (.iload_n 3, 1) from by decide +kernel) rfl l3 ?_
  refine lv_aload_n hC.1 hC.2.1 (show decode cL_law 19 = .ok (.aload_n 0, 1) from by decide +kernel) rfl l0 ?_
  refine va_slen hC.1 hC.2.1 (cc := cL_law) hx hb hbA hS (by decide +kernel) ?_
  refine lv_bipush (n := 7) (v := Int32.ofInt 7) hC.1 hC.2.1 (cc := cL_law) (by decide +kernel) rfl ?_
  refine lv_isub hC.1 hC.2.1 (cc := cL_law) (by decide +kernel) ?_
  have eL : Int32.ofNat L - Int32.ofInt 7 = Int32.ofInt ((L : Int) - 7) := by
    rw [← oi_sub]; rfl
  rw [eL]
  refine lv_icmp_gt hC.1 hC.2.1 (cc := cL_law) (off := 1116) (tgt := 1140) (by decide +kernel) (by decide) (fun _ => ?_) (fun q => ?_)
  · refine lv_iconst (n := 1) (v := 1) hC.1 hC.2.1 (cc := cL_law) (by decide +kernel) rfl ?_
    refine W.forget (locs := []) (L := locs) (fun q hq2 => by have := hS.2.2 q hq2; show s.heap.size ≤ q.base; rw [← hq]; exact this) ?_
    exact W.widen (k := 600000) (n := 7302250) (by omega) (by omega) (hEnd H ls)
  · rw [oi_lt iL i7] at q
    have hT : 7 * T + 7 ≤ L := by omega
    have hbe : cells + 5 ≤ 600000 ∧ slots + 2375 ≤ 7302250 := ⟨by omega, by omega⟩
    refine lv_aload_n hC.1 hC.2.1 (show decode cL_law 27 = .ok (.aload_n 0, 1) from by decide +kernel) rfl l0 ?_
    refine lv_iload_n hC.1 hC.2.1 (show decode cL_law 28 = .ok (.iload_n 3, 1) from by decide +kernel) rfl l3 ?_
    refine larg (j := 0) hX hS (by omega) hT (by decide +kernel) ?_
    refine lv_bipush (n := 31) (v := 31) hC.1 hC.2.1 (cc := cL_law) (by decide +kernel) rfl ?_
    refine lv_iand hC.1 hC.2.1 (cc := cL_law) (by decide +kernel) ?_
    obtain ⟨j, hj, ej⟩ := and31 (xs (7 * T + 0))
    obtain ⟨o, ho, eo⟩ := lw_off j hj
    refine lv_tableIn hC.1 hC.2.1 (cc := cL_law) lw_sw (by rw [ej]; omega) (by rw [ej]; omega) (off := o) (tgt := lwT j) (by rw [ej, show ((j : Int) - 0).toNat = j by omega]; exact ho) eo ?_
    refine lw_any hX hl hT hI hW hS hbe.1 hbe.2 (fun h2 H2 locs2 cells2 slots2 hI2 hW2 hS2 hc2 hs2 => ?_) j hj
    refine lv_iinc (k := 0) (v := Int32.ofInt ((7 * (T + 1) : Nat) : Int)) hC.1 hC.2.1 (cc := cL_law) (i := 3) (n := 7) (by decide +kernel) hl rfl (by rw [oi_add]; congr 1) (by decide) rfl (fun ls2 hl2 => ?_)
    exact lv_goto hC.1 hC.2.1 (cc := cL_law) (off := -1119) (tgt := 18) (by decide +kernel) (by decide) (k hT h2 H2 locs2 ls2 cells2 slots2 hI2 hW2 hS2 hl2 hc2 hs2)
/-- the loop -/
theorem lw_loop (hX : LC E p s m meth c b L xs) (hEnd : ∀ (H : Heap) (ls : Array Slot), W p l e room_1 s m #[Value.ref b] below meth c H [] 600000 7302250 Z (F0 m 1141 ls [.int 1])) : ∀ (n T : Nat) (h : AH) (H : Heap) (locs : List Loc) (ls : Array Slot) (cells slots : Nat), 512 ≤ T + n → 7 * T ≤ L → Inv h T → Wd E.2.1 E.2.2 E.1 h H → va_S (ab E.1) s.heap H locs → lwS ls E.1 b T → cells ≤ 2000 + 5 * T → slots ≤ 60000 + 2375 * T → W p l e room_1 s m #[Value.ref b] below meth c H locs cells slots Z (F0 m 18 ls []) := by
  intro n
  have hC := hX.1
  obtain ⟨-, hq, hx, hb, hL⟩ := id hX
  induction n with
  | zero =>
    intro T h H locs ls cells slots h1 h2 hI hW hS hl hc hs
    exact lw_step hX hEnd hI hW hS hl hc hs h2 (fun hT => absurd hT (by omega))
  | succ n ih =>
    intro T h H locs ls cells slots h1 h2 hI hW hS hl hc hs
    refine lw_step hX hEnd hI hW hS hl hc hs h2 (fun hT h2 H2 locs2 ls2 cells2 slots2 hI2 hW2 hS2 hl2 hc2 hs2 => ?_)
    exact ih (T + 1) h2 H2 locs2 ls2 cells2 slots2 (by omega) (by omega) hI2 hW2 hS2 hl2 (by omega) (by rw [Nat.mul_succ, ← Nat.add_assoc]; exact Nat.le_trans hs2 (Nat.add_le_add_right hs _))
end
