section
/-! ROWS OF ROWS, as an exit -/
def muN (t : Nat) : String := if t = 21 then "[[I" else "[[Z"
def muK (t : Nat) : Nat := if t = 21 then 13 else 15
def ckMu (y : MI) (o pc : Nat) (es : List IE) (q i t : Nat) : Bool := ckB y o pc es q && decide (decode y.2.1 q = .ok (.multianewarray i 2, 4)) && (decide (t = 21) || decide (t = 22))
variable {y : MI} {d rc rs : Nat} {Q : Option AV → AH → Prop} {o pc q i t : Nat} {es : List IE} {lo : List (Option AV)} {st : List AV} {h : AH}
theorem xMulti (hb : ckMu y o pc es q i t = true) (hl : Cond.classLink y.1.cls i (muN t) ∈ gt) (k : wpB es lo st h (fun lo stk h => pI stk fun z r => pI r fun x r => (0 ≤ x ∧ 0 ≤ z ∧ x ≤ 100000 ∧ z ≤ 100000 ∧ 1 + x.toNat ≤ rc ∧ x.toNat + x.toNat * z.toNat ≤ rs) ∧ wp y d (rc - (1 + x.toNat)) (rs - (x.toNat + x.toNat * z.toNat)) Q (q + 4) lo (vr (nH h) :: r) (mu h t x.toNat (muK t) z.toNat))) : wp y d rc rs Q pc lo st h := by
  simp only [ckMu, Bool.and_eq_true, Bool.or_eq_true, decide_eq_true_eq] at hb
  obtain ⟨⟨h1, h2⟩, h3⟩ := hb
  refine xB h1 (wpB_mono ?_ k)
  intro lo st h hk
  obtain ⟨z, r, rfl, hk2⟩ := pI_e hk
  obtain ⟨x, r, rfl, ⟨k1, k2, k3, k4, k5, k6⟩, k7⟩ := pI_e hk2
  rcases h3 with rfl | rfl
  · exact w_multi (ft := .int) (Or.inl ⟨rfl, rfl, rfl⟩) h2 hl acI k1 k2 k3 k4 k5 k6 k7
  · exact w_multi (ft := .boolean) (Or.inr ⟨rfl, rfl, rfl⟩) h2 hl acZ k1 k2 k3 k4 k5 k6 k7
/-- the heap at the very start: no cell -/
def hE : AH := (0, fun _ => (0, 0), fun _ _ => 0, fun _ _ => 0, fun _ _ => none)
/-- the whole numbers of a heap: all are 0 but those that are listed -/
def zLook : List (Nat × Nat × Int) → Nat → Nat → Int
  | [], _, _ => 0
  | e :: r, x, y => if x = e.1 ∧ y = e.2.1 then e.2.2 else zLook r x y
def ZI (S : List (Nat × Nat × Int)) (h : AH) : Prop := ∀ x y, iH h x y = zLook S x y
theorem ZI_0 : ZI [] hE := fun _ _ => rfl
theorem ZI_sR {S : List (Nat × Nat × Int)} {h : AH} {a k : Nat} {v : Option Nat} (z : ZI S h) : ZI S (sR h a k v) := z
theorem ZI_sI {S : List (Nat × Nat × Int)} {h : AH} {a k : Nat} {v : Int} (z : ZI S h) : ZI ((a, k, v) :: S) (sI h a k v) := fun x y => by
  show u2 h.2.2.1 a k v x y = if x = a ∧ y = k then v else zLook S x y
  have : h.2.2.1 x y = zLook S x y := z x y
  unfold u2
  by_cases e : x = a
  · by_cases e2 : y = k
    · rw [if_pos e, if_pos e2, if_pos ⟨e, e2⟩]
    · rw [if_pos e, if_neg e2, if_neg (fun c => e2 c.2)]; exact this
  · rw [if_neg e, if_neg (fun c => e c.1)]; exact this
theorem zLook_0 {S : List (Nat × Nat × Int)} {m : Nat} (c : S.all (fun e => decide (e.1 < m)) = true) {x y : Nat} (hx : m ≤ x) : zLook S x y = 0 := by
  induction S with
  | nil => rfl
  | cons e r ih =>
    simp only [List.all_cons, Bool.and_eq_true, decide_eq_true_eq] at c
    show (if x = e.1 ∧ y = e.2.1 then e.2.2 else zLook r x y) = 0
    rw [if_neg (fun q => by omega)]
    exact ih c.2
theorem ZI_nw {S : List (Nat × Nat × Int)} {h : AH} {t n m : Nat} (z : ZI S h) (c : S.all (fun e => decide (e.1 < nH h)) = true) : ZI S ((m, (nw h t n).2) : AH) := fun x y => by
  show r2 h.2.2.1 h.1 (fun _ => 0) x y = _
  unfold r2
  by_cases e : x = h.1
  · rw [if_pos e, zLook_0 c (Nat.le_of_eq e.symm)]
  · rw [if_neg e]; exact z x y
theorem ZI_mu {S : List (Nat × Nat × Int)} {h : AH} {t n rk k m : Nat} (z : ZI S h) (c : S.all (fun e => decide (e.1 < nH h)) = true) : ZI S ((m, (mu h t n rk k).2) : AH) := fun x y => by
  show (if x < h.1 then h.2.2.1 x y else 0) = _
  by_cases e : x < h.1
  · rw [if_pos e]; exact z x y
  · rw [if_neg e, zLook_0 c (Nat.le_of_not_lt e)]
end
def b_X11_init_0 : List IE := [(.aload_n 0, 1, 0, 0, 0, 0)]
theorem k_X11_init_0 : ckObj mX11_init 11 0 b_X11_init_0 1 1 = true := by decide +kernel
def b_X11_init_4 : List IE := [(.aload_n 0, 1, 0, 0, 0, 0)]
theorem k_X11_init_4 : ckNew mX11_init 11 4 b_X11_init_4 5 7 10 = true := by decide +kernel
def b_X11_init_8 : List IE := [(.dup, 1, 0, 0, 0, 0)]
theorem k_X11_init_8 : ckB mX11_init 11 8 b_X11_init_8 9 = true := by decide +kernel
def b_X11_init_12 : List IE := [(.putfield 10, 3, 0, 11, 0, 1), (.aload_n 0, 1, 0, 0, 0, 0), (.iconst 4, 1, 4, 0, 0, 0)]
theorem k_X11_init_12 : ckAnew mX11_init 11 12 b_X11_init_12 17 16 16 = true := by decide +kernel
def b_X11_init_20 : List IE := [(.putfield 18, 3, 0, 11, 1, 1), (.aload_n 0, 1, 0, 0, 0, 0)]
theorem k_X11_init_20 : ckNew mX11_init 11 20 b_X11_init_20 24 22 9 = true := by decide +kernel
def b_X11_init_27 : List IE := [(.dup, 1, 0, 0, 0, 0)]
theorem k_X11_init_27 : ckB mX11_init 11 27 b_X11_init_27 28 = true := by decide +kernel
def b_X11_init_31 : List IE := [(.putfield 25, 3, 0, 11, 3, 1), (.aload_n 0, 1, 0, 0, 0, 0)]
theorem k_X11_init_31 : ckNew mX11_init 11 31 b_X11_init_31 35 22 9 = true := by decide +kernel
def b_X11_init_38 : List IE := [(.dup, 1, 0, 0, 0, 0)]
theorem k_X11_init_38 : ckB mX11_init 11 38 b_X11_init_38 39 = true := by decide +kernel
def b_X11_init_42 : List IE := [(.putfield 29, 3, 0, 11, 4, 1), (.aload_n 0, 1, 0, 0, 0, 0)]
theorem k_X11_init_42 : ckNew mX11_init 11 42 b_X11_init_42 46 22 9 = true := by decide +kernel
def b_X11_init_49 : List IE := [(.dup, 1, 0, 0, 0, 0)]
theorem k_X11_init_49 : ckB mX11_init 11 49 b_X11_init_49 50 = true := by decide +kernel
def b_X11_init_53 : List IE := [(.putfield 32, 3, 0, 11, 5, 1), (.aload_n 0, 1, 0, 0, 0, 0), (.iconst 4, 1, 4, 0, 0, 0)]
theorem k_X11_init_53 : ckAnew mX11_init 11 53 b_X11_init_53 58 22 20 = true := by decide +kernel
def b_X11_init_61 : List IE := [(.putfield 35, 3, 0, 11, 6, 1), (.aload_n 0, 1, 0, 0, 0, 0), (.bipush 7, 2, 7, 0, 0, 0)]
theorem k_X11_init_61 : ckAnew mX11_init 11 61 b_X11_init_61 67 22 20 = true := by decide +kernel
def b_X11_init_70 : List IE := [(.putfield 39, 3, 0, 11, 7, 1), (.aload_n 0, 1, 0, 0, 0, 0)]
theorem k_X11_init_70 : ckNew mX11_init 11 70 b_X11_init_70 74 42 4 = true := by decide +kernel
def b_X11_init_77 : List IE := [(.dup, 1, 0, 0, 0, 0)]
theorem k_X11_init_77 : ckB mX11_init 11 77 b_X11_init_77 78 = true := by decide +kernel
def b_X11_init_81 : List IE := [(.putfield 45, 3, 0, 11, 9, 1), (.aload_n 0, 1, 0, 0, 0, 0)]
theorem k_X11_init_81 : ckNew mX11_init 11 81 b_X11_init_81 85 49 3 = true := by decide +kernel
def b_X11_init_88 : List IE := [(.dup, 1, 0, 0, 0, 0)]
theorem k_X11_init_88 : ckB mX11_init 11 88 b_X11_init_88 89 = true := by decide +kernel
def b_X11_init_92 : List IE := [(.putfield 52, 3, 0, 11, 10, 1), (.aload_n 0, 1, 0, 0, 0, 0), (.sipush 9999, 3, 9999, 0, 0, 0), (.putfield 56, 3, 0, 11, 11, 0), (.aload_n 0, 1, 0, 0, 0, 0), (.bipush 6, 2, 6, 0, 0, 0)]
theorem k_X11_init_92 : ckAnew mX11_init 11 92 b_X11_init_92 105 60 17 = true := by decide +kernel
def b_X11_init_108 : List IE := [(.putfield 62, 3, 0, 11, 12, 1), (.aload_n 0, 1, 0, 0, 0, 0)]
theorem k_X11_init_108 : ckNew mX11_init 11 108 b_X11_init_108 112 66 6 = true := by decide +kernel
def b_X11_init_115 : List IE := [(.dup, 1, 0, 0, 0, 0), (.aload_n 0, 1, 0, 0, 0, 0), (.getfield 10, 3, 0, 11, 0, 1)]
theorem k_X11_init_115 : ckB mX11_init 11 115 b_X11_init_115 120 = true := by decide +kernel
def b_X11_init_123 : List IE := [(.putfield 71, 3, 0, 11, 14, 1), (.aload_n 0, 1, 0, 0, 0, 0)]
theorem k_X11_init_123 : ckNew mX11_init 11 123 b_X11_init_123 127 75 2 = true := by decide +kernel
def b_X11_init_130 : List IE := [(.dup, 1, 0, 0, 0, 0)]
theorem k_X11_init_130 : ckB mX11_init 11 130 b_X11_init_130 131 = true := by decide +kernel
def b_X11_init_134 : List IE := [(.putfield 78, 3, 0, 11, 15, 1), (.aload_n 0, 1, 0, 0, 0, 0), (.iconst 4, 1, 4, 0, 0, 0)]
theorem k_X11_init_134 : ckAnew mX11_init 11 134 b_X11_init_134 139 82 19 = true := by decide +kernel
def b_X11_init_142 : List IE := [(.putfield 84, 3, 0, 11, 16, 1), (.aload_n 0, 1, 0, 0, 0, 0)]
theorem k_X11_init_142 : ckNew mX11_init 11 142 b_X11_init_142 146 88 1 = true := by decide +kernel
def b_X11_init_149 : List IE := [(.dup, 1, 0, 0, 0, 0)]
theorem k_X11_init_149 : ckB mX11_init 11 149 b_X11_init_149 150 = true := by decide +kernel
def b_X11_init_153 : List IE := [(.putfield 91, 3, 0, 11, 17, 1), (.aload_n 0, 1, 0, 0, 0, 0)]
theorem k_X11_init_153 : ckNew mX11_init 11 153 b_X11_init_153 157 88 1 = true := by decide +kernel
def b_X11_init_160 : List IE := [(.dup, 1, 0, 0, 0, 0)]
theorem k_X11_init_160 : ckB mX11_init 11 160 b_X11_init_160 161 = true := by decide +kernel
def b_X11_init_164 : List IE := [(.putfield 95, 3, 0, 11, 18, 1), (.aload_n 0, 1, 0, 0, 0, 0), (.bipush 64, 2, 64, 0, 0, 0)]
theorem k_X11_init_164 : ckNewa mX11_init 11 164 b_X11_init_164 170 13 = true := by decide +kernel
def b_X11_init_172 : List IE := [(.putfield 98, 3, 0, 11, 19, 1), (.aload_n 0, 1, 0, 0, 0, 0), (.getfield 25, 3, 0, 11, 3, 1), (.iconst 1, 1, 1, 0, 0, 0), (.putfield 102, 3, 0, 9, 3, 2), (.aload_n 0, 1, 0, 0, 0, 0), (.getfield 32, 3, 0, 11, 5, 1), (.iconst 1, 1, 1, 0, 0, 0), (.putfield 102, 3, 0, 9, 3, 2), (.aload_n 0, 1, 0, 0, 0, 0), (.getfield 39, 3, 0, 11, 7, 1), (.iconst 0, 1, 0, 0, 0, 0), (.aload_n 0, 1, 0, 0, 0, 0), (.getfield 25, 3, 0, 11, 3, 1), (.aastore, 1, 0, 0, 0, 0), (.aload_n 0, 1, 0, 0, 0, 0), (.getfield 39, 3, 0, 11, 7, 1), (.iconst 1, 1, 1, 0, 0, 0), (.aload_n 0, 1, 0, 0, 0, 0), (.getfield 32, 3, 0, 11, 5, 1), (.aastore, 1, 0, 0, 0, 0), (.aload_n 0, 1, 0, 0, 0, 0), (.getfield 39, 3, 0, 11, 7, 1), (.iconst 2, 1, 2, 0, 0, 0), (.aload_n 0, 1, 0, 0, 0, 0), (.getfield 29, 3, 0, 11, 4, 1), (.aastore, 1, 0, 0, 0, 0), (.iconst 0, 1, 0, 0, 0, 0), (.istore_n 1, 1, 0, 0, 1, 0)]
theorem k_X11_init_172 : ckB mX11_init 11 172 b_X11_init_172 223 = true := by decide +kernel
def b_X11_init_223 : List IE := [(.iload_n 1, 1, 0, 0, 1, 0), (.iconst 4, 1, 4, 0, 0, 0)]
theorem k_X11_init_223 : ckIc mX11_init 11 223 b_X11_init_223 225 3 36 261 228 = true := by decide +kernel
def b_X11_init_228 : List IE := [(.aload_n 0, 1, 0, 0, 0, 0), (.getfield 35, 3, 0, 11, 6, 1), (.iload_n 1, 1, 0, 0, 1, 0)]
theorem k_X11_init_228 : ckNew mX11_init 11 228 b_X11_init_228 233 22 9 = true := by decide +kernel
def b_X11_init_236 : List IE := [(.dup, 1, 0, 0, 0, 0)]
theorem k_X11_init_236 : ckB mX11_init 11 236 b_X11_init_236 237 = true := by decide +kernel
def b_X11_init_240 : List IE := [(.aastore, 1, 0, 0, 0, 0), (.aload_n 0, 1, 0, 0, 0, 0), (.getfield 39, 3, 0, 11, 7, 1), (.iconst 3, 1, 3, 0, 0, 0), (.iload_n 1, 1, 0, 0, 1, 0), (.iadd, 1, 0, 0, 0, 0), (.aload_n 0, 1, 0, 0, 0, 0), (.getfield 35, 3, 0, 11, 6, 1), (.iload_n 1, 1, 0, 0, 1, 0), (.aaload, 1, 0, 0, 0, 0), (.aastore, 1, 0, 0, 0, 0), (.iinc 1 1, 3, 1, 0, 1, 0)]
theorem k_X11_init_240 : ckGo mX11_init 11 240 b_X11_init_240 258 (-35) 223 = true := by decide +kernel
def b_X11_init_261 : List IE := [(.iconst 0, 1, 0, 0, 0, 0), (.istore_n 1, 1, 0, 0, 1, 0)]
theorem k_X11_init_261 : ckB mX11_init 11 261 b_X11_init_261 263 = true := by decide +kernel
def b_X11_init_263 : List IE := [(.iload_n 1, 1, 0, 0, 1, 0), (.bipush 6, 2, 6, 0, 0, 0)]
theorem k_X11_init_263 : ckIc mX11_init 11 263 b_X11_init_263 266 3 22 288 269 = true := by decide +kernel
def b_X11_init_269 : List IE := [(.aload_n 0, 1, 0, 0, 0, 0), (.getfield 62, 3, 0, 11, 12, 1), (.iload_n 1, 1, 0, 0, 1, 0)]
theorem k_X11_init_269 : ckNew mX11_init 11 269 b_X11_init_269 274 60 5 = true := by decide +kernel
def b_X11_init_277 : List IE := [(.dup, 1, 0, 0, 0, 0)]
theorem k_X11_init_277 : ckB mX11_init 11 277 b_X11_init_277 278 = true := by decide +kernel
def b_X11_init_281 : List IE := [(.aastore, 1, 0, 0, 0, 0), (.iinc 1 1, 3, 1, 0, 1, 0)]
theorem k_X11_init_281 : ckGo mX11_init 11 281 b_X11_init_281 285 (-22) 263 = true := by decide +kernel
def b_X11_init_288 : List IE := [(.iconst 0, 1, 0, 0, 0, 0), (.istore_n 1, 1, 0, 0, 1, 0)]
theorem k_X11_init_288 : ckB mX11_init 11 288 b_X11_init_288 290 = true := by decide +kernel
def b_X11_init_290 : List IE := [(.iload_n 1, 1, 0, 0, 1, 0), (.iconst 4, 1, 4, 0, 0, 0)]
theorem k_X11_init_290 : ckIc mX11_init 11 290 b_X11_init_290 292 3 22 314 295 = true := by decide +kernel
def b_X11_init_295 : List IE := [(.aload_n 0, 1, 0, 0, 0, 0), (.getfield 84, 3, 0, 11, 16, 1), (.iload_n 1, 1, 0, 0, 1, 0)]
theorem k_X11_init_295 : ckNew mX11_init 11 295 b_X11_init_295 300 82 8 = true := by decide +kernel
def b_X11_init_303 : List IE := [(.dup, 1, 0, 0, 0, 0)]
theorem k_X11_init_303 : ckB mX11_init 11 303 b_X11_init_303 304 = true := by decide +kernel
def b_X11_init_307 : List IE := [(.aastore, 1, 0, 0, 0, 0), (.iinc 1 1, 3, 1, 0, 1, 0)]
theorem k_X11_init_307 : ckGo mX11_init 11 307 b_X11_init_307 311 (-21) 290 = true := by decide +kernel
def b_X11_init_314 : List IE := []
theorem k_X11_init_314 : ckV mX11_init 11 314 b_X11_init_314 314 = true := by decide +kernel
theorem s_X11_init_1 : Cond.methodLink mX11_init.1.cls 1 objectInit ∈ gt ∧ Cond.instanceMethod objectInit ∈ gt ∧ Cond.code objectInit ⟨#[0xb1]⟩ 1 none ∈ gt := ⟨gt_ok (List.mem_of_getElem? (i := 115) (by decide +kernel)) (by decide +kernel), gt_ok (List.mem_of_getElem? (i := 116) (by decide +kernel)) (by decide +kernel), gt_ok (List.mem_of_getElem? (i := 117) (by decide +kernel)) (by decide +kernel)⟩
theorem s_X11_init_5 : Cond.classLink mX11_init.1.cls 7 (rx 10) ∈ gt ∧ Cond.instantiable (rx 10) (nf 10) ∈ gt ∧ Cond.initialized (rx 10) ∈ gt := ⟨gt_ok (List.mem_of_getElem? (i := 118) (by decide +kernel)) (by decide +kernel), gt_ok (List.mem_of_getElem? (i := 119) (by decide +kernel)) (by decide +kernel), gt_ok (List.mem_of_getElem? (i := 91) (by decide +kernel)) (by decide +kernel)⟩
theorem s_X11_init_9 : cI mX11_init 9 mX10_init 9 0 := ⟨by decide +kernel, Or.inr ⟨ml_X10_init, rfl, by decide +kernel, im_X10_init, rfl, rfl⟩, by decide +kernel⟩
theorem s_X11_init_17 : Cond.classLink mX11_init.1.cls 16 (rx (elK 16)) ∈ gt := gt_ok (List.mem_of_getElem? (i := 141) (by decide +kernel)) (by decide +kernel)
theorem s_X11_init_24 : Cond.classLink mX11_init.1.cls 22 (rx 9) ∈ gt ∧ Cond.instantiable (rx 9) (nf 9) ∈ gt ∧ Cond.initialized (rx 9) ∈ gt := ⟨gt_ok (List.mem_of_getElem? (i := 143) (by decide +kernel)) (by decide +kernel), gt_ok (List.mem_of_getElem? (i := 144) (by decide +kernel)) (by decide +kernel), gt_ok (List.mem_of_getElem? (i := 92) (by decide +kernel)) (by decide +kernel)⟩
theorem s_X11_init_28 : cI mX11_init 28 mX9_init 24 0 := ⟨by decide +kernel, Or.inr ⟨ml_X9_init, rfl, by decide +kernel, im_X9_init, rfl, rfl⟩, by decide +kernel⟩
theorem s_X11_init_35 : Cond.classLink mX11_init.1.cls 22 (rx 9) ∈ gt ∧ Cond.instantiable (rx 9) (nf 9) ∈ gt ∧ Cond.initialized (rx 9) ∈ gt := ⟨gt_ok (List.mem_of_getElem? (i := 143) (by decide +kernel)) (by decide +kernel), gt_ok (List.mem_of_getElem? (i := 144) (by decide +kernel)) (by decide +kernel), gt_ok (List.mem_of_getElem? (i := 92) (by decide +kernel)) (by decide +kernel)⟩
theorem s_X11_init_39 : cI mX11_init 39 mX9_init 24 0 := ⟨by decide +kernel, Or.inr ⟨ml_X9_init, rfl, by decide +kernel, im_X9_init, rfl, rfl⟩, by decide +kernel⟩
theorem s_X11_init_46 : Cond.classLink mX11_init.1.cls 22 (rx 9) ∈ gt ∧ Cond.instantiable (rx 9) (nf 9) ∈ gt ∧ Cond.initialized (rx 9) ∈ gt := ⟨gt_ok (List.mem_of_getElem? (i := 143) (by decide +kernel)) (by decide +kernel), gt_ok (List.mem_of_getElem? (i := 144) (by decide +kernel)) (by decide +kernel), gt_ok (List.mem_of_getElem? (i := 92) (by decide +kernel)) (by decide +kernel)⟩
theorem s_X11_init_50 : cI mX11_init 50 mX9_init 24 0 := ⟨by decide +kernel, Or.inr ⟨ml_X9_init, rfl, by decide +kernel, im_X9_init, rfl, rfl⟩, by decide +kernel⟩
theorem s_X11_init_58 : Cond.classLink mX11_init.1.cls 22 (rx (elK 20)) ∈ gt := gt_ok (List.mem_of_getElem? (i := 143) (by decide +kernel)) (by decide +kernel)
theorem s_X11_init_67 : Cond.classLink mX11_init.1.cls 22 (rx (elK 20)) ∈ gt := gt_ok (List.mem_of_getElem? (i := 143) (by decide +kernel)) (by decide +kernel)
theorem s_X11_init_74 : Cond.classLink mX11_init.1.cls 42 (rx 4) ∈ gt ∧ Cond.instantiable (rx 4) (nf 4) ∈ gt ∧ Cond.initialized (rx 4) ∈ gt := ⟨gt_ok (List.mem_of_getElem? (i := 178) (by decide +kernel)) (by decide +kernel), gt_ok (List.mem_of_getElem? (i := 179) (by decide +kernel)) (by decide +kernel), gt_ok (List.mem_of_getElem? (i := 93) (by decide +kernel)) (by decide +kernel)⟩
theorem s_X11_init_78 : cI mX11_init 78 mX4_init 44 0 := ⟨by decide +kernel, Or.inr ⟨ml_X4_init, rfl, by decide +kernel, im_X4_init, rfl, rfl⟩, by decide +kernel⟩
theorem s_X11_init_85 : Cond.classLink mX11_init.1.cls 49 (rx 3) ∈ gt ∧ Cond.instantiable (rx 3) (nf 3) ∈ gt ∧ Cond.initialized (rx 3) ∈ gt := ⟨gt_ok (List.mem_of_getElem? (i := 193) (by decide +kernel)) (by decide +kernel), gt_ok (List.mem_of_getElem? (i := 194) (by decide +kernel)) (by decide +kernel), gt_ok (List.mem_of_getElem? (i := 94) (by decide +kernel)) (by decide +kernel)⟩
theorem s_X11_init_89 : cI mX11_init 89 mX3_init 51 0 := ⟨by decide +kernel, Or.inr ⟨ml_X3_init, rfl, by decide +kernel, im_X3_init, rfl, rfl⟩, by decide +kernel⟩
theorem s_X11_init_105 : Cond.classLink mX11_init.1.cls 60 (rx (elK 17)) ∈ gt := gt_ok (List.mem_of_getElem? (i := 215) (by decide +kernel)) (by decide +kernel)
theorem s_X11_init_112 : Cond.classLink mX11_init.1.cls 66 (rx 6) ∈ gt ∧ Cond.instantiable (rx 6) (nf 6) ∈ gt ∧ Cond.initialized (rx 6) ∈ gt := ⟨gt_ok (List.mem_of_getElem? (i := 217) (by decide +kernel)) (by decide +kernel), gt_ok (List.mem_of_getElem? (i := 218) (by decide +kernel)) (by decide +kernel), gt_ok (List.mem_of_getElem? (i := 95) (by decide +kernel)) (by decide +kernel)⟩
theorem s_X11_init_120 : cI mX11_init 120 mX6_init 68 1 := ⟨by decide +kernel, Or.inl ⟨ml_X6_init, li_RX11_68, im_X6_init, rfl, rfl⟩, by decide +kernel⟩
theorem s_X11_init_127 : Cond.classLink mX11_init.1.cls 75 (rx 2) ∈ gt ∧ Cond.instantiable (rx 2) (nf 2) ∈ gt ∧ Cond.initialized (rx 2) ∈ gt := ⟨gt_ok (List.mem_of_getElem? (i := 248) (by decide +kernel)) (by decide +kernel), gt_ok (List.mem_of_getElem? (i := 249) (by decide +kernel)) (by decide +kernel), gt_ok (List.mem_of_getElem? (i := 96) (by decide +kernel)) (by decide +kernel)⟩
theorem s_X11_init_131 : cI mX11_init 131 mX2_init 77 0 := ⟨by decide +kernel, Or.inr ⟨ml_X2_init, rfl, by decide +kernel, im_X2_init, rfl, rfl⟩, by decide +kernel⟩
theorem s_X11_init_139 : Cond.classLink mX11_init.1.cls 82 (rx (elK 19)) ∈ gt := gt_ok (List.mem_of_getElem? (i := 265) (by decide +kernel)) (by decide +kernel)
theorem s_X11_init_146 : Cond.classLink mX11_init.1.cls 88 (rx 1) ∈ gt ∧ Cond.instantiable (rx 1) (nf 1) ∈ gt ∧ Cond.initialized (rx 1) ∈ gt := ⟨gt_ok (List.mem_of_getElem? (i := 267) (by decide +kernel)) (by decide +kernel), gt_ok (List.mem_of_getElem? (i := 268) (by decide +kernel)) (by decide +kernel), gt_ok (List.mem_of_getElem? (i := 97) (by decide +kernel)) (by decide +kernel)⟩
theorem s_X11_init_150 : cI mX11_init 150 mX1_init 90 0 := ⟨by decide +kernel, Or.inr ⟨ml_X1_init, rfl, by decide +kernel, im_X1_init, rfl, rfl⟩, by decide +kernel⟩
theorem s_X11_init_157 : Cond.classLink mX11_init.1.cls 88 (rx 1) ∈ gt ∧ Cond.instantiable (rx 1) (nf 1) ∈ gt ∧ Cond.initialized (rx 1) ∈ gt := ⟨gt_ok (List.mem_of_getElem? (i := 267) (by decide +kernel)) (by decide +kernel), gt_ok (List.mem_of_getElem? (i := 268) (by decide +kernel)) (by decide +kernel), gt_ok (List.mem_of_getElem? (i := 97) (by decide +kernel)) (by decide +kernel)⟩
theorem s_X11_init_161 : cI mX11_init 161 mX1_init 90 0 := ⟨by decide +kernel, Or.inr ⟨ml_X1_init, rfl, by decide +kernel, im_X1_init, rfl, rfl⟩, by decide +kernel⟩
theorem s_X11_init_233 : Cond.classLink mX11_init.1.cls 22 (rx 9) ∈ gt ∧ Cond.instantiable (rx 9) (nf 9) ∈ gt ∧ Cond.initialized (rx 9) ∈ gt := ⟨gt_ok (List.mem_of_getElem? (i := 143) (by decide +kernel)) (by decide +kernel), gt_ok (List.mem_of_getElem? (i := 144) (by decide +kernel)) (by decide +kernel), gt_ok (List.mem_of_getElem? (i := 92) (by decide +kernel)) (by decide +kernel)⟩
theorem s_X11_init_237 : cI mX11_init 237 mX9_init 24 0 := ⟨by decide +kernel, Or.inr ⟨ml_X9_init, rfl, by decide +kernel, im_X9_init, rfl, rfl⟩, by decide +kernel⟩
theorem s_X11_init_274 : Cond.classLink mX11_init.1.cls 60 (rx 5) ∈ gt ∧ Cond.instantiable (rx 5) (nf 5) ∈ gt ∧ Cond.initialized (rx 5) ∈ gt := ⟨gt_ok (List.mem_of_getElem? (i := 215) (by decide +kernel)) (by decide +kernel), gt_ok (List.mem_of_getElem? (i := 294) (by decide +kernel)) (by decide +kernel), gt_ok (List.mem_of_getElem? (i := 98) (by decide +kernel)) (by decide +kernel)⟩
theorem s_X11_init_278 : cI mX11_init 278 mX5_init 106 0 := ⟨by decide +kernel, Or.inr ⟨ml_X5_init, rfl, by decide +kernel, im_X5_init, rfl, rfl⟩, by decide +kernel⟩
theorem s_X11_init_300 : Cond.classLink mX11_init.1.cls 82 (rx 8) ∈ gt ∧ Cond.instantiable (rx 8) (nf 8) ∈ gt ∧ Cond.initialized (rx 8) ∈ gt := ⟨gt_ok (List.mem_of_getElem? (i := 265) (by decide +kernel)) (by decide +kernel), gt_ok (List.mem_of_getElem? (i := 321) (by decide +kernel)) (by decide +kernel), gt_ok (List.mem_of_getElem? (i := 99) (by decide +kernel)) (by decide +kernel)⟩
theorem s_X11_init_304 : cI mX11_init 304 mX8_init 107 0 := ⟨by decide +kernel, Or.inr ⟨ml_X8_init, rfl, by decide +kernel, im_X8_init, rfl, rfl⟩, by decide +kernel⟩
def b_X10_init_0 : List IE := [(.aload_n 0, 1, 0, 0, 0, 0)]
theorem k_X10_init_0 : ckObj mX10_init 10 0 b_X10_init_0 1 3 = true := by decide +kernel
def b_X10_init_4 : List IE := [(.aload_n 0, 1, 0, 0, 0, 0), (.bipush 64, 2, 64, 0, 0, 0)]
theorem k_X10_init_4 : ckNewa mX10_init 10 4 b_X10_init_4 7 13 = true := by decide +kernel
def b_X10_init_9 : List IE := [(.putfield 9, 3, 0, 10, 0, 1), (.aload_n 0, 1, 0, 0, 0, 0), (.bipush 12, 2, 12, 0, 0, 0)]
theorem k_X10_init_9 : ckNewa mX10_init 10 9 b_X10_init_9 15 13 = true := by decide +kernel
def b_X10_init_17 : List IE := [(.putfield 15, 3, 0, 10, 2, 1)]
theorem k_X10_init_17 : ckV mX10_init 10 17 b_X10_init_17 20 = true := by decide +kernel
theorem s_X10_init_1 : Cond.methodLink mX10_init.1.cls 3 objectInit ∈ gt ∧ Cond.instanceMethod objectInit ∈ gt ∧ Cond.code objectInit ⟨#[0xb1]⟩ 1 none ∈ gt := ⟨gt_ok (List.mem_of_getElem? (i := 123) (by decide +kernel)) (by decide +kernel), gt_ok (List.mem_of_getElem? (i := 116) (by decide +kernel)) (by decide +kernel), gt_ok (List.mem_of_getElem? (i := 117) (by decide +kernel)) (by decide +kernel)⟩
def b_X9_init_0 : List IE := [(.aload_n 0, 1, 0, 0, 0, 0)]
theorem k_X9_init_0 : ckObj mX9_init 9 0 b_X9_init_0 1 3 = true := by decide +kernel
def b_X9_init_4 : List IE := [(.aload_n 0, 1, 0, 0, 0, 0), (.bipush 8, 2, 8, 0, 0, 0)]
theorem k_X9_init_4 : ckAnew mX9_init 9 4 b_X9_init_4 7 9 18 = true := by decide +kernel
def b_X9_init_10 : List IE := [(.putfield 11, 3, 0, 9, 0, 1), (.aload_n 0, 1, 0, 0, 0, 0), (.bipush 8, 2, 8, 0, 0, 0)]
theorem k_X9_init_10 : ckNewa mX9_init 9 10 b_X9_init_10 16 14 = true := by decide +kernel
def b_X9_init_18 : List IE := [(.putfield 17, 3, 0, 9, 1, 1)]
theorem k_X9_init_18 : ckV mX9_init 9 18 b_X9_init_18 21 = true := by decide +kernel
theorem s_X9_init_1 : Cond.methodLink mX9_init.1.cls 3 objectInit ∈ gt ∧ Cond.instanceMethod objectInit ∈ gt ∧ Cond.code objectInit ⟨#[0xb1]⟩ 1 none ∈ gt := ⟨gt_ok (List.mem_of_getElem? (i := 148) (by decide +kernel)) (by decide +kernel), gt_ok (List.mem_of_getElem? (i := 116) (by decide +kernel)) (by decide +kernel), gt_ok (List.mem_of_getElem? (i := 117) (by decide +kernel)) (by decide +kernel)⟩
theorem s_X9_init_7 : Cond.classLink mX9_init.1.cls 9 (rx (elK 18)) ∈ gt := gt_ok (List.mem_of_getElem? (i := 149) (by decide +kernel)) (by decide +kernel)
def b_X4_init_0 : List IE := [(.aload_n 0, 1, 0, 0, 0, 0)]
theorem k_X4_init_0 : ckObj mX4_init 4 0 b_X4_init_0 1 3 = true := by decide +kernel
def b_X4_init_4 : List IE := []
theorem k_X4_init_4 : ckV mX4_init 4 4 b_X4_init_4 4 = true := by decide +kernel
theorem s_X4_init_1 : Cond.methodLink mX4_init.1.cls 3 objectInit ∈ gt ∧ Cond.instanceMethod objectInit ∈ gt ∧ Cond.code objectInit ⟨#[0xb1]⟩ 1 none ∈ gt := ⟨gt_ok (List.mem_of_getElem? (i := 183) (by decide +kernel)) (by decide +kernel), gt_ok (List.mem_of_getElem? (i := 116) (by decide +kernel)) (by decide +kernel), gt_ok (List.mem_of_getElem? (i := 117) (by decide +kernel)) (by decide +kernel)⟩
def b_X3_init_0 : List IE := [(.aload_n 0, 1, 0, 0, 0, 0)]
theorem k_X3_init_0 : ckObj mX3_init 3 0 b_X3_init_0 1 3 = true := by decide +kernel
def b_X3_init_4 : List IE := [(.aload_n 0, 1, 0, 0, 0, 0), (.bipush 8, 2, 8, 0, 0, 0)]
theorem k_X3_init_4 : ckNewa mX3_init 3 4 b_X3_init_4 7 14 = true := by decide +kernel
def b_X3_init_9 : List IE := [(.putfield 9, 3, 0, 3, 3, 1)]
theorem k_X3_init_9 : ckV mX3_init 3 9 b_X3_init_9 12 = true := by decide +kernel
theorem s_X3_init_1 : Cond.methodLink mX3_init.1.cls 3 objectInit ∈ gt ∧ Cond.instanceMethod objectInit ∈ gt ∧ Cond.code objectInit ⟨#[0xb1]⟩ 1 none ∈ gt := ⟨gt_ok (List.mem_of_getElem? (i := 198) (by decide +kernel)) (by decide +kernel), gt_ok (List.mem_of_getElem? (i := 116) (by decide +kernel)) (by decide +kernel), gt_ok (List.mem_of_getElem? (i := 117) (by decide +kernel)) (by decide +kernel)⟩
def b_X6_init_0 : List IE := [(.aload_n 0, 1, 0, 0, 0, 0)]
theorem k_X6_init_0 : ckObj mX6_init 6 0 b_X6_init_0 1 3 = true := by decide +kernel
def b_X6_init_4 : List IE := [(.aload_n 0, 1, 0, 0, 0, 0), (.aload_n 1, 1, 0, 0, 1, 0), (.putfield 9, 3, 0, 6, 0, 1)]
theorem k_X6_init_4 : ckV mX6_init 6 4 b_X6_init_4 9 = true := by decide +kernel
theorem s_X6_init_1 : Cond.methodLink mX6_init.1.cls 3 objectInit ∈ gt ∧ Cond.instanceMethod objectInit ∈ gt ∧ Cond.code objectInit ⟨#[0xb1]⟩ 1 none ∈ gt := ⟨gt_ok (List.mem_of_getElem? (i := 222) (by decide +kernel)) (by decide +kernel), gt_ok (List.mem_of_getElem? (i := 116) (by decide +kernel)) (by decide +kernel), gt_ok (List.mem_of_getElem? (i := 117) (by decide +kernel)) (by decide +kernel)⟩
def b_X2_init_0 : List IE := [(.aload_n 0, 1, 0, 0, 0, 0)]
theorem k_X2_init_0 : ckObj mX2_init 2 0 b_X2_init_0 1 3 = true := by decide +kernel
def b_X2_init_4 : List IE := [(.aload_n 0, 1, 0, 0, 0, 0), (.bipush 8, 2, 8, 0, 0, 0)]
theorem k_X2_init_4 : ckNewa mX2_init 2 4 b_X2_init_4 7 13 = true := by decide +kernel
def b_X2_init_9 : List IE := [(.putfield 9, 3, 0, 2, 1, 1)]
theorem k_X2_init_9 : ckV mX2_init 2 9 b_X2_init_9 12 = true := by decide +kernel
theorem s_X2_init_1 : Cond.methodLink mX2_init.1.cls 3 objectInit ∈ gt ∧ Cond.instanceMethod objectInit ∈ gt ∧ Cond.code objectInit ⟨#[0xb1]⟩ 1 none ∈ gt := ⟨gt_ok (List.mem_of_getElem? (i := 253) (by decide +kernel)) (by decide +kernel), gt_ok (List.mem_of_getElem? (i := 116) (by decide +kernel)) (by decide +kernel), gt_ok (List.mem_of_getElem? (i := 117) (by decide +kernel)) (by decide +kernel)⟩
def b_X1_init_0 : List IE := [(.aload_n 0, 1, 0, 0, 0, 0)]
theorem k_X1_init_0 : ckObj mX1_init 1 0 b_X1_init_0 1 3 = true := by decide +kernel
def b_X1_init_4 : List IE := [(.aload_n 0, 1, 0, 0, 0, 0), (.bipush 64, 2, 64, 0, 0, 0)]
theorem k_X1_init_4 : ckNewa mX1_init 1 4 b_X1_init_4 7 13 = true := by decide +kernel
def b_X1_init_9 : List IE := [(.putfield 9, 3, 0, 1, 0, 1), (.aload_n 0, 1, 0, 0, 0, 0), (.bipush 64, 2, 64, 0, 0, 0)]
theorem k_X1_init_9 : ckNewa mX1_init 1 9 b_X1_init_9 15 13 = true := by decide +kernel
def b_X1_init_17 : List IE := [(.putfield 15, 3, 0, 1, 1, 1), (.aload_n 0, 1, 0, 0, 0, 0), (.bipush 8, 2, 8, 0, 0, 0)]
theorem k_X1_init_17 : ckNewa mX1_init 1 17 b_X1_init_17 23 14 = true := by decide +kernel
def b_X1_init_25 : List IE := [(.putfield 18, 3, 0, 1, 2, 1)]
theorem k_X1_init_25 : ckV mX1_init 1 25 b_X1_init_25 28 = true := by decide +kernel
theorem s_X1_init_1 : Cond.methodLink mX1_init.1.cls 3 objectInit ∈ gt ∧ Cond.instanceMethod objectInit ∈ gt ∧ Cond.code objectInit ⟨#[0xb1]⟩ 1 none ∈ gt := ⟨gt_ok (List.mem_of_getElem? (i := 272) (by decide +kernel)) (by decide +kernel), gt_ok (List.mem_of_getElem? (i := 116) (by decide +kernel)) (by decide +kernel), gt_ok (List.mem_of_getElem? (i := 117) (by decide +kernel)) (by decide +kernel)⟩
def b_X5_init_0 : List IE := [(.aload_n 0, 1, 0, 0, 0, 0)]
theorem k_X5_init_0 : ckObj mX5_init 5 0 b_X5_init_0 1 3 = true := by decide +kernel
def b_X5_init_4 : List IE := [(.aload_n 0, 1, 0, 0, 0, 0), (.bipush 64, 2, 64, 0, 0, 0)]
theorem k_X5_init_4 : ckNewa mX5_init 5 4 b_X5_init_4 7 13 = true := by decide +kernel
def b_X5_init_9 : List IE := [(.putfield 9, 3, 0, 5, 0, 1), (.aload_n 0, 1, 0, 0, 0, 0), (.bipush 64, 2, 64, 0, 0, 0)]
theorem k_X5_init_9 : ckNewa mX5_init 5 9 b_X5_init_9 15 13 = true := by decide +kernel
def b_X5_init_17 : List IE := [(.putfield 15, 3, 0, 5, 1, 1), (.aload_n 0, 1, 0, 0, 0, 0), (.bipush 64, 2, 64, 0, 0, 0)]
theorem k_X5_init_17 : ckNewa mX5_init 5 17 b_X5_init_17 23 13 = true := by decide +kernel
def b_X5_init_25 : List IE := [(.putfield 18, 3, 0, 5, 2, 1), (.aload_n 0, 1, 0, 0, 0, 0), (.bipush 64, 2, 64, 0, 0, 0)]
theorem k_X5_init_25 : ckNewa mX5_init 5 25 b_X5_init_25 31 13 = true := by decide +kernel
def b_X5_init_33 : List IE := [(.putfield 21, 3, 0, 5, 4, 1), (.aload_n 0, 1, 0, 0, 0, 0), (.bipush 16, 2, 16, 0, 0, 0)]
theorem k_X5_init_33 : ckNewa mX5_init 5 33 b_X5_init_33 39 13 = true := by decide +kernel
def b_X5_init_41 : List IE := [(.putfield 24, 3, 0, 5, 6, 1)]
theorem k_X5_init_41 : ckV mX5_init 5 41 b_X5_init_41 44 = true := by decide +kernel
theorem s_X5_init_1 : Cond.methodLink mX5_init.1.cls 3 objectInit ∈ gt ∧ Cond.instanceMethod objectInit ∈ gt ∧ Cond.code objectInit ⟨#[0xb1]⟩ 1 none ∈ gt := ⟨gt_ok (List.mem_of_getElem? (i := 298) (by decide +kernel)) (by decide +kernel), gt_ok (List.mem_of_getElem? (i := 116) (by decide +kernel)) (by decide +kernel), gt_ok (List.mem_of_getElem? (i := 117) (by decide +kernel)) (by decide +kernel)⟩
def b_X8_init_0 : List IE := [(.aload_n 0, 1, 0, 0, 0, 0)]
theorem k_X8_init_0 : ckObj mX8_init 8 0 b_X8_init_0 1 3 = true := by decide +kernel
def b_X8_init_4 : List IE := [(.aload_n 0, 1, 0, 0, 0, 0), (.bipush 40, 2, 40, 0, 0, 0)]
theorem k_X8_init_4 : ckNewa mX8_init 8 4 b_X8_init_4 7 13 = true := by decide +kernel
def b_X8_init_9 : List IE := [(.putfield 9, 3, 0, 8, 0, 1), (.aload_n 0, 1, 0, 0, 0, 0), (.iconst (-1), 1, (-1), 0, 0, 0), (.putfield 15, 3, 0, 8, 1, 0)]
theorem k_X8_init_9 : ckV mX8_init 8 9 b_X8_init_9 17 = true := by decide +kernel
theorem s_X8_init_1 : Cond.methodLink mX8_init.1.cls 3 objectInit ∈ gt ∧ Cond.instanceMethod objectInit ∈ gt ∧ Cond.code objectInit ⟨#[0xb1]⟩ 1 none ∈ gt := ⟨gt_ok (List.mem_of_getElem? (i := 325) (by decide +kernel)) (by decide +kernel), gt_ok (List.mem_of_getElem? (i := 116) (by decide +kernel)) (by decide +kernel), gt_ok (List.mem_of_getElem? (i := 117) (by decide +kernel)) (by decide +kernel)⟩
def cH1 : AH := (1, (nw hE 11 0).2)
def cH2 : AH := (2, (nw cH1 10 0).2)
def cH3 : AH := (3, (nw cH2 13 64).2)
def cH4 : AH := sR cH3 1 0 (some 2)
def cH5 : AH := (4, (nw cH4 13 12).2)
def cH6 : AH := sR cH5 1 2 (some 3)
def cH7 : AH := sR cH6 0 0 (some 1)
def cH8 : AH := (5, (nw cH7 16 4).2)
def cH9 : AH := sR cH8 0 1 (some 4)
def cH10 : AH := (6, (nw cH9 9 0).2)
def cH11 : AH := (7, (nw cH10 18 8).2)
def cH12 : AH := sR cH11 5 0 (some 6)
def cH13 : AH := (8, (nw cH12 14 8).2)
def cH14 : AH := sR cH13 5 1 (some 7)
def cH15 : AH := sR cH14 0 3 (some 5)
def cH16 : AH := (9, (nw cH15 9 0).2)
def cH17 : AH := (10, (nw cH16 18 8).2)
def cH18 : AH := sR cH17 8 0 (some 9)
def cH19 : AH := (11, (nw cH18 14 8).2)
def cH20 : AH := sR cH19 8 1 (some 10)
def cH21 : AH := sR cH20 0 4 (some 8)
def cH22 : AH := (12, (nw cH21 9 0).2)
def cH23 : AH := (13, (nw cH22 18 8).2)
def cH24 : AH := sR cH23 11 0 (some 12)
def cH25 : AH := (14, (nw cH24 14 8).2)
def cH26 : AH := sR cH25 11 1 (some 13)
def cH27 : AH := sR cH26 0 5 (some 11)
def cH28 : AH := (15, (nw cH27 20 4).2)
def cH29 : AH := sR cH28 0 6 (some 14)
def cH30 : AH := (16, (nw cH29 20 7).2)
def cH31 : AH := sR cH30 0 7 (some 15)
def cH32 : AH := (17, (nw cH31 4 0).2)
def cH33 : AH := sR cH32 0 9 (some 16)
def cH34 : AH := (18, (nw cH33 3 0).2)
def cH35 : AH := (19, (nw cH34 14 8).2)
def cH36 : AH := sR cH35 17 3 (some 18)
def cH37 : AH := sR cH36 0 10 (some 17)
def cH38 : AH := sI cH37 0 11 9999
def cH39 : AH := (20, (nw cH38 17 6).2)
def cH40 : AH := sR cH39 0 12 (some 19)
def cH41 : AH := (21, (nw cH40 6 0).2)
def cH42 : AH := sR cH41 20 0 (some 1)
def cH43 : AH := sR cH42 0 14 (some 20)
def cH44 : AH := (22, (nw cH43 2 0).2)
def cH45 : AH := (23, (nw cH44 13 8).2)
def cH46 : AH := sR cH45 21 1 (some 22)
def cH47 : AH := sR cH46 0 15 (some 21)
def cH48 : AH := (24, (nw cH47 19 4).2)
def cH49 : AH := sR cH48 0 16 (some 23)
def cH50 : AH := (25, (nw cH49 1 0).2)
def cH51 : AH := (26, (nw cH50 13 64).2)
def cH52 : AH := sR cH51 24 0 (some 25)
def cH53 : AH := (27, (nw cH52 13 64).2)
def cH54 : AH := sR cH53 24 1 (some 26)
def cH55 : AH := (28, (nw cH54 14 8).2)
def cH56 : AH := sR cH55 24 2 (some 27)
def cH57 : AH := sR cH56 0 17 (some 24)
def cH58 : AH := (29, (nw cH57 1 0).2)
def cH59 : AH := (30, (nw cH58 13 64).2)
def cH60 : AH := sR cH59 28 0 (some 29)
def cH61 : AH := (31, (nw cH60 13 64).2)
def cH62 : AH := sR cH61 28 1 (some 30)
def cH63 : AH := (32, (nw cH62 14 8).2)
def cH64 : AH := sR cH63 28 2 (some 31)
def cH65 : AH := sR cH64 0 18 (some 28)
def cH66 : AH := (33, (nw cH65 13 64).2)
def cH67 : AH := sR cH66 0 19 (some 32)
def cH68 : AH := sI cH67 5 3 1
def cH69 : AH := sI cH68 11 3 1
def cH70 : AH := sR cH69 15 0 (some 5)
def cH71 : AH := sR cH70 15 1 (some 11)
def cH72 : AH := sR cH71 15 2 (some 8)
def cH73 : AH := (34, (nw cH72 9 0).2)
def cH74 : AH := (35, (nw cH73 18 8).2)
def cH75 : AH := sR cH74 33 0 (some 34)
def cH76 : AH := (36, (nw cH75 14 8).2)
def cH77 : AH := sR cH76 33 1 (some 35)
def cH78 : AH := sR cH77 14 0 (some 33)
def cH79 : AH := sR cH78 15 3 (some 33)
def cH80 : AH := (37, (nw cH79 9 0).2)
def cH81 : AH := (38, (nw cH80 18 8).2)
def cH82 : AH := sR cH81 36 0 (some 37)
def cH83 : AH := (39, (nw cH82 14 8).2)
def cH84 : AH := sR cH83 36 1 (some 38)
def cH85 : AH := sR cH84 14 1 (some 36)
def cH86 : AH := sR cH85 15 4 (some 36)
def cH87 : AH := (40, (nw cH86 9 0).2)
def cH88 : AH := (41, (nw cH87 18 8).2)
def cH89 : AH := sR cH88 39 0 (some 40)
def cH90 : AH := (42, (nw cH89 14 8).2)
def cH91 : AH := sR cH90 39 1 (some 41)
def cH92 : AH := sR cH91 14 2 (some 39)
def cH93 : AH := sR cH92 15 5 (some 39)
def cH94 : AH := (43, (nw cH93 9 0).2)
def cH95 : AH := (44, (nw cH94 18 8).2)
def cH96 : AH := sR cH95 42 0 (some 43)
def cH97 : AH := (45, (nw cH96 14 8).2)
def cH98 : AH := sR cH97 42 1 (some 44)
def cH99 : AH := sR cH98 14 3 (some 42)
def cH100 : AH := sR cH99 15 6 (some 42)
def cH101 : AH := (46, (nw cH100 5 0).2)
def cH102 : AH := (47, (nw cH101 13 64).2)
def cH103 : AH := sR cH102 45 0 (some 46)
def cH104 : AH := (48, (nw cH103 13 64).2)
def cH105 : AH := sR cH104 45 1 (some 47)
def cH106 : AH := (49, (nw cH105 13 64).2)
def cH107 : AH := sR cH106 45 2 (some 48)
def cH108 : AH := (50, (nw cH107 13 64).2)
def cH109 : AH := sR cH108 45 4 (some 49)
def cH110 : AH := (51, (nw cH109 13 16).2)
def cH111 : AH := sR cH110 45 6 (some 50)
def cH112 : AH := sR cH111 19 0 (some 45)
def cH113 : AH := (52, (nw cH112 5 0).2)
def cH114 : AH := (53, (nw cH113 13 64).2)
def cH115 : AH := sR cH114 51 0 (some 52)
def cH116 : AH := (54, (nw cH115 13 64).2)
def cH117 : AH := sR cH116 51 1 (some 53)
def cH118 : AH := (55, (nw cH117 13 64).2)
def cH119 : AH := sR cH118 51 2 (some 54)
def cH120 : AH := (56, (nw cH119 13 64).2)
def cH121 : AH := sR cH120 51 4 (some 55)
def cH122 : AH := (57, (nw cH121 13 16).2)
def cH123 : AH := sR cH122 51 6 (some 56)
def cH124 : AH := sR cH123 19 1 (some 51)
def cH125 : AH := (58, (nw cH124 5 0).2)
def cH126 : AH := (59, (nw cH125 13 64).2)
def cH127 : AH := sR cH126 57 0 (some 58)
def cH128 : AH := (60, (nw cH127 13 64).2)
def cH129 : AH := sR cH128 57 1 (some 59)
def cH130 : AH := (61, (nw cH129 13 64).2)
def cH131 : AH := sR cH130 57 2 (some 60)
def cH132 : AH := (62, (nw cH131 13 64).2)
def cH133 : AH := sR cH132 57 4 (some 61)
def cH134 : AH := (63, (nw cH133 13 16).2)
def cH135 : AH := sR cH134 57 6 (some 62)
def cH136 : AH := sR cH135 19 2 (some 57)
def cH137 : AH := (64, (nw cH136 5 0).2)
def cH138 : AH := (65, (nw cH137 13 64).2)
def cH139 : AH := sR cH138 63 0 (some 64)
def cH140 : AH := (66, (nw cH139 13 64).2)
def cH141 : AH := sR cH140 63 1 (some 65)
def cH142 : AH := (67, (nw cH141 13 64).2)
def cH143 : AH := sR cH142 63 2 (some 66)
def cH144 : AH := (68, (nw cH143 13 64).2)
def cH145 : AH := sR cH144 63 4 (some 67)
def cH146 : AH := (69, (nw cH145 13 16).2)
def cH147 : AH := sR cH146 63 6 (some 68)
def cH148 : AH := sR cH147 19 3 (some 63)
def cH149 : AH := (70, (nw cH148 5 0).2)
def cH150 : AH := (71, (nw cH149 13 64).2)
def cH151 : AH := sR cH150 69 0 (some 70)
def cH152 : AH := (72, (nw cH151 13 64).2)
def cH153 : AH := sR cH152 69 1 (some 71)
def cH154 : AH := (73, (nw cH153 13 64).2)
def cH155 : AH := sR cH154 69 2 (some 72)
def cH156 : AH := (74, (nw cH155 13 64).2)
def cH157 : AH := sR cH156 69 4 (some 73)
def cH158 : AH := (75, (nw cH157 13 16).2)
def cH159 : AH := sR cH158 69 6 (some 74)
def cH160 : AH := sR cH159 19 4 (some 69)
def cH161 : AH := (76, (nw cH160 5 0).2)
def cH162 : AH := (77, (nw cH161 13 64).2)
def cH163 : AH := sR cH162 75 0 (some 76)
def cH164 : AH := (78, (nw cH163 13 64).2)
def cH165 : AH := sR cH164 75 1 (some 77)
def cH166 : AH := (79, (nw cH165 13 64).2)
def cH167 : AH := sR cH166 75 2 (some 78)
def cH168 : AH := (80, (nw cH167 13 64).2)
def cH169 : AH := sR cH168 75 4 (some 79)
def cH170 : AH := (81, (nw cH169 13 16).2)
def cH171 : AH := sR cH170 75 6 (some 80)
def cH172 : AH := sR cH171 19 5 (some 75)
def cH173 : AH := (82, (nw cH172 8 0).2)
def cH174 : AH := (83, (nw cH173 13 40).2)
def cH175 : AH := sR cH174 81 0 (some 82)
def cH176 : AH := sI cH175 81 1 (-1)
def cH177 : AH := sR cH176 23 0 (some 81)
def cH178 : AH := (84, (nw cH177 8 0).2)
def cH179 : AH := (85, (nw cH178 13 40).2)
def cH180 : AH := sR cH179 83 0 (some 84)
def cH181 : AH := sI cH180 83 1 (-1)
def cH182 : AH := sR cH181 23 1 (some 83)
def cH183 : AH := (86, (nw cH182 8 0).2)
def cH184 : AH := (87, (nw cH183 13 40).2)
def cH185 : AH := sR cH184 85 0 (some 86)
def cH186 : AH := sI cH185 85 1 (-1)
def cH187 : AH := sR cH186 23 2 (some 85)
def cH188 : AH := (88, (nw cH187 8 0).2)
def cH189 : AH := (89, (nw cH188 13 40).2)
def cH190 : AH := sR cH189 87 0 (some 88)
def cH191 : AH := sI cH190 87 1 (-1)
def cH192 : AH := sR cH191 23 3 (some 87)
theorem cHz1 : ZI [] cH1 := ZI_nw ZI_0 (by decide +kernel)
theorem cHz2 : ZI [] cH2 := ZI_nw cHz1 (by decide +kernel)
theorem cHz3 : ZI [] cH3 := ZI_nw cHz2 (by decide +kernel)
theorem cHz4 : ZI [] cH4 := ZI_sR cHz3
theorem cHz5 : ZI [] cH5 := ZI_nw cHz4 (by decide +kernel)
theorem cHz6 : ZI [] cH6 := ZI_sR cHz5
theorem cHz7 : ZI [] cH7 := ZI_sR cHz6
theorem cHz8 : ZI [] cH8 := ZI_nw cHz7 (by decide +kernel)
theorem cHz9 : ZI [] cH9 := ZI_sR cHz8
theorem cHz10 : ZI [] cH10 := ZI_nw cHz9 (by decide +kernel)
theorem cHz11 : ZI [] cH11 := ZI_nw cHz10 (by decide +kernel)
theorem cHz12 : ZI [] cH12 := ZI_sR cHz11
theorem cHz13 : ZI [] cH13 := ZI_nw cHz12 (by decide +kernel)
theorem cHz14 : ZI [] cH14 := ZI_sR cHz13
theorem cHz15 : ZI [] cH15 := ZI_sR cHz14
theorem cHz16 : ZI [] cH16 := ZI_nw cHz15 (by decide +kernel)
theorem cHz17 : ZI [] cH17 := ZI_nw cHz16 (by decide +kernel)
theorem cHz18 : ZI [] cH18 := ZI_sR cHz17
theorem cHz19 : ZI [] cH19 := ZI_nw cHz18 (by decide +kernel)
theorem cHz20 : ZI [] cH20 := ZI_sR cHz19
theorem cHz21 : ZI [] cH21 := ZI_sR cHz20
theorem cHz22 : ZI [] cH22 := ZI_nw cHz21 (by decide +kernel)
theorem cHz23 : ZI [] cH23 := ZI_nw cHz22 (by decide +kernel)
theorem cHz24 : ZI [] cH24 := ZI_sR cHz23
theorem cHz25 : ZI [] cH25 := ZI_nw cHz24 (by decide +kernel)
theorem cHz26 : ZI [] cH26 := ZI_sR cHz25
theorem cHz27 : ZI [] cH27 := ZI_sR cHz26
theorem cHz28 : ZI [] cH28 := ZI_nw cHz27 (by decide +kernel)
theorem cHz29 : ZI [] cH29 := ZI_sR cHz28
theorem cHz30 : ZI [] cH30 := ZI_nw cHz29 (by decide +kernel)
theorem cHz31 : ZI [] cH31 := ZI_sR cHz30
theorem cHz32 : ZI [] cH32 := ZI_nw cHz31 (by decide +kernel)
theorem cHz33 : ZI [] cH33 := ZI_sR cHz32
theorem cHz34 : ZI [] cH34 := ZI_nw cHz33 (by decide +kernel)
theorem cHz35 : ZI [] cH35 := ZI_nw cHz34 (by decide +kernel)
theorem cHz36 : ZI [] cH36 := ZI_sR cHz35
theorem cHz37 : ZI [] cH37 := ZI_sR cHz36
theorem cHz38 : ZI [(0, 11, 9999)] cH38 := ZI_sI cHz37
theorem cHz39 : ZI [(0, 11, 9999)] cH39 := ZI_nw cHz38 (by decide +kernel)
theorem cHz40 : ZI [(0, 11, 9999)] cH40 := ZI_sR cHz39
theorem cHz41 : ZI [(0, 11, 9999)] cH41 := ZI_nw cHz40 (by decide +kernel)
theorem cHz42 : ZI [(0, 11, 9999)] cH42 := ZI_sR cHz41
theorem cHz43 : ZI [(0, 11, 9999)] cH43 := ZI_sR cHz42
theorem cHz44 : ZI [(0, 11, 9999)] cH44 := ZI_nw cHz43 (by decide +kernel)
theorem cHz45 : ZI [(0, 11, 9999)] cH45 := ZI_nw cHz44 (by decide +kernel)
theorem cHz46 : ZI [(0, 11, 9999)] cH46 := ZI_sR cHz45
theorem cHz47 : ZI [(0, 11, 9999)] cH47 := ZI_sR cHz46
theorem cHz48 : ZI [(0, 11, 9999)] cH48 := ZI_nw cHz47 (by decide +kernel)
theorem cHz49 : ZI [(0, 11, 9999)] cH49 := ZI_sR cHz48
theorem cHz50 : ZI [(0, 11, 9999)] cH50 := ZI_nw cHz49 (by decide +kernel)
theorem cHz51 : ZI [(0, 11, 9999)] cH51 := ZI_nw cHz50 (by decide +kernel)
theorem cHz52 : ZI [(0, 11, 9999)] cH52 := ZI_sR cHz51
theorem cHz53 : ZI [(0, 11, 9999)] cH53 := ZI_nw cHz52 (by decide +kernel)
theorem cHz54 : ZI [(0, 11, 9999)] cH54 := ZI_sR cHz53
theorem cHz55 : ZI [(0, 11, 9999)] cH55 := ZI_nw cHz54 (by decide +kernel)
theorem cHz56 : ZI [(0, 11, 9999)] cH56 := ZI_sR cHz55
theorem cHz57 : ZI [(0, 11, 9999)] cH57 := ZI_sR cHz56
theorem cHz58 : ZI [(0, 11, 9999)] cH58 := ZI_nw cHz57 (by decide +kernel)
theorem cHz59 : ZI [(0, 11, 9999)] cH59 := ZI_nw cHz58 (by decide +kernel)
theorem cHz60 : ZI [(0, 11, 9999)] cH60 := ZI_sR cHz59
theorem cHz61 : ZI [(0, 11, 9999)] cH61 := ZI_nw cHz60 (by decide +kernel)
theorem cHz62 : ZI [(0, 11, 9999)] cH62 := ZI_sR cHz61
theorem cHz63 : ZI [(0, 11, 9999)] cH63 := ZI_nw cHz62 (by decide +kernel)
theorem cHz64 : ZI [(0, 11, 9999)] cH64 := ZI_sR cHz63
theorem cHz65 : ZI [(0, 11, 9999)] cH65 := ZI_sR cHz64
theorem cHz66 : ZI [(0, 11, 9999)] cH66 := ZI_nw cHz65 (by decide +kernel)
theorem cHz67 : ZI [(0, 11, 9999)] cH67 := ZI_sR cHz66
theorem cHz68 : ZI [(5, 3, 1), (0, 11, 9999)] cH68 := ZI_sI cHz67
theorem cHz69 : ZI [(11, 3, 1), (5, 3, 1), (0, 11, 9999)] cH69 := ZI_sI cHz68
theorem cHz70 : ZI [(11, 3, 1), (5, 3, 1), (0, 11, 9999)] cH70 := ZI_sR cHz69
theorem cHz71 : ZI [(11, 3, 1), (5, 3, 1), (0, 11, 9999)] cH71 := ZI_sR cHz70
theorem cHz72 : ZI [(11, 3, 1), (5, 3, 1), (0, 11, 9999)] cH72 := ZI_sR cHz71
theorem cHz73 : ZI [(11, 3, 1), (5, 3, 1), (0, 11, 9999)] cH73 := ZI_nw cHz72 (by decide +kernel)
theorem cHz74 : ZI [(11, 3, 1), (5, 3, 1), (0, 11, 9999)] cH74 := ZI_nw cHz73 (by decide +kernel)
theorem cHz75 : ZI [(11, 3, 1), (5, 3, 1), (0, 11, 9999)] cH75 := ZI_sR cHz74
theorem cHz76 : ZI [(11, 3, 1), (5, 3, 1), (0, 11, 9999)] cH76 := ZI_nw cHz75 (by decide +kernel)
theorem cHz77 : ZI [(11, 3, 1), (5, 3, 1), (0, 11, 9999)] cH77 := ZI_sR cHz76
theorem cHz78 : ZI [(11, 3, 1), (5, 3, 1), (0, 11, 9999)] cH78 := ZI_sR cHz77
theorem cHz79 : ZI [(11, 3, 1), (5, 3, 1), (0, 11, 9999)] cH79 := ZI_sR cHz78
theorem cHz80 : ZI [(11, 3, 1), (5, 3, 1), (0, 11, 9999)] cH80 := ZI_nw cHz79 (by decide +kernel)
theorem cHz81 : ZI [(11, 3, 1), (5, 3, 1), (0, 11, 9999)] cH81 := ZI_nw cHz80 (by decide +kernel)
theorem cHz82 : ZI [(11, 3, 1), (5, 3, 1), (0, 11, 9999)] cH82 := ZI_sR cHz81
theorem cHz83 : ZI [(11, 3, 1), (5, 3, 1), (0, 11, 9999)] cH83 := ZI_nw cHz82 (by decide +kernel)
theorem cHz84 : ZI [(11, 3, 1), (5, 3, 1), (0, 11, 9999)] cH84 := ZI_sR cHz83
theorem cHz85 : ZI [(11, 3, 1), (5, 3, 1), (0, 11, 9999)] cH85 := ZI_sR cHz84
theorem cHz86 : ZI [(11, 3, 1), (5, 3, 1), (0, 11, 9999)] cH86 := ZI_sR cHz85
theorem cHz87 : ZI [(11, 3, 1), (5, 3, 1), (0, 11, 9999)] cH87 := ZI_nw cHz86 (by decide +kernel)
theorem cHz88 : ZI [(11, 3, 1), (5, 3, 1), (0, 11, 9999)] cH88 := ZI_nw cHz87 (by decide +kernel)
theorem cHz89 : ZI [(11, 3, 1), (5, 3, 1), (0, 11, 9999)] cH89 := ZI_sR cHz88
theorem cHz90 : ZI [(11, 3, 1), (5, 3, 1), (0, 11, 9999)] cH90 := ZI_nw cHz89 (by decide +kernel)
theorem cHz91 : ZI [(11, 3, 1), (5, 3, 1), (0, 11, 9999)] cH91 := ZI_sR cHz90
theorem cHz92 : ZI [(11, 3, 1), (5, 3, 1), (0, 11, 9999)] cH92 := ZI_sR cHz91
theorem cHz93 : ZI [(11, 3, 1), (5, 3, 1), (0, 11, 9999)] cH93 := ZI_sR cHz92
theorem cHz94 : ZI [(11, 3, 1), (5, 3, 1), (0, 11, 9999)] cH94 := ZI_nw cHz93 (by decide +kernel)
theorem cHz95 : ZI [(11, 3, 1), (5, 3, 1), (0, 11, 9999)] cH95 := ZI_nw cHz94 (by decide +kernel)
theorem cHz96 : ZI [(11, 3, 1), (5, 3, 1), (0, 11, 9999)] cH96 := ZI_sR cHz95
theorem cHz97 : ZI [(11, 3, 1), (5, 3, 1), (0, 11, 9999)] cH97 := ZI_nw cHz96 (by decide +kernel)
theorem cHz98 : ZI [(11, 3, 1), (5, 3, 1), (0, 11, 9999)] cH98 := ZI_sR cHz97
theorem cHz99 : ZI [(11, 3, 1), (5, 3, 1), (0, 11, 9999)] cH99 := ZI_sR cHz98
theorem cHz100 : ZI [(11, 3, 1), (5, 3, 1), (0, 11, 9999)] cH100 := ZI_sR cHz99
theorem cHz101 : ZI [(11, 3, 1), (5, 3, 1), (0, 11, 9999)] cH101 := ZI_nw cHz100 (by decide +kernel)
theorem cHz102 : ZI [(11, 3, 1), (5, 3, 1), (0, 11, 9999)] cH102 := ZI_nw cHz101 (by decide +kernel)
theorem cHz103 : ZI [(11, 3, 1), (5, 3, 1), (0, 11, 9999)] cH103 := ZI_sR cHz102
theorem cHz104 : ZI [(11, 3, 1), (5, 3, 1), (0, 11, 9999)] cH104 := ZI_nw cHz103 (by decide +kernel)
theorem cHz105 : ZI [(11, 3, 1), (5, 3, 1), (0, 11, 9999)] cH105 := ZI_sR cHz104
theorem cHz106 : ZI [(11, 3, 1), (5, 3, 1), (0, 11, 9999)] cH106 := ZI_nw cHz105 (by decide +kernel)
theorem cHz107 : ZI [(11, 3, 1), (5, 3, 1), (0, 11, 9999)] cH107 := ZI_sR cHz106
theorem cHz108 : ZI [(11, 3, 1), (5, 3, 1), (0, 11, 9999)] cH108 := ZI_nw cHz107 (by decide +kernel)
theorem cHz109 : ZI [(11, 3, 1), (5, 3, 1), (0, 11, 9999)] cH109 := ZI_sR cHz108
theorem cHz110 : ZI [(11, 3, 1), (5, 3, 1), (0, 11, 9999)] cH110 := ZI_nw cHz109 (by decide +kernel)
theorem cHz111 : ZI [(11, 3, 1), (5, 3, 1), (0, 11, 9999)] cH111 := ZI_sR cHz110
theorem cHz112 : ZI [(11, 3, 1), (5, 3, 1), (0, 11, 9999)] cH112 := ZI_sR cHz111
theorem cHz113 : ZI [(11, 3, 1), (5, 3, 1), (0, 11, 9999)] cH113 := ZI_nw cHz112 (by decide +kernel)
theorem cHz114 : ZI [(11, 3, 1), (5, 3, 1), (0, 11, 9999)] cH114 := ZI_nw cHz113 (by decide +kernel)
theorem cHz115 : ZI [(11, 3, 1), (5, 3, 1), (0, 11, 9999)] cH115 := ZI_sR cHz114
theorem cHz116 : ZI [(11, 3, 1), (5, 3, 1), (0, 11, 9999)] cH116 := ZI_nw cHz115 (by decide +kernel)
theorem cHz117 : ZI [(11, 3, 1), (5, 3, 1), (0, 11, 9999)] cH117 := ZI_sR cHz116
theorem cHz118 : ZI [(11, 3, 1), (5, 3, 1), (0, 11, 9999)] cH118 := ZI_nw cHz117 (by decide +kernel)
theorem cHz119 : ZI [(11, 3, 1), (5, 3, 1), (0, 11, 9999)] cH119 := ZI_sR cHz118
theorem cHz120 : ZI [(11, 3, 1), (5, 3, 1), (0, 11, 9999)] cH120 := ZI_nw cHz119 (by decide +kernel)
theorem cHz121 : ZI [(11, 3, 1), (5, 3, 1), (0, 11, 9999)] cH121 := ZI_sR cHz120
theorem cHz122 : ZI [(11, 3, 1), (5, 3, 1), (0, 11, 9999)] cH122 := ZI_nw cHz121 (by decide +kernel)
theorem cHz123 : ZI [(11, 3, 1), (5, 3, 1), (0, 11, 9999)] cH123 := ZI_sR cHz122
theorem cHz124 : ZI [(11, 3, 1), (5, 3, 1), (0, 11, 9999)] cH124 := ZI_sR cHz123
theorem cHz125 : ZI [(11, 3, 1), (5, 3, 1), (0, 11, 9999)] cH125 := ZI_nw cHz124 (by decide +kernel)
theorem cHz126 : ZI [(11, 3, 1), (5, 3, 1), (0, 11, 9999)] cH126 := ZI_nw cHz125 (by decide +kernel)
theorem cHz127 : ZI [(11, 3, 1), (5, 3, 1), (0, 11, 9999)] cH127 := ZI_sR cHz126
theorem cHz128 : ZI [(11, 3, 1), (5, 3, 1), (0, 11, 9999)] cH128 := ZI_nw cHz127 (by decide +kernel)
theorem cHz129 : ZI [(11, 3, 1), (5, 3, 1), (0, 11, 9999)] cH129 := ZI_sR cHz128
theorem cHz130 : ZI [(11, 3, 1), (5, 3, 1), (0, 11, 9999)] cH130 := ZI_nw cHz129 (by decide +kernel)
theorem cHz131 : ZI [(11, 3, 1), (5, 3, 1), (0, 11, 9999)] cH131 := ZI_sR cHz130
theorem cHz132 : ZI [(11, 3, 1), (5, 3, 1), (0, 11, 9999)] cH132 := ZI_nw cHz131 (by decide +kernel)
theorem cHz133 : ZI [(11, 3, 1), (5, 3, 1), (0, 11, 9999)] cH133 := ZI_sR cHz132
theorem cHz134 : ZI [(11, 3, 1), (5, 3, 1), (0, 11, 9999)] cH134 := ZI_nw cHz133 (by decide +kernel)
theorem cHz135 : ZI [(11, 3, 1), (5, 3, 1), (0, 11, 9999)] cH135 := ZI_sR cHz134
theorem cHz136 : ZI [(11, 3, 1), (5, 3, 1), (0, 11, 9999)] cH136 := ZI_sR cHz135
theorem cHz137 : ZI [(11, 3, 1), (5, 3, 1), (0, 11, 9999)] cH137 := ZI_nw cHz136 (by decide +kernel)
theorem cHz138 : ZI [(11, 3, 1), (5, 3, 1), (0, 11, 9999)] cH138 := ZI_nw cHz137 (by decide +kernel)
theorem cHz139 : ZI [(11, 3, 1), (5, 3, 1), (0, 11, 9999)] cH139 := ZI_sR cHz138
theorem cHz140 : ZI [(11, 3, 1), (5, 3, 1), (0, 11, 9999)] cH140 := ZI_nw cHz139 (by decide +kernel)
theorem cHz141 : ZI [(11, 3, 1), (5, 3, 1), (0, 11, 9999)] cH141 := ZI_sR cHz140
theorem cHz142 : ZI [(11, 3, 1), (5, 3, 1), (0, 11, 9999)] cH142 := ZI_nw cHz141 (by decide +kernel)
theorem cHz143 : ZI [(11, 3, 1), (5, 3, 1), (0, 11, 9999)] cH143 := ZI_sR cHz142
theorem cHz144 : ZI [(11, 3, 1), (5, 3, 1), (0, 11, 9999)] cH144 := ZI_nw cHz143 (by decide +kernel)
theorem cHz145 : ZI [(11, 3, 1), (5, 3, 1), (0, 11, 9999)] cH145 := ZI_sR cHz144
theorem cHz146 : ZI [(11, 3, 1), (5, 3, 1), (0, 11, 9999)] cH146 := ZI_nw cHz145 (by decide +kernel)
theorem cHz147 : ZI [(11, 3, 1), (5, 3, 1), (0, 11, 9999)] cH147 := ZI_sR cHz146
theorem cHz148 : ZI [(11, 3, 1), (5, 3, 1), (0, 11, 9999)] cH148 := ZI_sR cHz147
theorem cHz149 : ZI [(11, 3, 1), (5, 3, 1), (0, 11, 9999)] cH149 := ZI_nw cHz148 (by decide +kernel)
theorem cHz150 : ZI [(11, 3, 1), (5, 3, 1), (0, 11, 9999)] cH150 := ZI_nw cHz149 (by decide +kernel)
theorem cHz151 : ZI [(11, 3, 1), (5, 3, 1), (0, 11, 9999)] cH151 := ZI_sR cHz150
theorem cHz152 : ZI [(11, 3, 1), (5, 3, 1), (0, 11, 9999)] cH152 := ZI_nw cHz151 (by decide +kernel)
theorem cHz153 : ZI [(11, 3, 1), (5, 3, 1), (0, 11, 9999)] cH153 := ZI_sR cHz152
theorem cHz154 : ZI [(11, 3, 1), (5, 3, 1), (0, 11, 9999)] cH154 := ZI_nw cHz153 (by decide +kernel)
theorem cHz155 : ZI [(11, 3, 1), (5, 3, 1), (0, 11, 9999)] cH155 := ZI_sR cHz154
theorem cHz156 : ZI [(11, 3, 1), (5, 3, 1), (0, 11, 9999)] cH156 := ZI_nw cHz155 (by decide +kernel)
theorem cHz157 : ZI [(11, 3, 1), (5, 3, 1), (0, 11, 9999)] cH157 := ZI_sR cHz156
theorem cHz158 : ZI [(11, 3, 1), (5, 3, 1), (0, 11, 9999)] cH158 := ZI_nw cHz157 (by decide +kernel)
theorem cHz159 : ZI [(11, 3, 1), (5, 3, 1), (0, 11, 9999)] cH159 := ZI_sR cHz158
theorem cHz160 : ZI [(11, 3, 1), (5, 3, 1), (0, 11, 9999)] cH160 := ZI_sR cHz159
theorem cHz161 : ZI [(11, 3, 1), (5, 3, 1), (0, 11, 9999)] cH161 := ZI_nw cHz160 (by decide +kernel)
theorem cHz162 : ZI [(11, 3, 1), (5, 3, 1), (0, 11, 9999)] cH162 := ZI_nw cHz161 (by decide +kernel)
theorem cHz163 : ZI [(11, 3, 1), (5, 3, 1), (0, 11, 9999)] cH163 := ZI_sR cHz162
theorem cHz164 : ZI [(11, 3, 1), (5, 3, 1), (0, 11, 9999)] cH164 := ZI_nw cHz163 (by decide +kernel)
theorem cHz165 : ZI [(11, 3, 1), (5, 3, 1), (0, 11, 9999)] cH165 := ZI_sR cHz164
theorem cHz166 : ZI [(11, 3, 1), (5, 3, 1), (0, 11, 9999)] cH166 := ZI_nw cHz165 (by decide +kernel)
theorem cHz167 : ZI [(11, 3, 1), (5, 3, 1), (0, 11, 9999)] cH167 := ZI_sR cHz166
theorem cHz168 : ZI [(11, 3, 1), (5, 3, 1), (0, 11, 9999)] cH168 := ZI_nw cHz167 (by decide +kernel)
theorem cHz169 : ZI [(11, 3, 1), (5, 3, 1), (0, 11, 9999)] cH169 := ZI_sR cHz168
theorem cHz170 : ZI [(11, 3, 1), (5, 3, 1), (0, 11, 9999)] cH170 := ZI_nw cHz169 (by decide +kernel)
theorem cHz171 : ZI [(11, 3, 1), (5, 3, 1), (0, 11, 9999)] cH171 := ZI_sR cHz170
theorem cHz172 : ZI [(11, 3, 1), (5, 3, 1), (0, 11, 9999)] cH172 := ZI_sR cHz171
theorem cHz173 : ZI [(11, 3, 1), (5, 3, 1), (0, 11, 9999)] cH173 := ZI_nw cHz172 (by decide +kernel)
theorem cHz174 : ZI [(11, 3, 1), (5, 3, 1), (0, 11, 9999)] cH174 := ZI_nw cHz173 (by decide +kernel)
theorem cHz175 : ZI [(11, 3, 1), (5, 3, 1), (0, 11, 9999)] cH175 := ZI_sR cHz174
theorem cHz176 : ZI [(81, 1, (-1)), (11, 3, 1), (5, 3, 1), (0, 11, 9999)] cH176 := ZI_sI cHz175
theorem cHz177 : ZI [(81, 1, (-1)), (11, 3, 1), (5, 3, 1), (0, 11, 9999)] cH177 := ZI_sR cHz176
theorem cHz178 : ZI [(81, 1, (-1)), (11, 3, 1), (5, 3, 1), (0, 11, 9999)] cH178 := ZI_nw cHz177 (by decide +kernel)
theorem cHz179 : ZI [(81, 1, (-1)), (11, 3, 1), (5, 3, 1), (0, 11, 9999)] cH179 := ZI_nw cHz178 (by decide +kernel)
theorem cHz180 : ZI [(81, 1, (-1)), (11, 3, 1), (5, 3, 1), (0, 11, 9999)] cH180 := ZI_sR cHz179
theorem cHz181 : ZI [(83, 1, (-1)), (81, 1, (-1)), (11, 3, 1), (5, 3, 1), (0, 11, 9999)] cH181 := ZI_sI cHz180
theorem cHz182 : ZI [(83, 1, (-1)), (81, 1, (-1)), (11, 3, 1), (5, 3, 1), (0, 11, 9999)] cH182 := ZI_sR cHz181
theorem cHz183 : ZI [(83, 1, (-1)), (81, 1, (-1)), (11, 3, 1), (5, 3, 1), (0, 11, 9999)] cH183 := ZI_nw cHz182 (by decide +kernel)
theorem cHz184 : ZI [(83, 1, (-1)), (81, 1, (-1)), (11, 3, 1), (5, 3, 1), (0, 11, 9999)] cH184 := ZI_nw cHz183 (by decide +kernel)
theorem cHz185 : ZI [(83, 1, (-1)), (81, 1, (-1)), (11, 3, 1), (5, 3, 1), (0, 11, 9999)] cH185 := ZI_sR cHz184
theorem cHz186 : ZI [(85, 1, (-1)), (83, 1, (-1)), (81, 1, (-1)), (11, 3, 1), (5, 3, 1), (0, 11, 9999)] cH186 := ZI_sI cHz185
theorem cHz187 : ZI [(85, 1, (-1)), (83, 1, (-1)), (81, 1, (-1)), (11, 3, 1), (5, 3, 1), (0, 11, 9999)] cH187 := ZI_sR cHz186
theorem cHz188 : ZI [(85, 1, (-1)), (83, 1, (-1)), (81, 1, (-1)), (11, 3, 1), (5, 3, 1), (0, 11, 9999)] cH188 := ZI_nw cHz187 (by decide +kernel)
theorem cHz189 : ZI [(85, 1, (-1)), (83, 1, (-1)), (81, 1, (-1)), (11, 3, 1), (5, 3, 1), (0, 11, 9999)] cH189 := ZI_nw cHz188 (by decide +kernel)
theorem cHz190 : ZI [(85, 1, (-1)), (83, 1, (-1)), (81, 1, (-1)), (11, 3, 1), (5, 3, 1), (0, 11, 9999)] cH190 := ZI_sR cHz189
theorem cHz191 : ZI [(87, 1, (-1)), (85, 1, (-1)), (83, 1, (-1)), (81, 1, (-1)), (11, 3, 1), (5, 3, 1), (0, 11, 9999)] cH191 := ZI_sI cHz190
theorem cHz192 : ZI [(87, 1, (-1)), (85, 1, (-1)), (83, 1, (-1)), (81, 1, (-1)), (11, 3, 1), (5, 3, 1), (0, 11, 9999)] cH192 := ZI_sR cHz191
theorem cHt1 : wp mX10_init 1 0 0 (QV fun h => h = cH6) 17 [some (vr 1)] [vr 3, vr 1] cH5 := xV k_X10_init_17 (And.intro (by decide +kernel) (And.intro rfl (And.intro rfl rfl)))
theorem cHt2 : wp mX10_init 1 1 12 (QV fun h => h = cH6) 9 [some (vr 1)] [vr 2, vr 1] cH3 := xNewa k_X10_init_9 (And.intro (by decide +kernel) (And.intro (by decide) cHt1))
theorem cHt3 : wp mX10_init 1 2 76 (QV fun h => h = cH6) 4 [some (vr 1)] [] cH2 := xNewa k_X10_init_4 (And.intro (by decide) cHt2)
theorem cHt4 : wp mX10_init 1 2 76 (QV fun h => h = cH6) 0 [some (vr 1)] [] cH2 := xObj k_X10_init_0 s_X10_init_1 (And.intro (And.intro (by decide) (by decide)) cHt3)
theorem cHc5 : Ct 1 2 76 mX10_init [vr 1] cH2 (QV fun h => h = cH6) := Ct.of (by decide +kernel) (by decide) cHt4
theorem cHt6 : wp mX9_init 1 0 0 (QV fun h => h = cH14) 18 [some (vr 5)] [vr 7, vr 5] cH13 := xV k_X9_init_18 (And.intro (by decide +kernel) (And.intro rfl (And.intro rfl rfl)))
theorem cHt7 : wp mX9_init 1 1 8 (QV fun h => h = cH14) 10 [some (vr 5)] [vr 6, vr 5] cH11 := xNewa k_X9_init_10 (And.intro (by decide +kernel) (And.intro (by decide) cHt6))
theorem cHt8 : wp mX9_init 1 2 16 (QV fun h => h = cH14) 4 [some (vr 5)] [] cH10 := xAnew k_X9_init_4 s_X9_init_7 (And.intro (by decide) cHt7)
theorem cHt9 : wp mX9_init 1 2 16 (QV fun h => h = cH14) 0 [some (vr 5)] [] cH10 := xObj k_X9_init_0 s_X9_init_1 (And.intro (And.intro (by decide) (by decide)) cHt8)
theorem cHc10 : Ct 1 2 16 mX9_init [vr 5] cH10 (QV fun h => h = cH14) := Ct.of (by decide +kernel) (by decide) cHt9
theorem cHt11 : wp mX9_init 1 0 0 (QV fun h => h = cH20) 18 [some (vr 8)] [vr 10, vr 8] cH19 := xV k_X9_init_18 (And.intro (by decide +kernel) (And.intro rfl (And.intro rfl rfl)))
theorem cHt12 : wp mX9_init 1 1 8 (QV fun h => h = cH20) 10 [some (vr 8)] [vr 9, vr 8] cH17 := xNewa k_X9_init_10 (And.intro (by decide +kernel) (And.intro (by decide) cHt11))
theorem cHt13 : wp mX9_init 1 2 16 (QV fun h => h = cH20) 4 [some (vr 8)] [] cH16 := xAnew k_X9_init_4 s_X9_init_7 (And.intro (by decide) cHt12)
theorem cHt14 : wp mX9_init 1 2 16 (QV fun h => h = cH20) 0 [some (vr 8)] [] cH16 := xObj k_X9_init_0 s_X9_init_1 (And.intro (And.intro (by decide) (by decide)) cHt13)
theorem cHc15 : Ct 1 2 16 mX9_init [vr 8] cH16 (QV fun h => h = cH20) := Ct.of (by decide +kernel) (by decide) cHt14
theorem cHt16 : wp mX9_init 1 0 0 (QV fun h => h = cH26) 18 [some (vr 11)] [vr 13, vr 11] cH25 := xV k_X9_init_18 (And.intro (by decide +kernel) (And.intro rfl (And.intro rfl rfl)))
theorem cHt17 : wp mX9_init 1 1 8 (QV fun h => h = cH26) 10 [some (vr 11)] [vr 12, vr 11] cH23 := xNewa k_X9_init_10 (And.intro (by decide +kernel) (And.intro (by decide) cHt16))
theorem cHt18 : wp mX9_init 1 2 16 (QV fun h => h = cH26) 4 [some (vr 11)] [] cH22 := xAnew k_X9_init_4 s_X9_init_7 (And.intro (by decide) cHt17)
theorem cHt19 : wp mX9_init 1 2 16 (QV fun h => h = cH26) 0 [some (vr 11)] [] cH22 := xObj k_X9_init_0 s_X9_init_1 (And.intro (And.intro (by decide) (by decide)) cHt18)
theorem cHc20 : Ct 1 2 16 mX9_init [vr 11] cH22 (QV fun h => h = cH26) := Ct.of (by decide +kernel) (by decide) cHt19
theorem cHt21 : wp mX4_init 1 0 0 (QV fun h => h = cH32) 4 [some (vr 16)] [] cH32 := xV k_X4_init_4 (And.intro rfl (And.intro rfl rfl))
theorem cHt22 : wp mX4_init 1 0 0 (QV fun h => h = cH32) 0 [some (vr 16)] [] cH32 := xObj k_X4_init_0 s_X4_init_1 (And.intro (And.intro (by decide) (by decide)) cHt21)
theorem cHc23 : Ct 1 0 0 mX4_init [vr 16] cH32 (QV fun h => h = cH32) := Ct.of (by decide +kernel) (by decide) cHt22
theorem cHt24 : wp mX3_init 1 0 0 (QV fun h => h = cH36) 9 [some (vr 17)] [vr 18, vr 17] cH35 := xV k_X3_init_9 (And.intro (by decide +kernel) (And.intro rfl (And.intro rfl rfl)))
theorem cHt25 : wp mX3_init 1 1 8 (QV fun h => h = cH36) 4 [some (vr 17)] [] cH34 := xNewa k_X3_init_4 (And.intro (by decide) cHt24)
theorem cHt26 : wp mX3_init 1 1 8 (QV fun h => h = cH36) 0 [some (vr 17)] [] cH34 := xObj k_X3_init_0 s_X3_init_1 (And.intro (And.intro (by decide) (by decide)) cHt25)
theorem cHc27 : Ct 1 1 8 mX3_init [vr 17] cH34 (QV fun h => h = cH36) := Ct.of (by decide +kernel) (by decide) cHt26
theorem cHt28 : wp mX6_init 1 0 0 (QV fun h => h = cH42) 4 [some (vr 20), some (vr 1)] [] cH41 := xV k_X6_init_4 (And.intro (by decide +kernel) (And.intro rfl (And.intro rfl rfl)))
theorem cHt29 : wp mX6_init 1 0 0 (QV fun h => h = cH42) 0 [some (vr 20), some (vr 1)] [] cH41 := xObj k_X6_init_0 s_X6_init_1 (And.intro (And.intro (by decide) (by decide)) cHt28)
theorem cHc30 : Ct 1 0 0 mX6_init [vr 20, vr 1] cH41 (QV fun h => h = cH42) := Ct.of (by decide +kernel) (by decide) cHt29
theorem cHt31 : wp mX2_init 1 0 0 (QV fun h => h = cH46) 9 [some (vr 21)] [vr 22, vr 21] cH45 := xV k_X2_init_9 (And.intro (by decide +kernel) (And.intro rfl (And.intro rfl rfl)))
theorem cHt32 : wp mX2_init 1 1 8 (QV fun h => h = cH46) 4 [some (vr 21)] [] cH44 := xNewa k_X2_init_4 (And.intro (by decide) cHt31)
theorem cHt33 : wp mX2_init 1 1 8 (QV fun h => h = cH46) 0 [some (vr 21)] [] cH44 := xObj k_X2_init_0 s_X2_init_1 (And.intro (And.intro (by decide) (by decide)) cHt32)
theorem cHc34 : Ct 1 1 8 mX2_init [vr 21] cH44 (QV fun h => h = cH46) := Ct.of (by decide +kernel) (by decide) cHt33
theorem cHt35 : wp mX1_init 1 0 0 (QV fun h => h = cH56) 25 [some (vr 24)] [vr 27, vr 24] cH55 := xV k_X1_init_25 (And.intro (by decide +kernel) (And.intro rfl (And.intro rfl rfl)))
theorem cHt36 : wp mX1_init 1 1 8 (QV fun h => h = cH56) 17 [some (vr 24)] [vr 26, vr 24] cH53 := xNewa k_X1_init_17 (And.intro (by decide +kernel) (And.intro (by decide) cHt35))
theorem cHt37 : wp mX1_init 1 2 72 (QV fun h => h = cH56) 9 [some (vr 24)] [vr 25, vr 24] cH51 := xNewa k_X1_init_9 (And.intro (by decide +kernel) (And.intro (by decide) cHt36))
theorem cHt38 : wp mX1_init 1 3 136 (QV fun h => h = cH56) 4 [some (vr 24)] [] cH50 := xNewa k_X1_init_4 (And.intro (by decide) cHt37)
theorem cHt39 : wp mX1_init 1 3 136 (QV fun h => h = cH56) 0 [some (vr 24)] [] cH50 := xObj k_X1_init_0 s_X1_init_1 (And.intro (And.intro (by decide) (by decide)) cHt38)
theorem cHc40 : Ct 1 3 136 mX1_init [vr 24] cH50 (QV fun h => h = cH56) := Ct.of (by decide +kernel) (by decide) cHt39
theorem cHt41 : wp mX1_init 1 0 0 (QV fun h => h = cH64) 25 [some (vr 28)] [vr 31, vr 28] cH63 := xV k_X1_init_25 (And.intro (by decide +kernel) (And.intro rfl (And.intro rfl rfl)))
theorem cHt42 : wp mX1_init 1 1 8 (QV fun h => h = cH64) 17 [some (vr 28)] [vr 30, vr 28] cH61 := xNewa k_X1_init_17 (And.intro (by decide +kernel) (And.intro (by decide) cHt41))
theorem cHt43 : wp mX1_init 1 2 72 (QV fun h => h = cH64) 9 [some (vr 28)] [vr 29, vr 28] cH59 := xNewa k_X1_init_9 (And.intro (by decide +kernel) (And.intro (by decide) cHt42))
theorem cHt44 : wp mX1_init 1 3 136 (QV fun h => h = cH64) 4 [some (vr 28)] [] cH58 := xNewa k_X1_init_4 (And.intro (by decide) cHt43)
theorem cHt45 : wp mX1_init 1 3 136 (QV fun h => h = cH64) 0 [some (vr 28)] [] cH58 := xObj k_X1_init_0 s_X1_init_1 (And.intro (And.intro (by decide) (by decide)) cHt44)
theorem cHc46 : Ct 1 3 136 mX1_init [vr 28] cH58 (QV fun h => h = cH64) := Ct.of (by decide +kernel) (by decide) cHt45
theorem cHt47 : wp mX9_init 1 0 0 (QV fun h => h = cH77) 18 [some (vr 33)] [vr 35, vr 33] cH76 := xV k_X9_init_18 (And.intro (by decide +kernel) (And.intro rfl (And.intro rfl rfl)))
theorem cHt48 : wp mX9_init 1 1 8 (QV fun h => h = cH77) 10 [some (vr 33)] [vr 34, vr 33] cH74 := xNewa k_X9_init_10 (And.intro (by decide +kernel) (And.intro (by decide) cHt47))
theorem cHt49 : wp mX9_init 1 2 16 (QV fun h => h = cH77) 4 [some (vr 33)] [] cH73 := xAnew k_X9_init_4 s_X9_init_7 (And.intro (by decide) cHt48)
theorem cHt50 : wp mX9_init 1 2 16 (QV fun h => h = cH77) 0 [some (vr 33)] [] cH73 := xObj k_X9_init_0 s_X9_init_1 (And.intro (And.intro (by decide) (by decide)) cHt49)
theorem cHc51 : Ct 1 2 16 mX9_init [vr 33] cH73 (QV fun h => h = cH77) := Ct.of (by decide +kernel) (by decide) cHt50
theorem cHt52 : wp mX9_init 1 0 0 (QV fun h => h = cH84) 18 [some (vr 36)] [vr 38, vr 36] cH83 := xV k_X9_init_18 (And.intro (by decide +kernel) (And.intro rfl (And.intro rfl rfl)))
theorem cHt53 : wp mX9_init 1 1 8 (QV fun h => h = cH84) 10 [some (vr 36)] [vr 37, vr 36] cH81 := xNewa k_X9_init_10 (And.intro (by decide +kernel) (And.intro (by decide) cHt52))
theorem cHt54 : wp mX9_init 1 2 16 (QV fun h => h = cH84) 4 [some (vr 36)] [] cH80 := xAnew k_X9_init_4 s_X9_init_7 (And.intro (by decide) cHt53)
theorem cHt55 : wp mX9_init 1 2 16 (QV fun h => h = cH84) 0 [some (vr 36)] [] cH80 := xObj k_X9_init_0 s_X9_init_1 (And.intro (And.intro (by decide) (by decide)) cHt54)
theorem cHc56 : Ct 1 2 16 mX9_init [vr 36] cH80 (QV fun h => h = cH84) := Ct.of (by decide +kernel) (by decide) cHt55
theorem cHt57 : wp mX9_init 1 0 0 (QV fun h => h = cH91) 18 [some (vr 39)] [vr 41, vr 39] cH90 := xV k_X9_init_18 (And.intro (by decide +kernel) (And.intro rfl (And.intro rfl rfl)))
theorem cHt58 : wp mX9_init 1 1 8 (QV fun h => h = cH91) 10 [some (vr 39)] [vr 40, vr 39] cH88 := xNewa k_X9_init_10 (And.intro (by decide +kernel) (And.intro (by decide) cHt57))
theorem cHt59 : wp mX9_init 1 2 16 (QV fun h => h = cH91) 4 [some (vr 39)] [] cH87 := xAnew k_X9_init_4 s_X9_init_7 (And.intro (by decide) cHt58)
theorem cHt60 : wp mX9_init 1 2 16 (QV fun h => h = cH91) 0 [some (vr 39)] [] cH87 := xObj k_X9_init_0 s_X9_init_1 (And.intro (And.intro (by decide) (by decide)) cHt59)
theorem cHc61 : Ct 1 2 16 mX9_init [vr 39] cH87 (QV fun h => h = cH91) := Ct.of (by decide +kernel) (by decide) cHt60
theorem cHt62 : wp mX9_init 1 0 0 (QV fun h => h = cH98) 18 [some (vr 42)] [vr 44, vr 42] cH97 := xV k_X9_init_18 (And.intro (by decide +kernel) (And.intro rfl (And.intro rfl rfl)))
theorem cHt63 : wp mX9_init 1 1 8 (QV fun h => h = cH98) 10 [some (vr 42)] [vr 43, vr 42] cH95 := xNewa k_X9_init_10 (And.intro (by decide +kernel) (And.intro (by decide) cHt62))
theorem cHt64 : wp mX9_init 1 2 16 (QV fun h => h = cH98) 4 [some (vr 42)] [] cH94 := xAnew k_X9_init_4 s_X9_init_7 (And.intro (by decide) cHt63)
theorem cHt65 : wp mX9_init 1 2 16 (QV fun h => h = cH98) 0 [some (vr 42)] [] cH94 := xObj k_X9_init_0 s_X9_init_1 (And.intro (And.intro (by decide) (by decide)) cHt64)
theorem cHc66 : Ct 1 2 16 mX9_init [vr 42] cH94 (QV fun h => h = cH98) := Ct.of (by decide +kernel) (by decide) cHt65
theorem cHt67 : wp mX5_init 1 0 0 (QV fun h => h = cH111) 41 [some (vr 45)] [vr 50, vr 45] cH110 := xV k_X5_init_41 (And.intro (by decide +kernel) (And.intro rfl (And.intro rfl rfl)))
theorem cHt68 : wp mX5_init 1 1 16 (QV fun h => h = cH111) 33 [some (vr 45)] [vr 49, vr 45] cH108 := xNewa k_X5_init_33 (And.intro (by decide +kernel) (And.intro (by decide) cHt67))
theorem cHt69 : wp mX5_init 1 2 80 (QV fun h => h = cH111) 25 [some (vr 45)] [vr 48, vr 45] cH106 := xNewa k_X5_init_25 (And.intro (by decide +kernel) (And.intro (by decide) cHt68))
theorem cHt70 : wp mX5_init 1 3 144 (QV fun h => h = cH111) 17 [some (vr 45)] [vr 47, vr 45] cH104 := xNewa k_X5_init_17 (And.intro (by decide +kernel) (And.intro (by decide) cHt69))
theorem cHt71 : wp mX5_init 1 4 208 (QV fun h => h = cH111) 9 [some (vr 45)] [vr 46, vr 45] cH102 := xNewa k_X5_init_9 (And.intro (by decide +kernel) (And.intro (by decide) cHt70))
theorem cHt72 : wp mX5_init 1 5 272 (QV fun h => h = cH111) 4 [some (vr 45)] [] cH101 := xNewa k_X5_init_4 (And.intro (by decide) cHt71)
theorem cHt73 : wp mX5_init 1 5 272 (QV fun h => h = cH111) 0 [some (vr 45)] [] cH101 := xObj k_X5_init_0 s_X5_init_1 (And.intro (And.intro (by decide) (by decide)) cHt72)
theorem cHc74 : Ct 1 5 272 mX5_init [vr 45] cH101 (QV fun h => h = cH111) := Ct.of (by decide +kernel) (by decide) cHt73
theorem cHt75 : wp mX5_init 1 0 0 (QV fun h => h = cH123) 41 [some (vr 51)] [vr 56, vr 51] cH122 := xV k_X5_init_41 (And.intro (by decide +kernel) (And.intro rfl (And.intro rfl rfl)))
theorem cHt76 : wp mX5_init 1 1 16 (QV fun h => h = cH123) 33 [some (vr 51)] [vr 55, vr 51] cH120 := xNewa k_X5_init_33 (And.intro (by decide +kernel) (And.intro (by decide) cHt75))
theorem cHt77 : wp mX5_init 1 2 80 (QV fun h => h = cH123) 25 [some (vr 51)] [vr 54, vr 51] cH118 := xNewa k_X5_init_25 (And.intro (by decide +kernel) (And.intro (by decide) cHt76))
theorem cHt78 : wp mX5_init 1 3 144 (QV fun h => h = cH123) 17 [some (vr 51)] [vr 53, vr 51] cH116 := xNewa k_X5_init_17 (And.intro (by decide +kernel) (And.intro (by decide) cHt77))
theorem cHt79 : wp mX5_init 1 4 208 (QV fun h => h = cH123) 9 [some (vr 51)] [vr 52, vr 51] cH114 := xNewa k_X5_init_9 (And.intro (by decide +kernel) (And.intro (by decide) cHt78))
theorem cHt80 : wp mX5_init 1 5 272 (QV fun h => h = cH123) 4 [some (vr 51)] [] cH113 := xNewa k_X5_init_4 (And.intro (by decide) cHt79)
theorem cHt81 : wp mX5_init 1 5 272 (QV fun h => h = cH123) 0 [some (vr 51)] [] cH113 := xObj k_X5_init_0 s_X5_init_1 (And.intro (And.intro (by decide) (by decide)) cHt80)
theorem cHc82 : Ct 1 5 272 mX5_init [vr 51] cH113 (QV fun h => h = cH123) := Ct.of (by decide +kernel) (by decide) cHt81
theorem cHt83 : wp mX5_init 1 0 0 (QV fun h => h = cH135) 41 [some (vr 57)] [vr 62, vr 57] cH134 := xV k_X5_init_41 (And.intro (by decide +kernel) (And.intro rfl (And.intro rfl rfl)))
theorem cHt84 : wp mX5_init 1 1 16 (QV fun h => h = cH135) 33 [some (vr 57)] [vr 61, vr 57] cH132 := xNewa k_X5_init_33 (And.intro (by decide +kernel) (And.intro (by decide) cHt83))
theorem cHt85 : wp mX5_init 1 2 80 (QV fun h => h = cH135) 25 [some (vr 57)] [vr 60, vr 57] cH130 := xNewa k_X5_init_25 (And.intro (by decide +kernel) (And.intro (by decide) cHt84))
theorem cHt86 : wp mX5_init 1 3 144 (QV fun h => h = cH135) 17 [some (vr 57)] [vr 59, vr 57] cH128 := xNewa k_X5_init_17 (And.intro (by decide +kernel) (And.intro (by decide) cHt85))
theorem cHt87 : wp mX5_init 1 4 208 (QV fun h => h = cH135) 9 [some (vr 57)] [vr 58, vr 57] cH126 := xNewa k_X5_init_9 (And.intro (by decide +kernel) (And.intro (by decide) cHt86))
theorem cHt88 : wp mX5_init 1 5 272 (QV fun h => h = cH135) 4 [some (vr 57)] [] cH125 := xNewa k_X5_init_4 (And.intro (by decide) cHt87)
theorem cHt89 : wp mX5_init 1 5 272 (QV fun h => h = cH135) 0 [some (vr 57)] [] cH125 := xObj k_X5_init_0 s_X5_init_1 (And.intro (And.intro (by decide) (by decide)) cHt88)
theorem cHc90 : Ct 1 5 272 mX5_init [vr 57] cH125 (QV fun h => h = cH135) := Ct.of (by decide +kernel) (by decide) cHt89
theorem cHt91 : wp mX5_init 1 0 0 (QV fun h => h = cH147) 41 [some (vr 63)] [vr 68, vr 63] cH146 := xV k_X5_init_41 (And.intro (by decide +kernel) (And.intro rfl (And.intro rfl rfl)))
theorem cHt92 : wp mX5_init 1 1 16 (QV fun h => h = cH147) 33 [some (vr 63)] [vr 67, vr 63] cH144 := xNewa k_X5_init_33 (And.intro (by decide +kernel) (And.intro (by decide) cHt91))
theorem cHt93 : wp mX5_init 1 2 80 (QV fun h => h = cH147) 25 [some (vr 63)] [vr 66, vr 63] cH142 := xNewa k_X5_init_25 (And.intro (by decide +kernel) (And.intro (by decide) cHt92))
theorem cHt94 : wp mX5_init 1 3 144 (QV fun h => h = cH147) 17 [some (vr 63)] [vr 65, vr 63] cH140 := xNewa k_X5_init_17 (And.intro (by decide +kernel) (And.intro (by decide) cHt93))
theorem cHt95 : wp mX5_init 1 4 208 (QV fun h => h = cH147) 9 [some (vr 63)] [vr 64, vr 63] cH138 := xNewa k_X5_init_9 (And.intro (by decide +kernel) (And.intro (by decide) cHt94))
theorem cHt96 : wp mX5_init 1 5 272 (QV fun h => h = cH147) 4 [some (vr 63)] [] cH137 := xNewa k_X5_init_4 (And.intro (by decide) cHt95)
theorem cHt97 : wp mX5_init 1 5 272 (QV fun h => h = cH147) 0 [some (vr 63)] [] cH137 := xObj k_X5_init_0 s_X5_init_1 (And.intro (And.intro (by decide) (by decide)) cHt96)
theorem cHc98 : Ct 1 5 272 mX5_init [vr 63] cH137 (QV fun h => h = cH147) := Ct.of (by decide +kernel) (by decide) cHt97
theorem cHt99 : wp mX5_init 1 0 0 (QV fun h => h = cH159) 41 [some (vr 69)] [vr 74, vr 69] cH158 := xV k_X5_init_41 (And.intro (by decide +kernel) (And.intro rfl (And.intro rfl rfl)))
theorem cHt100 : wp mX5_init 1 1 16 (QV fun h => h = cH159) 33 [some (vr 69)] [vr 73, vr 69] cH156 := xNewa k_X5_init_33 (And.intro (by decide +kernel) (And.intro (by decide) cHt99))
theorem cHt101 : wp mX5_init 1 2 80 (QV fun h => h = cH159) 25 [some (vr 69)] [vr 72, vr 69] cH154 := xNewa k_X5_init_25 (And.intro (by decide +kernel) (And.intro (by decide) cHt100))
theorem cHt102 : wp mX5_init 1 3 144 (QV fun h => h = cH159) 17 [some (vr 69)] [vr 71, vr 69] cH152 := xNewa k_X5_init_17 (And.intro (by decide +kernel) (And.intro (by decide) cHt101))
theorem cHt103 : wp mX5_init 1 4 208 (QV fun h => h = cH159) 9 [some (vr 69)] [vr 70, vr 69] cH150 := xNewa k_X5_init_9 (And.intro (by decide +kernel) (And.intro (by decide) cHt102))
theorem cHt104 : wp mX5_init 1 5 272 (QV fun h => h = cH159) 4 [some (vr 69)] [] cH149 := xNewa k_X5_init_4 (And.intro (by decide) cHt103)
theorem cHt105 : wp mX5_init 1 5 272 (QV fun h => h = cH159) 0 [some (vr 69)] [] cH149 := xObj k_X5_init_0 s_X5_init_1 (And.intro (And.intro (by decide) (by decide)) cHt104)
theorem cHc106 : Ct 1 5 272 mX5_init [vr 69] cH149 (QV fun h => h = cH159) := Ct.of (by decide +kernel) (by decide) cHt105
theorem cHt107 : wp mX5_init 1 0 0 (QV fun h => h = cH171) 41 [some (vr 75)] [vr 80, vr 75] cH170 := xV k_X5_init_41 (And.intro (by decide +kernel) (And.intro rfl (And.intro rfl rfl)))
theorem cHt108 : wp mX5_init 1 1 16 (QV fun h => h = cH171) 33 [some (vr 75)] [vr 79, vr 75] cH168 := xNewa k_X5_init_33 (And.intro (by decide +kernel) (And.intro (by decide) cHt107))
theorem cHt109 : wp mX5_init 1 2 80 (QV fun h => h = cH171) 25 [some (vr 75)] [vr 78, vr 75] cH166 := xNewa k_X5_init_25 (And.intro (by decide +kernel) (And.intro (by decide) cHt108))
theorem cHt110 : wp mX5_init 1 3 144 (QV fun h => h = cH171) 17 [some (vr 75)] [vr 77, vr 75] cH164 := xNewa k_X5_init_17 (And.intro (by decide +kernel) (And.intro (by decide) cHt109))
theorem cHt111 : wp mX5_init 1 4 208 (QV fun h => h = cH171) 9 [some (vr 75)] [vr 76, vr 75] cH162 := xNewa k_X5_init_9 (And.intro (by decide +kernel) (And.intro (by decide) cHt110))
theorem cHt112 : wp mX5_init 1 5 272 (QV fun h => h = cH171) 4 [some (vr 75)] [] cH161 := xNewa k_X5_init_4 (And.intro (by decide) cHt111)
theorem cHt113 : wp mX5_init 1 5 272 (QV fun h => h = cH171) 0 [some (vr 75)] [] cH161 := xObj k_X5_init_0 s_X5_init_1 (And.intro (And.intro (by decide) (by decide)) cHt112)
theorem cHc114 : Ct 1 5 272 mX5_init [vr 75] cH161 (QV fun h => h = cH171) := Ct.of (by decide +kernel) (by decide) cHt113
theorem cHt115 : wp mX8_init 1 0 0 (QV fun h => h = cH176) 9 [some (vr 81)] [vr 82, vr 81] cH174 := xV k_X8_init_9 (And.intro (by decide +kernel) (And.intro (by decide +kernel) (And.intro rfl (And.intro rfl rfl))))
theorem cHt116 : wp mX8_init 1 1 40 (QV fun h => h = cH176) 4 [some (vr 81)] [] cH173 := xNewa k_X8_init_4 (And.intro (by decide) cHt115)
theorem cHt117 : wp mX8_init 1 1 40 (QV fun h => h = cH176) 0 [some (vr 81)] [] cH173 := xObj k_X8_init_0 s_X8_init_1 (And.intro (And.intro (by decide) (by decide)) cHt116)
theorem cHc118 : Ct 1 1 40 mX8_init [vr 81] cH173 (QV fun h => h = cH176) := Ct.of (by decide +kernel) (by decide) cHt117
theorem cHt119 : wp mX8_init 1 0 0 (QV fun h => h = cH181) 9 [some (vr 83)] [vr 84, vr 83] cH179 := xV k_X8_init_9 (And.intro (by decide +kernel) (And.intro (by decide +kernel) (And.intro rfl (And.intro rfl rfl))))
theorem cHt120 : wp mX8_init 1 1 40 (QV fun h => h = cH181) 4 [some (vr 83)] [] cH178 := xNewa k_X8_init_4 (And.intro (by decide) cHt119)
theorem cHt121 : wp mX8_init 1 1 40 (QV fun h => h = cH181) 0 [some (vr 83)] [] cH178 := xObj k_X8_init_0 s_X8_init_1 (And.intro (And.intro (by decide) (by decide)) cHt120)
theorem cHc122 : Ct 1 1 40 mX8_init [vr 83] cH178 (QV fun h => h = cH181) := Ct.of (by decide +kernel) (by decide) cHt121
theorem cHt123 : wp mX8_init 1 0 0 (QV fun h => h = cH186) 9 [some (vr 85)] [vr 86, vr 85] cH184 := xV k_X8_init_9 (And.intro (by decide +kernel) (And.intro (by decide +kernel) (And.intro rfl (And.intro rfl rfl))))
theorem cHt124 : wp mX8_init 1 1 40 (QV fun h => h = cH186) 4 [some (vr 85)] [] cH183 := xNewa k_X8_init_4 (And.intro (by decide) cHt123)
theorem cHt125 : wp mX8_init 1 1 40 (QV fun h => h = cH186) 0 [some (vr 85)] [] cH183 := xObj k_X8_init_0 s_X8_init_1 (And.intro (And.intro (by decide) (by decide)) cHt124)
theorem cHc126 : Ct 1 1 40 mX8_init [vr 85] cH183 (QV fun h => h = cH186) := Ct.of (by decide +kernel) (by decide) cHt125
theorem cHt127 : wp mX8_init 1 0 0 (QV fun h => h = cH191) 9 [some (vr 87)] [vr 88, vr 87] cH189 := xV k_X8_init_9 (And.intro (by decide +kernel) (And.intro (by decide +kernel) (And.intro rfl (And.intro rfl rfl))))
theorem cHt128 : wp mX8_init 1 1 40 (QV fun h => h = cH191) 4 [some (vr 87)] [] cH188 := xNewa k_X8_init_4 (And.intro (by decide) cHt127)
theorem cHt129 : wp mX8_init 1 1 40 (QV fun h => h = cH191) 0 [some (vr 87)] [] cH188 := xObj k_X8_init_0 s_X8_init_1 (And.intro (And.intro (by decide) (by decide)) cHt128)
theorem cHc130 : Ct 1 1 40 mX8_init [vr 87] cH188 (QV fun h => h = cH191) := Ct.of (by decide +kernel) (by decide) cHt129
theorem cHt131 : wp mX11_init 2 0 0 (QV fun h => h = cH192) 314 [some (vr 0), some (vi 4)] [] cH192 := xV k_X11_init_314 (And.intro rfl (And.intro rfl rfl))
theorem cHt132 : wp mX11_init 2 0 0 (QV fun h => h = cH192) 290 [some (vr 0), some (vi 4)] [] cH192 := xIc k_X11_init_290 (And.intro (fun _ => cHt131) (fun c => absurd (show (4 : Int) ≤ (4 : Int) from by decide) c))
theorem cHt133 : wp mX11_init 2 0 0 (QV fun h => h = cH192) 307 [some (vr 0), some (vi 3)] [vr 87, vi 3, vr 23] cH191 := xGo k_X11_init_307 (And.intro (by decide +kernel) (And.intro (And.intro (by decide) (by decide)) (And.intro rfl cHt132)))
theorem cHt134 : wp mX11_init 2 1 40 (QV fun h => h = cH192) 303 [some (vr 0), some (vi 3)] [vr 87, vi 3, vr 23] cH188 := xcI k_X11_init_303 s_X11_init_304 (And.intro rfl (Exists.intro [] (Exists.intro 87 (Exists.intro [vr 87, vi 3, vr 23] (And.intro (And.intro rfl (And.intro rfl (by decide))) (And.intro (by decide +kernel) (Exists.intro 1 (Exists.intro 1 (Exists.intro 40 (Exists.intro _ (And.intro cHc130 (And.intro (And.intro (by decide) (And.intro (by decide) (by decide))) (eQV fun h7 e7 => (by cases e7; exact cHt133))))))))))))))
theorem cHt135 : wp mX11_init 2 2 43 (QV fun h => h = cH192) 295 [some (vr 0), some (vi 3)] [] cH187 := xNew k_X11_init_295 s_X11_init_300 (And.intro (by decide +kernel) (Exists.intro 23 (And.intro (by decide +kernel) (And.intro (And.intro (by decide) (by decide +kernel)) cHt134))))
theorem cHt136 : wp mX11_init 2 2 43 (QV fun h => h = cH192) 290 [some (vr 0), some (vi 3)] [] cH187 := xIc k_X11_init_290 (And.intro (fun c => absurd (show (4 : Int) ≤ (3 : Int) from c) (by decide)) (fun _ => cHt135))
theorem cHt137 : wp mX11_init 2 2 43 (QV fun h => h = cH192) 307 [some (vr 0), some (vi 2)] [vr 85, vi 2, vr 23] cH186 := xGo k_X11_init_307 (And.intro (by decide +kernel) (And.intro (And.intro (by decide) (by decide)) (And.intro rfl cHt136)))
theorem cHt138 : wp mX11_init 2 3 83 (QV fun h => h = cH192) 303 [some (vr 0), some (vi 2)] [vr 85, vi 2, vr 23] cH183 := xcI k_X11_init_303 s_X11_init_304 (And.intro rfl (Exists.intro [] (Exists.intro 85 (Exists.intro [vr 85, vi 2, vr 23] (And.intro (And.intro rfl (And.intro rfl (by decide))) (And.intro (by decide +kernel) (Exists.intro 1 (Exists.intro 1 (Exists.intro 40 (Exists.intro _ (And.intro cHc126 (And.intro (And.intro (by decide) (And.intro (by decide) (by decide))) (eQV fun h7 e7 => (by cases e7; exact cHt137))))))))))))))
theorem cHt139 : wp mX11_init 2 4 86 (QV fun h => h = cH192) 295 [some (vr 0), some (vi 2)] [] cH182 := xNew k_X11_init_295 s_X11_init_300 (And.intro (by decide +kernel) (Exists.intro 23 (And.intro (by decide +kernel) (And.intro (And.intro (by decide) (by decide +kernel)) cHt138))))
theorem cHt140 : wp mX11_init 2 4 86 (QV fun h => h = cH192) 290 [some (vr 0), some (vi 2)] [] cH182 := xIc k_X11_init_290 (And.intro (fun c => absurd (show (4 : Int) ≤ (2 : Int) from c) (by decide)) (fun _ => cHt139))
theorem cHt141 : wp mX11_init 2 4 86 (QV fun h => h = cH192) 307 [some (vr 0), some (vi 1)] [vr 83, vi 1, vr 23] cH181 := xGo k_X11_init_307 (And.intro (by decide +kernel) (And.intro (And.intro (by decide) (by decide)) (And.intro rfl cHt140)))
theorem cHt142 : wp mX11_init 2 5 126 (QV fun h => h = cH192) 303 [some (vr 0), some (vi 1)] [vr 83, vi 1, vr 23] cH178 := xcI k_X11_init_303 s_X11_init_304 (And.intro rfl (Exists.intro [] (Exists.intro 83 (Exists.intro [vr 83, vi 1, vr 23] (And.intro (And.intro rfl (And.intro rfl (by decide))) (And.intro (by decide +kernel) (Exists.intro 1 (Exists.intro 1 (Exists.intro 40 (Exists.intro _ (And.intro cHc122 (And.intro (And.intro (by decide) (And.intro (by decide) (by decide))) (eQV fun h7 e7 => (by cases e7; exact cHt141))))))))))))))
theorem cHt143 : wp mX11_init 2 6 129 (QV fun h => h = cH192) 295 [some (vr 0), some (vi 1)] [] cH177 := xNew k_X11_init_295 s_X11_init_300 (And.intro (by decide +kernel) (Exists.intro 23 (And.intro (by decide +kernel) (And.intro (And.intro (by decide) (by decide +kernel)) cHt142))))
theorem cHt144 : wp mX11_init 2 6 129 (QV fun h => h = cH192) 290 [some (vr 0), some (vi 1)] [] cH177 := xIc k_X11_init_290 (And.intro (fun c => absurd (show (4 : Int) ≤ (1 : Int) from c) (by decide)) (fun _ => cHt143))
theorem cHt145 : wp mX11_init 2 6 129 (QV fun h => h = cH192) 307 [some (vr 0), some (vi 0)] [vr 81, vi 0, vr 23] cH176 := xGo k_X11_init_307 (And.intro (by decide +kernel) (And.intro (And.intro (by decide) (by decide)) (And.intro rfl cHt144)))
theorem cHt146 : wp mX11_init 2 7 169 (QV fun h => h = cH192) 303 [some (vr 0), some (vi 0)] [vr 81, vi 0, vr 23] cH173 := xcI k_X11_init_303 s_X11_init_304 (And.intro rfl (Exists.intro [] (Exists.intro 81 (Exists.intro [vr 81, vi 0, vr 23] (And.intro (And.intro rfl (And.intro rfl (by decide))) (And.intro (by decide +kernel) (Exists.intro 1 (Exists.intro 1 (Exists.intro 40 (Exists.intro _ (And.intro cHc118 (And.intro (And.intro (by decide) (And.intro (by decide) (by decide))) (eQV fun h7 e7 => (by cases e7; exact cHt145))))))))))))))
theorem cHt147 : wp mX11_init 2 8 172 (QV fun h => h = cH192) 295 [some (vr 0), some (vi 0)] [] cH172 := xNew k_X11_init_295 s_X11_init_300 (And.intro (by decide +kernel) (Exists.intro 23 (And.intro (by decide +kernel) (And.intro (And.intro (by decide) (by decide +kernel)) cHt146))))
theorem cHt148 : wp mX11_init 2 8 172 (QV fun h => h = cH192) 290 [some (vr 0), some (vi 0)] [] cH172 := xIc k_X11_init_290 (And.intro (fun c => absurd (show (4 : Int) ≤ (0 : Int) from c) (by decide)) (fun _ => cHt147))
theorem cHt149 : wp mX11_init 2 8 172 (QV fun h => h = cH192) 288 [some (vr 0), some (vi 6)] [] cH172 := xB k_X11_init_288 (And.intro rfl cHt148)
theorem cHt150 : wp mX11_init 2 8 172 (QV fun h => h = cH192) 263 [some (vr 0), some (vi 6)] [] cH172 := xIc k_X11_init_263 (And.intro (fun _ => cHt149) (fun c => absurd (show (6 : Int) ≤ (6 : Int) from by decide) c))
theorem cHt151 : wp mX11_init 2 8 172 (QV fun h => h = cH192) 281 [some (vr 0), some (vi 5)] [vr 75, vi 5, vr 19] cH171 := xGo k_X11_init_281 (And.intro (by decide +kernel) (And.intro (And.intro (by decide) (by decide)) (And.intro rfl cHt150)))
theorem cHt152 : wp mX11_init 2 13 444 (QV fun h => h = cH192) 277 [some (vr 0), some (vi 5)] [vr 75, vi 5, vr 19] cH161 := xcI k_X11_init_277 s_X11_init_278 (And.intro rfl (Exists.intro [] (Exists.intro 75 (Exists.intro [vr 75, vi 5, vr 19] (And.intro (And.intro rfl (And.intro rfl (by decide))) (And.intro (by decide +kernel) (Exists.intro 1 (Exists.intro 5 (Exists.intro 272 (Exists.intro _ (And.intro cHc114 (And.intro (And.intro (by decide) (And.intro (by decide) (by decide))) (eQV fun h7 e7 => (by cases e7; exact cHt151))))))))))))))
theorem cHt153 : wp mX11_init 2 14 451 (QV fun h => h = cH192) 269 [some (vr 0), some (vi 5)] [] cH160 := xNew k_X11_init_269 s_X11_init_274 (And.intro (by decide +kernel) (Exists.intro 19 (And.intro (by decide +kernel) (And.intro (And.intro (by decide) (by decide +kernel)) cHt152))))
theorem cHt154 : wp mX11_init 2 14 451 (QV fun h => h = cH192) 263 [some (vr 0), some (vi 5)] [] cH160 := xIc k_X11_init_263 (And.intro (fun c => absurd (show (6 : Int) ≤ (5 : Int) from c) (by decide)) (fun _ => cHt153))
theorem cHt155 : wp mX11_init 2 14 451 (QV fun h => h = cH192) 281 [some (vr 0), some (vi 4)] [vr 69, vi 4, vr 19] cH159 := xGo k_X11_init_281 (And.intro (by decide +kernel) (And.intro (And.intro (by decide) (by decide)) (And.intro rfl cHt154)))
theorem cHt156 : wp mX11_init 2 19 723 (QV fun h => h = cH192) 277 [some (vr 0), some (vi 4)] [vr 69, vi 4, vr 19] cH149 := xcI k_X11_init_277 s_X11_init_278 (And.intro rfl (Exists.intro [] (Exists.intro 69 (Exists.intro [vr 69, vi 4, vr 19] (And.intro (And.intro rfl (And.intro rfl (by decide))) (And.intro (by decide +kernel) (Exists.intro 1 (Exists.intro 5 (Exists.intro 272 (Exists.intro _ (And.intro cHc106 (And.intro (And.intro (by decide) (And.intro (by decide) (by decide))) (eQV fun h7 e7 => (by cases e7; exact cHt155))))))))))))))
theorem cHt157 : wp mX11_init 2 20 730 (QV fun h => h = cH192) 269 [some (vr 0), some (vi 4)] [] cH148 := xNew k_X11_init_269 s_X11_init_274 (And.intro (by decide +kernel) (Exists.intro 19 (And.intro (by decide +kernel) (And.intro (And.intro (by decide) (by decide +kernel)) cHt156))))
theorem cHt158 : wp mX11_init 2 20 730 (QV fun h => h = cH192) 263 [some (vr 0), some (vi 4)] [] cH148 := xIc k_X11_init_263 (And.intro (fun c => absurd (show (6 : Int) ≤ (4 : Int) from c) (by decide)) (fun _ => cHt157))
theorem cHt159 : wp mX11_init 2 20 730 (QV fun h => h = cH192) 281 [some (vr 0), some (vi 3)] [vr 63, vi 3, vr 19] cH147 := xGo k_X11_init_281 (And.intro (by decide +kernel) (And.intro (And.intro (by decide) (by decide)) (And.intro rfl cHt158)))
theorem cHt160 : wp mX11_init 2 25 1002 (QV fun h => h = cH192) 277 [some (vr 0), some (vi 3)] [vr 63, vi 3, vr 19] cH137 := xcI k_X11_init_277 s_X11_init_278 (And.intro rfl (Exists.intro [] (Exists.intro 63 (Exists.intro [vr 63, vi 3, vr 19] (And.intro (And.intro rfl (And.intro rfl (by decide))) (And.intro (by decide +kernel) (Exists.intro 1 (Exists.intro 5 (Exists.intro 272 (Exists.intro _ (And.intro cHc98 (And.intro (And.intro (by decide) (And.intro (by decide) (by decide))) (eQV fun h7 e7 => (by cases e7; exact cHt159))))))))))))))
theorem cHt161 : wp mX11_init 2 26 1009 (QV fun h => h = cH192) 269 [some (vr 0), some (vi 3)] [] cH136 := xNew k_X11_init_269 s_X11_init_274 (And.intro (by decide +kernel) (Exists.intro 19 (And.intro (by decide +kernel) (And.intro (And.intro (by decide) (by decide +kernel)) cHt160))))
theorem cHt162 : wp mX11_init 2 26 1009 (QV fun h => h = cH192) 263 [some (vr 0), some (vi 3)] [] cH136 := xIc k_X11_init_263 (And.intro (fun c => absurd (show (6 : Int) ≤ (3 : Int) from c) (by decide)) (fun _ => cHt161))
theorem cHt163 : wp mX11_init 2 26 1009 (QV fun h => h = cH192) 281 [some (vr 0), some (vi 2)] [vr 57, vi 2, vr 19] cH135 := xGo k_X11_init_281 (And.intro (by decide +kernel) (And.intro (And.intro (by decide) (by decide)) (And.intro rfl cHt162)))
theorem cHt164 : wp mX11_init 2 31 1281 (QV fun h => h = cH192) 277 [some (vr 0), some (vi 2)] [vr 57, vi 2, vr 19] cH125 := xcI k_X11_init_277 s_X11_init_278 (And.intro rfl (Exists.intro [] (Exists.intro 57 (Exists.intro [vr 57, vi 2, vr 19] (And.intro (And.intro rfl (And.intro rfl (by decide))) (And.intro (by decide +kernel) (Exists.intro 1 (Exists.intro 5 (Exists.intro 272 (Exists.intro _ (And.intro cHc90 (And.intro (And.intro (by decide) (And.intro (by decide) (by decide))) (eQV fun h7 e7 => (by cases e7; exact cHt163))))))))))))))
theorem cHt165 : wp mX11_init 2 32 1288 (QV fun h => h = cH192) 269 [some (vr 0), some (vi 2)] [] cH124 := xNew k_X11_init_269 s_X11_init_274 (And.intro (by decide +kernel) (Exists.intro 19 (And.intro (by decide +kernel) (And.intro (And.intro (by decide) (by decide +kernel)) cHt164))))
theorem cHt166 : wp mX11_init 2 32 1288 (QV fun h => h = cH192) 263 [some (vr 0), some (vi 2)] [] cH124 := xIc k_X11_init_263 (And.intro (fun c => absurd (show (6 : Int) ≤ (2 : Int) from c) (by decide)) (fun _ => cHt165))
theorem cHt167 : wp mX11_init 2 32 1288 (QV fun h => h = cH192) 281 [some (vr 0), some (vi 1)] [vr 51, vi 1, vr 19] cH123 := xGo k_X11_init_281 (And.intro (by decide +kernel) (And.intro (And.intro (by decide) (by decide)) (And.intro rfl cHt166)))
theorem cHt168 : wp mX11_init 2 37 1560 (QV fun h => h = cH192) 277 [some (vr 0), some (vi 1)] [vr 51, vi 1, vr 19] cH113 := xcI k_X11_init_277 s_X11_init_278 (And.intro rfl (Exists.intro [] (Exists.intro 51 (Exists.intro [vr 51, vi 1, vr 19] (And.intro (And.intro rfl (And.intro rfl (by decide))) (And.intro (by decide +kernel) (Exists.intro 1 (Exists.intro 5 (Exists.intro 272 (Exists.intro _ (And.intro cHc82 (And.intro (And.intro (by decide) (And.intro (by decide) (by decide))) (eQV fun h7 e7 => (by cases e7; exact cHt167))))))))))))))
theorem cHt169 : wp mX11_init 2 38 1567 (QV fun h => h = cH192) 269 [some (vr 0), some (vi 1)] [] cH112 := xNew k_X11_init_269 s_X11_init_274 (And.intro (by decide +kernel) (Exists.intro 19 (And.intro (by decide +kernel) (And.intro (And.intro (by decide) (by decide +kernel)) cHt168))))
theorem cHt170 : wp mX11_init 2 38 1567 (QV fun h => h = cH192) 263 [some (vr 0), some (vi 1)] [] cH112 := xIc k_X11_init_263 (And.intro (fun c => absurd (show (6 : Int) ≤ (1 : Int) from c) (by decide)) (fun _ => cHt169))
theorem cHt171 : wp mX11_init 2 38 1567 (QV fun h => h = cH192) 281 [some (vr 0), some (vi 0)] [vr 45, vi 0, vr 19] cH111 := xGo k_X11_init_281 (And.intro (by decide +kernel) (And.intro (And.intro (by decide) (by decide)) (And.intro rfl cHt170)))
theorem cHt172 : wp mX11_init 2 43 1839 (QV fun h => h = cH192) 277 [some (vr 0), some (vi 0)] [vr 45, vi 0, vr 19] cH101 := xcI k_X11_init_277 s_X11_init_278 (And.intro rfl (Exists.intro [] (Exists.intro 45 (Exists.intro [vr 45, vi 0, vr 19] (And.intro (And.intro rfl (And.intro rfl (by decide))) (And.intro (by decide +kernel) (Exists.intro 1 (Exists.intro 5 (Exists.intro 272 (Exists.intro _ (And.intro cHc74 (And.intro (And.intro (by decide) (And.intro (by decide) (by decide))) (eQV fun h7 e7 => (by cases e7; exact cHt171))))))))))))))
theorem cHt173 : wp mX11_init 2 44 1846 (QV fun h => h = cH192) 269 [some (vr 0), some (vi 0)] [] cH100 := xNew k_X11_init_269 s_X11_init_274 (And.intro (by decide +kernel) (Exists.intro 19 (And.intro (by decide +kernel) (And.intro (And.intro (by decide) (by decide +kernel)) cHt172))))
theorem cHt174 : wp mX11_init 2 44 1846 (QV fun h => h = cH192) 263 [some (vr 0), some (vi 0)] [] cH100 := xIc k_X11_init_263 (And.intro (fun c => absurd (show (6 : Int) ≤ (0 : Int) from c) (by decide)) (fun _ => cHt173))
theorem cHt175 : wp mX11_init 2 44 1846 (QV fun h => h = cH192) 261 [some (vr 0), some (vi 4)] [] cH100 := xB k_X11_init_261 (And.intro rfl cHt174)
theorem cHt176 : wp mX11_init 2 44 1846 (QV fun h => h = cH192) 223 [some (vr 0), some (vi 4)] [] cH100 := xIc k_X11_init_223 (And.intro (fun _ => cHt175) (fun c => absurd (show (4 : Int) ≤ (4 : Int) from by decide) c))
theorem cHt177 : wp mX11_init 2 44 1846 (QV fun h => h = cH192) 240 [some (vr 0), some (vi 3)] [vr 42, vi 3, vr 14] cH98 := xGo k_X11_init_240 (And.intro (by decide +kernel) (And.intro (by decide +kernel) (Exists.intro 15 (And.intro (by decide +kernel) (And.intro (And.intro (by decide) (by decide)) (And.intro (by decide +kernel) (Exists.intro 14 (And.intro (by decide +kernel) (And.intro (by decide +kernel) (Exists.intro 42 (And.intro (by decide +kernel) (And.intro (by decide +kernel) (And.intro (And.intro (by decide) (by decide)) (And.intro rfl cHt176))))))))))))))
theorem cHt178 : wp mX11_init 2 46 1862 (QV fun h => h = cH192) 236 [some (vr 0), some (vi 3)] [vr 42, vi 3, vr 14] cH94 := xcI k_X11_init_236 s_X11_init_237 (And.intro rfl (Exists.intro [] (Exists.intro 42 (Exists.intro [vr 42, vi 3, vr 14] (And.intro (And.intro rfl (And.intro rfl (by decide))) (And.intro (by decide +kernel) (Exists.intro 1 (Exists.intro 2 (Exists.intro 16 (Exists.intro _ (And.intro cHc66 (And.intro (And.intro (by decide) (And.intro (by decide) (by decide))) (eQV fun h7 e7 => (by cases e7; exact cHt177))))))))))))))
theorem cHt179 : wp mX11_init 2 47 1866 (QV fun h => h = cH192) 228 [some (vr 0), some (vi 3)] [] cH93 := xNew k_X11_init_228 s_X11_init_233 (And.intro (by decide +kernel) (Exists.intro 14 (And.intro (by decide +kernel) (And.intro (And.intro (by decide) (by decide +kernel)) cHt178))))
theorem cHt180 : wp mX11_init 2 47 1866 (QV fun h => h = cH192) 223 [some (vr 0), some (vi 3)] [] cH93 := xIc k_X11_init_223 (And.intro (fun c => absurd (show (4 : Int) ≤ (3 : Int) from c) (by decide)) (fun _ => cHt179))
theorem cHt181 : wp mX11_init 2 47 1866 (QV fun h => h = cH192) 240 [some (vr 0), some (vi 2)] [vr 39, vi 2, vr 14] cH91 := xGo k_X11_init_240 (And.intro (by decide +kernel) (And.intro (by decide +kernel) (Exists.intro 15 (And.intro (by decide +kernel) (And.intro (And.intro (by decide) (by decide)) (And.intro (by decide +kernel) (Exists.intro 14 (And.intro (by decide +kernel) (And.intro (by decide +kernel) (Exists.intro 39 (And.intro (by decide +kernel) (And.intro (by decide +kernel) (And.intro (And.intro (by decide) (by decide)) (And.intro rfl cHt180))))))))))))))
theorem cHt182 : wp mX11_init 2 49 1882 (QV fun h => h = cH192) 236 [some (vr 0), some (vi 2)] [vr 39, vi 2, vr 14] cH87 := xcI k_X11_init_236 s_X11_init_237 (And.intro rfl (Exists.intro [] (Exists.intro 39 (Exists.intro [vr 39, vi 2, vr 14] (And.intro (And.intro rfl (And.intro rfl (by decide))) (And.intro (by decide +kernel) (Exists.intro 1 (Exists.intro 2 (Exists.intro 16 (Exists.intro _ (And.intro cHc61 (And.intro (And.intro (by decide) (And.intro (by decide) (by decide))) (eQV fun h7 e7 => (by cases e7; exact cHt181))))))))))))))
theorem cHt183 : wp mX11_init 2 50 1886 (QV fun h => h = cH192) 228 [some (vr 0), some (vi 2)] [] cH86 := xNew k_X11_init_228 s_X11_init_233 (And.intro (by decide +kernel) (Exists.intro 14 (And.intro (by decide +kernel) (And.intro (And.intro (by decide) (by decide +kernel)) cHt182))))
theorem cHt184 : wp mX11_init 2 50 1886 (QV fun h => h = cH192) 223 [some (vr 0), some (vi 2)] [] cH86 := xIc k_X11_init_223 (And.intro (fun c => absurd (show (4 : Int) ≤ (2 : Int) from c) (by decide)) (fun _ => cHt183))
theorem cHt185 : wp mX11_init 2 50 1886 (QV fun h => h = cH192) 240 [some (vr 0), some (vi 1)] [vr 36, vi 1, vr 14] cH84 := xGo k_X11_init_240 (And.intro (by decide +kernel) (And.intro (by decide +kernel) (Exists.intro 15 (And.intro (by decide +kernel) (And.intro (And.intro (by decide) (by decide)) (And.intro (by decide +kernel) (Exists.intro 14 (And.intro (by decide +kernel) (And.intro (by decide +kernel) (Exists.intro 36 (And.intro (by decide +kernel) (And.intro (by decide +kernel) (And.intro (And.intro (by decide) (by decide)) (And.intro rfl cHt184))))))))))))))
theorem cHt186 : wp mX11_init 2 52 1902 (QV fun h => h = cH192) 236 [some (vr 0), some (vi 1)] [vr 36, vi 1, vr 14] cH80 := xcI k_X11_init_236 s_X11_init_237 (And.intro rfl (Exists.intro [] (Exists.intro 36 (Exists.intro [vr 36, vi 1, vr 14] (And.intro (And.intro rfl (And.intro rfl (by decide))) (And.intro (by decide +kernel) (Exists.intro 1 (Exists.intro 2 (Exists.intro 16 (Exists.intro _ (And.intro cHc56 (And.intro (And.intro (by decide) (And.intro (by decide) (by decide))) (eQV fun h7 e7 => (by cases e7; exact cHt185))))))))))))))
theorem cHt187 : wp mX11_init 2 53 1906 (QV fun h => h = cH192) 228 [some (vr 0), some (vi 1)] [] cH79 := xNew k_X11_init_228 s_X11_init_233 (And.intro (by decide +kernel) (Exists.intro 14 (And.intro (by decide +kernel) (And.intro (And.intro (by decide) (by decide +kernel)) cHt186))))
theorem cHt188 : wp mX11_init 2 53 1906 (QV fun h => h = cH192) 223 [some (vr 0), some (vi 1)] [] cH79 := xIc k_X11_init_223 (And.intro (fun c => absurd (show (4 : Int) ≤ (1 : Int) from c) (by decide)) (fun _ => cHt187))
theorem cHt189 : wp mX11_init 2 53 1906 (QV fun h => h = cH192) 240 [some (vr 0), some (vi 0)] [vr 33, vi 0, vr 14] cH77 := xGo k_X11_init_240 (And.intro (by decide +kernel) (And.intro (by decide +kernel) (Exists.intro 15 (And.intro (by decide +kernel) (And.intro (And.intro (by decide) (by decide)) (And.intro (by decide +kernel) (Exists.intro 14 (And.intro (by decide +kernel) (And.intro (by decide +kernel) (Exists.intro 33 (And.intro (by decide +kernel) (And.intro (by decide +kernel) (And.intro (And.intro (by decide) (by decide)) (And.intro rfl cHt188))))))))))))))
theorem cHt190 : wp mX11_init 2 55 1922 (QV fun h => h = cH192) 236 [some (vr 0), some (vi 0)] [vr 33, vi 0, vr 14] cH73 := xcI k_X11_init_236 s_X11_init_237 (And.intro rfl (Exists.intro [] (Exists.intro 33 (Exists.intro [vr 33, vi 0, vr 14] (And.intro (And.intro rfl (And.intro rfl (by decide))) (And.intro (by decide +kernel) (Exists.intro 1 (Exists.intro 2 (Exists.intro 16 (Exists.intro _ (And.intro cHc51 (And.intro (And.intro (by decide) (And.intro (by decide) (by decide))) (eQV fun h7 e7 => (by cases e7; exact cHt189))))))))))))))
theorem cHt191 : wp mX11_init 2 56 1926 (QV fun h => h = cH192) 228 [some (vr 0), some (vi 0)] [] cH72 := xNew k_X11_init_228 s_X11_init_233 (And.intro (by decide +kernel) (Exists.intro 14 (And.intro (by decide +kernel) (And.intro (And.intro (by decide) (by decide +kernel)) cHt190))))
theorem cHt192 : wp mX11_init 2 56 1926 (QV fun h => h = cH192) 223 [some (vr 0), some (vi 0)] [] cH72 := xIc k_X11_init_223 (And.intro (fun c => absurd (show (4 : Int) ≤ (0 : Int) from c) (by decide)) (fun _ => cHt191))
theorem cHt193 : wp mX11_init 2 56 1926 (QV fun h => h = cH192) 172 [some (vr 0), none] [vr 32, vr 0] cH66 := xB k_X11_init_172 (And.intro (by decide +kernel) (And.intro (by decide +kernel) (Exists.intro 5 (And.intro (by decide +kernel) (And.intro (by decide +kernel) (And.intro (by decide) (And.intro (by decide +kernel) (Exists.intro 11 (And.intro (by decide +kernel) (And.intro (by decide +kernel) (And.intro (by decide) (And.intro (by decide +kernel) (Exists.intro 15 (And.intro (by decide +kernel) (And.intro (by decide +kernel) (Exists.intro 5 (And.intro (by decide +kernel) (And.intro (by decide +kernel) (And.intro (by decide +kernel) (Exists.intro 15 (And.intro (by decide +kernel) (And.intro (by decide +kernel) (Exists.intro 11 (And.intro (by decide +kernel) (And.intro (by decide +kernel) (And.intro (by decide +kernel) (Exists.intro 15 (And.intro (by decide +kernel) (And.intro (by decide +kernel) (Exists.intro 8 (And.intro (by decide +kernel) (And.intro (by decide +kernel) (And.intro rfl cHt192)))))))))))))))))))))))))))))))))
theorem cHt194 : wp mX11_init 2 57 1990 (QV fun h => h = cH192) 164 [some (vr 0), none] [vr 28, vr 0] cH64 := xNewa k_X11_init_164 (And.intro (by decide +kernel) (And.intro (by decide) cHt193))
theorem cHt195 : wp mX11_init 2 60 2126 (QV fun h => h = cH192) 160 [some (vr 0), none] [vr 28, vr 0] cH58 := xcI k_X11_init_160 s_X11_init_161 (And.intro rfl (Exists.intro [] (Exists.intro 28 (Exists.intro [vr 28, vr 0] (And.intro (And.intro rfl (And.intro rfl (by decide))) (And.intro (by decide +kernel) (Exists.intro 1 (Exists.intro 3 (Exists.intro 136 (Exists.intro _ (And.intro cHc46 (And.intro (And.intro (by decide) (And.intro (by decide) (by decide))) (eQV fun h7 e7 => (by cases e7; exact cHt194))))))))))))))
theorem cHt196 : wp mX11_init 2 61 2131 (QV fun h => h = cH192) 153 [some (vr 0), none] [vr 24, vr 0] cH56 := xNew k_X11_init_153 s_X11_init_157 (And.intro (by decide +kernel) (And.intro (And.intro (by decide) (by decide +kernel)) cHt195))
theorem cHt197 : wp mX11_init 2 64 2267 (QV fun h => h = cH192) 149 [some (vr 0), none] [vr 24, vr 0] cH50 := xcI k_X11_init_149 s_X11_init_150 (And.intro rfl (Exists.intro [] (Exists.intro 24 (Exists.intro [vr 24, vr 0] (And.intro (And.intro rfl (And.intro rfl (by decide))) (And.intro (by decide +kernel) (Exists.intro 1 (Exists.intro 3 (Exists.intro 136 (Exists.intro _ (And.intro cHc40 (And.intro (And.intro (by decide) (And.intro (by decide) (by decide))) (eQV fun h7 e7 => (by cases e7; exact cHt196))))))))))))))
theorem cHt198 : wp mX11_init 2 65 2272 (QV fun h => h = cH192) 142 [some (vr 0), none] [vr 23, vr 0] cH48 := xNew k_X11_init_142 s_X11_init_146 (And.intro (by decide +kernel) (And.intro (And.intro (by decide) (by decide +kernel)) cHt197))
theorem cHt199 : wp mX11_init 2 66 2276 (QV fun h => h = cH192) 134 [some (vr 0), none] [vr 21, vr 0] cH46 := xAnew k_X11_init_134 s_X11_init_139 (And.intro (by decide +kernel) (And.intro (by decide) cHt198))
theorem cHt200 : wp mX11_init 2 67 2284 (QV fun h => h = cH192) 130 [some (vr 0), none] [vr 21, vr 0] cH44 := xcI k_X11_init_130 s_X11_init_131 (And.intro rfl (Exists.intro [] (Exists.intro 21 (Exists.intro [vr 21, vr 0] (And.intro (And.intro rfl (And.intro rfl (by decide))) (And.intro (by decide +kernel) (Exists.intro 1 (Exists.intro 1 (Exists.intro 8 (Exists.intro _ (And.intro cHc34 (And.intro (And.intro (by decide) (And.intro (by decide) (by decide))) (eQV fun h7 e7 => (by cases e7; exact cHt199))))))))))))))
theorem cHt201 : wp mX11_init 2 68 2287 (QV fun h => h = cH192) 123 [some (vr 0), none] [vr 20, vr 0] cH42 := xNew k_X11_init_123 s_X11_init_127 (And.intro (by decide +kernel) (And.intro (And.intro (by decide) (by decide +kernel)) cHt200))
theorem cHt202 : wp mX11_init 2 68 2287 (QV fun h => h = cH192) 115 [some (vr 0), none] [vr 20, vr 0] cH41 := xcI k_X11_init_115 s_X11_init_120 (And.intro rfl (And.intro (by decide +kernel) (Exists.intro 1 (And.intro (by decide +kernel) (Exists.intro [vr 1] (Exists.intro 20 (Exists.intro [vr 20, vr 0] (And.intro (And.intro rfl (And.intro rfl (by decide))) (And.intro (by decide +kernel) (Exists.intro 1 (Exists.intro 0 (Exists.intro 0 (Exists.intro _ (And.intro cHc30 (And.intro (And.intro (by decide) (And.intro (by decide) (by decide))) (eQV fun h7 e7 => (by cases e7; exact cHt201)))))))))))))))))
theorem cHt203 : wp mX11_init 2 69 2295 (QV fun h => h = cH192) 108 [some (vr 0), none] [vr 19, vr 0] cH39 := xNew k_X11_init_108 s_X11_init_112 (And.intro (by decide +kernel) (And.intro (And.intro (by decide) (by decide +kernel)) cHt202))
theorem cHt204 : wp mX11_init 2 70 2301 (QV fun h => h = cH192) 92 [some (vr 0), none] [vr 17, vr 0] cH36 := xAnew k_X11_init_92 s_X11_init_105 (And.intro (by decide +kernel) (And.intro (by decide +kernel) (And.intro (by decide) cHt203)))
theorem cHt205 : wp mX11_init 2 71 2309 (QV fun h => h = cH192) 88 [some (vr 0), none] [vr 17, vr 0] cH34 := xcI k_X11_init_88 s_X11_init_89 (And.intro rfl (Exists.intro [] (Exists.intro 17 (Exists.intro [vr 17, vr 0] (And.intro (And.intro rfl (And.intro rfl (by decide))) (And.intro (by decide +kernel) (Exists.intro 1 (Exists.intro 1 (Exists.intro 8 (Exists.intro _ (And.intro cHc27 (And.intro (And.intro (by decide) (And.intro (by decide) (by decide))) (eQV fun h7 e7 => (by cases e7; exact cHt204))))))))))))))
theorem cHt206 : wp mX11_init 2 72 2313 (QV fun h => h = cH192) 81 [some (vr 0), none] [vr 16, vr 0] cH32 := xNew k_X11_init_81 s_X11_init_85 (And.intro (by decide +kernel) (And.intro (And.intro (by decide) (by decide +kernel)) cHt205))
theorem cHt207 : wp mX11_init 2 72 2313 (QV fun h => h = cH192) 77 [some (vr 0), none] [vr 16, vr 0] cH32 := xcI k_X11_init_77 s_X11_init_78 (And.intro rfl (Exists.intro [] (Exists.intro 16 (Exists.intro [vr 16, vr 0] (And.intro (And.intro rfl (And.intro rfl (by decide))) (And.intro (by decide +kernel) (Exists.intro 1 (Exists.intro 0 (Exists.intro 0 (Exists.intro _ (And.intro cHc23 (And.intro (And.intro (by decide) (And.intro (by decide) (by decide))) (eQV fun h7 e7 => (by cases e7; exact cHt206))))))))))))))
theorem cHt208 : wp mX11_init 2 73 2315 (QV fun h => h = cH192) 70 [some (vr 0), none] [vr 15, vr 0] cH30 := xNew k_X11_init_70 s_X11_init_74 (And.intro (by decide +kernel) (And.intro (And.intro (by decide) (by decide +kernel)) cHt207))
theorem cHt209 : wp mX11_init 2 74 2322 (QV fun h => h = cH192) 61 [some (vr 0), none] [vr 14, vr 0] cH28 := xAnew k_X11_init_61 s_X11_init_67 (And.intro (by decide +kernel) (And.intro (by decide) cHt208))
theorem cHt210 : wp mX11_init 2 75 2326 (QV fun h => h = cH192) 53 [some (vr 0), none] [vr 11, vr 0] cH26 := xAnew k_X11_init_53 s_X11_init_58 (And.intro (by decide +kernel) (And.intro (by decide) cHt209))
theorem cHt211 : wp mX11_init 2 77 2342 (QV fun h => h = cH192) 49 [some (vr 0), none] [vr 11, vr 0] cH22 := xcI k_X11_init_49 s_X11_init_50 (And.intro rfl (Exists.intro [] (Exists.intro 11 (Exists.intro [vr 11, vr 0] (And.intro (And.intro rfl (And.intro rfl (by decide))) (And.intro (by decide +kernel) (Exists.intro 1 (Exists.intro 2 (Exists.intro 16 (Exists.intro _ (And.intro cHc20 (And.intro (And.intro (by decide) (And.intro (by decide) (by decide))) (eQV fun h7 e7 => (by cases e7; exact cHt210))))))))))))))
theorem cHt212 : wp mX11_init 2 78 2346 (QV fun h => h = cH192) 42 [some (vr 0), none] [vr 8, vr 0] cH20 := xNew k_X11_init_42 s_X11_init_46 (And.intro (by decide +kernel) (And.intro (And.intro (by decide) (by decide +kernel)) cHt211))
theorem cHt213 : wp mX11_init 2 80 2362 (QV fun h => h = cH192) 38 [some (vr 0), none] [vr 8, vr 0] cH16 := xcI k_X11_init_38 s_X11_init_39 (And.intro rfl (Exists.intro [] (Exists.intro 8 (Exists.intro [vr 8, vr 0] (And.intro (And.intro rfl (And.intro rfl (by decide))) (And.intro (by decide +kernel) (Exists.intro 1 (Exists.intro 2 (Exists.intro 16 (Exists.intro _ (And.intro cHc15 (And.intro (And.intro (by decide) (And.intro (by decide) (by decide))) (eQV fun h7 e7 => (by cases e7; exact cHt212))))))))))))))
theorem cHt214 : wp mX11_init 2 81 2366 (QV fun h => h = cH192) 31 [some (vr 0), none] [vr 5, vr 0] cH14 := xNew k_X11_init_31 s_X11_init_35 (And.intro (by decide +kernel) (And.intro (And.intro (by decide) (by decide +kernel)) cHt213))
theorem cHt215 : wp mX11_init 2 83 2382 (QV fun h => h = cH192) 27 [some (vr 0), none] [vr 5, vr 0] cH10 := xcI k_X11_init_27 s_X11_init_28 (And.intro rfl (Exists.intro [] (Exists.intro 5 (Exists.intro [vr 5, vr 0] (And.intro (And.intro rfl (And.intro rfl (by decide))) (And.intro (by decide +kernel) (Exists.intro 1 (Exists.intro 2 (Exists.intro 16 (Exists.intro _ (And.intro cHc10 (And.intro (And.intro (by decide) (And.intro (by decide) (by decide))) (eQV fun h7 e7 => (by cases e7; exact cHt214))))))))))))))
theorem cHt216 : wp mX11_init 2 84 2386 (QV fun h => h = cH192) 20 [some (vr 0), none] [vr 4, vr 0] cH8 := xNew k_X11_init_20 s_X11_init_24 (And.intro (by decide +kernel) (And.intro (And.intro (by decide) (by decide +kernel)) cHt215))
theorem cHt217 : wp mX11_init 2 85 2390 (QV fun h => h = cH192) 12 [some (vr 0), none] [vr 1, vr 0] cH6 := xAnew k_X11_init_12 s_X11_init_17 (And.intro (by decide +kernel) (And.intro (by decide) cHt216))
theorem cHt218 : wp mX11_init 2 87 2466 (QV fun h => h = cH192) 8 [some (vr 0), none] [vr 1, vr 0] cH2 := xcI k_X11_init_8 s_X11_init_9 (And.intro rfl (Exists.intro [] (Exists.intro 1 (Exists.intro [vr 1, vr 0] (And.intro (And.intro rfl (And.intro rfl (by decide))) (And.intro (by decide +kernel) (Exists.intro 1 (Exists.intro 2 (Exists.intro 76 (Exists.intro _ (And.intro cHc5 (And.intro (And.intro (by decide) (And.intro (by decide) (by decide))) (eQV fun h7 e7 => (by cases e7; exact cHt217))))))))))))))
theorem cHt219 : wp mX11_init 2 88 2470 (QV fun h => h = cH192) 4 [some (vr 0), none] [] cH1 := xNew k_X11_init_4 s_X11_init_5 (And.intro (And.intro (by decide) (by decide +kernel)) cHt218)
theorem cHt220 : wp mX11_init 2 88 2470 (QV fun h => h = cH192) 0 [some (vr 0), none] [] cH1 := xObj k_X11_init_0 s_X11_init_1 (And.intro (And.intro (by decide) (by decide)) cHt219)
theorem cHok : Ct 2 88 2470 mX11_init [vr 0] cH1 (QV fun h => h = cH192) := Ct.of (by decide +kernel) (by decide) cHt220
