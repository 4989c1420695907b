section
/-! ROWS OF ROWS, as an exit -/
def muN (t : Nat) : String := if t = 21 then "[[I" else "[[Z"
def muK (t : Nat) : Nat := if t = 21 then 13 else 15
def ckMu (y : MI) (o pc : Nat) (es : List IE) (q i t : Nat) : Bool := ckB y o pc es q && decide (decode y.2.1 q = .ok (.multianewarray i 2, 4)) && (decide (t = 21) || decide (t = 22))
variable {y : MI} {d rc rs : Nat} {Q : Option AV → AH → Prop} {o pc q i t : Nat} {es : List IE} {lo : List (Option AV)} {st : List AV} {h : AH}
theorem xMulti (hb : ckMu y o pc es q i t = true) (hl : Cond.classLink y.1.cls i (muN t) ∈ gt) (k : wpB es lo st h (fun lo stk h => pI stk fun z r => pI r fun x r => (0 ≤ x ∧ 0 ≤ z ∧ x ≤ 100000 ∧ z ≤ 100000 ∧ 1 + x.toNat ≤ rc ∧ x.toNat + x.toNat * z.toNat ≤ rs) ∧ wp y d (rc - (1 + x.toNat)) (rs - (x.toNat + x.toNat * z.toNat)) Q (q + 4) lo (vr (nH h) :: r) (mu h t x.toNat (muK t) z.toNat))) : wp y d rc rs Q pc lo st h := by
  simp only [ckMu, Bool.and_eq_true, Bool.or_eq_true, decide_eq_true_eq] at hb
  obtain ⟨⟨h1, h2⟩, h3⟩ := hb
  refine xB h1 (wpB_mono ?_ k)
  intro lo st h hk
  obtain ⟨z, r, rfl, hk2⟩ := pI_e hk
  obtain ⟨x, r, rfl, ⟨k1, k2, k3, k4, k5, k6⟩, k7⟩ := pI_e hk2
  rcases h3 with rfl | rfl
  · exact w_multi (ft := .int) (Or.inl ⟨rfl, rfl, rfl⟩) h2 hl acI k1 k2 k3 k4 k5 k6 k7
  · exact w_multi (ft := .boolean) (Or.inr ⟨rfl, rfl, rfl⟩) h2 hl acZ k1 k2 k3 k4 k5 k6 k7
/-- the heap at the very start: no cell -/
def hE : AH := (0, fun _ => (0, 0), fun _ _ => 0, fun _ _ => 0, fun _ _ => none)
/-- the whole numbers of a heap: all are 0 but those that are listed -/
def zLook : List (Nat × Nat × Int) → Nat → Nat → Int
  | [], _, _ => 0
  | e :: r, x, y => if x = e.1 ∧ y = e.2.1 then e.2.2 else zLook r x y
def ZI (S : List (Nat × Nat × Int)) (h : AH) : Prop := ∀ x y, iH h x y = zLook S x y
theorem ZI_0 : ZI [] hE := fun _ _ => rfl
theorem ZI_sR {S : List (Nat × Nat × Int)} {h : AH} {a k : Nat} {v : Option Nat} (z : ZI S h) : ZI S (sR h a k v) := z
theorem ZI_sI {S : List (Nat × Nat × Int)} {h : AH} {a k : Nat} {v : Int} (z : ZI S h) : ZI ((a, k, v) :: S) (sI h a k v) := fun x y => by
  show u2 h.2.2.1 a k v x y = if x = a ∧ y = k then v else zLook S x y
  have : h.2.2.1 x y = zLook S x y := z x y
  unfold u2
  by_cases e : x = a
  · by_cases e2 : y = k
    · rw [if_pos e, if_pos e2, if_pos ⟨e, e2⟩]
    · rw [if_pos e, if_neg e2, if_neg (fun c => e2 c.2)]; exact this
  · rw [if_neg e, if_neg (fun c => e c.1)]; exact this
theorem zLook_0 {S : List (Nat × Nat × Int)} {m : Nat} (c : S.all (fun e => decide (e.1 < m)) = true) {x y : Nat} (hx : m ≤ x) : zLook S x y = 0 := by
  induction S with
  | nil => rfl
  | cons e r ih =>
    simp only [List.all_cons, Bool.and_eq_true, decide_eq_true_eq] at c
    show (if x = e.1 ∧ y = e.2.1 then e.2.2 else zLook r x y) = 0
    rw [if_neg (fun q => by omega)]
    exact ih c.2
theorem ZI_nw {S : List (Nat × Nat × Int)} {h : AH} {t n m : Nat} (z : ZI S h) (c : S.all (fun e => decide (e.1 < nH h)) = true) : ZI S ((m, (nw h t n).2) : AH) := fun x y => by
  show r2 h.2.2.1 h.1 (fun _ => 0) x y = _
  unfold r2
  by_cases e : x = h.1
  · rw [if_pos e, zLook_0 c (Nat.le_of_eq e.symm)]
  · rw [if_neg e]; exact z x y
theorem ZI_mu {S : List (Nat × Nat × Int)} {h : AH} {t n rk k m : Nat} (z : ZI S h) (c : S.all (fun e => decide (e.1 < nH h)) = true) : ZI S ((m, (mu h t n rk k).2) : AH) := fun x y => by
  show (if x < h.1 then h.2.2.1 x y else 0) = _
  by_cases e : x < h.1
  · rw [if_pos e]; exact z x y
  · rw [if_neg e, zLook_0 c (Nat.le_of_not_lt e)]
end
def b_X11_init_0 : List IE := [(.aload_n 0, 1, 0, 0, 0, 0)]
theorem k_X11_init_0 : ckObj mX11_init 11 0 b_X11_init_0 1 1 = true := by decide +kernel
def b_X11_init_4 : List IE := [(.aload_n 0, 1, 0, 0, 0, 0)]
theorem k_X11_init_4 : ckNew mX11_init 11 4 b_X11_init_4 5 7 10 = true := by decide +kernel
def b_X11_init_8 : List IE := [(.dup, 1, 0, 0, 0, 0)]
theorem k_X11_init_8 : ckB mX11_init 11 8 b_X11_init_8 9 = true := by decide +kernel
def b_X11_init_12 : List IE := [(.putfield 10, 3, 0, 11, 0, 1), (.aload_n 0, 1, 0, 0, 0, 0), (.iconst 4, 1, 4, 0, 0, 0)]
theorem k_X11_init_12 : ckAnew mX11_init 11 12 b_X11_init_12 17 16 16 = true := by decide +kernel
def b_X11_init_20 : List IE := [(.putfield 18, 3, 0, 11, 1, 1), (.aload_n 0, 1, 0, 0, 0, 0)]
theorem k_X11_init_20 : ckNew mX11_init 11 20 b_X11_init_20 24 22 9 = true := by decide +kernel
def b_X11_init_27 : List IE := [(.dup, 1, 0, 0, 0, 0)]
theorem k_X11_init_27 : ckB mX11_init 11 27 b_X11_init_27 28 = true := by decide +kernel
def b_X11_init_31 : List IE := [(.putfield 25, 3, 0, 11, 3, 1), (.aload_n 0, 1, 0, 0, 0, 0)]
theorem k_X11_init_31 : ckNew mX11_init 11 31 b_X11_init_31 35 22 9 = true := by decide +kernel
def b_X11_init_38 : List IE := [(.dup, 1, 0, 0, 0, 0)]
theorem k_X11_init_38 : ckB mX11_init 11 38 b_X11_init_38 39 = true := by decide +kernel
def b_X11_init_42 : List IE := [(.putfield 29, 3, 0, 11, 4, 1), (.aload_n 0, 1, 0, 0, 0, 0)]
theorem k_X11_init_42 : ckNew mX11_init 11 42 b_X11_init_42 46 22 9 = true := by decide +kernel
def b_X11_init_49 : List IE := [(.dup, 1, 0, 0, 0, 0)]
theorem k_X11_init_49 : ckB mX11_init 11 49 b_X11_init_49 50 = true := by decide +kernel
def b_X11_init_53 : List IE := [(.putfield 32, 3, 0, 11, 5, 1), (.aload_n 0, 1, 0, 0, 0, 0), (.iconst 4, 1, 4, 0, 0, 0)]
theorem k_X11_init_53 : ckAnew mX11_init 11 53 b_X11_init_53 58 22 20 = true := by decide +kernel
def b_X11_init_61 : List IE := [(.putfield 35, 3, 0, 11, 6, 1), (.aload_n 0, 1, 0, 0, 0, 0), (.bipush 7, 2, 7, 0, 0, 0)]
theorem k_X11_init_61 : ckAnew mX11_init 11 61 b_X11_init_61 67 22 20 = true := by decide +kernel
def b_X11_init_70 : List IE := [(.putfield 39, 3, 0, 11, 7, 1), (.aload_n 0, 1, 0, 0, 0, 0)]
theorem k_X11_init_70 : ckNew mX11_init 11 70 b_X11_init_70 74 42 4 = true := by decide +kernel
def b_X11_init_77 : List IE := [(.dup, 1, 0, 0, 0, 0)]
theorem k_X11_init_77 : ckB mX11_init 11 77 b_X11_init_77 78 = true := by decide +kernel
def b_X11_init_81 : List IE := [(.putfield 45, 3, 0, 11, 9, 1), (.aload_n 0, 1, 0, 0, 0, 0)]
theorem k_X11_init_81 : ckNew mX11_init 11 81 b_X11_init_81 85 49 3 = true := by decide +kernel
def b_X11_init_88 : List IE := [(.dup, 1, 0, 0, 0, 0)]
theorem k_X11_init_88 : ckB mX11_init 11 88 b_X11_init_88 89 = true := by decide +kernel
def b_X11_init_92 : List IE := [(.putfield 52, 3, 0, 11, 10, 1), (.aload_n 0, 1, 0, 0, 0, 0), (.sipush 9999, 3, 9999, 0, 0, 0), (.putfield 56, 3, 0, 11, 11, 0), (.aload_n 0, 1, 0, 0, 0, 0), (.bipush 6, 2, 6, 0, 0, 0)]
theorem k_X11_init_92 : ckAnew mX11_init 11 92 b_X11_init_92 105 60 17 = true := by decide +kernel
def b_X11_init_108 : List IE := [(.putfield 62, 3, 0, 11, 12, 1), (.aload_n 0, 1, 0, 0, 0, 0)]
theorem k_X11_init_108 : ckNew mX11_init 11 108 b_X11_init_108 112 66 6 = true := by decide +kernel
def b_X11_init_115 : List IE := [(.dup, 1, 0, 0, 0, 0), (.aload_n 0, 1, 0, 0, 0, 0), (.getfield 10, 3, 0, 11, 0, 1)]
theorem k_X11_init_115 : ckB mX11_init 11 115 b_X11_init_115 120 = true := by decide +kernel
def b_X11_init_123 : List IE := [(.putfield 71, 3, 0, 11, 14, 1), (.aload_n 0, 1, 0, 0, 0, 0)]
theorem k_X11_init_123 : ckNew mX11_init 11 123 b_X11_init_123 127 75 2 = true := by decide +kernel
def b_X11_init_130 : List IE := [(.dup, 1, 0, 0, 0, 0)]
theorem k_X11_init_130 : ckB mX11_init 11 130 b_X11_init_130 131 = true := by decide +kernel
def b_X11_init_134 : List IE := [(.putfield 78, 3, 0, 11, 15, 1), (.aload_n 0, 1, 0, 0, 0, 0), (.iconst 4, 1, 4, 0, 0, 0)]
theorem k_X11_init_134 : ckAnew mX11_init 11 134 b_X11_init_134 139 82 19 = true := by decide +kernel
def b_X11_init_142 : List IE := [(.putfield 84, 3, 0, 11, 16, 1), (.aload_n 0, 1, 0, 0, 0, 0)]
theorem k_X11_init_142 : ckNew mX11_init 11 142 b_X11_init_142 146 88 1 = true := by decide +kernel
def b_X11_init_149 : List IE := [(.dup, 1, 0, 0, 0, 0)]
theorem k_X11_init_149 : ckB mX11_init 11 149 b_X11_init_149 150 = true := by decide +kernel
def b_X11_init_153 : List IE := [(.putfield 91, 3, 0, 11, 17, 1), (.aload_n 0, 1, 0, 0, 0, 0)]
theorem k_X11_init_153 : ckNew mX11_init 11 153 b_X11_init_153 157 88 1 = true := by decide +kernel
def b_X11_init_160 : List IE := [(.dup, 1, 0, 0, 0, 0)]
theorem k_X11_init_160 : ckB mX11_init 11 160 b_X11_init_160 161 = true := by decide +kernel
def b_X11_init_164 : List IE := [(.putfield 95, 3, 0, 11, 18, 1), (.aload_n 0, 1, 0, 0, 0, 0), (.bipush 64, 2, 64, 0, 0, 0)]
theorem k_X11_init_164 : ckNewa mX11_init 11 164 b_X11_init_164 170 13 = true := by decide +kernel
def b_X11_init_172 : List IE := [(.putfield 98, 3, 0, 11, 19, 1), (.aload_n 0, 1, 0, 0, 0, 0), (.getfield 25, 3, 0, 11, 3, 1), (.iconst 1, 1, 1, 0, 0, 0), (.putfield 102, 3, 0, 9, 3, 2), (.aload_n 0, 1, 0, 0, 0, 0), (.getfield 32, 3, 0, 11, 5, 1), (.iconst 1, 1, 1, 0, 0, 0), (.putfield 102, 3, 0, 9, 3, 2), (.aload_n 0, 1, 0, 0, 0, 0), (.getfield 39, 3, 0, 11, 7, 1), (.iconst 0, 1, 0, 0, 0, 0), (.aload_n 0, 1, 0, 0, 0, 0), (.getfield 25, 3, 0, 11, 3, 1), (.aastore, 1, 0, 0, 0, 0), (.aload_n 0, 1, 0, 0, 0, 0), (.getfield 39, 3, 0, 11, 7, 1), (.iconst 1, 1, 1, 0, 0, 0), (.aload_n 0, 1, 0, 0, 0, 0), (.getfield 32, 3, 0, 11, 5, 1), (.aastore, 1, 0, 0, 0, 0), (.aload_n 0, 1, 0, 0, 0, 0), (.getfield 39, 3, 0, 11, 7, 1), (.iconst 2, 1, 2, 0, 0, 0), (.aload_n 0, 1, 0, 0, 0, 0), (.getfield 29, 3, 0, 11, 4, 1), (.aastore, 1, 0, 0, 0, 0), (.iconst 0, 1, 0, 0, 0, 0), (.istore_n 1, 1, 0, 0, 1, 0)]
theorem k_X11_init_172 : ckB mX11_init 11 172 b_X11_init_172 223 = true := by decide +kernel
def b_X11_init_223 : List IE := [(.iload_n 1, 1, 0, 0, 1, 0), (.iconst 4, 1, 4, 0, 0, 0)]
theorem k_X11_init_223 : ckIc mX11_init 11 223 b_X11_init_223 225 3 36 261 228 = true := by decide +kernel
def b_X11_init_228 : List IE := [(.aload_n 0, 1, 0, 0, 0, 0), (.getfield 35, 3, 0, 11, 6, 1), (.iload_n 1, 1, 0, 0, 1, 0)]
theorem k_X11_init_228 : ckNew mX11_init 11 228 b_X11_init_228 233 22 9 = true := by decide +kernel
def b_X11_init_236 : List IE := [(.dup, 1, 0, 0, 0, 0)]
theorem k_X11_init_236 : ckB mX11_init 11 236 b_X11_init_236 237 = true := by decide +kernel
def b_X11_init_240 : List IE := [(.aastore, 1, 0, 0, 0, 0), (.aload_n 0, 1, 0, 0, 0, 0), (.getfield 39, 3, 0, 11, 7, 1), (.iconst 3, 1, 3, 0, 0, 0), (.iload_n 1, 1, 0, 0, 1, 0), (.iadd, 1, 0, 0, 0, 0), (.aload_n 0, 1, 0, 0, 0, 0), (.getfield 35, 3, 0, 11, 6, 1), (.iload_n 1, 1, 0, 0, 1, 0), (.aaload, 1, 0, 0, 0, 0), (.aastore, 1, 0, 0, 0, 0), (.iinc 1 1, 3, 1, 0, 1, 0)]
theorem k_X11_init_240 : ckGo mX11_init 11 240 b_X11_init_240 258 (-35) 223 = true := by decide +kernel
def b_X11_init_261 : List IE := [(.iconst 0, 1, 0, 0, 0, 0), (.istore_n 1, 1, 0, 0, 1, 0)]
theorem k_X11_init_261 : ckB mX11_init 11 261 b_X11_init_261 263 = true := by decide +kernel
def b_X11_init_263 : List IE := [(.iload_n 1, 1, 0, 0, 1, 0), (.bipush 6, 2, 6, 0, 0, 0)]
theorem k_X11_init_263 : ckIc mX11_init 11 263 b_X11_init_263 266 3 22 288 269 = true := by decide +kernel
def b_X11_init_269 : List IE := [(.aload_n 0, 1, 0, 0, 0, 0), (.getfield 62, 3, 0, 11, 12, 1), (.iload_n 1, 1, 0, 0, 1, 0)]
theorem k_X11_init_269 : ckNew mX11_init 11 269 b_X11_init_269 274 60 5 = true := by decide +kernel
def b_X11_init_277 : List IE := [(.dup, 1, 0, 0, 0, 0)]
theorem k_X11_init_277 : ckB mX11_init 11 277 b_X11_init_277 278 = true := by decide +kernel
def b_X11_init_281 : List IE := [(.aastore, 1, 0, 0, 0, 0), (.iinc 1 1, 3, 1, 0, 1, 0)]
theorem k_X11_init_281 : ckGo mX11_init 11 281 b_X11_init_281 285 (-22) 263 = true := by decide +kernel
def b_X11_init_288 : List IE := [(.iconst 0, 1, 0, 0, 0, 0), (.istore_n 1, 1, 0, 0, 1, 0)]
theorem k_X11_init_288 : ckB mX11_init 11 288 b_X11_init_288 290 = true := by decide +kernel
def b_X11_init_290 : List IE := [(.iload_n 1, 1, 0, 0, 1, 0), (.iconst 4, 1, 4, 0, 0, 0)]
theorem k_X11_init_290 : ckIc mX11_init 11 290 b_X11_init_290 292 3 22 314 295 = true := by decide +kernel
def b_X11_init_295 : List IE := [(.aload_n 0, 1, 0, 0, 0, 0), (.getfield 84, 3, 0, 11, 16, 1), (.iload_n 1, 1, 0, 0, 1, 0)]
theorem k_X11_init_295 : ckNew mX11_init 11 295 b_X11_init_295 300 82 8 = true := by decide +kernel
def b_X11_init_303 : List IE := [(.dup, 1, 0, 0, 0, 0)]
theorem k_X11_init_303 : ckB mX11_init 11 303 b_X11_init_303 304 = true := by decide +kernel
def b_X11_init_307 : List IE := [(.aastore, 1, 0, 0, 0, 0), (.iinc 1 1, 3, 1, 0, 1, 0)]
theorem k_X11_init_307 : ckGo mX11_init 11 307 b_X11_init_307 311 (-21) 290 = true := by decide +kernel
def b_X11_init_314 : List IE := []
theorem k_X11_init_314 : ckV mX11_init 11 314 b_X11_init_314 314 = true := by decide +kernel
theorem s_X11_init_1 : Cond.methodLink mX11_init.1.cls 1 objectInit ∈ gt ∧ Cond.instanceMethod objectInit ∈ gt ∧ Cond.code objectInit ⟨#[0xb1]⟩ 1 none ∈ gt := ⟨gt_ok (List.mem_of_getElem? (i := 116) (by decide +kernel)) (by decide +kernel), gt_ok (List.mem_of_getElem? (i := 117) (by decide +kernel)) (by decide +kernel), gt_ok (List.mem_of_getElem? (i := 118) (by decide +kernel)) (by decide +kernel)⟩
theorem s_X11_init_5 : Cond.classLink mX11_init.1.cls 7 (rx 10) ∈ gt ∧ Cond.instantiable (rx 10) (nf 10) ∈ gt ∧ Cond.initialized (rx 10) ∈ gt := ⟨gt_ok (List.mem_of_getElem? (i := 119) (by decide +kernel)) (by decide +kernel), gt_ok (List.mem_of_getElem? (i := 120) (by decide +kernel)) (by decide +kernel), gt_ok (List.mem_of_getElem? (i := 92) (by decide +kernel)) (by decide +kernel)⟩
theorem s_X11_init_9 : cI mX11_init 9 mX10_init 9 0 := ⟨by decide +kernel, Or.inr ⟨ml_X10_init, rfl, by decide +kernel, im_X10_init, rfl, rfl⟩, by decide +kernel⟩
theorem s_X11_init_17 : Cond.classLink mX11_init.1.cls 16 (rx (elK 16)) ∈ gt := gt_ok (List.mem_of_getElem? (i := 142) (by decide +kernel)) (by decide +kernel)
theorem s_X11_init_24 : Cond.classLink mX11_init.1.cls 22 (rx 9) ∈ gt ∧ Cond.instantiable (rx 9) (nf 9) ∈ gt ∧ Cond.initialized (rx 9) ∈ gt := ⟨gt_ok (List.mem_of_getElem? (i := 144) (by decide +kernel)) (by decide +kernel), gt_ok (List.mem_of_getElem? (i := 145) (by decide +kernel)) (by decide +kernel), gt_ok (List.mem_of_getElem? (i := 93) (by decide +kernel)) (by decide +kernel)⟩
theorem s_X11_init_28 : cI mX11_init 28 mX9_init 24 0 := ⟨by decide +kernel, Or.inr ⟨ml_X9_init, rfl, by decide +kernel, im_X9_init, rfl, rfl⟩, by decide +kernel⟩
theorem s_X11_init_35 : Cond.classLink mX11_init.1.cls 22 (rx 9) ∈ gt ∧ Cond.instantiable (rx 9) (nf 9) ∈ gt ∧ Cond.initialized (rx 9) ∈ gt := ⟨gt_ok (List.mem_of_getElem? (i := 144) (by decide +kernel)) (by decide +kernel), gt_ok (List.mem_of_getElem? (i := 145) (by decide +kernel)) (by decide +kernel), gt_ok (List.mem_of_getElem? (i := 93) (by decide +kernel)) (by decide +kernel)⟩
theorem s_X11_init_39 : cI mX11_init 39 mX9_init 24 0 := ⟨by decide +kernel, Or.inr ⟨ml_X9_init, rfl, by decide +kernel, im_X9_init, rfl, rfl⟩, by decide +kernel⟩
theorem s_X11_init_46 : Cond.classLink mX11_init.1.cls 22 (rx 9) ∈ gt ∧ Cond.instantiable (rx 9) (nf 9) ∈ gt ∧ Cond.initialized (rx 9) ∈ gt := ⟨gt_ok (List.mem_of_getElem? (i := 144) (by decide +kernel)) (by decide +kernel), gt_ok (List.mem_of_getElem? (i := 145) (by decide +kernel)) (by decide +kernel), gt_ok (List.mem_of_getElem? (i := 93) (by decide +kernel)) (by decide +kernel)⟩
theorem s_X11_init_50 : cI mX11_init 50 mX9_init 24 0 := ⟨by decide +kernel, Or.inr ⟨ml_X9_init, rfl, by decide +kernel, im_X9_init, rfl, rfl⟩, by decide +kernel⟩
theorem s_X11_init_58 : Cond.classLink mX11_init.1.cls 22 (rx (elK 20)) ∈ gt := gt_ok (List.mem_of_getElem? (i := 144) (by decide +kernel)) (by decide +kernel)
theorem s_X11_init_67 : Cond.classLink mX11_init.1.cls 22 (rx (elK 20)) ∈ gt := gt_ok (List.mem_of_getElem? (i := 144) (by decide +kernel)) (by decide +kernel)
theorem s_X11_init_74 : Cond.classLink mX11_init.1.cls 42 (rx 4) ∈ gt ∧ Cond.instantiable (rx 4) (nf 4) ∈ gt ∧ Cond.initialized (rx 4) ∈ gt := ⟨gt_ok (List.mem_of_getElem? (i := 179) (by decide +kernel)) (by decide +kernel), gt_ok (List.mem_of_getElem? (i := 180) (by decide +kernel)) (by decide +kernel), gt_ok (List.mem_of_getElem? (i := 94) (by decide +kernel)) (by decide +kernel)⟩
theorem s_X11_init_78 : cI mX11_init 78 mX4_init 44 0 := ⟨by decide +kernel, Or.inr ⟨ml_X4_init, rfl, by decide +kernel, im_X4_init, rfl, rfl⟩, by decide +kernel⟩
theorem s_X11_init_85 : Cond.classLink mX11_init.1.cls 49 (rx 3) ∈ gt ∧ Cond.instantiable (rx 3) (nf 3) ∈ gt ∧ Cond.initialized (rx 3) ∈ gt := ⟨gt_ok (List.mem_of_getElem? (i := 194) (by decide +kernel)) (by decide +kernel), gt_ok (List.mem_of_getElem? (i := 195) (by decide +kernel)) (by decide +kernel), gt_ok (List.mem_of_getElem? (i := 95) (by decide +kernel)) (by decide +kernel)⟩
theorem s_X11_init_89 : cI mX11_init 89 mX3_init 51 0 := ⟨by decide +kernel, Or.inr ⟨ml_X3_init, rfl, by decide +kernel, im_X3_init, rfl, rfl⟩, by decide +kernel⟩
theorem s_X11_init_105 : Cond.classLink mX11_init.1.cls 60 (rx (elK 17)) ∈ gt := gt_ok (List.mem_of_getElem? (i := 216) (by decide +kernel)) (by decide +kernel)
theorem s_X11_init_112 : Cond.classLink mX11_init.1.cls 66 (rx 6) ∈ gt ∧ Cond.instantiable (rx 6) (nf 6) ∈ gt ∧ Cond.initialized (rx 6) ∈ gt := ⟨gt_ok (List.mem_of_getElem? (i := 218) (by decide +kernel)) (by decide +kernel), gt_ok (List.mem_of_getElem? (i := 219) (by decide +kernel)) (by decide +kernel), gt_ok (List.mem_of_getElem? (i := 96) (by decide +kernel)) (by decide +kernel)⟩
theorem s_X11_init_120 : cI mX11_init 120 mX6_init 68 1 := ⟨by decide +kernel, Or.inl ⟨ml_X6_init, li_RX11_68, im_X6_init, rfl, rfl⟩, by decide +kernel⟩
theorem s_X11_init_127 : Cond.classLink mX11_init.1.cls 75 (rx 2) ∈ gt ∧ Cond.instantiable (rx 2) (nf 2) ∈ gt ∧ Cond.initialized (rx 2) ∈ gt := ⟨gt_ok (List.mem_of_getElem? (i := 249) (by decide +kernel)) (by decide +kernel), gt_ok (List.mem_of_getElem? (i := 250) (by decide +kernel)) (by decide +kernel), gt_ok (List.mem_of_getElem? (i := 97) (by decide +kernel)) (by decide +kernel)⟩
theorem s_X11_init_131 : cI mX11_init 131 mX2_init 77 0 := ⟨by decide +kernel, Or.inr ⟨ml_X2_init, rfl, by decide +kernel, im_X2_init, rfl, rfl⟩, by decide +kernel⟩
theorem s_X11_init_139 : Cond.classLink mX11_init.1.cls 82 (rx (elK 19)) ∈ gt := gt_ok (List.mem_of_getElem? (i := 266) (by decide +kernel)) (by decide +kernel)
theorem s_X11_init_146 : Cond.classLink mX11_init.1.cls 88 (rx 1) ∈ gt ∧ Cond.instantiable (rx 1) (nf 1) ∈ gt ∧ Cond.initialized (rx 1) ∈ gt := ⟨gt_ok (List.mem_of_getElem? (i := 268) (by decide +kernel)) (by decide +kernel), gt_ok (List.mem_of_getElem? (i := 269) (by decide +kernel)) (by decide +kernel), gt_ok (List.mem_of_getElem? (i := 98) (by decide +kernel)) (by decide +kernel)⟩
theorem s_X11_init_150 : cI mX11_init 150 mX1_init 90 0 := ⟨by decide +kernel, Or.inr ⟨ml_X1_init, rfl, by decide +kernel, im_X1_init, rfl, rfl⟩, by decide +kernel⟩
theorem s_X11_init_157 : Cond.classLink mX11_init.1.cls 88 (rx 1) ∈ gt ∧ Cond.instantiable (rx 1) (nf 1) ∈ gt ∧ Cond.initialized (rx 1) ∈ gt := ⟨gt_ok (List.mem_of_getElem? (i := 268) (by decide +kernel)) (by decide +kernel), gt_ok (List.mem_of_getElem? (i := 269) (by decide +kernel)) (by decide +kernel), gt_ok (List.mem_of_getElem? (i := 98) (by decide +kernel)) (by decide +kernel)⟩
theorem s_X11_init_161 : cI mX11_init 161 mX1_init 90 0 := ⟨by decide +kernel, Or.inr ⟨ml_X1_init, rfl, by decide +kernel, im_X1_init, rfl, rfl⟩, by decide +kernel⟩
theorem s_X11_init_233 : Cond.classLink mX11_init.1.cls 22 (rx 9) ∈ gt ∧ Cond.instantiable (rx 9) (nf 9) ∈ gt ∧ Cond.initialized (rx 9) ∈ gt := ⟨gt_ok (List.mem_of_getElem? (i := 144) (by decide +kernel)) (by decide +kernel), gt_ok (List.mem_of_getElem? (i := 145) (by decide +kernel)) (by decide +kernel), gt_ok (List.mem_of_getElem? (i := 93) (by decide +kernel)) (by decide +kernel)⟩
theorem s_X11_init_237 : cI mX11_init 237 mX9_init 24 0 := ⟨by decide +kernel, Or.inr ⟨ml_X9_init, rfl, by decide +kernel, im_X9_init, rfl, rfl⟩, by decide +kernel⟩
theorem s_X11_init_274 : Cond.classLink mX11_init.1.cls 60 (rx 5) ∈ gt ∧ Cond.instantiable (rx 5) (nf 5) ∈ gt ∧ Cond.initialized (rx 5) ∈ gt := ⟨gt_ok (List.mem_of_getElem? (i := 216) (by decide +kernel)) (by decide +kernel), gt_ok (List.mem_of_getElem? (i := 295) (by decide +kernel)) (by decide +kernel), gt_ok (List.mem_of_getElem? (i := 99) (by decide +kernel)) (by decide +kernel)⟩
theorem s_X11_init_278 : cI mX11_init 278 mX5_init 106 0 := ⟨by decide +kernel, Or.inr ⟨ml_X5_init, rfl, by decide +kernel, im_X5_init, rfl, rfl⟩, by decide +kernel⟩
theorem s_X11_init_300 : Cond.classLink mX11_init.1.cls 82 (rx 8) ∈ gt ∧ Cond.instantiable (rx 8) (nf 8) ∈ gt ∧ Cond.initialized (rx 8) ∈ gt := ⟨gt_ok (List.mem_of_getElem? (i := 266) (by decide +kernel)) (by decide +kernel), gt_ok (List.mem_of_getElem? (i := 312) (by decide +kernel)) (by decide +kernel), gt_ok (List.mem_of_getElem? (i := 100) (by decide +kernel)) (by decide +kernel)⟩
theorem s_X11_init_304 : cI mX11_init 304 mX8_init 107 0 := ⟨by decide +kernel, Or.inr ⟨ml_X8_init, rfl, by decide +kernel, im_X8_init, rfl, rfl⟩, by decide +kernel⟩
def b_X10_init_0 : List IE := [(.aload_n 0, 1, 0, 0, 0, 0)]
theorem k_X10_init_0 : ckObj mX10_init 10 0 b_X10_init_0 1 3 = true := by decide +kernel
def b_X10_init_4 : List IE := [(.aload_n 0, 1, 0, 0, 0, 0), (.bipush 64, 2, 64, 0, 0, 0)]
theorem k_X10_init_4 : ckNewa mX10_init 10 4 b_X10_init_4 7 13 = true := by decide +kernel
def b_X10_init_9 : List IE := [(.putfield 9, 3, 0, 10, 0, 1), (.aload_n 0, 1, 0, 0, 0, 0), (.bipush 12, 2, 12, 0, 0, 0)]
theorem k_X10_init_9 : ckNewa mX10_init 10 9 b_X10_init_9 15 13 = true := by decide +kernel
def b_X10_init_17 : List IE := [(.putfield 15, 3, 0, 10, 2, 1)]
theorem k_X10_init_17 : ckV mX10_init 10 17 b_X10_init_17 20 = true := by decide +kernel
theorem s_X10_init_1 : Cond.methodLink mX10_init.1.cls 3 objectInit ∈ gt ∧ Cond.instanceMethod objectInit ∈ gt ∧ Cond.code objectInit ⟨#[0xb1]⟩ 1 none ∈ gt := ⟨gt_ok (List.mem_of_getElem? (i := 124) (by decide +kernel)) (by decide +kernel), gt_ok (List.mem_of_getElem? (i := 117) (by decide +kernel)) (by decide +kernel), gt_ok (List.mem_of_getElem? (i := 118) (by decide +kernel)) (by decide +kernel)⟩
def b_X9_init_0 : List IE := [(.aload_n 0, 1, 0, 0, 0, 0)]
theorem k_X9_init_0 : ckObj mX9_init 9 0 b_X9_init_0 1 3 = true := by decide +kernel
def b_X9_init_4 : List IE := [(.aload_n 0, 1, 0, 0, 0, 0), (.bipush 8, 2, 8, 0, 0, 0)]
theorem k_X9_init_4 : ckAnew mX9_init 9 4 b_X9_init_4 7 9 18 = true := by decide +kernel
def b_X9_init_10 : List IE := [(.putfield 11, 3, 0, 9, 0, 1), (.aload_n 0, 1, 0, 0, 0, 0), (.bipush 8, 2, 8, 0, 0, 0)]
theorem k_X9_init_10 : ckNewa mX9_init 9 10 b_X9_init_10 16 14 = true := by decide +kernel
def b_X9_init_18 : List IE := [(.putfield 17, 3, 0, 9, 1, 1)]
theorem k_X9_init_18 : ckV mX9_init 9 18 b_X9_init_18 21 = true := by decide +kernel
theorem s_X9_init_1 : Cond.methodLink mX9_init.1.cls 3 objectInit ∈ gt ∧ Cond.instanceMethod objectInit ∈ gt ∧ Cond.code objectInit ⟨#[0xb1]⟩ 1 none ∈ gt := ⟨gt_ok (List.mem_of_getElem? (i := 149) (by decide +kernel)) (by decide +kernel), gt_ok (List.mem_of_getElem? (i := 117) (by decide +kernel)) (by decide +kernel), gt_ok (List.mem_of_getElem? (i := 118) (by decide +kernel)) (by decide +kernel)⟩
theorem s_X9_init_7 : Cond.classLink mX9_init.1.cls 9 (rx (elK 18)) ∈ gt := gt_ok (List.mem_of_getElem? (i := 150) (by decide +kernel)) (by decide +kernel)
def b_X4_init_0 : List IE := [(.aload_n 0, 1, 0, 0, 0, 0)]
theorem k_X4_init_0 : ckObj mX4_init 4 0 b_X4_init_0 1 3 = true := by decide +kernel
def b_X4_init_4 : List IE := []
theorem k_X4_init_4 : ckV mX4_init 4 4 b_X4_init_4 4 = true := by decide +kernel
theorem s_X4_init_1 : Cond.methodLink mX4_init.1.cls 3 objectInit ∈ gt ∧ Cond.instanceMethod objectInit ∈ gt ∧ Cond.code objectInit ⟨#[0xb1]⟩ 1 none ∈ gt := ⟨gt_ok (List.mem_of_getElem? (i := 184) (by decide +kernel)) (by decide +kernel), gt_ok (List.mem_of_getElem? (i := 117) (by decide +kernel)) (by decide +kernel), gt_ok (List.mem_of_getElem? (i := 118) (by decide +kernel)) (by decide +kernel)⟩
def b_X3_init_0 : List IE := [(.aload_n 0, 1, 0, 0, 0, 0)]
theorem k_X3_init_0 : ckObj mX3_init 3 0 b_X3_init_0 1 3 = true := by decide +kernel
def b_X3_init_4 : List IE := [(.aload_n 0, 1, 0, 0, 0, 0), (.bipush 8, 2, 8, 0, 0, 0)]
theorem k_X3_init_4 : ckNewa mX3_init 3 4 b_X3_init_4 7 14 = true := by decide +kernel
def b_X3_init_9 : List IE := [(.putfield 9, 3, 0, 3, 3, 1)]
theorem k_X3_init_9 : ckV mX3_init 3 9 b_X3_init_9 12 = true := by decide +kernel
theorem s_X3_init_1 : Cond.methodLink mX3_init.1.cls 3 objectInit ∈ gt ∧ Cond.instanceMethod objectInit ∈ gt ∧ Cond.code objectInit ⟨#[0xb1]⟩ 1 none ∈ gt := ⟨gt_ok (List.mem_of_getElem? (i := 199) (by decide +kernel)) (by decide +kernel), gt_ok (List.mem_of_getElem? (i := 117) (by decide +kernel)) (by decide +kernel), gt_ok (List.mem_of_getElem? (i := 118) (by decide +kernel)) (by decide +kernel)⟩
def b_X6_init_0 : List IE := [(.aload_n 0, 1, 0, 0, 0, 0)]
theorem k_X6_init_0 : ckObj mX6_init 6 0 b_X6_init_0 1 3 = true := by decide +kernel
def b_X6_init_4 : List IE := [(.aload_n 0, 1, 0, 0, 0, 0), (.aload_n 1, 1, 0, 0, 1, 0), (.putfield 9, 3, 0, 6, 0, 1)]
theorem k_X6_init_4 : ckV mX6_init 6 4 b_X6_init_4 9 = true := by decide +kernel
theorem s_X6_init_1 : Cond.methodLink mX6_init.1.cls 3 objectInit ∈ gt ∧ Cond.instanceMethod objectInit ∈ gt ∧ Cond.code objectInit ⟨#[0xb1]⟩ 1 none ∈ gt := ⟨gt_ok (List.mem_of_getElem? (i := 223) (by decide +kernel)) (by decide +kernel), gt_ok (List.mem_of_getElem? (i := 117) (by decide +kernel)) (by decide +kernel), gt_ok (List.mem_of_getElem? (i := 118) (by decide +kernel)) (by decide +kernel)⟩
def b_X2_init_0 : List IE := [(.aload_n 0, 1, 0, 0, 0, 0)]
theorem k_X2_init_0 : ckObj mX2_init 2 0 b_X2_init_0 1 3 = true := by decide +kernel
def b_X2_init_4 : List IE := [(.aload_n 0, 1, 0, 0, 0, 0), (.bipush 8, 2, 8, 0, 0, 0)]
theorem k_X2_init_4 : ckNewa mX2_init 2 4 b_X2_init_4 7 13 = true := by decide +kernel
def b_X2_init_9 : List IE := [(.putfield 9, 3, 0, 2, 1, 1)]
theorem k_X2_init_9 : ckV mX2_init 2 9 b_X2_init_9 12 = true := by decide +kernel
theorem s_X2_init_1 : Cond.methodLink mX2_init.1.cls 3 objectInit ∈ gt ∧ Cond.instanceMethod objectInit ∈ gt ∧ Cond.code objectInit ⟨#[0xb1]⟩ 1 none ∈ gt := ⟨gt_ok (List.mem_of_getElem? (i := 254) (by decide +kernel)) (by decide +kernel), gt_ok (List.mem_of_getElem? (i := 117) (by decide +kernel)) (by decide +kernel), gt_ok (List.mem_of_getElem? (i := 118) (by decide +kernel)) (by decide +kernel)⟩
def b_X1_init_0 : List IE := [(.aload_n 0, 1, 0, 0, 0, 0)]
theorem k_X1_init_0 : ckObj mX1_init 1 0 b_X1_init_0 1 3 = true := by decide +kernel
def b_X1_init_4 : List IE := [(.aload_n 0, 1, 0, 0, 0, 0), (.bipush 64, 2, 64, 0, 0, 0)]
theorem k_X1_init_4 : ckNewa mX1_init 1 4 b_X1_init_4 7 13 = true := by decide +kernel
def b_X1_init_9 : List IE := [(.putfield 9, 3, 0, 1, 0, 1), (.aload_n 0, 1, 0, 0, 0, 0), (.bipush 64, 2, 64, 0, 0, 0)]
theorem k_X1_init_9 : ckNewa mX1_init 1 9 b_X1_init_9 15 13 = true := by decide +kernel
def b_X1_init_17 : List IE := [(.putfield 15, 3, 0, 1, 1, 1), (.aload_n 0, 1, 0, 0, 0, 0), (.bipush 8, 2, 8, 0, 0, 0)]
theorem k_X1_init_17 : ckNewa mX1_init 1 17 b_X1_init_17 23 14 = true := by decide +kernel
def b_X1_init_25 : List IE := [(.putfield 18, 3, 0, 1, 2, 1)]
theorem k_X1_init_25 : ckV mX1_init 1 25 b_X1_init_25 28 = true := by decide +kernel
theorem s_X1_init_1 : Cond.methodLink mX1_init.1.cls 3 objectInit ∈ gt ∧ Cond.instanceMethod objectInit ∈ gt ∧ Cond.code objectInit ⟨#[0xb1]⟩ 1 none ∈ gt := ⟨gt_ok (List.mem_of_getElem? (i := 273) (by decide +kernel)) (by decide +kernel), gt_ok (List.mem_of_getElem? (i := 117) (by decide +kernel)) (by decide +kernel), gt_ok (List.mem_of_getElem? (i := 118) (by decide +kernel)) (by decide +kernel)⟩
def b_X5_init_0 : List IE := [(.aload_n 0, 1, 0, 0, 0, 0)]
theorem k_X5_init_0 : ckObj mX5_init 5 0 b_X5_init_0 1 3 = true := by decide +kernel
def b_X5_init_4 : List IE := [(.aload_n 0, 1, 0, 0, 0, 0), (.sipush 128, 3, 128, 0, 0, 0)]
theorem k_X5_init_4 : ckNewa mX5_init 5 4 b_X5_init_4 8 13 = true := by decide +kernel
def b_X5_init_10 : List IE := [(.putfield 9, 3, 0, 5, 0, 1), (.aload_n 0, 1, 0, 0, 0, 0), (.bipush 16, 2, 16, 0, 0, 0)]
theorem k_X5_init_10 : ckNewa mX5_init 5 10 b_X5_init_10 16 13 = true := by decide +kernel
def b_X5_init_18 : List IE := [(.putfield 15, 3, 0, 5, 2, 1)]
theorem k_X5_init_18 : ckV mX5_init 5 18 b_X5_init_18 21 = true := by decide +kernel
theorem s_X5_init_1 : Cond.methodLink mX5_init.1.cls 3 objectInit ∈ gt ∧ Cond.instanceMethod objectInit ∈ gt ∧ Cond.code objectInit ⟨#[0xb1]⟩ 1 none ∈ gt := ⟨gt_ok (List.mem_of_getElem? (i := 299) (by decide +kernel)) (by decide +kernel), gt_ok (List.mem_of_getElem? (i := 117) (by decide +kernel)) (by decide +kernel), gt_ok (List.mem_of_getElem? (i := 118) (by decide +kernel)) (by decide +kernel)⟩
def b_X8_init_0 : List IE := [(.aload_n 0, 1, 0, 0, 0, 0)]
theorem k_X8_init_0 : ckObj mX8_init 8 0 b_X8_init_0 1 3 = true := by decide +kernel
def b_X8_init_4 : List IE := [(.aload_n 0, 1, 0, 0, 0, 0), (.bipush 40, 2, 40, 0, 0, 0)]
theorem k_X8_init_4 : ckNewa mX8_init 8 4 b_X8_init_4 7 13 = true := by decide +kernel
def b_X8_init_9 : List IE := [(.putfield 9, 3, 0, 8, 0, 1), (.aload_n 0, 1, 0, 0, 0, 0), (.iconst (-1), 1, (-1), 0, 0, 0), (.putfield 15, 3, 0, 8, 1, 0)]
theorem k_X8_init_9 : ckV mX8_init 8 9 b_X8_init_9 17 = true := by decide +kernel
theorem s_X8_init_1 : Cond.methodLink mX8_init.1.cls 3 objectInit ∈ gt ∧ Cond.instanceMethod objectInit ∈ gt ∧ Cond.code objectInit ⟨#[0xb1]⟩ 1 none ∈ gt := ⟨gt_ok (List.mem_of_getElem? (i := 316) (by decide +kernel)) (by decide +kernel), gt_ok (List.mem_of_getElem? (i := 117) (by decide +kernel)) (by decide +kernel), gt_ok (List.mem_of_getElem? (i := 118) (by decide +kernel)) (by decide +kernel)⟩
def cH1 : AH := (1, (nw hE 11 0).2)
def cH2 : AH := (2, (nw cH1 10 0).2)
def cH3 : AH := (3, (nw cH2 13 64).2)
def cH4 : AH := sR cH3 1 0 (some 2)
def cH5 : AH := (4, (nw cH4 13 12).2)
def cH6 : AH := sR cH5 1 2 (some 3)
def cH7 : AH := sR cH6 0 0 (some 1)
def cH8 : AH := (5, (nw cH7 16 4).2)
def cH9 : AH := sR cH8 0 1 (some 4)
def cH10 : AH := (6, (nw cH9 9 0).2)
def cH11 : AH := (7, (nw cH10 18 8).2)
def cH12 : AH := sR cH11 5 0 (some 6)
def cH13 : AH := (8, (nw cH12 14 8).2)
def cH14 : AH := sR cH13 5 1 (some 7)
def cH15 : AH := sR cH14 0 3 (some 5)
def cH16 : AH := (9, (nw cH15 9 0).2)
def cH17 : AH := (10, (nw cH16 18 8).2)
def cH18 : AH := sR cH17 8 0 (some 9)
def cH19 : AH := (11, (nw cH18 14 8).2)
def cH20 : AH := sR cH19 8 1 (some 10)
def cH21 : AH := sR cH20 0 4 (some 8)
def cH22 : AH := (12, (nw cH21 9 0).2)
def cH23 : AH := (13, (nw cH22 18 8).2)
def cH24 : AH := sR cH23 11 0 (some 12)
def cH25 : AH := (14, (nw cH24 14 8).2)
def cH26 : AH := sR cH25 11 1 (some 13)
def cH27 : AH := sR cH26 0 5 (some 11)
def cH28 : AH := (15, (nw cH27 20 4).2)
def cH29 : AH := sR cH28 0 6 (some 14)
def cH30 : AH := (16, (nw cH29 20 7).2)
def cH31 : AH := sR cH30 0 7 (some 15)
def cH32 : AH := (17, (nw cH31 4 0).2)
def cH33 : AH := sR cH32 0 9 (some 16)
def cH34 : AH := (18, (nw cH33 3 0).2)
def cH35 : AH := (19, (nw cH34 14 8).2)
def cH36 : AH := sR cH35 17 3 (some 18)
def cH37 : AH := sR cH36 0 10 (some 17)
def cH38 : AH := sI cH37 0 11 9999
def cH39 : AH := (20, (nw cH38 17 6).2)
def cH40 : AH := sR cH39 0 12 (some 19)
def cH41 : AH := (21, (nw cH40 6 0).2)
def cH42 : AH := sR cH41 20 0 (some 1)
def cH43 : AH := sR cH42 0 14 (some 20)
def cH44 : AH := (22, (nw cH43 2 0).2)
def cH45 : AH := (23, (nw cH44 13 8).2)
def cH46 : AH := sR cH45 21 1 (some 22)
def cH47 : AH := sR cH46 0 15 (some 21)
def cH48 : AH := (24, (nw cH47 19 4).2)
def cH49 : AH := sR cH48 0 16 (some 23)
def cH50 : AH := (25, (nw cH49 1 0).2)
def cH51 : AH := (26, (nw cH50 13 64).2)
def cH52 : AH := sR cH51 24 0 (some 25)
def cH53 : AH := (27, (nw cH52 13 64).2)
def cH54 : AH := sR cH53 24 1 (some 26)
def cH55 : AH := (28, (nw cH54 14 8).2)
def cH56 : AH := sR cH55 24 2 (some 27)
def cH57 : AH := sR cH56 0 17 (some 24)
def cH58 : AH := (29, (nw cH57 1 0).2)
def cH59 : AH := (30, (nw cH58 13 64).2)
def cH60 : AH := sR cH59 28 0 (some 29)
def cH61 : AH := (31, (nw cH60 13 64).2)
def cH62 : AH := sR cH61 28 1 (some 30)
def cH63 : AH := (32, (nw cH62 14 8).2)
def cH64 : AH := sR cH63 28 2 (some 31)
def cH65 : AH := sR cH64 0 18 (some 28)
def cH66 : AH := (33, (nw cH65 13 64).2)
def cH67 : AH := sR cH66 0 19 (some 32)
def cH68 : AH := sI cH67 5 3 1
def cH69 : AH := sI cH68 11 3 1
def cH70 : AH := sR cH69 15 0 (some 5)
def cH71 : AH := sR cH70 15 1 (some 11)
def cH72 : AH := sR cH71 15 2 (some 8)
def cH73 : AH := (34, (nw cH72 9 0).2)
def cH74 : AH := (35, (nw cH73 18 8).2)
def cH75 : AH := sR cH74 33 0 (some 34)
def cH76 : AH := (36, (nw cH75 14 8).2)
def cH77 : AH := sR cH76 33 1 (some 35)
def cH78 : AH := sR cH77 14 0 (some 33)
def cH79 : AH := sR cH78 15 3 (some 33)
def cH80 : AH := (37, (nw cH79 9 0).2)
def cH81 : AH := (38, (nw cH80 18 8).2)
def cH82 : AH := sR cH81 36 0 (some 37)
def cH83 : AH := (39, (nw cH82 14 8).2)
def cH84 : AH := sR cH83 36 1 (some 38)
def cH85 : AH := sR cH84 14 1 (some 36)
def cH86 : AH := sR cH85 15 4 (some 36)
def cH87 : AH := (40, (nw cH86 9 0).2)
def cH88 : AH := (41, (nw cH87 18 8).2)
def cH89 : AH := sR cH88 39 0 (some 40)
def cH90 : AH := (42, (nw cH89 14 8).2)
def cH91 : AH := sR cH90 39 1 (some 41)
def cH92 : AH := sR cH91 14 2 (some 39)
def cH93 : AH := sR cH92 15 5 (some 39)
def cH94 : AH := (43, (nw cH93 9 0).2)
def cH95 : AH := (44, (nw cH94 18 8).2)
def cH96 : AH := sR cH95 42 0 (some 43)
def cH97 : AH := (45, (nw cH96 14 8).2)
def cH98 : AH := sR cH97 42 1 (some 44)
def cH99 : AH := sR cH98 14 3 (some 42)
def cH100 : AH := sR cH99 15 6 (some 42)
def cH101 : AH := (46, (nw cH100 5 0).2)
def cH102 : AH := (47, (nw cH101 13 128).2)
def cH103 : AH := sR cH102 45 0 (some 46)
def cH104 : AH := (48, (nw cH103 13 16).2)
def cH105 : AH := sR cH104 45 2 (some 47)
def cH106 : AH := sR cH105 19 0 (some 45)
def cH107 : AH := (49, (nw cH106 5 0).2)
def cH108 : AH := (50, (nw cH107 13 128).2)
def cH109 : AH := sR cH108 48 0 (some 49)
def cH110 : AH := (51, (nw cH109 13 16).2)
def cH111 : AH := sR cH110 48 2 (some 50)
def cH112 : AH := sR cH111 19 1 (some 48)
def cH113 : AH := (52, (nw cH112 5 0).2)
def cH114 : AH := (53, (nw cH113 13 128).2)
def cH115 : AH := sR cH114 51 0 (some 52)
def cH116 : AH := (54, (nw cH115 13 16).2)
def cH117 : AH := sR cH116 51 2 (some 53)
def cH118 : AH := sR cH117 19 2 (some 51)
def cH119 : AH := (55, (nw cH118 5 0).2)
def cH120 : AH := (56, (nw cH119 13 128).2)
def cH121 : AH := sR cH120 54 0 (some 55)
def cH122 : AH := (57, (nw cH121 13 16).2)
def cH123 : AH := sR cH122 54 2 (some 56)
def cH124 : AH := sR cH123 19 3 (some 54)
def cH125 : AH := (58, (nw cH124 5 0).2)
def cH126 : AH := (59, (nw cH125 13 128).2)
def cH127 : AH := sR cH126 57 0 (some 58)
def cH128 : AH := (60, (nw cH127 13 16).2)
def cH129 : AH := sR cH128 57 2 (some 59)
def cH130 : AH := sR cH129 19 4 (some 57)
def cH131 : AH := (61, (nw cH130 5 0).2)
def cH132 : AH := (62, (nw cH131 13 128).2)
def cH133 : AH := sR cH132 60 0 (some 61)
def cH134 : AH := (63, (nw cH133 13 16).2)
def cH135 : AH := sR cH134 60 2 (some 62)
def cH136 : AH := sR cH135 19 5 (some 60)
def cH137 : AH := (64, (nw cH136 8 0).2)
def cH138 : AH := (65, (nw cH137 13 40).2)
def cH139 : AH := sR cH138 63 0 (some 64)
def cH140 : AH := sI cH139 63 1 (-1)
def cH141 : AH := sR cH140 23 0 (some 63)
def cH142 : AH := (66, (nw cH141 8 0).2)
def cH143 : AH := (67, (nw cH142 13 40).2)
def cH144 : AH := sR cH143 65 0 (some 66)
def cH145 : AH := sI cH144 65 1 (-1)
def cH146 : AH := sR cH145 23 1 (some 65)
def cH147 : AH := (68, (nw cH146 8 0).2)
def cH148 : AH := (69, (nw cH147 13 40).2)
def cH149 : AH := sR cH148 67 0 (some 68)
def cH150 : AH := sI cH149 67 1 (-1)
def cH151 : AH := sR cH150 23 2 (some 67)
def cH152 : AH := (70, (nw cH151 8 0).2)
def cH153 : AH := (71, (nw cH152 13 40).2)
def cH154 : AH := sR cH153 69 0 (some 70)
def cH155 : AH := sI cH154 69 1 (-1)
def cH156 : AH := sR cH155 23 3 (some 69)
theorem cHz1 : ZI [] cH1 := ZI_nw ZI_0 (by decide +kernel)
theorem cHz2 : ZI [] cH2 := ZI_nw cHz1 (by decide +kernel)
theorem cHz3 : ZI [] cH3 := ZI_nw cHz2 (by decide +kernel)
theorem cHz4 : ZI [] cH4 := ZI_sR cHz3
theorem cHz5 : ZI [] cH5 := ZI_nw cHz4 (by decide +kernel)
theorem cHz6 : ZI [] cH6 := ZI_sR cHz5
theorem cHz7 : ZI [] cH7 := ZI_sR cHz6
theorem cHz8 : ZI [] cH8 := ZI_nw cHz7 (by decide +kernel)
theorem cHz9 : ZI [] cH9 := ZI_sR cHz8
theorem cHz10 : ZI [] cH10 := ZI_nw cHz9 (by decide +kernel)
theorem cHz11 : ZI [] cH11 := ZI_nw cHz10 (by decide +kernel)
theorem cHz12 : ZI [] cH12 := ZI_sR cHz11
theorem cHz13 : ZI [] cH13 := ZI_nw cHz12 (by decide +kernel)
theorem cHz14 : ZI [] cH14 := ZI_sR cHz13
theorem cHz15 : ZI [] cH15 := ZI_sR cHz14
theorem cHz16 : ZI [] cH16 := ZI_nw cHz15 (by decide +kernel)
theorem cHz17 : ZI [] cH17 := ZI_nw cHz16 (by decide +kernel)
theorem cHz18 : ZI [] cH18 := ZI_sR cHz17
theorem cHz19 : ZI [] cH19 := ZI_nw cHz18 (by decide +kernel)
theorem cHz20 : ZI [] cH20 := ZI_sR cHz19
theorem cHz21 : ZI [] cH21 := ZI_sR cHz20
theorem cHz22 : ZI [] cH22 := ZI_nw cHz21 (by decide +kernel)
theorem cHz23 : ZI [] cH23 := ZI_nw cHz22 (by decide +kernel)
theorem cHz24 : ZI [] cH24 := ZI_sR cHz23
theorem cHz25 : ZI [] cH25 := ZI_nw cHz24 (by decide +kernel)
theorem cHz26 : ZI [] cH26 := ZI_sR cHz25
theorem cHz27 : ZI [] cH27 := ZI_sR cHz26
theorem cHz28 : ZI [] cH28 := ZI_nw cHz27 (by decide +kernel)
theorem cHz29 : ZI [] cH29 := ZI_sR cHz28
theorem cHz30 : ZI [] cH30 := ZI_nw cHz29 (by decide +kernel)
theorem cHz31 : ZI [] cH31 := ZI_sR cHz30
theorem cHz32 : ZI [] cH32 := ZI_nw cHz31 (by decide +kernel)
theorem cHz33 : ZI [] cH33 := ZI_sR cHz32
theorem cHz34 : ZI [] cH34 := ZI_nw cHz33 (by decide +kernel)
theorem cHz35 : ZI [] cH35 := ZI_nw cHz34 (by decide +kernel)
theorem cHz36 : ZI [] cH36 := ZI_sR cHz35
theorem cHz37 : ZI [] cH37 := ZI_sR cHz36
theorem cHz38 : ZI [(0, 11, 9999)] cH38 := ZI_sI cHz37
theorem cHz39 : ZI [(0, 11, 9999)] cH39 := ZI_nw cHz38 (by decide +kernel)
theorem cHz40 : ZI [(0, 11, 9999)] cH40 := ZI_sR cHz39
theorem cHz41 : ZI [(0, 11, 9999)] cH41 := ZI_nw cHz40 (by decide +kernel)
theorem cHz42 : ZI [(0, 11, 9999)] cH42 := ZI_sR cHz41
theorem cHz43 : ZI [(0, 11, 9999)] cH43 := ZI_sR cHz42
theorem cHz44 : ZI [(0, 11, 9999)] cH44 := ZI_nw cHz43 (by decide +kernel)
theorem cHz45 : ZI [(0, 11, 9999)] cH45 := ZI_nw cHz44 (by decide +kernel)
theorem cHz46 : ZI [(0, 11, 9999)] cH46 := ZI_sR cHz45
theorem cHz47 : ZI [(0, 11, 9999)] cH47 := ZI_sR cHz46
theorem cHz48 : ZI [(0, 11, 9999)] cH48 := ZI_nw cHz47 (by decide +kernel)
theorem cHz49 : ZI [(0, 11, 9999)] cH49 := ZI_sR cHz48
theorem cHz50 : ZI [(0, 11, 9999)] cH50 := ZI_nw cHz49 (by decide +kernel)
theorem cHz51 : ZI [(0, 11, 9999)] cH51 := ZI_nw cHz50 (by decide +kernel)
theorem cHz52 : ZI [(0, 11, 9999)] cH52 := ZI_sR cHz51
theorem cHz53 : ZI [(0, 11, 9999)] cH53 := ZI_nw cHz52 (by decide +kernel)
theorem cHz54 : ZI [(0, 11, 9999)] cH54 := ZI_sR cHz53
theorem cHz55 : ZI [(0, 11, 9999)] cH55 := ZI_nw cHz54 (by decide +kernel)
theorem cHz56 : ZI [(0, 11, 9999)] cH56 := ZI_sR cHz55
theorem cHz57 : ZI [(0, 11, 9999)] cH57 := ZI_sR cHz56
theorem cHz58 : ZI [(0, 11, 9999)] cH58 := ZI_nw cHz57 (by decide +kernel)
theorem cHz59 : ZI [(0, 11, 9999)] cH59 := ZI_nw cHz58 (by decide +kernel)
theorem cHz60 : ZI [(0, 11, 9999)] cH60 := ZI_sR cHz59
theorem cHz61 : ZI [(0, 11, 9999)] cH61 := ZI_nw cHz60 (by decide +kernel)
theorem cHz62 : ZI [(0, 11, 9999)] cH62 := ZI_sR cHz61
theorem cHz63 : ZI [(0, 11, 9999)] cH63 := ZI_nw cHz62 (by decide +kernel)
theorem cHz64 : ZI [(0, 11, 9999)] cH64 := ZI_sR cHz63
theorem cHz65 : ZI [(0, 11, 9999)] cH65 := ZI_sR cHz64
theorem cHz66 : ZI [(0, 11, 9999)] cH66 := ZI_nw cHz65 (by decide +kernel)
theorem cHz67 : ZI [(0, 11, 9999)] cH67 := ZI_sR cHz66
theorem cHz68 : ZI [(5, 3, 1), (0, 11, 9999)] cH68 := ZI_sI cHz67
theorem cHz69 : ZI [(11, 3, 1), (5, 3, 1), (0, 11, 9999)] cH69 := ZI_sI cHz68
theorem cHz70 : ZI [(11, 3, 1), (5, 3, 1), (0, 11, 9999)] cH70 := ZI_sR cHz69
theorem cHz71 : ZI [(11, 3, 1), (5, 3, 1), (0, 11, 9999)] cH71 := ZI_sR cHz70
theorem cHz72 : ZI [(11, 3, 1), (5, 3, 1), (0, 11, 9999)] cH72 := ZI_sR cHz71
theorem cHz73 : ZI [(11, 3, 1), (5, 3, 1), (0, 11, 9999)] cH73 := ZI_nw cHz72 (by decide +kernel)
theorem cHz74 : ZI [(11, 3, 1), (5, 3, 1), (0, 11, 9999)] cH74 := ZI_nw cHz73 (by decide +kernel)
theorem cHz75 : ZI [(11, 3, 1), (5, 3, 1), (0, 11, 9999)] cH75 := ZI_sR cHz74
theorem cHz76 : ZI [(11, 3, 1), (5, 3, 1), (0, 11, 9999)] cH76 := ZI_nw cHz75 (by decide +kernel)
theorem cHz77 : ZI [(11, 3, 1), (5, 3, 1), (0, 11, 9999)] cH77 := ZI_sR cHz76
theorem cHz78 : ZI [(11, 3, 1), (5, 3, 1), (0, 11, 9999)] cH78 := ZI_sR cHz77
theorem cHz79 : ZI [(11, 3, 1), (5, 3, 1), (0, 11, 9999)] cH79 := ZI_sR cHz78
theorem cHz80 : ZI [(11, 3, 1), (5, 3, 1), (0, 11, 9999)] cH80 := ZI_nw cHz79 (by decide +kernel)
theorem cHz81 : ZI [(11, 3, 1), (5, 3, 1), (0, 11, 9999)] cH81 := ZI_nw cHz80 (by decide +kernel)
theorem cHz82 : ZI [(11, 3, 1), (5, 3, 1), (0, 11, 9999)] cH82 := ZI_sR cHz81
theorem cHz83 : ZI [(11, 3, 1), (5, 3, 1), (0, 11, 9999)] cH83 := ZI_nw cHz82 (by decide +kernel)
theorem cHz84 : ZI [(11, 3, 1), (5, 3, 1), (0, 11, 9999)] cH84 := ZI_sR cHz83
theorem cHz85 : ZI [(11, 3, 1), (5, 3, 1), (0, 11, 9999)] cH85 := ZI_sR cHz84
theorem cHz86 : ZI [(11, 3, 1), (5, 3, 1), (0, 11, 9999)] cH86 := ZI_sR cHz85
theorem cHz87 : ZI [(11, 3, 1), (5, 3, 1), (0, 11, 9999)] cH87 := ZI_nw cHz86 (by decide +kernel)
theorem cHz88 : ZI [(11, 3, 1), (5, 3, 1), (0, 11, 9999)] cH88 := ZI_nw cHz87 (by decide +kernel)
theorem cHz89 : ZI [(11, 3, 1), (5, 3, 1), (0, 11, 9999)] cH89 := ZI_sR cHz88
theorem cHz90 : ZI [(11, 3, 1), (5, 3, 1), (0, 11, 9999)] cH90 := ZI_nw cHz89 (by decide +kernel)
theorem cHz91 : ZI [(11, 3, 1), (5, 3, 1), (0, 11, 9999)] cH91 := ZI_sR cHz90
theorem cHz92 : ZI [(11, 3, 1), (5, 3, 1), (0, 11, 9999)] cH92 := ZI_sR cHz91
theorem cHz93 : ZI [(11, 3, 1), (5, 3, 1), (0, 11, 9999)] cH93 := ZI_sR cHz92
theorem cHz94 : ZI [(11, 3, 1), (5, 3, 1), (0, 11, 9999)] cH94 := ZI_nw cHz93 (by decide +kernel)
theorem cHz95 : ZI [(11, 3, 1), (5, 3, 1), (0, 11, 9999)] cH95 := ZI_nw cHz94 (by decide +kernel)
theorem cHz96 : ZI [(11, 3, 1), (5, 3, 1), (0, 11, 9999)] cH96 := ZI_sR cHz95
theorem cHz97 : ZI [(11, 3, 1), (5, 3, 1), (0, 11, 9999)] cH97 := ZI_nw cHz96 (by decide +kernel)
theorem cHz98 : ZI [(11, 3, 1), (5, 3, 1), (0, 11, 9999)] cH98 := ZI_sR cHz97
theorem cHz99 : ZI [(11, 3, 1), (5, 3, 1), (0, 11, 9999)] cH99 := ZI_sR cHz98
theorem cHz100 : ZI [(11, 3, 1), (5, 3, 1), (0, 11, 9999)] cH100 := ZI_sR cHz99
theorem cHz101 : ZI [(11, 3, 1), (5, 3, 1), (0, 11, 9999)] cH101 := ZI_nw cHz100 (by decide +kernel)
theorem cHz102 : ZI [(11, 3, 1), (5, 3, 1), (0, 11, 9999)] cH102 := ZI_nw cHz101 (by decide +kernel)
theorem cHz103 : ZI [(11, 3, 1), (5, 3, 1), (0, 11, 9999)] cH103 := ZI_sR cHz102
theorem cHz104 : ZI [(11, 3, 1), (5, 3, 1), (0, 11, 9999)] cH104 := ZI_nw cHz103 (by decide +kernel)
theorem cHz105 : ZI [(11, 3, 1), (5, 3, 1), (0, 11, 9999)] cH105 := ZI_sR cHz104
theorem cHz106 : ZI [(11, 3, 1), (5, 3, 1), (0, 11, 9999)] cH106 := ZI_sR cHz105
theorem cHz107 : ZI [(11, 3, 1), (5, 3, 1), (0, 11, 9999)] cH107 := ZI_nw cHz106 (by decide +kernel)
theorem cHz108 : ZI [(11, 3, 1), (5, 3, 1), (0, 11, 9999)] cH108 := ZI_nw cHz107 (by decide +kernel)
theorem cHz109 : ZI [(11, 3, 1), (5, 3, 1), (0, 11, 9999)] cH109 := ZI_sR cHz108
theorem cHz110 : ZI [(11, 3, 1), (5, 3, 1), (0, 11, 9999)] cH110 := ZI_nw cHz109 (by decide +kernel)
theorem cHz111 : ZI [(11, 3, 1), (5, 3, 1), (0, 11, 9999)] cH111 := ZI_sR cHz110
theorem cHz112 : ZI [(11, 3, 1), (5, 3, 1), (0, 11, 9999)] cH112 := ZI_sR cHz111
theorem cHz113 : ZI [(11, 3, 1), (5, 3, 1), (0, 11, 9999)] cH113 := ZI_nw cHz112 (by decide +kernel)
theorem cHz114 : ZI [(11, 3, 1), (5, 3, 1), (0, 11, 9999)] cH114 := ZI_nw cHz113 (by decide +kernel)
theorem cHz115 : ZI [(11, 3, 1), (5, 3, 1), (0, 11, 9999)] cH115 := ZI_sR cHz114
theorem cHz116 : ZI [(11, 3, 1), (5, 3, 1), (0, 11, 9999)] cH116 := ZI_nw cHz115 (by decide +kernel)
theorem cHz117 : ZI [(11, 3, 1), (5, 3, 1), (0, 11, 9999)] cH117 := ZI_sR cHz116
theorem cHz118 : ZI [(11, 3, 1), (5, 3, 1), (0, 11, 9999)] cH118 := ZI_sR cHz117
theorem cHz119 : ZI [(11, 3, 1), (5, 3, 1), (0, 11, 9999)] cH119 := ZI_nw cHz118 (by decide +kernel)
theorem cHz120 : ZI [(11, 3, 1), (5, 3, 1), (0, 11, 9999)] cH120 := ZI_nw cHz119 (by decide +kernel)
theorem cHz121 : ZI [(11, 3, 1), (5, 3, 1), (0, 11, 9999)] cH121 := ZI_sR cHz120
theorem cHz122 : ZI [(11, 3, 1), (5, 3, 1), (0, 11, 9999)] cH122 := ZI_nw cHz121 (by decide +kernel)
theorem cHz123 : ZI [(11, 3, 1), (5, 3, 1), (0, 11, 9999)] cH123 := ZI_sR cHz122
theorem cHz124 : ZI [(11, 3, 1), (5, 3, 1), (0, 11, 9999)] cH124 := ZI_sR cHz123
theorem cHz125 : ZI [(11, 3, 1), (5, 3, 1), (0, 11, 9999)] cH125 := ZI_nw cHz124 (by decide +kernel)
theorem cHz126 : ZI [(11, 3, 1), (5, 3, 1), (0, 11, 9999)] cH126 := ZI_nw cHz125 (by decide +kernel)
theorem cHz127 : ZI [(11, 3, 1), (5, 3, 1), (0, 11, 9999)] cH127 := ZI_sR cHz126
theorem cHz128 : ZI [(11, 3, 1), (5, 3, 1), (0, 11, 9999)] cH128 := ZI_nw cHz127 (by decide +kernel)
theorem cHz129 : ZI [(11, 3, 1), (5, 3, 1), (0, 11, 9999)] cH129 := ZI_sR cHz128
theorem cHz130 : ZI [(11, 3, 1), (5, 3, 1), (0, 11, 9999)] cH130 := ZI_sR cHz129
theorem cHz131 : ZI [(11, 3, 1), (5, 3, 1), (0, 11, 9999)] cH131 := ZI_nw cHz130 (by decide +kernel)
theorem cHz132 : ZI [(11, 3, 1), (5, 3, 1), (0, 11, 9999)] cH132 := ZI_nw cHz131 (by decide +kernel)
theorem cHz133 : ZI [(11, 3, 1), (5, 3, 1), (0, 11, 9999)] cH133 := ZI_sR cHz132
theorem cHz134 : ZI [(11, 3, 1), (5, 3, 1), (0, 11, 9999)] cH134 := ZI_nw cHz133 (by decide +kernel)
theorem cHz135 : ZI [(11, 3, 1), (5, 3, 1), (0, 11, 9999)] cH135 := ZI_sR cHz134
theorem cHz136 : ZI [(11, 3, 1), (5, 3, 1), (0, 11, 9999)] cH136 := ZI_sR cHz135
theorem cHz137 : ZI [(11, 3, 1), (5, 3, 1), (0, 11, 9999)] cH137 := ZI_nw cHz136 (by decide +kernel)
theorem cHz138 : ZI [(11, 3, 1), (5, 3, 1), (0, 11, 9999)] cH138 := ZI_nw cHz137 (by decide +kernel)
theorem cHz139 : ZI [(11, 3, 1), (5, 3, 1), (0, 11, 9999)] cH139 := ZI_sR cHz138
theorem cHz140 : ZI [(63, 1, (-1)), (11, 3, 1), (5, 3, 1), (0, 11, 9999)] cH140 := ZI_sI cHz139
theorem cHz141 : ZI [(63, 1, (-1)), (11, 3, 1), (5, 3, 1), (0, 11, 9999)] cH141 := ZI_sR cHz140
theorem cHz142 : ZI [(63, 1, (-1)), (11, 3, 1), (5, 3, 1), (0, 11, 9999)] cH142 := ZI_nw cHz141 (by decide +kernel)
theorem cHz143 : ZI [(63, 1, (-1)), (11, 3, 1), (5, 3, 1), (0, 11, 9999)] cH143 := ZI_nw cHz142 (by decide +kernel)
theorem cHz144 : ZI [(63, 1, (-1)), (11, 3, 1), (5, 3, 1), (0, 11, 9999)] cH144 := ZI_sR cHz143
theorem cHz145 : ZI [(65, 1, (-1)), (63, 1, (-1)), (11, 3, 1), (5, 3, 1), (0, 11, 9999)] cH145 := ZI_sI cHz144
theorem cHz146 : ZI [(65, 1, (-1)), (63, 1, (-1)), (11, 3, 1), (5, 3, 1), (0, 11, 9999)] cH146 := ZI_sR cHz145
theorem cHz147 : ZI [(65, 1, (-1)), (63, 1, (-1)), (11, 3, 1), (5, 3, 1), (0, 11, 9999)] cH147 := ZI_nw cHz146 (by decide +kernel)
theorem cHz148 : ZI [(65, 1, (-1)), (63, 1, (-1)), (11, 3, 1), (5, 3, 1), (0, 11, 9999)] cH148 := ZI_nw cHz147 (by decide +kernel)
theorem cHz149 : ZI [(65, 1, (-1)), (63, 1, (-1)), (11, 3, 1), (5, 3, 1), (0, 11, 9999)] cH149 := ZI_sR cHz148
theorem cHz150 : ZI [(67, 1, (-1)), (65, 1, (-1)), (63, 1, (-1)), (11, 3, 1), (5, 3, 1), (0, 11, 9999)] cH150 := ZI_sI cHz149
theorem cHz151 : ZI [(67, 1, (-1)), (65, 1, (-1)), (63, 1, (-1)), (11, 3, 1), (5, 3, 1), (0, 11, 9999)] cH151 := ZI_sR cHz150
theorem cHz152 : ZI [(67, 1, (-1)), (65, 1, (-1)), (63, 1, (-1)), (11, 3, 1), (5, 3, 1), (0, 11, 9999)] cH152 := ZI_nw cHz151 (by decide +kernel)
theorem cHz153 : ZI [(67, 1, (-1)), (65, 1, (-1)), (63, 1, (-1)), (11, 3, 1), (5, 3, 1), (0, 11, 9999)] cH153 := ZI_nw cHz152 (by decide +kernel)
theorem cHz154 : ZI [(67, 1, (-1)), (65, 1, (-1)), (63, 1, (-1)), (11, 3, 1), (5, 3, 1), (0, 11, 9999)] cH154 := ZI_sR cHz153
theorem cHz155 : ZI [(69, 1, (-1)), (67, 1, (-1)), (65, 1, (-1)), (63, 1, (-1)), (11, 3, 1), (5, 3, 1), (0, 11, 9999)] cH155 := ZI_sI cHz154
theorem cHz156 : ZI [(69, 1, (-1)), (67, 1, (-1)), (65, 1, (-1)), (63, 1, (-1)), (11, 3, 1), (5, 3, 1), (0, 11, 9999)] cH156 := ZI_sR cHz155
theorem cHt1 : wp mX10_init 1 0 0 (QV fun h => h = cH6) 17 [some (vr 1)] [vr 3, vr 1] cH5 := xV k_X10_init_17 (And.intro (by decide +kernel) (And.intro rfl (And.intro rfl rfl)))
theorem cHt2 : wp mX10_init 1 1 12 (QV fun h => h = cH6) 9 [some (vr 1)] [vr 2, vr 1] cH3 := xNewa k_X10_init_9 (And.intro (by decide +kernel) (And.intro (by decide) cHt1))
theorem cHt3 : wp mX10_init 1 2 76 (QV fun h => h = cH6) 4 [some (vr 1)] [] cH2 := xNewa k_X10_init_4 (And.intro (by decide) cHt2)
theorem cHt4 : wp mX10_init 1 2 76 (QV fun h => h = cH6) 0 [some (vr 1)] [] cH2 := xObj k_X10_init_0 s_X10_init_1 (And.intro (And.intro (by decide) (by decide)) cHt3)
theorem cHc5 : Ct 1 2 76 mX10_init [vr 1] cH2 (QV fun h => h = cH6) := Ct.of (by decide +kernel) (by decide) cHt4
theorem cHt6 : wp mX9_init 1 0 0 (QV fun h => h = cH14) 18 [some (vr 5)] [vr 7, vr 5] cH13 := xV k_X9_init_18 (And.intro (by decide +kernel) (And.intro rfl (And.intro rfl rfl)))
theorem cHt7 : wp mX9_init 1 1 8 (QV fun h => h = cH14) 10 [some (vr 5)] [vr 6, vr 5] cH11 := xNewa k_X9_init_10 (And.intro (by decide +kernel) (And.intro (by decide) cHt6))
theorem cHt8 : wp mX9_init 1 2 16 (QV fun h => h = cH14) 4 [some (vr 5)] [] cH10 := xAnew k_X9_init_4 s_X9_init_7 (And.intro (by decide) cHt7)
theorem cHt9 : wp mX9_init 1 2 16 (QV fun h => h = cH14) 0 [some (vr 5)] [] cH10 := xObj k_X9_init_0 s_X9_init_1 (And.intro (And.intro (by decide) (by decide)) cHt8)
theorem cHc10 : Ct 1 2 16 mX9_init [vr 5] cH10 (QV fun h => h = cH14) := Ct.of (by decide +kernel) (by decide) cHt9
theorem cHt11 : wp mX9_init 1 0 0 (QV fun h => h = cH20) 18 [some (vr 8)] [vr 10, vr 8] cH19 := xV k_X9_init_18 (And.intro (by decide +kernel) (And.intro rfl (And.intro rfl rfl)))
theorem cHt12 : wp mX9_init 1 1 8 (QV fun h => h = cH20) 10 [some (vr 8)] [vr 9, vr 8] cH17 := xNewa k_X9_init_10 (And.intro (by decide +kernel) (And.intro (by decide) cHt11))
theorem cHt13 : wp mX9_init 1 2 16 (QV fun h => h = cH20) 4 [some (vr 8)] [] cH16 := xAnew k_X9_init_4 s_X9_init_7 (And.intro (by decide) cHt12)
theorem cHt14 : wp mX9_init 1 2 16 (QV fun h => h = cH20) 0 [some (vr 8)] [] cH16 := xObj k_X9_init_0 s_X9_init_1 (And.intro (And.intro (by decide) (by decide)) cHt13)
theorem cHc15 : Ct 1 2 16 mX9_init [vr 8] cH16 (QV fun h => h = cH20) := Ct.of (by decide +kernel) (by decide) cHt14
theorem cHt16 : wp mX9_init 1 0 0 (QV fun h => h = cH26) 18 [some (vr 11)] [vr 13, vr 11] cH25 := xV k_X9_init_18 (And.intro (by decide +kernel) (And.intro rfl (And.intro rfl rfl)))
theorem cHt17 : wp mX9_init 1 1 8 (QV fun h => h = cH26) 10 [some (vr 11)] [vr 12, vr 11] cH23 := xNewa k_X9_init_10 (And.intro (by decide +kernel) (And.intro (by decide) cHt16))
theorem cHt18 : wp mX9_init 1 2 16 (QV fun h => h = cH26) 4 [some (vr 11)] [] cH22 := xAnew k_X9_init_4 s_X9_init_7 (And.intro (by decide) cHt17)
theorem cHt19 : wp mX9_init 1 2 16 (QV fun h => h = cH26) 0 [some (vr 11)] [] cH22 := xObj k_X9_init_0 s_X9_init_1 (And.intro (And.intro (by decide) (by decide)) cHt18)
theorem cHc20 : Ct 1 2 16 mX9_init [vr 11] cH22 (QV fun h => h = cH26) := Ct.of (by decide +kernel) (by decide) cHt19
theorem cHt21 : wp mX4_init 1 0 0 (QV fun h => h = cH32) 4 [some (vr 16)] [] cH32 := xV k_X4_init_4 (And.intro rfl (And.intro rfl rfl))
theorem cHt22 : wp mX4_init 1 0 0 (QV fun h => h = cH32) 0 [some (vr 16)] [] cH32 := xObj k_X4_init_0 s_X4_init_1 (And.intro (And.intro (by decide) (by decide)) cHt21)
theorem cHc23 : Ct 1 0 0 mX4_init [vr 16] cH32 (QV fun h => h = cH32) := Ct.of (by decide +kernel) (by decide) cHt22
theorem cHt24 : wp mX3_init 1 0 0 (QV fun h => h = cH36) 9 [some (vr 17)] [vr 18, vr 17] cH35 := xV k_X3_init_9 (And.intro (by decide +kernel) (And.intro rfl (And.intro rfl rfl)))
theorem cHt25 : wp mX3_init 1 1 8 (QV fun h => h = cH36) 4 [some (vr 17)] [] cH34 := xNewa k_X3_init_4 (And.intro (by decide) cHt24)
theorem cHt26 : wp mX3_init 1 1 8 (QV fun h => h = cH36) 0 [some (vr 17)] [] cH34 := xObj k_X3_init_0 s_X3_init_1 (And.intro (And.intro (by decide) (by decide)) cHt25)
theorem cHc27 : Ct 1 1 8 mX3_init [vr 17] cH34 (QV fun h => h = cH36) := Ct.of (by decide +kernel) (by decide) cHt26
theorem cHt28 : wp mX6_init 1 0 0 (QV fun h => h = cH42) 4 [some (vr 20), some (vr 1)] [] cH41 := xV k_X6_init_4 (And.intro (by decide +kernel) (And.intro rfl (And.intro rfl rfl)))
theorem cHt29 : wp mX6_init 1 0 0 (QV fun h => h = cH42) 0 [some (vr 20), some (vr 1)] [] cH41 := xObj k_X6_init_0 s_X6_init_1 (And.intro (And.intro (by decide) (by decide)) cHt28)
theorem cHc30 : Ct 1 0 0 mX6_init [vr 20, vr 1] cH41 (QV fun h => h = cH42) := Ct.of (by decide +kernel) (by decide) cHt29
theorem cHt31 : wp mX2_init 1 0 0 (QV fun h => h = cH46) 9 [some (vr 21)] [vr 22, vr 21] cH45 := xV k_X2_init_9 (And.intro (by decide +kernel) (And.intro rfl (And.intro rfl rfl)))
theorem cHt32 : wp mX2_init 1 1 8 (QV fun h => h = cH46) 4 [some (vr 21)] [] cH44 := xNewa k_X2_init_4 (And.intro (by decide) cHt31)
theorem cHt33 : wp mX2_init 1 1 8 (QV fun h => h = cH46) 0 [some (vr 21)] [] cH44 := xObj k_X2_init_0 s_X2_init_1 (And.intro (And.intro (by decide) (by decide)) cHt32)
theorem cHc34 : Ct 1 1 8 mX2_init [vr 21] cH44 (QV fun h => h = cH46) := Ct.of (by decide +kernel) (by decide) cHt33
theorem cHt35 : wp mX1_init 1 0 0 (QV fun h => h = cH56) 25 [some (vr 24)] [vr 27, vr 24] cH55 := xV k_X1_init_25 (And.intro (by decide +kernel) (And.intro rfl (And.intro rfl rfl)))
theorem cHt36 : wp mX1_init 1 1 8 (QV fun h => h = cH56) 17 [some (vr 24)] [vr 26, vr 24] cH53 := xNewa k_X1_init_17 (And.intro (by decide +kernel) (And.intro (by decide) cHt35))
theorem cHt37 : wp mX1_init 1 2 72 (QV fun h => h = cH56) 9 [some (vr 24)] [vr 25, vr 24] cH51 := xNewa k_X1_init_9 (And.intro (by decide +kernel) (And.intro (by decide) cHt36))
theorem cHt38 : wp mX1_init 1 3 136 (QV fun h => h = cH56) 4 [some (vr 24)] [] cH50 := xNewa k_X1_init_4 (And.intro (by decide) cHt37)
theorem cHt39 : wp mX1_init 1 3 136 (QV fun h => h = cH56) 0 [some (vr 24)] [] cH50 := xObj k_X1_init_0 s_X1_init_1 (And.intro (And.intro (by decide) (by decide)) cHt38)
theorem cHc40 : Ct 1 3 136 mX1_init [vr 24] cH50 (QV fun h => h = cH56) := Ct.of (by decide +kernel) (by decide) cHt39
theorem cHt41 : wp mX1_init 1 0 0 (QV fun h => h = cH64) 25 [some (vr 28)] [vr 31, vr 28] cH63 := xV k_X1_init_25 (And.intro (by decide +kernel) (And.intro rfl (And.intro rfl rfl)))
theorem cHt42 : wp mX1_init 1 1 8 (QV fun h => h = cH64) 17 [some (vr 28)] [vr 30, vr 28] cH61 := xNewa k_X1_init_17 (And.intro (by decide +kernel) (And.intro (by decide) cHt41))
theorem cHt43 : wp mX1_init 1 2 72 (QV fun h => h = cH64) 9 [some (vr 28)] [vr 29, vr 28] cH59 := xNewa k_X1_init_9 (And.intro (by decide +kernel) (And.intro (by decide) cHt42))
theorem cHt44 : wp mX1_init 1 3 136 (QV fun h => h = cH64) 4 [some (vr 28)] [] cH58 := xNewa k_X1_init_4 (And.intro (by decide) cHt43)
theorem cHt45 : wp mX1_init 1 3 136 (QV fun h => h = cH64) 0 [some (vr 28)] [] cH58 := xObj k_X1_init_0 s_X1_init_1 (And.intro (And.intro (by decide) (by decide)) cHt44)
theorem cHc46 : Ct 1 3 136 mX1_init [vr 28] cH58 (QV fun h => h = cH64) := Ct.of (by decide +kernel) (by decide) cHt45
theorem cHt47 : wp mX9_init 1 0 0 (QV fun h => h = cH77) 18 [some (vr 33)] [vr 35, vr 33] cH76 := xV k_X9_init_18 (And.intro (by decide +kernel) (And.intro rfl (And.intro rfl rfl)))
theorem cHt48 : wp mX9_init 1 1 8 (QV fun h => h = cH77) 10 [some (vr 33)] [vr 34, vr 33] cH74 := xNewa k_X9_init_10 (And.intro (by decide +kernel) (And.intro (by decide) cHt47))
theorem cHt49 : wp mX9_init 1 2 16 (QV fun h => h = cH77) 4 [some (vr 33)] [] cH73 := xAnew k_X9_init_4 s_X9_init_7 (And.intro (by decide) cHt48)
theorem cHt50 : wp mX9_init 1 2 16 (QV fun h => h = cH77) 0 [some (vr 33)] [] cH73 := xObj k_X9_init_0 s_X9_init_1 (And.intro (And.intro (by decide) (by decide)) cHt49)
theorem cHc51 : Ct 1 2 16 mX9_init [vr 33] cH73 (QV fun h => h = cH77) := Ct.of (by decide +kernel) (by decide) cHt50
theorem cHt52 : wp mX9_init 1 0 0 (QV fun h => h = cH84) 18 [some (vr 36)] [vr 38, vr 36] cH83 := xV k_X9_init_18 (And.intro (by decide +kernel) (And.intro rfl (And.intro rfl rfl)))
theorem cHt53 : wp mX9_init 1 1 8 (QV fun h => h = cH84) 10 [some (vr 36)] [vr 37, vr 36] cH81 := xNewa k_X9_init_10 (And.intro (by decide +kernel) (And.intro (by decide) cHt52))
theorem cHt54 : wp mX9_init 1 2 16 (QV fun h => h = cH84) 4 [some (vr 36)] [] cH80 := xAnew k_X9_init_4 s_X9_init_7 (And.intro (by decide) cHt53)
theorem cHt55 : wp mX9_init 1 2 16 (QV fun h => h = cH84) 0 [some (vr 36)] [] cH80 := xObj k_X9_init_0 s_X9_init_1 (And.intro (And.intro (by decide) (by decide)) cHt54)
theorem cHc56 : Ct 1 2 16 mX9_init [vr 36] cH80 (QV fun h => h = cH84) := Ct.of (by decide +kernel) (by decide) cHt55
theorem cHt57 : wp mX9_init 1 0 0 (QV fun h => h = cH91) 18 [some (vr 39)] [vr 41, vr 39] cH90 := xV k_X9_init_18 (And.intro (by decide +kernel) (And.intro rfl (And.intro rfl rfl)))
theorem cHt58 : wp mX9_init 1 1 8 (QV fun h => h = cH91) 10 [some (vr 39)] [vr 40, vr 39] cH88 := xNewa k_X9_init_10 (And.intro (by decide +kernel) (And.intro (by decide) cHt57))
theorem cHt59 : wp mX9_init 1 2 16 (QV fun h => h = cH91) 4 [some (vr 39)] [] cH87 := xAnew k_X9_init_4 s_X9_init_7 (And.intro (by decide) cHt58)
theorem cHt60 : wp mX9_init 1 2 16 (QV fun h => h = cH91) 0 [some (vr 39)] [] cH87 := xObj k_X9_init_0 s_X9_init_1 (And.intro (And.intro (by decide) (by decide)) cHt59)
theorem cHc61 : Ct 1 2 16 mX9_init [vr 39] cH87 (QV fun h => h = cH91) := Ct.of (by decide +kernel) (by decide) cHt60
theorem cHt62 : wp mX9_init 1 0 0 (QV fun h => h = cH98) 18 [some (vr 42)] [vr 44, vr 42] cH97 := xV k_X9_init_18 (And.intro (by decide +kernel) (And.intro rfl (And.intro rfl rfl)))
theorem cHt63 : wp mX9_init 1 1 8 (QV fun h => h = cH98) 10 [some (vr 42)] [vr 43, vr 42] cH95 := xNewa k_X9_init_10 (And.intro (by decide +kernel) (And.intro (by decide) cHt62))
theorem cHt64 : wp mX9_init 1 2 16 (QV fun h => h = cH98) 4 [some (vr 42)] [] cH94 := xAnew k_X9_init_4 s_X9_init_7 (And.intro (by decide) cHt63)
theorem cHt65 : wp mX9_init 1 2 16 (QV fun h => h = cH98) 0 [some (vr 42)] [] cH94 := xObj k_X9_init_0 s_X9_init_1 (And.intro (And.intro (by decide) (by decide)) cHt64)
theorem cHc66 : Ct 1 2 16 mX9_init [vr 42] cH94 (QV fun h => h = cH98) := Ct.of (by decide +kernel) (by decide) cHt65
theorem cHt67 : wp mX5_init 1 0 0 (QV fun h => h = cH105) 18 [some (vr 45)] [vr 47, vr 45] cH104 := xV k_X5_init_18 (And.intro (by decide +kernel) (And.intro rfl (And.intro rfl rfl)))
theorem cHt68 : wp mX5_init 1 1 16 (QV fun h => h = cH105) 10 [some (vr 45)] [vr 46, vr 45] cH102 := xNewa k_X5_init_10 (And.intro (by decide +kernel) (And.intro (by decide) cHt67))
theorem cHt69 : wp mX5_init 1 2 144 (QV fun h => h = cH105) 4 [some (vr 45)] [] cH101 := xNewa k_X5_init_4 (And.intro (by decide) cHt68)
theorem cHt70 : wp mX5_init 1 2 144 (QV fun h => h = cH105) 0 [some (vr 45)] [] cH101 := xObj k_X5_init_0 s_X5_init_1 (And.intro (And.intro (by decide) (by decide)) cHt69)
theorem cHc71 : Ct 1 2 144 mX5_init [vr 45] cH101 (QV fun h => h = cH105) := Ct.of (by decide +kernel) (by decide) cHt70
theorem cHt72 : wp mX5_init 1 0 0 (QV fun h => h = cH111) 18 [some (vr 48)] [vr 50, vr 48] cH110 := xV k_X5_init_18 (And.intro (by decide +kernel) (And.intro rfl (And.intro rfl rfl)))
theorem cHt73 : wp mX5_init 1 1 16 (QV fun h => h = cH111) 10 [some (vr 48)] [vr 49, vr 48] cH108 := xNewa k_X5_init_10 (And.intro (by decide +kernel) (And.intro (by decide) cHt72))
theorem cHt74 : wp mX5_init 1 2 144 (QV fun h => h = cH111) 4 [some (vr 48)] [] cH107 := xNewa k_X5_init_4 (And.intro (by decide) cHt73)
theorem cHt75 : wp mX5_init 1 2 144 (QV fun h => h = cH111) 0 [some (vr 48)] [] cH107 := xObj k_X5_init_0 s_X5_init_1 (And.intro (And.intro (by decide) (by decide)) cHt74)
theorem cHc76 : Ct 1 2 144 mX5_init [vr 48] cH107 (QV fun h => h = cH111) := Ct.of (by decide +kernel) (by decide) cHt75
theorem cHt77 : wp mX5_init 1 0 0 (QV fun h => h = cH117) 18 [some (vr 51)] [vr 53, vr 51] cH116 := xV k_X5_init_18 (And.intro (by decide +kernel) (And.intro rfl (And.intro rfl rfl)))
theorem cHt78 : wp mX5_init 1 1 16 (QV fun h => h = cH117) 10 [some (vr 51)] [vr 52, vr 51] cH114 := xNewa k_X5_init_10 (And.intro (by decide +kernel) (And.intro (by decide) cHt77))
theorem cHt79 : wp mX5_init 1 2 144 (QV fun h => h = cH117) 4 [some (vr 51)] [] cH113 := xNewa k_X5_init_4 (And.intro (by decide) cHt78)
theorem cHt80 : wp mX5_init 1 2 144 (QV fun h => h = cH117) 0 [some (vr 51)] [] cH113 := xObj k_X5_init_0 s_X5_init_1 (And.intro (And.intro (by decide) (by decide)) cHt79)
theorem cHc81 : Ct 1 2 144 mX5_init [vr 51] cH113 (QV fun h => h = cH117) := Ct.of (by decide +kernel) (by decide) cHt80
theorem cHt82 : wp mX5_init 1 0 0 (QV fun h => h = cH123) 18 [some (vr 54)] [vr 56, vr 54] cH122 := xV k_X5_init_18 (And.intro (by decide +kernel) (And.intro rfl (And.intro rfl rfl)))
theorem cHt83 : wp mX5_init 1 1 16 (QV fun h => h = cH123) 10 [some (vr 54)] [vr 55, vr 54] cH120 := xNewa k_X5_init_10 (And.intro (by decide +kernel) (And.intro (by decide) cHt82))
theorem cHt84 : wp mX5_init 1 2 144 (QV fun h => h = cH123) 4 [some (vr 54)] [] cH119 := xNewa k_X5_init_4 (And.intro (by decide) cHt83)
theorem cHt85 : wp mX5_init 1 2 144 (QV fun h => h = cH123) 0 [some (vr 54)] [] cH119 := xObj k_X5_init_0 s_X5_init_1 (And.intro (And.intro (by decide) (by decide)) cHt84)
theorem cHc86 : Ct 1 2 144 mX5_init [vr 54] cH119 (QV fun h => h = cH123) := Ct.of (by decide +kernel) (by decide) cHt85
theorem cHt87 : wp mX5_init 1 0 0 (QV fun h => h = cH129) 18 [some (vr 57)] [vr 59, vr 57] cH128 := xV k_X5_init_18 (And.intro (by decide +kernel) (And.intro rfl (And.intro rfl rfl)))
theorem cHt88 : wp mX5_init 1 1 16 (QV fun h => h = cH129) 10 [some (vr 57)] [vr 58, vr 57] cH126 := xNewa k_X5_init_10 (And.intro (by decide +kernel) (And.intro (by decide) cHt87))
theorem cHt89 : wp mX5_init 1 2 144 (QV fun h => h = cH129) 4 [some (vr 57)] [] cH125 := xNewa k_X5_init_4 (And.intro (by decide) cHt88)
theorem cHt90 : wp mX5_init 1 2 144 (QV fun h => h = cH129) 0 [some (vr 57)] [] cH125 := xObj k_X5_init_0 s_X5_init_1 (And.intro (And.intro (by decide) (by decide)) cHt89)
theorem cHc91 : Ct 1 2 144 mX5_init [vr 57] cH125 (QV fun h => h = cH129) := Ct.of (by decide +kernel) (by decide) cHt90
theorem cHt92 : wp mX5_init 1 0 0 (QV fun h => h = cH135) 18 [some (vr 60)] [vr 62, vr 60] cH134 := xV k_X5_init_18 (And.intro (by decide +kernel) (And.intro rfl (And.intro rfl rfl)))
theorem cHt93 : wp mX5_init 1 1 16 (QV fun h => h = cH135) 10 [some (vr 60)] [vr 61, vr 60] cH132 := xNewa k_X5_init_10 (And.intro (by decide +kernel) (And.intro (by decide) cHt92))
theorem cHt94 : wp mX5_init 1 2 144 (QV fun h => h = cH135) 4 [some (vr 60)] [] cH131 := xNewa k_X5_init_4 (And.intro (by decide) cHt93)
theorem cHt95 : wp mX5_init 1 2 144 (QV fun h => h = cH135) 0 [some (vr 60)] [] cH131 := xObj k_X5_init_0 s_X5_init_1 (And.intro (And.intro (by decide) (by decide)) cHt94)
theorem cHc96 : Ct 1 2 144 mX5_init [vr 60] cH131 (QV fun h => h = cH135) := Ct.of (by decide +kernel) (by decide) cHt95
theorem cHt97 : wp mX8_init 1 0 0 (QV fun h => h = cH140) 9 [some (vr 63)] [vr 64, vr 63] cH138 := xV k_X8_init_9 (And.intro (by decide +kernel) (And.intro (by decide +kernel) (And.intro rfl (And.intro rfl rfl))))
theorem cHt98 : wp mX8_init 1 1 40 (QV fun h => h = cH140) 4 [some (vr 63)] [] cH137 := xNewa k_X8_init_4 (And.intro (by decide) cHt97)
theorem cHt99 : wp mX8_init 1 1 40 (QV fun h => h = cH140) 0 [some (vr 63)] [] cH137 := xObj k_X8_init_0 s_X8_init_1 (And.intro (And.intro (by decide) (by decide)) cHt98)
theorem cHc100 : Ct 1 1 40 mX8_init [vr 63] cH137 (QV fun h => h = cH140) := Ct.of (by decide +kernel) (by decide) cHt99
theorem cHt101 : wp mX8_init 1 0 0 (QV fun h => h = cH145) 9 [some (vr 65)] [vr 66, vr 65] cH143 := xV k_X8_init_9 (And.intro (by decide +kernel) (And.intro (by decide +kernel) (And.intro rfl (And.intro rfl rfl))))
theorem cHt102 : wp mX8_init 1 1 40 (QV fun h => h = cH145) 4 [some (vr 65)] [] cH142 := xNewa k_X8_init_4 (And.intro (by decide) cHt101)
theorem cHt103 : wp mX8_init 1 1 40 (QV fun h => h = cH145) 0 [some (vr 65)] [] cH142 := xObj k_X8_init_0 s_X8_init_1 (And.intro (And.intro (by decide) (by decide)) cHt102)
theorem cHc104 : Ct 1 1 40 mX8_init [vr 65] cH142 (QV fun h => h = cH145) := Ct.of (by decide +kernel) (by decide) cHt103
theorem cHt105 : wp mX8_init 1 0 0 (QV fun h => h = cH150) 9 [some (vr 67)] [vr 68, vr 67] cH148 := xV k_X8_init_9 (And.intro (by decide +kernel) (And.intro (by decide +kernel) (And.intro rfl (And.intro rfl rfl))))
theorem cHt106 : wp mX8_init 1 1 40 (QV fun h => h = cH150) 4 [some (vr 67)] [] cH147 := xNewa k_X8_init_4 (And.intro (by decide) cHt105)
theorem cHt107 : wp mX8_init 1 1 40 (QV fun h => h = cH150) 0 [some (vr 67)] [] cH147 := xObj k_X8_init_0 s_X8_init_1 (And.intro (And.intro (by decide) (by decide)) cHt106)
theorem cHc108 : Ct 1 1 40 mX8_init [vr 67] cH147 (QV fun h => h = cH150) := Ct.of (by decide +kernel) (by decide) cHt107
theorem cHt109 : wp mX8_init 1 0 0 (QV fun h => h = cH155) 9 [some (vr 69)] [vr 70, vr 69] cH153 := xV k_X8_init_9 (And.intro (by decide +kernel) (And.intro (by decide +kernel) (And.intro rfl (And.intro rfl rfl))))
theorem cHt110 : wp mX8_init 1 1 40 (QV fun h => h = cH155) 4 [some (vr 69)] [] cH152 := xNewa k_X8_init_4 (And.intro (by decide) cHt109)
theorem cHt111 : wp mX8_init 1 1 40 (QV fun h => h = cH155) 0 [some (vr 69)] [] cH152 := xObj k_X8_init_0 s_X8_init_1 (And.intro (And.intro (by decide) (by decide)) cHt110)
theorem cHc112 : Ct 1 1 40 mX8_init [vr 69] cH152 (QV fun h => h = cH155) := Ct.of (by decide +kernel) (by decide) cHt111
theorem cHt113 : wp mX11_init 2 0 0 (QV fun h => h = cH156) 314 [some (vr 0), some (vi 4)] [] cH156 := xV k_X11_init_314 (And.intro rfl (And.intro rfl rfl))
theorem cHt114 : wp mX11_init 2 0 0 (QV fun h => h = cH156) 290 [some (vr 0), some (vi 4)] [] cH156 := xIc k_X11_init_290 (And.intro (fun _ => cHt113) (fun c => absurd (show (4 : Int) ≤ (4 : Int) from by decide) c))
theorem cHt115 : wp mX11_init 2 0 0 (QV fun h => h = cH156) 307 [some (vr 0), some (vi 3)] [vr 69, vi 3, vr 23] cH155 := xGo k_X11_init_307 (And.intro (by decide +kernel) (And.intro (And.intro (by decide) (by decide)) (And.intro rfl cHt114)))
theorem cHt116 : wp mX11_init 2 1 40 (QV fun h => h = cH156) 303 [some (vr 0), some (vi 3)] [vr 69, vi 3, vr 23] cH152 := xcI k_X11_init_303 s_X11_init_304 (And.intro rfl (Exists.intro [] (Exists.intro 69 (Exists.intro [vr 69, vi 3, vr 23] (And.intro (And.intro rfl (And.intro rfl (by decide))) (And.intro (by decide +kernel) (Exists.intro 1 (Exists.intro 1 (Exists.intro 40 (Exists.intro _ (And.intro cHc112 (And.intro (And.intro (by decide) (And.intro (by decide) (by decide))) (eQV fun h7 e7 => (by cases e7; exact cHt115))))))))))))))
theorem cHt117 : wp mX11_init 2 2 43 (QV fun h => h = cH156) 295 [some (vr 0), some (vi 3)] [] cH151 := xNew k_X11_init_295 s_X11_init_300 (And.intro (by decide +kernel) (Exists.intro 23 (And.intro (by decide +kernel) (And.intro (And.intro (by decide) (by decide +kernel)) cHt116))))
theorem cHt118 : wp mX11_init 2 2 43 (QV fun h => h = cH156) 290 [some (vr 0), some (vi 3)] [] cH151 := xIc k_X11_init_290 (And.intro (fun c => absurd (show (4 : Int) ≤ (3 : Int) from c) (by decide)) (fun _ => cHt117))
theorem cHt119 : wp mX11_init 2 2 43 (QV fun h => h = cH156) 307 [some (vr 0), some (vi 2)] [vr 67, vi 2, vr 23] cH150 := xGo k_X11_init_307 (And.intro (by decide +kernel) (And.intro (And.intro (by decide) (by decide)) (And.intro rfl cHt118)))
theorem cHt120 : wp mX11_init 2 3 83 (QV fun h => h = cH156) 303 [some (vr 0), some (vi 2)] [vr 67, vi 2, vr 23] cH147 := xcI k_X11_init_303 s_X11_init_304 (And.intro rfl (Exists.intro [] (Exists.intro 67 (Exists.intro [vr 67, vi 2, vr 23] (And.intro (And.intro rfl (And.intro rfl (by decide))) (And.intro (by decide +kernel) (Exists.intro 1 (Exists.intro 1 (Exists.intro 40 (Exists.intro _ (And.intro cHc108 (And.intro (And.intro (by decide) (And.intro (by decide) (by decide))) (eQV fun h7 e7 => (by cases e7; exact cHt119))))))))))))))
theorem cHt121 : wp mX11_init 2 4 86 (QV fun h => h = cH156) 295 [some (vr 0), some (vi 2)] [] cH146 := xNew k_X11_init_295 s_X11_init_300 (And.intro (by decide +kernel) (Exists.intro 23 (And.intro (by decide +kernel) (And.intro (And.intro (by decide) (by decide +kernel)) cHt120))))
theorem cHt122 : wp mX11_init 2 4 86 (QV fun h => h = cH156) 290 [some (vr 0), some (vi 2)] [] cH146 := xIc k_X11_init_290 (And.intro (fun c => absurd (show (4 : Int) ≤ (2 : Int) from c) (by decide)) (fun _ => cHt121))
theorem cHt123 : wp mX11_init 2 4 86 (QV fun h => h = cH156) 307 [some (vr 0), some (vi 1)] [vr 65, vi 1, vr 23] cH145 := xGo k_X11_init_307 (And.intro (by decide +kernel) (And.intro (And.intro (by decide) (by decide)) (And.intro rfl cHt122)))
theorem cHt124 : wp mX11_init 2 5 126 (QV fun h => h = cH156) 303 [some (vr 0), some (vi 1)] [vr 65, vi 1, vr 23] cH142 := xcI k_X11_init_303 s_X11_init_304 (And.intro rfl (Exists.intro [] (Exists.intro 65 (Exists.intro [vr 65, vi 1, vr 23] (And.intro (And.intro rfl (And.intro rfl (by decide))) (And.intro (by decide +kernel) (Exists.intro 1 (Exists.intro 1 (Exists.intro 40 (Exists.intro _ (And.intro cHc104 (And.intro (And.intro (by decide) (And.intro (by decide) (by decide))) (eQV fun h7 e7 => (by cases e7; exact cHt123))))))))))))))
theorem cHt125 : wp mX11_init 2 6 129 (QV fun h => h = cH156) 295 [some (vr 0), some (vi 1)] [] cH141 := xNew k_X11_init_295 s_X11_init_300 (And.intro (by decide +kernel) (Exists.intro 23 (And.intro (by decide +kernel) (And.intro (And.intro (by decide) (by decide +kernel)) cHt124))))
theorem cHt126 : wp mX11_init 2 6 129 (QV fun h => h = cH156) 290 [some (vr 0), some (vi 1)] [] cH141 := xIc k_X11_init_290 (And.intro (fun c => absurd (show (4 : Int) ≤ (1 : Int) from c) (by decide)) (fun _ => cHt125))
theorem cHt127 : wp mX11_init 2 6 129 (QV fun h => h = cH156) 307 [some (vr 0), some (vi 0)] [vr 63, vi 0, vr 23] cH140 := xGo k_X11_init_307 (And.intro (by decide +kernel) (And.intro (And.intro (by decide) (by decide)) (And.intro rfl cHt126)))
theorem cHt128 : wp mX11_init 2 7 169 (QV fun h => h = cH156) 303 [some (vr 0), some (vi 0)] [vr 63, vi 0, vr 23] cH137 := xcI k_X11_init_303 s_X11_init_304 (And.intro rfl (Exists.intro [] (Exists.intro 63 (Exists.intro [vr 63, vi 0, vr 23] (And.intro (And.intro rfl (And.intro rfl (by decide))) (And.intro (by decide +kernel) (Exists.intro 1 (Exists.intro 1 (Exists.intro 40 (Exists.intro _ (And.intro cHc100 (And.intro (And.intro (by decide) (And.intro (by decide) (by decide))) (eQV fun h7 e7 => (by cases e7; exact cHt127))))))))))))))
theorem cHt129 : wp mX11_init 2 8 172 (QV fun h => h = cH156) 295 [some (vr 0), some (vi 0)] [] cH136 := xNew k_X11_init_295 s_X11_init_300 (And.intro (by decide +kernel) (Exists.intro 23 (And.intro (by decide +kernel) (And.intro (And.intro (by decide) (by decide +kernel)) cHt128))))
theorem cHt130 : wp mX11_init 2 8 172 (QV fun h => h = cH156) 290 [some (vr 0), some (vi 0)] [] cH136 := xIc k_X11_init_290 (And.intro (fun c => absurd (show (4 : Int) ≤ (0 : Int) from c) (by decide)) (fun _ => cHt129))
theorem cHt131 : wp mX11_init 2 8 172 (QV fun h => h = cH156) 288 [some (vr 0), some (vi 6)] [] cH136 := xB k_X11_init_288 (And.intro rfl cHt130)
theorem cHt132 : wp mX11_init 2 8 172 (QV fun h => h = cH156) 263 [some (vr 0), some (vi 6)] [] cH136 := xIc k_X11_init_263 (And.intro (fun _ => cHt131) (fun c => absurd (show (6 : Int) ≤ (6 : Int) from by decide) c))
theorem cHt133 : wp mX11_init 2 8 172 (QV fun h => h = cH156) 281 [some (vr 0), some (vi 5)] [vr 60, vi 5, vr 19] cH135 := xGo k_X11_init_281 (And.intro (by decide +kernel) (And.intro (And.intro (by decide) (by decide)) (And.intro rfl cHt132)))
theorem cHt134 : wp mX11_init 2 10 316 (QV fun h => h = cH156) 277 [some (vr 0), some (vi 5)] [vr 60, vi 5, vr 19] cH131 := xcI k_X11_init_277 s_X11_init_278 (And.intro rfl (Exists.intro [] (Exists.intro 60 (Exists.intro [vr 60, vi 5, vr 19] (And.intro (And.intro rfl (And.intro rfl (by decide))) (And.intro (by decide +kernel) (Exists.intro 1 (Exists.intro 2 (Exists.intro 144 (Exists.intro _ (And.intro cHc96 (And.intro (And.intro (by decide) (And.intro (by decide) (by decide))) (eQV fun h7 e7 => (by cases e7; exact cHt133))))))))))))))
theorem cHt135 : wp mX11_init 2 11 319 (QV fun h => h = cH156) 269 [some (vr 0), some (vi 5)] [] cH130 := xNew k_X11_init_269 s_X11_init_274 (And.intro (by decide +kernel) (Exists.intro 19 (And.intro (by decide +kernel) (And.intro (And.intro (by decide) (by decide +kernel)) cHt134))))
theorem cHt136 : wp mX11_init 2 11 319 (QV fun h => h = cH156) 263 [some (vr 0), some (vi 5)] [] cH130 := xIc k_X11_init_263 (And.intro (fun c => absurd (show (6 : Int) ≤ (5 : Int) from c) (by decide)) (fun _ => cHt135))
theorem cHt137 : wp mX11_init 2 11 319 (QV fun h => h = cH156) 281 [some (vr 0), some (vi 4)] [vr 57, vi 4, vr 19] cH129 := xGo k_X11_init_281 (And.intro (by decide +kernel) (And.intro (And.intro (by decide) (by decide)) (And.intro rfl cHt136)))
theorem cHt138 : wp mX11_init 2 13 463 (QV fun h => h = cH156) 277 [some (vr 0), some (vi 4)] [vr 57, vi 4, vr 19] cH125 := xcI k_X11_init_277 s_X11_init_278 (And.intro rfl (Exists.intro [] (Exists.intro 57 (Exists.intro [vr 57, vi 4, vr 19] (And.intro (And.intro rfl (And.intro rfl (by decide))) (And.intro (by decide +kernel) (Exists.intro 1 (Exists.intro 2 (Exists.intro 144 (Exists.intro _ (And.intro cHc91 (And.intro (And.intro (by decide) (And.intro (by decide) (by decide))) (eQV fun h7 e7 => (by cases e7; exact cHt137))))))))))))))
theorem cHt139 : wp mX11_init 2 14 466 (QV fun h => h = cH156) 269 [some (vr 0), some (vi 4)] [] cH124 := xNew k_X11_init_269 s_X11_init_274 (And.intro (by decide +kernel) (Exists.intro 19 (And.intro (by decide +kernel) (And.intro (And.intro (by decide) (by decide +kernel)) cHt138))))
theorem cHt140 : wp mX11_init 2 14 466 (QV fun h => h = cH156) 263 [some (vr 0), some (vi 4)] [] cH124 := xIc k_X11_init_263 (And.intro (fun c => absurd (show (6 : Int) ≤ (4 : Int) from c) (by decide)) (fun _ => cHt139))
theorem cHt141 : wp mX11_init 2 14 466 (QV fun h => h = cH156) 281 [some (vr 0), some (vi 3)] [vr 54, vi 3, vr 19] cH123 := xGo k_X11_init_281 (And.intro (by decide +kernel) (And.intro (And.intro (by decide) (by decide)) (And.intro rfl cHt140)))
theorem cHt142 : wp mX11_init 2 16 610 (QV fun h => h = cH156) 277 [some (vr 0), some (vi 3)] [vr 54, vi 3, vr 19] cH119 := xcI k_X11_init_277 s_X11_init_278 (And.intro rfl (Exists.intro [] (Exists.intro 54 (Exists.intro [vr 54, vi 3, vr 19] (And.intro (And.intro rfl (And.intro rfl (by decide))) (And.intro (by decide +kernel) (Exists.intro 1 (Exists.intro 2 (Exists.intro 144 (Exists.intro _ (And.intro cHc86 (And.intro (And.intro (by decide) (And.intro (by decide) (by decide))) (eQV fun h7 e7 => (by cases e7; exact cHt141))))))))))))))
theorem cHt143 : wp mX11_init 2 17 613 (QV fun h => h = cH156) 269 [some (vr 0), some (vi 3)] [] cH118 := xNew k_X11_init_269 s_X11_init_274 (And.intro (by decide +kernel) (Exists.intro 19 (And.intro (by decide +kernel) (And.intro (And.intro (by decide) (by decide +kernel)) cHt142))))
theorem cHt144 : wp mX11_init 2 17 613 (QV fun h => h = cH156) 263 [some (vr 0), some (vi 3)] [] cH118 := xIc k_X11_init_263 (And.intro (fun c => absurd (show (6 : Int) ≤ (3 : Int) from c) (by decide)) (fun _ => cHt143))
theorem cHt145 : wp mX11_init 2 17 613 (QV fun h => h = cH156) 281 [some (vr 0), some (vi 2)] [vr 51, vi 2, vr 19] cH117 := xGo k_X11_init_281 (And.intro (by decide +kernel) (And.intro (And.intro (by decide) (by decide)) (And.intro rfl cHt144)))
theorem cHt146 : wp mX11_init 2 19 757 (QV fun h => h = cH156) 277 [some (vr 0), some (vi 2)] [vr 51, vi 2, vr 19] cH113 := xcI k_X11_init_277 s_X11_init_278 (And.intro rfl (Exists.intro [] (Exists.intro 51 (Exists.intro [vr 51, vi 2, vr 19] (And.intro (And.intro rfl (And.intro rfl (by decide))) (And.intro (by decide +kernel) (Exists.intro 1 (Exists.intro 2 (Exists.intro 144 (Exists.intro _ (And.intro cHc81 (And.intro (And.intro (by decide) (And.intro (by decide) (by decide))) (eQV fun h7 e7 => (by cases e7; exact cHt145))))))))))))))
theorem cHt147 : wp mX11_init 2 20 760 (QV fun h => h = cH156) 269 [some (vr 0), some (vi 2)] [] cH112 := xNew k_X11_init_269 s_X11_init_274 (And.intro (by decide +kernel) (Exists.intro 19 (And.intro (by decide +kernel) (And.intro (And.intro (by decide) (by decide +kernel)) cHt146))))
theorem cHt148 : wp mX11_init 2 20 760 (QV fun h => h = cH156) 263 [some (vr 0), some (vi 2)] [] cH112 := xIc k_X11_init_263 (And.intro (fun c => absurd (show (6 : Int) ≤ (2 : Int) from c) (by decide)) (fun _ => cHt147))
theorem cHt149 : wp mX11_init 2 20 760 (QV fun h => h = cH156) 281 [some (vr 0), some (vi 1)] [vr 48, vi 1, vr 19] cH111 := xGo k_X11_init_281 (And.intro (by decide +kernel) (And.intro (And.intro (by decide) (by decide)) (And.intro rfl cHt148)))
theorem cHt150 : wp mX11_init 2 22 904 (QV fun h => h = cH156) 277 [some (vr 0), some (vi 1)] [vr 48, vi 1, vr 19] cH107 := xcI k_X11_init_277 s_X11_init_278 (And.intro rfl (Exists.intro [] (Exists.intro 48 (Exists.intro [vr 48, vi 1, vr 19] (And.intro (And.intro rfl (And.intro rfl (by decide))) (And.intro (by decide +kernel) (Exists.intro 1 (Exists.intro 2 (Exists.intro 144 (Exists.intro _ (And.intro cHc76 (And.intro (And.intro (by decide) (And.intro (by decide) (by decide))) (eQV fun h7 e7 => (by cases e7; exact cHt149))))))))))))))
theorem cHt151 : wp mX11_init 2 23 907 (QV fun h => h = cH156) 269 [some (vr 0), some (vi 1)] [] cH106 := xNew k_X11_init_269 s_X11_init_274 (And.intro (by decide +kernel) (Exists.intro 19 (And.intro (by decide +kernel) (And.intro (And.intro (by decide) (by decide +kernel)) cHt150))))
theorem cHt152 : wp mX11_init 2 23 907 (QV fun h => h = cH156) 263 [some (vr 0), some (vi 1)] [] cH106 := xIc k_X11_init_263 (And.intro (fun c => absurd (show (6 : Int) ≤ (1 : Int) from c) (by decide)) (fun _ => cHt151))
theorem cHt153 : wp mX11_init 2 23 907 (QV fun h => h = cH156) 281 [some (vr 0), some (vi 0)] [vr 45, vi 0, vr 19] cH105 := xGo k_X11_init_281 (And.intro (by decide +kernel) (And.intro (And.intro (by decide) (by decide)) (And.intro rfl cHt152)))
theorem cHt154 : wp mX11_init 2 25 1051 (QV fun h => h = cH156) 277 [some (vr 0), some (vi 0)] [vr 45, vi 0, vr 19] cH101 := xcI k_X11_init_277 s_X11_init_278 (And.intro rfl (Exists.intro [] (Exists.intro 45 (Exists.intro [vr 45, vi 0, vr 19] (And.intro (And.intro rfl (And.intro rfl (by decide))) (And.intro (by decide +kernel) (Exists.intro 1 (Exists.intro 2 (Exists.intro 144 (Exists.intro _ (And.intro cHc71 (And.intro (And.intro (by decide) (And.intro (by decide) (by decide))) (eQV fun h7 e7 => (by cases e7; exact cHt153))))))))))))))
theorem cHt155 : wp mX11_init 2 26 1054 (QV fun h => h = cH156) 269 [some (vr 0), some (vi 0)] [] cH100 := xNew k_X11_init_269 s_X11_init_274 (And.intro (by decide +kernel) (Exists.intro 19 (And.intro (by decide +kernel) (And.intro (And.intro (by decide) (by decide +kernel)) cHt154))))
theorem cHt156 : wp mX11_init 2 26 1054 (QV fun h => h = cH156) 263 [some (vr 0), some (vi 0)] [] cH100 := xIc k_X11_init_263 (And.intro (fun c => absurd (show (6 : Int) ≤ (0 : Int) from c) (by decide)) (fun _ => cHt155))
theorem cHt157 : wp mX11_init 2 26 1054 (QV fun h => h = cH156) 261 [some (vr 0), some (vi 4)] [] cH100 := xB k_X11_init_261 (And.intro rfl cHt156)
theorem cHt158 : wp mX11_init 2 26 1054 (QV fun h => h = cH156) 223 [some (vr 0), some (vi 4)] [] cH100 := xIc k_X11_init_223 (And.intro (fun _ => cHt157) (fun c => absurd (show (4 : Int) ≤ (4 : Int) from by decide) c))
theorem cHt159 : wp mX11_init 2 26 1054 (QV fun h => h = cH156) 240 [some (vr 0), some (vi 3)] [vr 42, vi 3, vr 14] cH98 := xGo k_X11_init_240 (And.intro (by decide +kernel) (And.intro (by decide +kernel) (Exists.intro 15 (And.intro (by decide +kernel) (And.intro (And.intro (by decide) (by decide)) (And.intro (by decide +kernel) (Exists.intro 14 (And.intro (by decide +kernel) (And.intro (by decide +kernel) (Exists.intro 42 (And.intro (by decide +kernel) (And.intro (by decide +kernel) (And.intro (And.intro (by decide) (by decide)) (And.intro rfl cHt158))))))))))))))
theorem cHt160 : wp mX11_init 2 28 1070 (QV fun h => h = cH156) 236 [some (vr 0), some (vi 3)] [vr 42, vi 3, vr 14] cH94 := xcI k_X11_init_236 s_X11_init_237 (And.intro rfl (Exists.intro [] (Exists.intro 42 (Exists.intro [vr 42, vi 3, vr 14] (And.intro (And.intro rfl (And.intro rfl (by decide))) (And.intro (by decide +kernel) (Exists.intro 1 (Exists.intro 2 (Exists.intro 16 (Exists.intro _ (And.intro cHc66 (And.intro (And.intro (by decide) (And.intro (by decide) (by decide))) (eQV fun h7 e7 => (by cases e7; exact cHt159))))))))))))))
theorem cHt161 : wp mX11_init 2 29 1074 (QV fun h => h = cH156) 228 [some (vr 0), some (vi 3)] [] cH93 := xNew k_X11_init_228 s_X11_init_233 (And.intro (by decide +kernel) (Exists.intro 14 (And.intro (by decide +kernel) (And.intro (And.intro (by decide) (by decide +kernel)) cHt160))))
theorem cHt162 : wp mX11_init 2 29 1074 (QV fun h => h = cH156) 223 [some (vr 0), some (vi 3)] [] cH93 := xIc k_X11_init_223 (And.intro (fun c => absurd (show (4 : Int) ≤ (3 : Int) from c) (by decide)) (fun _ => cHt161))
theorem cHt163 : wp mX11_init 2 29 1074 (QV fun h => h = cH156) 240 [some (vr 0), some (vi 2)] [vr 39, vi 2, vr 14] cH91 := xGo k_X11_init_240 (And.intro (by decide +kernel) (And.intro (by decide +kernel) (Exists.intro 15 (And.intro (by decide +kernel) (And.intro (And.intro (by decide) (by decide)) (And.intro (by decide +kernel) (Exists.intro 14 (And.intro (by decide +kernel) (And.intro (by decide +kernel) (Exists.intro 39 (And.intro (by decide +kernel) (And.intro (by decide +kernel) (And.intro (And.intro (by decide) (by decide)) (And.intro rfl cHt162))))))))))))))
theorem cHt164 : wp mX11_init 2 31 1090 (QV fun h => h = cH156) 236 [some (vr 0), some (vi 2)] [vr 39, vi 2, vr 14] cH87 := xcI k_X11_init_236 s_X11_init_237 (And.intro rfl (Exists.intro [] (Exists.intro 39 (Exists.intro [vr 39, vi 2, vr 14] (And.intro (And.intro rfl (And.intro rfl (by decide))) (And.intro (by decide +kernel) (Exists.intro 1 (Exists.intro 2 (Exists.intro 16 (Exists.intro _ (And.intro cHc61 (And.intro (And.intro (by decide) (And.intro (by decide) (by decide))) (eQV fun h7 e7 => (by cases e7; exact cHt163))))))))))))))
theorem cHt165 : wp mX11_init 2 32 1094 (QV fun h => h = cH156) 228 [some (vr 0), some (vi 2)] [] cH86 := xNew k_X11_init_228 s_X11_init_233 (And.intro (by decide +kernel) (Exists.intro 14 (And.intro (by decide +kernel) (And.intro (And.intro (by decide) (by decide +kernel)) cHt164))))
theorem cHt166 : wp mX11_init 2 32 1094 (QV fun h => h = cH156) 223 [some (vr 0), some (vi 2)] [] cH86 := xIc k_X11_init_223 (And.intro (fun c => absurd (show (4 : Int) ≤ (2 : Int) from c) (by decide)) (fun _ => cHt165))
theorem cHt167 : wp mX11_init 2 32 1094 (QV fun h => h = cH156) 240 [some (vr 0), some (vi 1)] [vr 36, vi 1, vr 14] cH84 := xGo k_X11_init_240 (And.intro (by decide +kernel) (And.intro (by decide +kernel) (Exists.intro 15 (And.intro (by decide +kernel) (And.intro (And.intro (by decide) (by decide)) (And.intro (by decide +kernel) (Exists.intro 14 (And.intro (by decide +kernel) (And.intro (by decide +kernel) (Exists.intro 36 (And.intro (by decide +kernel) (And.intro (by decide +kernel) (And.intro (And.intro (by decide) (by decide)) (And.intro rfl cHt166))))))))))))))
theorem cHt168 : wp mX11_init 2 34 1110 (QV fun h => h = cH156) 236 [some (vr 0), some (vi 1)] [vr 36, vi 1, vr 14] cH80 := xcI k_X11_init_236 s_X11_init_237 (And.intro rfl (Exists.intro [] (Exists.intro 36 (Exists.intro [vr 36, vi 1, vr 14] (And.intro (And.intro rfl (And.intro rfl (by decide))) (And.intro (by decide +kernel) (Exists.intro 1 (Exists.intro 2 (Exists.intro 16 (Exists.intro _ (And.intro cHc56 (And.intro (And.intro (by decide) (And.intro (by decide) (by decide))) (eQV fun h7 e7 => (by cases e7; exact cHt167))))))))))))))
theorem cHt169 : wp mX11_init 2 35 1114 (QV fun h => h = cH156) 228 [some (vr 0), some (vi 1)] [] cH79 := xNew k_X11_init_228 s_X11_init_233 (And.intro (by decide +kernel) (Exists.intro 14 (And.intro (by decide +kernel) (And.intro (And.intro (by decide) (by decide +kernel)) cHt168))))
theorem cHt170 : wp mX11_init 2 35 1114 (QV fun h => h = cH156) 223 [some (vr 0), some (vi 1)] [] cH79 := xIc k_X11_init_223 (And.intro (fun c => absurd (show (4 : Int) ≤ (1 : Int) from c) (by decide)) (fun _ => cHt169))
theorem cHt171 : wp mX11_init 2 35 1114 (QV fun h => h = cH156) 240 [some (vr 0), some (vi 0)] [vr 33, vi 0, vr 14] cH77 := xGo k_X11_init_240 (And.intro (by decide +kernel) (And.intro (by decide +kernel) (Exists.intro 15 (And.intro (by decide +kernel) (And.intro (And.intro (by decide) (by decide)) (And.intro (by decide +kernel) (Exists.intro 14 (And.intro (by decide +kernel) (And.intro (by decide +kernel) (Exists.intro 33 (And.intro (by decide +kernel) (And.intro (by decide +kernel) (And.intro (And.intro (by decide) (by decide)) (And.intro rfl cHt170))))))))))))))
theorem cHt172 : wp mX11_init 2 37 1130 (QV fun h => h = cH156) 236 [some (vr 0), some (vi 0)] [vr 33, vi 0, vr 14] cH73 := xcI k_X11_init_236 s_X11_init_237 (And.intro rfl (Exists.intro [] (Exists.intro 33 (Exists.intro [vr 33, vi 0, vr 14] (And.intro (And.intro rfl (And.intro rfl (by decide))) (And.intro (by decide +kernel) (Exists.intro 1 (Exists.intro 2 (Exists.intro 16 (Exists.intro _ (And.intro cHc51 (And.intro (And.intro (by decide) (And.intro (by decide) (by decide))) (eQV fun h7 e7 => (by cases e7; exact cHt171))))))))))))))
theorem cHt173 : wp mX11_init 2 38 1134 (QV fun h => h = cH156) 228 [some (vr 0), some (vi 0)] [] cH72 := xNew k_X11_init_228 s_X11_init_233 (And.intro (by decide +kernel) (Exists.intro 14 (And.intro (by decide +kernel) (And.intro (And.intro (by decide) (by decide +kernel)) cHt172))))
theorem cHt174 : wp mX11_init 2 38 1134 (QV fun h => h = cH156) 223 [some (vr 0), some (vi 0)] [] cH72 := xIc k_X11_init_223 (And.intro (fun c => absurd (show (4 : Int) ≤ (0 : Int) from c) (by decide)) (fun _ => cHt173))
theorem cHt175 : wp mX11_init 2 38 1134 (QV fun h => h = cH156) 172 [some (vr 0), none] [vr 32, vr 0] cH66 := xB k_X11_init_172 (And.intro (by decide +kernel) (And.intro (by decide +kernel) (Exists.intro 5 (And.intro (by decide +kernel) (And.intro (by decide +kernel) (And.intro (by decide) (And.intro (by decide +kernel) (Exists.intro 11 (And.intro (by decide +kernel) (And.intro (by decide +kernel) (And.intro (by decide) (And.intro (by decide +kernel) (Exists.intro 15 (And.intro (by decide +kernel) (And.intro (by decide +kernel) (Exists.intro 5 (And.intro (by decide +kernel) (And.intro (by decide +kernel) (And.intro (by decide +kernel) (Exists.intro 15 (And.intro (by decide +kernel) (And.intro (by decide +kernel) (Exists.intro 11 (And.intro (by decide +kernel) (And.intro (by decide +kernel) (And.intro (by decide +kernel) (Exists.intro 15 (And.intro (by decide +kernel) (And.intro (by decide +kernel) (Exists.intro 8 (And.intro (by decide +kernel) (And.intro (by decide +kernel) (And.intro rfl cHt174)))))))))))))))))))))))))))))))))
theorem cHt176 : wp mX11_init 2 39 1198 (QV fun h => h = cH156) 164 [some (vr 0), none] [vr 28, vr 0] cH64 := xNewa k_X11_init_164 (And.intro (by decide +kernel) (And.intro (by decide) cHt175))
theorem cHt177 : wp mX11_init 2 42 1334 (QV fun h => h = cH156) 160 [some (vr 0), none] [vr 28, vr 0] cH58 := xcI k_X11_init_160 s_X11_init_161 (And.intro rfl (Exists.intro [] (Exists.intro 28 (Exists.intro [vr 28, vr 0] (And.intro (And.intro rfl (And.intro rfl (by decide))) (And.intro (by decide +kernel) (Exists.intro 1 (Exists.intro 3 (Exists.intro 136 (Exists.intro _ (And.intro cHc46 (And.intro (And.intro (by decide) (And.intro (by decide) (by decide))) (eQV fun h7 e7 => (by cases e7; exact cHt176))))))))))))))
theorem cHt178 : wp mX11_init 2 43 1339 (QV fun h => h = cH156) 153 [some (vr 0), none] [vr 24, vr 0] cH56 := xNew k_X11_init_153 s_X11_init_157 (And.intro (by decide +kernel) (And.intro (And.intro (by decide) (by decide +kernel)) cHt177))
theorem cHt179 : wp mX11_init 2 46 1475 (QV fun h => h = cH156) 149 [some (vr 0), none] [vr 24, vr 0] cH50 := xcI k_X11_init_149 s_X11_init_150 (And.intro rfl (Exists.intro [] (Exists.intro 24 (Exists.intro [vr 24, vr 0] (And.intro (And.intro rfl (And.intro rfl (by decide))) (And.intro (by decide +kernel) (Exists.intro 1 (Exists.intro 3 (Exists.intro 136 (Exists.intro _ (And.intro cHc40 (And.intro (And.intro (by decide) (And.intro (by decide) (by decide))) (eQV fun h7 e7 => (by cases e7; exact cHt178))))))))))))))
theorem cHt180 : wp mX11_init 2 47 1480 (QV fun h => h = cH156) 142 [some (vr 0), none] [vr 23, vr 0] cH48 := xNew k_X11_init_142 s_X11_init_146 (And.intro (by decide +kernel) (And.intro (And.intro (by decide) (by decide +kernel)) cHt179))
theorem cHt181 : wp mX11_init 2 48 1484 (QV fun h => h = cH156) 134 [some (vr 0), none] [vr 21, vr 0] cH46 := xAnew k_X11_init_134 s_X11_init_139 (And.intro (by decide +kernel) (And.intro (by decide) cHt180))
theorem cHt182 : wp mX11_init 2 49 1492 (QV fun h => h = cH156) 130 [some (vr 0), none] [vr 21, vr 0] cH44 := xcI k_X11_init_130 s_X11_init_131 (And.intro rfl (Exists.intro [] (Exists.intro 21 (Exists.intro [vr 21, vr 0] (And.intro (And.intro rfl (And.intro rfl (by decide))) (And.intro (by decide +kernel) (Exists.intro 1 (Exists.intro 1 (Exists.intro 8 (Exists.intro _ (And.intro cHc34 (And.intro (And.intro (by decide) (And.intro (by decide) (by decide))) (eQV fun h7 e7 => (by cases e7; exact cHt181))))))))))))))
theorem cHt183 : wp mX11_init 2 50 1495 (QV fun h => h = cH156) 123 [some (vr 0), none] [vr 20, vr 0] cH42 := xNew k_X11_init_123 s_X11_init_127 (And.intro (by decide +kernel) (And.intro (And.intro (by decide) (by decide +kernel)) cHt182))
theorem cHt184 : wp mX11_init 2 50 1495 (QV fun h => h = cH156) 115 [some (vr 0), none] [vr 20, vr 0] cH41 := xcI k_X11_init_115 s_X11_init_120 (And.intro rfl (And.intro (by decide +kernel) (Exists.intro 1 (And.intro (by decide +kernel) (Exists.intro [vr 1] (Exists.intro 20 (Exists.intro [vr 20, vr 0] (And.intro (And.intro rfl (And.intro rfl (by decide))) (And.intro (by decide +kernel) (Exists.intro 1 (Exists.intro 0 (Exists.intro 0 (Exists.intro _ (And.intro cHc30 (And.intro (And.intro (by decide) (And.intro (by decide) (by decide))) (eQV fun h7 e7 => (by cases e7; exact cHt183)))))))))))))))))
theorem cHt185 : wp mX11_init 2 51 1503 (QV fun h => h = cH156) 108 [some (vr 0), none] [vr 19, vr 0] cH39 := xNew k_X11_init_108 s_X11_init_112 (And.intro (by decide +kernel) (And.intro (And.intro (by decide) (by decide +kernel)) cHt184))
theorem cHt186 : wp mX11_init 2 52 1509 (QV fun h => h = cH156) 92 [some (vr 0), none] [vr 17, vr 0] cH36 := xAnew k_X11_init_92 s_X11_init_105 (And.intro (by decide +kernel) (And.intro (by decide +kernel) (And.intro (by decide) cHt185)))
theorem cHt187 : wp mX11_init 2 53 1517 (QV fun h => h = cH156) 88 [some (vr 0), none] [vr 17, vr 0] cH34 := xcI k_X11_init_88 s_X11_init_89 (And.intro rfl (Exists.intro [] (Exists.intro 17 (Exists.intro [vr 17, vr 0] (And.intro (And.intro rfl (And.intro rfl (by decide))) (And.intro (by decide +kernel) (Exists.intro 1 (Exists.intro 1 (Exists.intro 8 (Exists.intro _ (And.intro cHc27 (And.intro (And.intro (by decide) (And.intro (by decide) (by decide))) (eQV fun h7 e7 => (by cases e7; exact cHt186))))))))))))))
theorem cHt188 : wp mX11_init 2 54 1521 (QV fun h => h = cH156) 81 [some (vr 0), none] [vr 16, vr 0] cH32 := xNew k_X11_init_81 s_X11_init_85 (And.intro (by decide +kernel) (And.intro (And.intro (by decide) (by decide +kernel)) cHt187))
theorem cHt189 : wp mX11_init 2 54 1521 (QV fun h => h = cH156) 77 [some (vr 0), none] [vr 16, vr 0] cH32 := xcI k_X11_init_77 s_X11_init_78 (And.intro rfl (Exists.intro [] (Exists.intro 16 (Exists.intro [vr 16, vr 0] (And.intro (And.intro rfl (And.intro rfl (by decide))) (And.intro (by decide +kernel) (Exists.intro 1 (Exists.intro 0 (Exists.intro 0 (Exists.intro _ (And.intro cHc23 (And.intro (And.intro (by decide) (And.intro (by decide) (by decide))) (eQV fun h7 e7 => (by cases e7; exact cHt188))))))))))))))
theorem cHt190 : wp mX11_init 2 55 1523 (QV fun h => h = cH156) 70 [some (vr 0), none] [vr 15, vr 0] cH30 := xNew k_X11_init_70 s_X11_init_74 (And.intro (by decide +kernel) (And.intro (And.intro (by decide) (by decide +kernel)) cHt189))
theorem cHt191 : wp mX11_init 2 56 1530 (QV fun h => h = cH156) 61 [some (vr 0), none] [vr 14, vr 0] cH28 := xAnew k_X11_init_61 s_X11_init_67 (And.intro (by decide +kernel) (And.intro (by decide) cHt190))
theorem cHt192 : wp mX11_init 2 57 1534 (QV fun h => h = cH156) 53 [some (vr 0), none] [vr 11, vr 0] cH26 := xAnew k_X11_init_53 s_X11_init_58 (And.intro (by decide +kernel) (And.intro (by decide) cHt191))
theorem cHt193 : wp mX11_init 2 59 1550 (QV fun h => h = cH156) 49 [some (vr 0), none] [vr 11, vr 0] cH22 := xcI k_X11_init_49 s_X11_init_50 (And.intro rfl (Exists.intro [] (Exists.intro 11 (Exists.intro [vr 11, vr 0] (And.intro (And.intro rfl (And.intro rfl (by decide))) (And.intro (by decide +kernel) (Exists.intro 1 (Exists.intro 2 (Exists.intro 16 (Exists.intro _ (And.intro cHc20 (And.intro (And.intro (by decide) (And.intro (by decide) (by decide))) (eQV fun h7 e7 => (by cases e7; exact cHt192))))))))))))))
theorem cHt194 : wp mX11_init 2 60 1554 (QV fun h => h = cH156) 42 [some (vr 0), none] [vr 8, vr 0] cH20 := xNew k_X11_init_42 s_X11_init_46 (And.intro (by decide +kernel) (And.intro (And.intro (by decide) (by decide +kernel)) cHt193))
theorem cHt195 : wp mX11_init 2 62 1570 (QV fun h => h = cH156) 38 [some (vr 0), none] [vr 8, vr 0] cH16 := xcI k_X11_init_38 s_X11_init_39 (And.intro rfl (Exists.intro [] (Exists.intro 8 (Exists.intro [vr 8, vr 0] (And.intro (And.intro rfl (And.intro rfl (by decide))) (And.intro (by decide +kernel) (Exists.intro 1 (Exists.intro 2 (Exists.intro 16 (Exists.intro _ (And.intro cHc15 (And.intro (And.intro (by decide) (And.intro (by decide) (by decide))) (eQV fun h7 e7 => (by cases e7; exact cHt194))))))))))))))
theorem cHt196 : wp mX11_init 2 63 1574 (QV fun h => h = cH156) 31 [some (vr 0), none] [vr 5, vr 0] cH14 := xNew k_X11_init_31 s_X11_init_35 (And.intro (by decide +kernel) (And.intro (And.intro (by decide) (by decide +kernel)) cHt195))
theorem cHt197 : wp mX11_init 2 65 1590 (QV fun h => h = cH156) 27 [some (vr 0), none] [vr 5, vr 0] cH10 := xcI k_X11_init_27 s_X11_init_28 (And.intro rfl (Exists.intro [] (Exists.intro 5 (Exists.intro [vr 5, vr 0] (And.intro (And.intro rfl (And.intro rfl (by decide))) (And.intro (by decide +kernel) (Exists.intro 1 (Exists.intro 2 (Exists.intro 16 (Exists.intro _ (And.intro cHc10 (And.intro (And.intro (by decide) (And.intro (by decide) (by decide))) (eQV fun h7 e7 => (by cases e7; exact cHt196))))))))))))))
theorem cHt198 : wp mX11_init 2 66 1594 (QV fun h => h = cH156) 20 [some (vr 0), none] [vr 4, vr 0] cH8 := xNew k_X11_init_20 s_X11_init_24 (And.intro (by decide +kernel) (And.intro (And.intro (by decide) (by decide +kernel)) cHt197))
theorem cHt199 : wp mX11_init 2 67 1598 (QV fun h => h = cH156) 12 [some (vr 0), none] [vr 1, vr 0] cH6 := xAnew k_X11_init_12 s_X11_init_17 (And.intro (by decide +kernel) (And.intro (by decide) cHt198))
theorem cHt200 : wp mX11_init 2 69 1674 (QV fun h => h = cH156) 8 [some (vr 0), none] [vr 1, vr 0] cH2 := xcI k_X11_init_8 s_X11_init_9 (And.intro rfl (Exists.intro [] (Exists.intro 1 (Exists.intro [vr 1, vr 0] (And.intro (And.intro rfl (And.intro rfl (by decide))) (And.intro (by decide +kernel) (Exists.intro 1 (Exists.intro 2 (Exists.intro 76 (Exists.intro _ (And.intro cHc5 (And.intro (And.intro (by decide) (And.intro (by decide) (by decide))) (eQV fun h7 e7 => (by cases e7; exact cHt199))))))))))))))
theorem cHt201 : wp mX11_init 2 70 1678 (QV fun h => h = cH156) 4 [some (vr 0), none] [] cH1 := xNew k_X11_init_4 s_X11_init_5 (And.intro (And.intro (by decide) (by decide +kernel)) cHt200)
theorem cHt202 : wp mX11_init 2 70 1678 (QV fun h => h = cH156) 0 [some (vr 0), none] [] cH1 := xObj k_X11_init_0 s_X11_init_1 (And.intro (And.intro (by decide) (by decide)) cHt201)
theorem cHok : Ct 2 70 1678 mX11_init [vr 0] cH1 (QV fun h => h = cH156) := Ct.of (by decide +kernel) (by decide) cHt202
