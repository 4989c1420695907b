/-! THE REFERENCE: WORTH, COST, FIND -/
def b_X12_worth_0 : List IE := [(.aload_n 0, 1, 0, 0, 0, 0), (.getfield 70, 3, 0, 12, 31, 1), (.iload_n 1, 1, 0, 0, 1, 0), (.aaload, 1, 0, 0, 0, 0), (.astore_n 3, 1, 0, 0, 3, 0), (.iconst 0, 1, 0, 0, 0, 0), (.istore 4, 2, 0, 0, 4, 0), (.iconst 0, 1, 0, 0, 0, 0), (.istore 5, 2, 0, 0, 5, 0)]
theorem k_X12_worth_0 : ckB mX12_worth 12 0 b_X12_worth_0 13 = true := by decide +kernel
def b_X12_worth_13 : List IE := [(.iload 5, 2, 0, 0, 5, 0), (.aload_n 0, 1, 0, 0, 0, 0), (.getfield 73, 3, 0, 12, 32, 1), (.iload_n 1, 1, 0, 0, 1, 0), (.iaload, 1, 0, 0, 0, 0)]
theorem k_X12_worth_13 : ckIc mX12_worth 12 13 b_X12_worth_13 21 3 312 333 24 = true := by decide +kernel
def b_X12_worth_24 : List IE := [(.aload_n 3, 1, 0, 0, 3, 0), (.iload 5, 2, 0, 0, 5, 0), (.iaload, 1, 0, 0, 0, 0)]
theorem k_X12_worth_24 : ckTs mX12_worth 12 24 b_X12_worth_24 28 277 0 5 #[40, 69, 102, 135, 184, 216] 40 305 [(0, 68), (1, 97), (2, 130), (3, 163), (4, 212), (5, 244)] = true := by decide +kernel
def b_X12_worth_68 : List IE := [(.aload_n 0, 1, 0, 0, 0, 0), (.getfield 79, 3, 0, 12, 41, 1), (.iload 4, 2, 0, 0, 4, 0), (.iinc 4 1, 3, 1, 0, 4, 0), (.aload_n 0, 1, 0, 0, 0, 0), (.iload_n 2, 1, 0, 0, 2, 0), (.aload_n 3, 1, 0, 0, 3, 0), (.iload 5, 2, 0, 0, 5, 0), (.iconst 1, 1, 1, 0, 0, 0), (.iadd, 1, 0, 0, 0, 0), (.iaload, 1, 0, 0, 0, 0), (.bipush 6, 2, 6, 0, 0, 0)]
theorem k_X12_worth_68 : ckB mX12_worth 12 68 b_X12_worth_68 87 = true := by decide +kernel
def b_X12_worth_90 : List IE := [(.iastore, 1, 0, 0, 0, 0), (.iinc 5 2, 3, 2, 0, 5, 0)]
theorem k_X12_worth_90 : ckGo mX12_worth 12 90 b_X12_worth_90 94 (-81) 13 = true := by decide +kernel
def b_X12_worth_97 : List IE := [(.aload_n 0, 1, 0, 0, 0, 0), (.getfield 79, 3, 0, 12, 41, 1), (.iload 4, 2, 0, 0, 4, 0), (.iinc 4 1, 3, 1, 0, 4, 0), (.aload_n 0, 1, 0, 0, 0, 0), (.iload_n 2, 1, 0, 0, 2, 0), (.aload_n 3, 1, 0, 0, 3, 0), (.iload 5, 2, 0, 0, 5, 0), (.iconst 1, 1, 1, 0, 0, 0), (.iadd, 1, 0, 0, 0, 0), (.iaload, 1, 0, 0, 0, 0), (.aload_n 3, 1, 0, 0, 3, 0), (.iload 5, 2, 0, 0, 5, 0), (.iconst 2, 1, 2, 0, 0, 0), (.iadd, 1, 0, 0, 0, 0), (.iaload, 1, 0, 0, 0, 0)]
theorem k_X12_worth_97 : ckB mX12_worth 12 97 b_X12_worth_97 120 = true := by decide +kernel
def b_X12_worth_123 : List IE := [(.iastore, 1, 0, 0, 0, 0), (.iinc 5 3, 3, 3, 0, 5, 0)]
theorem k_X12_worth_123 : ckGo mX12_worth 12 123 b_X12_worth_123 127 (-114) 13 = true := by decide +kernel
def b_X12_worth_130 : List IE := [(.aload_n 0, 1, 0, 0, 0, 0), (.getfield 79, 3, 0, 12, 41, 1), (.iload 4, 2, 0, 0, 4, 0), (.iinc 4 1, 3, 1, 0, 4, 0), (.aload_n 0, 1, 0, 0, 0, 0), (.iload_n 2, 1, 0, 0, 2, 0), (.aload_n 3, 1, 0, 0, 3, 0), (.iload 5, 2, 0, 0, 5, 0), (.iconst 1, 1, 1, 0, 0, 0), (.iadd, 1, 0, 0, 0, 0), (.iaload, 1, 0, 0, 0, 0), (.aload_n 3, 1, 0, 0, 3, 0), (.iload 5, 2, 0, 0, 5, 0), (.iconst 2, 1, 2, 0, 0, 0), (.iadd, 1, 0, 0, 0, 0), (.iaload, 1, 0, 0, 0, 0)]
theorem k_X12_worth_130 : ckB mX12_worth 12 130 b_X12_worth_130 153 = true := by decide +kernel
def b_X12_worth_156 : List IE := [(.iastore, 1, 0, 0, 0, 0), (.iinc 5 3, 3, 3, 0, 5, 0)]
theorem k_X12_worth_156 : ckGo mX12_worth 12 156 b_X12_worth_156 160 (-147) 13 = true := by decide +kernel
def b_X12_worth_163 : List IE := [(.aload_n 0, 1, 0, 0, 0, 0), (.getfield 79, 3, 0, 12, 41, 1), (.iload 4, 2, 0, 0, 4, 0), (.iinc 4 1, 3, 1, 0, 4, 0), (.aload_n 3, 1, 0, 0, 3, 0), (.iload 5, 2, 0, 0, 5, 0), (.iconst 1, 1, 1, 0, 0, 0), (.iadd, 1, 0, 0, 0, 0), (.iaload, 1, 0, 0, 0, 0), (.aload_n 0, 1, 0, 0, 0, 0), (.iload_n 2, 1, 0, 0, 2, 0), (.aload_n 3, 1, 0, 0, 3, 0), (.iload 5, 2, 0, 0, 5, 0), (.iconst 2, 1, 2, 0, 0, 0), (.iadd, 1, 0, 0, 0, 0), (.aload_n 3, 1, 0, 0, 3, 0), (.iload 5, 2, 0, 0, 5, 0), (.iconst 1, 1, 1, 0, 0, 0), (.iadd, 1, 0, 0, 0, 0), (.iaload, 1, 0, 0, 0, 0)]
theorem k_X12_worth_163 : ckB mX12_worth 12 163 b_X12_worth_163 191 = true := by decide +kernel
def b_X12_worth_194 : List IE := [(.imul, 1, 0, 0, 0, 0), (.iastore, 1, 0, 0, 0, 0), (.iload 5, 2, 0, 0, 5, 0), (.iconst 2, 1, 2, 0, 0, 0), (.aload_n 3, 1, 0, 0, 3, 0), (.iload 5, 2, 0, 0, 5, 0), (.iconst 1, 1, 1, 0, 0, 0), (.iadd, 1, 0, 0, 0, 0), (.iaload, 1, 0, 0, 0, 0), (.iadd, 1, 0, 0, 0, 0), (.iadd, 1, 0, 0, 0, 0), (.istore 5, 2, 0, 0, 5, 0)]
theorem k_X12_worth_194 : ckGo mX12_worth 12 194 b_X12_worth_194 209 (-196) 13 = true := by decide +kernel
def b_X12_worth_212 : List IE := [(.aload_n 0, 1, 0, 0, 0, 0), (.getfield 79, 3, 0, 12, 41, 1), (.iload 4, 2, 0, 0, 4, 0), (.iconst 1, 1, 1, 0, 0, 0), (.isub, 1, 0, 0, 0, 0), (.aload_n 0, 1, 0, 0, 0, 0), (.getfield 79, 3, 0, 12, 41, 1), (.iload 4, 2, 0, 0, 4, 0), (.iconst 1, 1, 1, 0, 0, 0), (.isub, 1, 0, 0, 0, 0), (.iaload, 1, 0, 0, 0, 0)]
theorem k_X12_worth_212 : ckIf mX12_worth 12 212 b_X12_worth_212 229 1 7 236 232 = true := by decide +kernel
def b_X12_worth_232 : List IE := [(.iconst 1, 1, 1, 0, 0, 0)]
theorem k_X12_worth_232 : ckGo mX12_worth 12 232 b_X12_worth_232 233 4 237 = true := by decide +kernel
def b_X12_worth_236 : List IE := [(.iconst 0, 1, 0, 0, 0, 0), (.iastore, 1, 0, 0, 0, 0), (.iinc 5 1, 3, 1, 0, 5, 0)]
theorem k_X12_worth_236 : ckGo mX12_worth 12 236 b_X12_worth_236 241 (-228) 13 = true := by decide +kernel
def b_X12_worth_237 : List IE := [(.iastore, 1, 0, 0, 0, 0), (.iinc 5 1, 3, 1, 0, 5, 0)]
theorem k_X12_worth_237 : ckGo mX12_worth 12 237 b_X12_worth_237 241 (-228) 13 = true := by decide +kernel
def b_X12_worth_244 : List IE := [(.iinc 4 (-1), 3, (-1), 0, 4, 0), (.aload_n 0, 1, 0, 0, 0, 0), (.getfield 79, 3, 0, 12, 41, 1), (.iload 4, 2, 0, 0, 4, 0), (.iconst 1, 1, 1, 0, 0, 0), (.isub, 1, 0, 0, 0, 0), (.aload_n 0, 1, 0, 0, 0, 0), (.getfield 79, 3, 0, 12, 41, 1), (.iload 4, 2, 0, 0, 4, 0), (.iconst 1, 1, 1, 0, 0, 0), (.isub, 1, 0, 0, 0, 0), (.iaload, 1, 0, 0, 0, 0)]
theorem k_X12_worth_244 : ckIf mX12_worth 12 244 b_X12_worth_244 264 0 13 277 267 = true := by decide +kernel
def b_X12_worth_267 : List IE := [(.aload_n 0, 1, 0, 0, 0, 0), (.getfield 79, 3, 0, 12, 41, 1), (.iload 4, 2, 0, 0, 4, 0), (.iaload, 1, 0, 0, 0, 0)]
theorem k_X12_worth_267 : ckIf mX12_worth 12 267 b_X12_worth_267 274 1 7 281 277 = true := by decide +kernel
def b_X12_worth_277 : List IE := [(.iconst 0, 1, 0, 0, 0, 0)]
theorem k_X12_worth_277 : ckGo mX12_worth 12 277 b_X12_worth_277 278 20 298 = true := by decide +kernel
def b_X12_worth_281 : List IE := [(.aload_n 0, 1, 0, 0, 0, 0), (.getfield 79, 3, 0, 12, 41, 1), (.iload 4, 2, 0, 0, 4, 0), (.iconst 1, 1, 1, 0, 0, 0), (.isub, 1, 0, 0, 0, 0), (.iaload, 1, 0, 0, 0, 0), (.aload_n 0, 1, 0, 0, 0, 0), (.getfield 79, 3, 0, 12, 41, 1), (.iload 4, 2, 0, 0, 4, 0), (.iaload, 1, 0, 0, 0, 0), (.iadd, 1, 0, 0, 0, 0), (.iastore, 1, 0, 0, 0, 0), (.iinc 5 1, 3, 1, 0, 5, 0)]
theorem k_X12_worth_281 : ckGo mX12_worth 12 281 b_X12_worth_281 302 (-289) 13 = true := by decide +kernel
def b_X12_worth_298 : List IE := [(.iastore, 1, 0, 0, 0, 0), (.iinc 5 1, 3, 1, 0, 5, 0)]
theorem k_X12_worth_298 : ckGo mX12_worth 12 298 b_X12_worth_298 302 (-289) 13 = true := by decide +kernel
def b_X12_worth_305 : List IE := [(.iinc 4 (-1), 3, (-1), 0, 4, 0), (.aload_n 0, 1, 0, 0, 0, 0), (.getfield 79, 3, 0, 12, 41, 1), (.iload 4, 2, 0, 0, 4, 0), (.iconst 1, 1, 1, 0, 0, 0), (.isub, 1, 0, 0, 0, 0), (.dup2, 1, 0, 0, 0, 0), (.iaload, 1, 0, 0, 0, 0), (.aload_n 0, 1, 0, 0, 0, 0), (.getfield 79, 3, 0, 12, 41, 1), (.iload 4, 2, 0, 0, 4, 0), (.iaload, 1, 0, 0, 0, 0), (.iadd, 1, 0, 0, 0, 0), (.iastore, 1, 0, 0, 0, 0), (.iinc 5 1, 3, 1, 0, 5, 0)]
theorem k_X12_worth_305 : ckGo mX12_worth 12 305 b_X12_worth_305 330 (-317) 13 = true := by decide +kernel
def b_X12_worth_333 : List IE := [(.sipush 999, 3, 999, 0, 0, 0), (.aload_n 0, 1, 0, 0, 0, 0), (.getfield 79, 3, 0, 12, 41, 1), (.iconst 0, 1, 0, 0, 0, 0), (.iaload, 1, 0, 0, 0, 0)]
theorem k_X12_worth_333 : ckB mX12_worth 12 333 b_X12_worth_333 342 = true := by decide +kernel
def b_X12_worth_345 : List IE := []
theorem k_X12_worth_345 : ckI mX12_worth 12 345 b_X12_worth_345 345 = true := by decide +kernel
theorem s_X12_worth_87 : cV mX12_worth 87 mX12_timesBegun 348 3 12 := ⟨by decide +kernel, ⟨ml_X12_timesBegun, li_RX12_348, im_X12_timesBegun, se_X12_timesBegun⟩, ⟨by decide +kernel, by decide +kernel⟩, by decide +kernel⟩
theorem s_X12_worth_120 : cV mX12_worth 120 mX12_timesBegun 348 3 12 := ⟨by decide +kernel, ⟨ml_X12_timesBegun, li_RX12_348, im_X12_timesBegun, se_X12_timesBegun⟩, ⟨by decide +kernel, by decide +kernel⟩, by decide +kernel⟩
theorem s_X12_worth_153 : cV mX12_worth 153 mX12_near 351 3 12 := ⟨by decide +kernel, ⟨ml_X12_near, li_RX12_351, im_X12_near, se_X12_near⟩, ⟨by decide +kernel, by decide +kernel⟩, by decide +kernel⟩
theorem s_X12_worth_191 : cV mX12_worth 191 mX12_phraseTimes 354 4 12 := ⟨by decide +kernel, ⟨ml_X12_phraseTimes, li_RX12_354, im_X12_phraseTimes, se_X12_phraseTimes⟩, ⟨by decide +kernel, by decide +kernel⟩, by decide +kernel⟩
theorem s_X12_worth_342 : cMx mX12_worth 342 358 Lib.Math.min.name Lib.Math.min.code 2 := ⟨by decide +kernel, gt_ok (List.mem_of_getElem? (i := 1508) (by decide +kernel)) (by decide +kernel), gt_ok (List.mem_of_getElem? (i := 505) (by decide +kernel)) (by decide +kernel), gt_ok (List.mem_of_getElem? (i := 103) (by decide +kernel)) (by decide +kernel), gt_ok (List.mem_of_getElem? (i := 506) (by decide +kernel)) (by decide +kernel)⟩
theorem t_X12_worth_0 {rc rs : Nat} {Q : Option AV → AH → Prop} {h : AH} {x1 x2 : Int} (hL : LayM h) (hv : (0 ≤ x1 ∧ x1 < 6) ∧ wp mX12_worth 3 rc rs Q 13 [some (vr 89), some (vi x1), some (vi x2), some (vr (1170 + x1.toNat)), some (vi 0), some (vi 0)] [] h) : wp mX12_worth 3 rc rs Q 0 [some (vr 89), some (vi x1), some (vi x2), none, none, none] [] h :=
  (show wp mX12_worth 3 rc rs Q 0 [some (vr 89), some (vi x1), some (vi x2), none, none, none] [] h from xB k_X12_worth_0 (And.intro (lm_89 hL) (Exists.intro 1169 (And.intro (lf_89_31 hL) (have c1 := hv.1; have v2 := hv.2; (And.intro (sdQ (lm_1169 hL) c1) (Exists.intro (1170 + x1.toNat) (And.intro (lr_marks hL (tnl c1)) (And.intro rfl (And.intro rfl (And.intro rfl v2)))))))))))
theorem e_X12_worth {mc ms : Nat} {Q : Option AV → AH → Prop} {h : AH} {x1 x2 : Int} (hL : LayM h) (hv : (0 ≤ x1 ∧ x1 < 6) ∧ wp mX12_worth 3 mc ms Q 13 [some (vr 89), some (vi x1), some (vi x2), some (vr (1170 + x1.toNat)), some (vi 0), some (vi 0)] [] h) : Ct 3 mc ms mX12_worth [vr 89, vi x1, vi x2] h Q := Ct.of (by decide +kernel) (Nat.le_of_ble_eq_true rfl) (t_X12_worth_0 hL hv)
theorem t_X12_worth_13 {rc rs : Nat} {Q : Option AV → AH → Prop} {h : AH} {x1 x2 x4 x5 : Int} {a3 n3 : Nat} (hL : LayM h) (hA3 : a3 < nH h ∧ kH h a3 = (13, n3)) (hv : (0 ≤ x1 ∧ x1 < 6) ∧ (((iH h 1176 x1.toNat) ≤ x5 → Q (some (vi (min 999 (iH h 1178 0)))) h) ∧ (x5 < (iH h 1176 x1.toNat) → (0 ≤ x5 ∧ x5 < n3) ∧ (((iH h a3 x5.toNat) = 0 → (-2147483648 ≤ (x4 + 1) ∧ (x4 + 1) < 2147483648) ∧ (-2147483648 ≤ (x5 + 1) ∧ (x5 + 1) < 2147483648) ∧ (0 ≤ (x5 + 1) ∧ (x5 + 1) < n3) ∧ (m_doc h x2 ∧ m_bl (iH h a3 ((x5 + 1).toNat)) (6 : Int)) ∧ (0 ≤ x4 ∧ x4 < 64) ∧ (-2147483648 ≤ (x5 + 2) ∧ (x5 + 2) < 2147483648) ∧ wp mX12_worth 3 rc rs Q 13 [some (vr 89), some (vi x1), some (vi x2), some (vr a3), some (vi (x4 + 1)), some (vi (x5 + 2))] [] (sI h 1178 x4.toNat (m_tb h x2 (iH h a3 ((x5 + 1).toNat)) (6 : Int)))) ∧ ((iH h a3 x5.toNat) ≠ 0 → (((iH h a3 x5.toNat) = 1 → (-2147483648 ≤ (x4 + 1) ∧ (x4 + 1) < 2147483648) ∧ (-2147483648 ≤ (x5 + 1) ∧ (x5 + 1) < 2147483648) ∧ (0 ≤ (x5 + 1) ∧ (x5 + 1) < n3) ∧ (-2147483648 ≤ (x5 + 2) ∧ (x5 + 2) < 2147483648) ∧ (0 ≤ (x5 + 2) ∧ (x5 + 2) < n3) ∧ (m_doc h x2 ∧ m_bl (iH h a3 ((x5 + 1).toNat)) (iH h a3 ((x5 + 2).toNat))) ∧ (0 ≤ x4 ∧ x4 < 64) ∧ (-2147483648 ≤ (x5 + 3) ∧ (x5 + 3) < 2147483648) ∧ wp mX12_worth 3 rc rs Q 13 [some (vr 89), some (vi x1), some (vi x2), some (vr a3), some (vi (x4 + 1)), some (vi (x5 + 3))] [] (sI h 1178 x4.toNat (m_tb h x2 (iH h a3 ((x5 + 1).toNat)) (iH h a3 ((x5 + 2).toNat))))) ∧ ((iH h a3 x5.toNat) ≠ 1 → (((iH h a3 x5.toNat) = 2 → (-2147483648 ≤ (x4 + 1) ∧ (x4 + 1) < 2147483648) ∧ (-2147483648 ≤ (x5 + 1) ∧ (x5 + 1) < 2147483648) ∧ (0 ≤ (x5 + 1) ∧ (x5 + 1) < n3) ∧ (-2147483648 ≤ (x5 + 2) ∧ (x5 + 2) < 2147483648) ∧ (0 ≤ (x5 + 2) ∧ (x5 + 2) < n3) ∧ (m_doc h x2) ∧ (0 ≤ x4 ∧ x4 < 64) ∧ (-2147483648 ≤ (x5 + 3) ∧ (x5 + 3) < 2147483648) ∧ wp mX12_worth 3 rc rs Q 13 [some (vr 89), some (vi x1), some (vi x2), some (vr a3), some (vi (x4 + 1)), some (vi (x5 + 3))] [] (sI h 1178 x4.toNat (m_near h x2 (iH h a3 ((x5 + 1).toNat)) (iH h a3 ((x5 + 2).toNat))))) ∧ ((iH h a3 x5.toNat) ≠ 2 → (((iH h a3 x5.toNat) = 3 → (-2147483648 ≤ (x4 + 1) ∧ (x4 + 1) < 2147483648) ∧ (-2147483648 ≤ (x5 + 1) ∧ (x5 + 1) < 2147483648) ∧ (0 ≤ (x5 + 1) ∧ (x5 + 1) < n3) ∧ (-2147483648 ≤ (x5 + 2) ∧ (x5 + 2) < 2147483648) ∧ (∃ P82 : Int → AH → Prop, Ct 0 0 0 mX12_phraseTimes [vr 89, vi x2, vr a3, vi (x5 + 2), vi (iH h a3 ((x5 + 1).toNat))] h (QI P82) ∧ ∀ (r81 : Int) (h80 : AH), (-2147483648 ≤ r81 ∧ r81 < 2147483648) → P82 r81 h80 → LayM h80 ∧ (a3 < nH h80 ∧ kH h80 a3 = (13, n3)) ∧ (-2147483648 ≤ (iH h a3 ((x5 + 1).toNat) * r81) ∧ (iH h a3 ((x5 + 1).toNat) * r81) < 2147483648) ∧ (0 ≤ x4 ∧ x4 < 64) ∧ (-2147483648 ≤ (2 + iH (sI h80 1178 x4.toNat (iH h a3 ((x5 + 1).toNat) * r81)) a3 ((x5 + 1).toNat)) ∧ (2 + iH (sI h80 1178 x4.toNat (iH h a3 ((x5 + 1).toNat) * r81)) a3 ((x5 + 1).toNat)) < 2147483648) ∧ (-2147483648 ≤ (x5 + (2 + iH (sI h80 1178 x4.toNat (iH h a3 ((x5 + 1).toNat) * r81)) a3 ((x5 + 1).toNat))) ∧ (x5 + (2 + iH (sI h80 1178 x4.toNat (iH h a3 ((x5 + 1).toNat) * r81)) a3 ((x5 + 1).toNat))) < 2147483648) ∧ wp mX12_worth 3 rc rs Q 13 [some (vr 89), some (vi x1), some (vi x2), some (vr a3), some (vi (x4 + 1)), some (vi (x5 + (2 + iH (sI h80 1178 x4.toNat (iH h a3 ((x5 + 1).toNat) * r81)) a3 ((x5 + 1).toNat))))] [] (sI h80 1178 x4.toNat (iH h a3 ((x5 + 1).toNat) * r81)))) ∧ ((iH h a3 x5.toNat) ≠ 3 → (((iH h a3 x5.toNat) = 4 → (-2147483648 ≤ (x4 - 1) ∧ (x4 - 1) < 2147483648) ∧ (0 ≤ (x4 - 1) ∧ (x4 - 1) < 64) ∧ (((iH h 1178 ((x4 - 1).toNat)) ≠ 0 → (-2147483648 ≤ (x5 + 1) ∧ (x5 + 1) < 2147483648) ∧ wp mX12_worth 3 rc rs Q 13 [some (vr 89), some (vi x1), some (vi x2), some (vr a3), some (vi x4), some (vi (x5 + 1))] [] (sI h 1178 ((x4 - 1).toNat) 0)) ∧ ((iH h 1178 ((x4 - 1).toNat)) = 0 → (-2147483648 ≤ (x5 + 1) ∧ (x5 + 1) < 2147483648) ∧ wp mX12_worth 3 rc rs Q 13 [some (vr 89), some (vi x1), some (vi x2), some (vr a3), some (vi x4), some (vi (x5 + 1))] [] (sI h 1178 ((x4 - 1).toNat) 1)))) ∧ ((iH h a3 x5.toNat) ≠ 4 → (((iH h a3 x5.toNat) = 5 → (-2147483648 ≤ (x4 + (-1)) ∧ (x4 + (-1)) < 2147483648) ∧ (-2147483648 ≤ ((x4 + (-1)) - 1) ∧ ((x4 + (-1)) - 1) < 2147483648) ∧ (0 ≤ ((x4 + (-1)) - 1) ∧ ((x4 + (-1)) - 1) < 64) ∧ (((iH h 1178 (((x4 + (-1)) - 1).toNat)) = 0 → (-2147483648 ≤ (x5 + 1) ∧ (x5 + 1) < 2147483648) ∧ wp mX12_worth 3 rc rs Q 13 [some (vr 89), some (vi x1), some (vi x2), some (vr a3), some (vi (x4 + (-1))), some (vi (x5 + 1))] [] (sI h 1178 (((x4 + (-1)) - 1).toNat) 0)) ∧ ((iH h 1178 (((x4 + (-1)) - 1).toNat)) ≠ 0 → (0 ≤ (x4 + (-1)) ∧ (x4 + (-1)) < 64) ∧ (((iH h 1178 ((x4 + (-1)).toNat)) ≠ 0 → (-2147483648 ≤ (iH h 1178 (((x4 + (-1)) - 1).toNat) + iH h 1178 ((x4 + (-1)).toNat)) ∧ (iH h 1178 (((x4 + (-1)) - 1).toNat) + iH h 1178 ((x4 + (-1)).toNat)) < 2147483648) ∧ (-2147483648 ≤ (x5 + 1) ∧ (x5 + 1) < 2147483648) ∧ wp mX12_worth 3 rc rs Q 13 [some (vr 89), some (vi x1), some (vi x2), some (vr a3), some (vi (x4 + (-1))), some (vi (x5 + 1))] [] (sI h 1178 (((x4 + (-1)) - 1).toNat) (iH h 1178 (((x4 + (-1)) - 1).toNat) + iH h 1178 ((x4 + (-1)).toNat)))) ∧ ((iH h 1178 ((x4 + (-1)).toNat)) = 0 → (-2147483648 ≤ (x5 + 1) ∧ (x5 + 1) < 2147483648) ∧ wp mX12_worth 3 rc rs Q 13 [some (vr 89), some (vi x1), some (vi x2), some (vr a3), some (vi (x4 + (-1))), some (vi (x5 + 1))] [] (sI h 1178 (((x4 + (-1)) - 1).toNat) 0)))))) ∧ ((iH h a3 x5.toNat) ≠ 5 → (-2147483648 ≤ (x4 + (-1)) ∧ (x4 + (-1)) < 2147483648) ∧ (-2147483648 ≤ ((x4 + (-1)) - 1) ∧ ((x4 + (-1)) - 1) < 2147483648) ∧ (0 ≤ ((x4 + (-1)) - 1) ∧ ((x4 + (-1)) - 1) < 64) ∧ (0 ≤ (x4 + (-1)) ∧ (x4 + (-1)) < 64) ∧ (-2147483648 ≤ (iH h 1178 (((x4 + (-1)) - 1).toNat) + iH h 1178 ((x4 + (-1)).toNat)) ∧ (iH h 1178 (((x4 + (-1)) - 1).toNat) + iH h 1178 ((x4 + (-1)).toNat)) < 2147483648) ∧ (-2147483648 ≤ (x5 + 1) ∧ (x5 + 1) < 2147483648) ∧ wp mX12_worth 3 rc rs Q 13 [some (vr 89), some (vi x1), some (vi x2), some (vr a3), some (vi (x4 + (-1))), some (vi (x5 + 1))] [] (sI h 1178 (((x4 + (-1)) - 1).toNat) (iH h 1178 (((x4 + (-1)) - 1).toNat) + iH h 1178 ((x4 + (-1)).toNat)))))))))))))))))) : wp mX12_worth 3 rc rs Q 13 [some (vr 89), some (vi x1), some (vi x2), some (vr a3), some (vi x4), some (vi x5)] [] h :=
  (show wp mX12_worth 3 rc rs Q 13 [some (vr 89), some (vi x1), some (vi x2), some (vr a3), some (vi x4), some (vi x5)] [] h from xIc k_X12_worth_13 (And.intro (lm_89 hL) (Exists.intro 1176 (And.intro (lf_89_32 hL) (have c1 := hv.1; have v165 := hv.2; (And.intro (sdI (lm_1176 hL) c1) (And.intro (fun c2 => have v4 := v165.1 c2; (show wp mX12_worth 3 rc rs Q 333 [some (vr 89), some (vi x1), some (vi x2), some (vr a3), some (vi x4), some (vi x5)] [] h from xMin k_X12_worth_333 s_X12_worth_342 (And.intro (lm_89 hL) (Exists.intro 1178 (And.intro (lf_89_41 hL) (And.intro (sdI (lm_1178 hL) (by decide)) (And.intro (And.intro (Nat.le_of_ble_eq_true rfl) (Nat.le_of_ble_eq_true rfl)) (show wp mX12_worth 3 rc rs Q 345 [some (vr 89), some (vi x1), some (vi x2), some (vr a3), some (vi x4), some (vi x5)] [vi (min 999 (iH h 1178 0))] h from xI k_X12_worth_345 (And.intro rfl v4))))))))) (fun c3 => have v5 := v165.2 (Int.not_le.mp c3); (show wp mX12_worth 3 rc rs Q 24 [some (vr 89), some (vi x1), some (vi x2), some (vr a3), some (vi x4), some (vi x5)] [] h from xTs k_X12_worth_24 (have c6 := v5.1; have v164 := v5.2; (And.intro (sdI hA3 c6) (And.intro (fun c160 => have v162 := v164.1 c160; (show wp mX12_worth 3 rc rs Q 68 [some (vr 89), some (vi x1), some (vi x2), some (vr a3), some (vi x4), some (vi x5)] [] h from xcV k_X12_worth_68 s_X12_worth_87 (And.intro (lm_89 hL) (Exists.intro 1178 (And.intro (lf_89_41 hL) (have c147 := v162.1; have v159 := v162.2; (And.intro c147 (And.intro rfl (have c148 := v159.1; have v158 := v159.2; (And.intro c148 (have c149 := v158.1; have v157 := v158.2; (And.intro (sdI hA3 c149) (have c154 := v157.1; have v155 := v157.2; (Exists.intro [vi x2, vi (iH h a3 ((x5 + 1).toNat)), vi 6] (Exists.intro 89 (Exists.intro [vi x4, vr 1178] (And.intro (And.intro rfl (And.intro rfl (Nat.le_of_ble_eq_true rfl))) (And.intro (lm_89 hL) (Exists.intro 2 (Exists.intro 0 (Exists.intro 0 (Exists.intro _ (And.intro (c_timesBegun (h := h) hL c154) (And.intro (And.intro (by decide) (And.intro (Nat.zero_le _) (Nat.zero_le _))) (eQP (show wp mX12_worth 3 rc rs Q 90 [some (vr 89), some (vi x1), some (vi x2), some (vr a3), some (vi (x4 + 1)), some (vi x5)] [vi (m_tb h x2 (iH h a3 ((x5 + 1).toNat)) (6 : Int)), vi x4, vr 1178] h from xGo k_X12_worth_90 (have c150 := v155.1; have v153 := v155.2; (And.intro (sdI (lm_1178 hL) c150) (have c151 := v153.1; have v152 := v153.2; (And.intro c151 (And.intro rfl v152))))))))))))))))))))))))))))))) (fun c161 => have v163 := v164.2 c161; (And.intro (fun c143 => have v145 := v163.1 c143; (show wp mX12_worth 3 rc rs Q 97 [some (vr 89), some (vi x1), some (vi x2), some (vr a3), some (vi x4), some (vi x5)] [] h from xcV k_X12_worth_97 s_X12_worth_120 (And.intro (lm_89 hL) (Exists.intro 1178 (And.intro (lf_89_41 hL) (have c126 := v145.1; have v142 := v145.2; (And.intro c126 (And.intro rfl (have c127 := v142.1; have v141 := v142.2; (And.intro c127 (have c128 := v141.1; have v140 := v141.2; (And.intro (sdI hA3 c128) (have c129 := v140.1; have v139 := v140.2; (And.intro c129 (have c130 := v139.1; have v138 := v139.2; (And.intro (sdI hA3 c130) (have c135 := v138.1; have v136 := v138.2; (Exists.intro [vi x2, vi (iH h a3 ((x5 + 1).toNat)), vi (iH h a3 ((x5 + 2).toNat))] (Exists.intro 89 (Exists.intro [vi x4, vr 1178] (And.intro (And.intro rfl (And.intro rfl (Nat.le_of_ble_eq_true rfl))) (And.intro (lm_89 hL) (Exists.intro 2 (Exists.intro 0 (Exists.intro 0 (Exists.intro _ (And.intro (c_timesBegun (h := h) hL c135) (And.intro (And.intro (by decide) (And.intro (Nat.zero_le _) (Nat.zero_le _))) (eQP (show wp mX12_worth 3 rc rs Q 123 [some (vr 89), some (vi x1), some (vi x2), some (vr a3), some (vi (x4 + 1)), some (vi x5)] [vi (m_tb h x2 (iH h a3 ((x5 + 1).toNat)) (iH h a3 ((x5 + 2).toNat))), vi x4, vr 1178] h from xGo k_X12_worth_123 (have c131 := v136.1; have v134 := v136.2; (And.intro (sdI (lm_1178 hL) c131) (have c132 := v134.1; have v133 := v134.2; (And.intro c132 (And.intro rfl v133))))))))))))))))))))))))))))))))))) (fun c144 => have v146 := v163.2 c144; (And.intro (fun c122 => have v124 := v146.1 c122; (show wp mX12_worth 3 rc rs Q 130 [some (vr 89), some (vi x1), some (vi x2), some (vr a3), some (vi x4), some (vi x5)] [] h from xcV k_X12_worth_130 s_X12_worth_153 (And.intro (lm_89 hL) (Exists.intro 1178 (And.intro (lf_89_41 hL) (have c105 := v124.1; have v121 := v124.2; (And.intro c105 (And.intro rfl (have c106 := v121.1; have v120 := v121.2; (And.intro c106 (have c107 := v120.1; have v119 := v120.2; (And.intro (sdI hA3 c107) (have c108 := v119.1; have v118 := v119.2; (And.intro c108 (have c109 := v118.1; have v117 := v118.2; (And.intro (sdI hA3 c109) (have c114 := v117.1; have v115 := v117.2; (Exists.intro [vi x2, vi (iH h a3 ((x5 + 1).toNat)), vi (iH h a3 ((x5 + 2).toNat))] (Exists.intro 89 (Exists.intro [vi x4, vr 1178] (And.intro (And.intro rfl (And.intro rfl (Nat.le_of_ble_eq_true rfl))) (And.intro (lm_89 hL) (Exists.intro 1 (Exists.intro 0 (Exists.intro 0 (Exists.intro _ (And.intro (c_near (h := h) hL c114) (And.intro (And.intro (by decide) (And.intro (Nat.zero_le _) (Nat.zero_le _))) (eQP (show wp mX12_worth 3 rc rs Q 156 [some (vr 89), some (vi x1), some (vi x2), some (vr a3), some (vi (x4 + 1)), some (vi x5)] [vi (m_near h x2 (iH h a3 ((x5 + 1).toNat)) (iH h a3 ((x5 + 2).toNat))), vi x4, vr 1178] h from xGo k_X12_worth_156 (have c110 := v115.1; have v113 := v115.2; (And.intro (sdI (lm_1178 hL) c110) (have c111 := v113.1; have v112 := v113.2; (And.intro c111 (And.intro rfl v112))))))))))))))))))))))))))))))))))) (fun c123 => have v125 := v146.2 c123; (And.intro (fun c101 => have v103 := v125.1 c101; (show wp mX12_worth 3 rc rs Q 163 [some (vr 89), some (vi x1), some (vi x2), some (vr a3), some (vi x4), some (vi x5)] [] h from xcV k_X12_worth_163 s_X12_worth_191 (And.intro (lm_89 hL) (Exists.intro 1178 (And.intro (lf_89_41 hL) (have c74 := v103.1; have v100 := v103.2; (And.intro c74 (And.intro rfl (have c75 := v100.1; have v99 := v100.2; (And.intro c75 (have c76 := v99.1; have v98 := v99.2; (And.intro (sdI hA3 c76) (have c77 := v98.1; have v97 := v98.2; (And.intro c77 (And.intro c75 (And.intro (sdI hA3 c76) (Exists.elim v97 (fun P82 v93 => (Exists.intro [vi x2, vr a3, vi (x5 + 2), vi (iH h a3 ((x5 + 1).toNat))] (Exists.intro 89 (Exists.intro [vi (iH h a3 ((x5 + 1).toNat)), vi x4, vr 1178] (And.intro (And.intro rfl (And.intro rfl (Nat.le_of_ble_eq_true rfl))) (And.intro (lm_89 hL) (Exists.intro 0 (Exists.intro 0 (Exists.intro 0 (Exists.intro (QI P82) (And.intro v93.1 (And.intro (And.intro (by decide) (And.intro (Nat.zero_le _) (Nat.zero_le _))) (eQI (fun r81 h80 q96 e95 => have v94 := v93.2 r81 h80 q96 e95; have hL := v94.1; have v94 := v94.2; have hA3 := v94.1; have v94 := v94.2; (show wp mX12_worth 3 rc rs Q 194 [some (vr 89), some (vi x1), some (vi x2), some (vr a3), some (vi (x4 + 1)), some (vi x5)] [vi r81, vi (iH h a3 ((x5 + 1).toNat)), vi x4, vr 1178] h80 from xGo k_X12_worth_194 (have c83 := v94.1; have v92 := v94.2; (And.intro c83 (have c84 := v92.1; have v91 := v92.2; (And.intro (sdI (lm_1178 hL) c84) (And.intro c75 (And.intro (sdI hA3 c76) (have c87 := v91.1; have v90 := v91.2; (And.intro c87 (have c88 := v90.1; have v89 := v90.2; (And.intro c88 (And.intro rfl v89))))))))))))))))))))))))))))))))))))))))))) (fun c102 => have v104 := v125.2 c102; (And.intro (fun c70 => have v72 := v104.1 c70; (show wp mX12_worth 3 rc rs Q 212 [some (vr 89), some (vi x1), some (vi x2), some (vr a3), some (vi x4), some (vi x5)] [] h from xIf k_X12_worth_212 (And.intro (lm_89 hL) (Exists.intro 1178 (And.intro (lf_89_41 hL) (have c55 := v72.1; have v69 := v72.2; (And.intro c55 (And.intro (lm_89 hL) (Exists.intro 1178 (And.intro (lf_89_41 hL) (And.intro c55 (have c57 := v69.1; have v68 := v69.2; (And.intro (sdI (lm_1178 hL) c57) (And.intro (fun c58 => have v60 := v68.1 c58; (show wp mX12_worth 3 rc rs Q 236 [some (vr 89), some (vi x1), some (vi x2), some (vr a3), some (vi x4), some (vi x5)] [vi (x4 - 1), vr 1178] h from xGo k_X12_worth_236 (And.intro (sdI (lm_1178 hL) c57) (have c63 := v60.1; have v64 := v60.2; (And.intro c63 (And.intro rfl v64)))))) (fun c59 => have v61 := v68.2 (Decidable.not_not.mp c59); (show wp mX12_worth 3 rc rs Q 232 [some (vr 89), some (vi x1), some (vi x2), some (vr a3), some (vi x4), some (vi x5)] [vi (x4 - 1), vr 1178] h from xGo k_X12_worth_232 (show wp mX12_worth 3 rc rs Q 237 [some (vr 89), some (vi x1), some (vi x2), some (vr a3), some (vi x4), some (vi x5)] [vi 1, vi (x4 - 1), vr 1178] h from xGo k_X12_worth_237 (And.intro (sdI (lm_1178 hL) c57) (have c66 := v61.1; have v67 := v61.2; (And.intro c66 (And.intro rfl v67))))))))))))))))))))) (fun c71 => have v73 := v104.2 c71; (And.intro (fun c51 => have v53 := v73.1 c51; (show wp mX12_worth 3 rc rs Q 244 [some (vr 89), some (vi x1), some (vi x2), some (vr a3), some (vi x4), some (vi x5)] [] h from xIf k_X12_worth_244 (have c20 := v53.1; have v50 := v53.2; (And.intro c20 (And.intro rfl (And.intro (lm_89 hL) (Exists.intro 1178 (And.intro (lf_89_41 hL) (have c21 := v50.1; have v49 := v50.2; (And.intro c21 (And.intro (lm_89 hL) (Exists.intro 1178 (And.intro (lf_89_41 hL) (And.intro c21 (have c23 := v49.1; have v48 := v49.2; (And.intro (sdI (lm_1178 hL) c23) (And.intro (fun c24 => have v26 := v48.1 c24; (show wp mX12_worth 3 rc rs Q 277 [some (vr 89), some (vi x1), some (vi x2), some (vr a3), some (vi (x4 + (-1))), some (vi x5)] [vi ((x4 + (-1)) - 1), vr 1178] h from xGo k_X12_worth_277 (show wp mX12_worth 3 rc rs Q 298 [some (vr 89), some (vi x1), some (vi x2), some (vr a3), some (vi (x4 + (-1))), some (vi x5)] [vi 0, vi ((x4 + (-1)) - 1), vr 1178] h from xGo k_X12_worth_298 (And.intro (sdI (lm_1178 hL) c23) (have c29 := v26.1; have v30 := v26.2; (And.intro c29 (And.intro rfl v30))))))) (fun c25 => have v27 := v48.2 c25; (show wp mX12_worth 3 rc rs Q 267 [some (vr 89), some (vi x1), some (vi x2), some (vr a3), some (vi (x4 + (-1))), some (vi x5)] [vi ((x4 + (-1)) - 1), vr 1178] h from xIf k_X12_worth_267 (And.intro (lm_89 hL) (Exists.intro 1178 (And.intro (lf_89_41 hL) (have c31 := v27.1; have v47 := v27.2; (And.intro (sdI (lm_1178 hL) c31) (And.intro (fun c32 => have v34 := v47.1 c32; (show wp mX12_worth 3 rc rs Q 281 [some (vr 89), some (vi x1), some (vi x2), some (vr a3), some (vi (x4 + (-1))), some (vi x5)] [vi ((x4 + (-1)) - 1), vr 1178] h from xGo k_X12_worth_281 (And.intro (lm_89 hL) (Exists.intro 1178 (And.intro (lf_89_41 hL) (And.intro c21 (And.intro (sdI (lm_1178 hL) c23) (And.intro (lm_89 hL) (Exists.intro 1178 (And.intro (lf_89_41 hL) (And.intro (sdI (lm_1178 hL) c31) (have c39 := v34.1; have v43 := v34.2; (And.intro c39 (And.intro (sdI (lm_1178 hL) c23) (have c41 := v43.1; have v42 := v43.2; (And.intro c41 (And.intro rfl v42))))))))))))))))) (fun c33 => have v35 := v47.2 (Decidable.not_not.mp c33); (show wp mX12_worth 3 rc rs Q 277 [some (vr 89), some (vi x1), some (vi x2), some (vr a3), some (vi (x4 + (-1))), some (vi x5)] [vi ((x4 + (-1)) - 1), vr 1178] h from xGo k_X12_worth_277 (show wp mX12_worth 3 rc rs Q 298 [some (vr 89), some (vi x1), some (vi x2), some (vr a3), some (vi (x4 + (-1))), some (vi x5)] [vi 0, vi ((x4 + (-1)) - 1), vr 1178] h from xGo k_X12_worth_298 (And.intro (sdI (lm_1178 hL) c23) (have c45 := v35.1; have v46 := v35.2; (And.intro c45 (And.intro rfl v46)))))))))))))))))))))))))))))))) (fun c52 => have v54 := v73.2 c52; (show wp mX12_worth 3 rc rs Q 305 [some (vr 89), some (vi x1), some (vi x2), some (vr a3), some (vi x4), some (vi x5)] [] h from xGo k_X12_worth_305 (have c7 := v54.1; have v19 := v54.2; (And.intro c7 (And.intro rfl (And.intro (lm_89 hL) (Exists.intro 1178 (And.intro (lf_89_41 hL) (have c8 := v19.1; have v18 := v19.2; (And.intro c8 (And.intro rfl (And.intro rfl (have c9 := v18.1; have v17 := v18.2; (And.intro (sdI (lm_1178 hL) c9) (And.intro (lm_89 hL) (Exists.intro 1178 (And.intro (lf_89_41 hL) (have c10 := v17.1; have v16 := v17.2; (And.intro (sdI (lm_1178 hL) c10) (have c11 := v16.1; have v15 := v16.2; (And.intro c11 (And.intro (sdI (lm_1178 hL) c9) (have c13 := v15.1; have v14 := v15.2; (And.intro c13 (And.intro rfl v14)))))))))))))))))))))))))))))))))))))))))))))))
theorem m_doc_cg {h h' : AH} {d : Int} (hd : m_doc h d) (e1 : ∀ k, iH h' (93 + d.toNat) k = iH h (93 + d.toNat) k) (e2 : iH h' 91 d.toNat = iH h 91 d.toNat) : m_doc h' d := by
  unfold m_doc
  rw [e2]
  exact ⟨hd.1, hd.2.1, fun i hi => by rw [e1]; exact hd.2.2 i hi⟩
theorem m_qok_cg {h h' : AH} {q : Int} (hq : m_qok h q) (e3 : ∀ k, iH h' (1170 + q.toNat) k = iH h (1170 + q.toNat) k) (e4 : iH h' 1176 q.toNat = iH h 1176 q.toNat) : m_qok h' q := by
  unfold m_qok
  rw [m_row_cg e3, e4]
  exact hq
theorem c_worth {h : AH} (hL : LayM h) {q d : Int} (hq : m_qok h q) (hd : m_doc h d) : Ct 3 0 0 mX12_worth [vr 89, vi q, vi d] h (QI fun x h' => x = m_worth h q d ∧ ∃ w, h' = sW h 1178 w) := by
  have hb := hq.1
  have hd1 := hd.1
  have hok := m_nop_ok hq
  have hA : 1170 + q.toNat < nH h ∧ kH h (1170 + q.toNat) = (13, 128) := lk_marks hL (by omega)
  refine e_X12_worth hL ⟨by omega, ?_⟩
  have main := up (P := fun j => ∀ w : Nat → Int, (∀ i : Nat, (i : Int) < q_ht (m_row h q) j → w i = m_sv h q d j i) → wp mX12_worth 3 0 0 (QI fun x h' => x = m_worth h q d ∧ ∃ w, h' = sW h 1178 w) 13 [some (vr 89), some (vi q), some (vi d), some (vr (1170 + q.toNat)), some (vi (q_ht (m_row h q) j)), some (vi (q_pos (m_row h q) j))] [] (sW h 1178 w)) (m_nop h q) ?_ ?_
  · have := main (iH h 1178) (fun i hi => by have : q_ht (m_row h q) 0 = 0 := rfl; omega)
    rw [sW_id (fun k => rfl)] at this
    exact this
  · intro w hw
    refine t_X12_worth_13 (h := sW h 1178 w) (by exact hL) (by exact hA) ?_
    rw [rW_ne (by decide), rW_same]
    refine ⟨by omega, fun _ => ⟨_, rfl, ?_, w, rfl⟩, fun c => absurd c (by have := hok.1; omega)⟩
    have : w 0 = m_sv h q d (m_nop h q) 0 := hw 0 (by rw [hok.2.2.1]; decide)
    rw [this]; rfl
  · intro j hj ih w hw
    obtain ⟨ho, hh, h4, h5⟩ := hok.2.2.2 j hj
    obtain ⟨b1, b2⟩ := m_sv_bd hq hd j (Nat.le_of_lt hj)
    have hlt := q_pos_lt (r := m_row h q) hj
    have hle := q_pos_le (r := m_row h q) (show j + 1 ≤ m_nop h q by omega)
    have hn := hok.1
    have hn2 := hok.2.1
    have ep : q_pos (m_row h q) (j + 1) = q_pos (m_row h q) j + q_ol (m_row h q) (q_pos (m_row h q) j) := rfl
    have eh : q_ht (m_row h q) (j + 1) = q_ht (m_row h q) j + q_dt (m_row h q) (q_pos (m_row h q) j) := rfl
    have es : m_sv h q d (j + 1) = m_st h q d (q_pos (m_row h q) j) (q_ht (m_row h q) j).toNat (m_sv h q d j) := rfl
    have hj128 : j ≤ 128 := by
      have : ∀ i : Nat, i ≤ q_pos (m_row h q) i := by
        intro i
        induction i with
        | zero => exact Nat.le_refl 0
        | succ i ihi => have := q_pos_lt (r := m_row h q) (show i < i + 1 by omega); omega
      have := this j
      omega
    have rR : ∀ k, iH (sW h 1178 w) (1170 + q.toNat) k = m_row h q k := fun k => rW_ne (by omega)
    have eT : ∀ b l, m_tb (sW h 1178 w) d b l = m_tb h d b l := fun b l => m_tb_cg (fun k => rW_ne (by omega)) (rW_ne (by decide))
    have eN : ∀ a b, m_near (sW h 1178 w) d a b = m_near h d a b := fun a b => m_near_cg (fun k => rW_ne (by omega)) (rW_ne (by decide))
    have hdc : m_doc (sW h 1178 w) d := m_doc_cg hd (fun k => rW_ne (by omega)) (rW_ne (by decide))
    generalize hk : q_pos (m_row h q) j = k at *
    generalize hv : m_sv h q d j = v at *
    generalize ht : q_ht (m_row h q) j = t at *
    have ek1 : ((k : Int) + 1).toNat = k + 1 := by omega
    have ek2 : ((k : Int) + 2).toNat = k + 2 := by omega
    unfold m_st at es
    unfold q_dt at eh
    -- a leaf
    have leaf : ∀ x, x = m_leaf h q d k → m_row h q k ≤ 3 → wp mX12_worth 3 0 0 (QI fun x h' => x = m_worth h q d ∧ ∃ w, h' = sW h 1178 w) 13 [some (vr 89), some (vi q), some (vi d), some (vr (1170 + q.toNat)), some (vi (t + 1)), some (vi (q_pos (m_row h q) (j + 1)))] [] (sI (sW h 1178 w) 1178 t.toNat x) := by
      intro x hx c3
      rw [if_pos c3] at es eh
      rw [sI_sW (g' := updF w t.toNat x) (fun i => rfl), ← eh]
      refine ih _ fun i hi => ?_
      rw [es, hx]
      unfold updF
      split
      · rfl
      · exact hw i (by omega)
    have nots : ∀ x, x = (if v (t.toNat - 1) = 0 then 1 else 0) → m_row h q k = 4 → wp mX12_worth 3 0 0 (QI fun x h' => x = m_worth h q d ∧ ∃ w, h' = sW h 1178 w) 13 [some (vr 89), some (vi q), some (vi d), some (vr (1170 + q.toNat)), some (vi t), some (vi (q_pos (m_row h q) (j + 1)))] [] (sI (sW h 1178 w) 1178 (t - 1).toNat x) := by
      intro x hx c4
      have h1 := h4 c4
      rw [if_neg (by omega), if_pos c4] at es eh
      rw [sI_sW (g' := updF w (t.toNat - 1) x) (fun i => by unfold updF; rw [show (t - 1).toNat = t.toNat - 1 by omega]), show t = q_ht (m_row h q) (j + 1) by omega]
      refine ih _ fun i hi => ?_
      rw [es, hx, show q_ht (m_row h q) (j + 1) = t by omega]
      unfold updF
      split
      · rfl
      · exact hw i (by omega)
    have bin : ∀ x, m_sv h q d (j + 1) = updF v (t.toNat - 2) x → 5 ≤ m_row h q k → wp mX12_worth 3 0 0 (QI fun x h' => x = m_worth h q d ∧ ∃ w, h' = sW h 1178 w) 13 [some (vr 89), some (vi q), some (vi d), some (vr (1170 + q.toNat)), some (vi (t + -1)), some (vi (q_pos (m_row h q) (j + 1)))] [] (sI (sW h 1178 w) 1178 (t + -1 - 1).toNat x) := by
      intro x hx c5
      have h1 := h5 c5
      rw [if_neg (by omega), if_neg (by omega)] at eh
      rw [sI_sW (g' := updF w (t.toNat - 2) x) (fun i => by unfold updF; rw [show (t + -1 - 1).toNat = t.toNat - 2 by omega]), ← eh]
      refine ih _ fun i hi => ?_
      rw [hx]
      unfold updF
      split
      · rfl
      · exact hw i (by omega)
    have ol : ∀ n : Nat, q_ol (m_row h q) k = n → (k : Int) + (n : Int) = ((q_pos (m_row h q) (j + 1) : Nat) : Int) := fun n e => by omega
    refine t_X12_worth_13 (h := sW h 1178 w) (by exact hL) (by exact hA) ?_
    simp only [rR, Int.toNat_natCast, ek1, ek2, eT, eN]
    rw [rW_ne (by decide)]
    refine ⟨by omega, fun c => absurd c (by omega), fun _ => ⟨by omega, fun c0 => ?_, fun c0 => ⟨fun c1 => ?_, fun c1 => ⟨fun c2 => ?_, fun c2 => ⟨fun c3 => ?_, fun c3 => ⟨fun c4 => ?_, fun c4 => ⟨fun c5 => ?_, fun c5 => ?_⟩⟩⟩⟩⟩⟩⟩
    · have hw1 := ho.2.1 (by omega)
      have e := ol 2 (by unfold q_ol; rw [if_pos c0])
      refine ⟨by omega, by omega, by omega, ⟨hdc, by unfold m_bl; omega⟩, by omega, by omega, ?_⟩
      rw [show (k : Int) + 2 = ((q_pos (m_row h q) (j + 1) : Nat) : Int) from e]
      exact leaf _ (by unfold m_leaf; rw [if_pos c0]) (by omega)
    · have hw1 := ho.2.1 (by omega)
      have hw2 := ho.2.2.1 c1
      have e := ol 3 (by unfold q_ol; rw [if_neg c0, if_pos (Or.inl c1)])
      refine ⟨by omega, by omega, by omega, by omega, by omega, ⟨hdc, by unfold m_bl; omega⟩, by omega, by omega, ?_⟩
      rw [show (k : Int) + 3 = ((q_pos (m_row h q) (j + 1) : Nat) : Int) from e]
      exact leaf _ (by unfold m_leaf; rw [if_neg c0, if_pos c1]) (by omega)
    · have e := ol 3 (by unfold q_ol; rw [if_neg c0, if_pos (Or.inr c2)])
      refine ⟨by omega, by omega, by omega, by omega, by omega, hdc, by omega, by omega, ?_⟩
      rw [show (k : Int) + 3 = ((q_pos (m_row h q) (j + 1) : Nat) : Int) from e]
      exact leaf _ (by unfold m_leaf; rw [if_neg c0, if_neg c1, if_pos c2]) (by omega)
    · have h3 := ho.2.2.2.2 c3
      have e := ol (2 + (m_row h q (k + 1)).toNat) (by unfold q_ol; rw [if_neg c0, if_neg (by omega), if_pos c3])
      refine ⟨by omega, by omega, by omega, by omega, ?_⟩
      refine ⟨_, c_phraseTimes (h := sW h 1178 w) (by exact hL) (na := 128) (by exact hA) hdc ⟨by omega, h3.1, h3.2.1, by omega, by omega⟩, fun x h2 _ hx => ?_⟩
      obtain ⟨rfl, rfl⟩ := hx
      have e2 : m_ph (sW h 1178 w) d (1170 + q.toNat) ((k : Int) + 2) (m_row h q (k + 1)) = m_ph h d (1170 + q.toNat) ((k : Int) + 2) (m_row h q (k + 1)) := m_ph_cg (fun k => rW_ne (by omega)) (rW_ne (by decide)) (fun k => rW_ne (by omega))
      have hp := m_ph_bd (a := 1170 + q.toNat) (f := (k : Int) + 2) hd h3.1
      have m1 : 0 ≤ m_row h q (k + 1) * m_ph h d (1170 + q.toNat) ((k : Int) + 2) (m_row h q (k + 1)) := Int.mul_nonneg (by omega) hp.1
      have m2 : m_row h q (k + 1) * m_ph h d (1170 + q.toNat) ((k : Int) + 2) (m_row h q (k + 1)) ≤ 6 * 12 := Int.mul_le_mul (by omega) hp.2 hp.1 (by omega)
      rw [e2]
      have e3 : ∀ z, iH (sI (sW h 1178 w) 1178 t.toNat z) (1170 + q.toNat) (k + 1) = m_row h q (k + 1) := fun z => by rw [rI_ne (by omega), rR]
      rw [e3]
      refine ⟨by exact hL, by exact hA, by omega, by omega, by omega, by omega, ?_⟩
      rw [show (k : Int) + (2 + m_row h q (k + 1)) = ((q_pos (m_row h q) (j + 1) : Nat) : Int) by omega]
      exact leaf _ (by unfold m_leaf; rw [if_neg c0, if_neg c1, if_neg c2]) (by omega)
    · have h1 := h4 c4
      have e := ol 1 (by unfold q_ol; rw [if_neg c0, if_neg (by omega), if_neg c3])
      have ew : w (t - 1).toNat = v (t.toNat - 1) := by rw [show (t - 1).toNat = t.toNat - 1 by omega]; exact hw _ (by omega)
      rw [rW_same, ew, show (k : Int) + 1 = ((q_pos (m_row h q) (j + 1) : Nat) : Int) from e]
      exact ⟨by omega, by omega, fun c6 => ⟨by omega, nots _ (by rw [if_neg c6]) c4⟩, fun c6 => ⟨by omega, nots _ (by rw [if_pos c6]) c4⟩⟩
    · have h1 := h5 (by omega)
      have e := ol 1 (by unfold q_ol; rw [if_neg c0, if_neg (by omega), if_neg c3])
      have ew : w (t + -1 - 1).toNat = v (t.toNat - 2) := by rw [show (t + -1 - 1).toNat = t.toNat - 2 by omega]; exact hw _ (by omega)
      have ew1 : w (t + -1).toNat = v (t.toNat - 1) := by rw [show (t + -1).toNat = t.toNat - 1 by omega]; exact hw _ (by omega)
      have g1 : v (t.toNat - 1) ≤ sumN v t.toNat := sumN_ge (fun i hi => b1 i (by omega)) (by omega)
      have g2 : v (t.toNat - 2) ≤ sumN v t.toNat := sumN_ge (fun i hi => b1 i (by omega)) (by omega)
      have g3 := b1 (t.toNat - 1) (by omega)
      have g4 := b1 (t.toNat - 2) (by omega)
      rw [if_neg (by omega), if_neg c4, if_pos c5] at es
      rw [rW_same, rW_same, ew, ew1, show (k : Int) + 1 = ((q_pos (m_row h q) (j + 1) : Nat) : Int) from e]
      refine ⟨by omega, by omega, by omega, fun c6 => ⟨by omega, bin _ (by rw [es, if_pos c6]) (by omega)⟩, fun c6 => ⟨by omega, fun c7 => ⟨by omega, by omega, bin _ (by rw [es, if_neg c6, if_neg c7]) (by omega)⟩, fun c7 => ⟨by omega, bin _ (by rw [es, if_neg c6, if_pos c7]) (by omega)⟩⟩⟩
    · have h00 := ho.1
      have h1 := h5 (by omega)
      have e := ol 1 (by unfold q_ol; rw [if_neg c0, if_neg (by omega), if_neg c3])
      have ew : w (t + -1 - 1).toNat = v (t.toNat - 2) := by rw [show (t + -1 - 1).toNat = t.toNat - 2 by omega]; exact hw _ (by omega)
      have ew1 : w (t + -1).toNat = v (t.toNat - 1) := by rw [show (t + -1).toNat = t.toNat - 1 by omega]; exact hw _ (by omega)
      have g1 : v (t.toNat - 1) ≤ sumN v t.toNat := sumN_ge (fun i hi => b1 i (by omega)) (by omega)
      have g2 : v (t.toNat - 2) ≤ sumN v t.toNat := sumN_ge (fun i hi => b1 i (by omega)) (by omega)
      have g3 := b1 (t.toNat - 1) (by omega)
      have g4 := b1 (t.toNat - 2) (by omega)
      rw [if_neg (by omega), if_neg c4, if_neg c5] at es
      rw [rW_same, rW_same, ew, ew1, show (k : Int) + 1 = ((q_pos (m_row h q) (j + 1) : Nat) : Int) from e]
      exact ⟨by omega, by omega, by omega, by omega, by omega, by omega, bin _ es (by omega)⟩
