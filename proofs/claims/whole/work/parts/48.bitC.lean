/-! bitCount itself -/
section
def sJl (i : Nat) (v : Int64) : Prop := Cond.constantLong "java/lang/Long" i v ∈ gt
theorem sJ1 : sJl 314 6148914691236517205 := gt_ok (List.mem_of_getElem? (i := 602) (by decide +kernel)) (by decide +kernel)
theorem sJ2 : sJl 316 3689348814741910323 := gt_ok (List.mem_of_getElem? (i := 603) (by decide +kernel)) (by decide +kernel)
theorem sJ3 : sJl 318 1085102592571150095 := gt_ok (List.mem_of_getElem? (i := 604) (by decide +kernel)) (by decide +kernel)
theorem w_ldc2 {y : MI} {d rc rs : Nat} {Q : Option AV → AH → Prop} {pc i : Nat} {lo : List (Option AV)} {st : List AV} {h : AH} {v : Int64} (hc : y.1.cls = "java/lang/Long") (hs : sJl i v) (hd : decode y.2.1 pc = .ok (.ldc2_w i, 3)) (k : wp y d rc rs Q (pc + 3) lo (vl v :: st) h) : wp y d rc rs Q pc lo st h := by
  intro E p l e R s m args below meth c' Z hC hR hd1 hd2 hb H locs ls cells slots hcc hss hW hS hl hst hlo
  refine lv_ldc2 hC.1 hC.2.1 hC.2.2.2.1 (by rw [hc]; exact hC.2.2.2.2.1 _ hs) hd ?_
  exact k E p l e R s m args below meth c' Z hC hR hd1 hd2 hb H locs ls cells slots hcc hss hW hS hl (ok_cons.mpr ⟨trivial, hst⟩) hlo
theorem c_bitCount {h : AH} {x : Int64} : Ct 0 0 0 mJ13_bitCount_95d88 [vl x] h (QI fun z h' => z = pcL x ∧ h' = h) := by
  refine Ct.of (by decide +kernel) (Nat.le_of_ble_eq_true rfl) ?_
  have ll : ∀ {pc : Nat} {v : Int64} {st : List AV}, decode mJ13_bitCount_95d88.2.1 pc = .ok (.lload_n 0, 1) → wp mJ13_bitCount_95d88 0 0 0 (QI fun z h' => z = pcL x ∧ h' = h) (pc + 1) [some (vl v), none] (vl v :: st) h → wp mJ13_bitCount_95d88 0 0 0 (QI fun z h' => z = pcL x ∧ h' = h) pc [some (vl v), none] st h := fun hd k => w_lload (i := 0) hd rfl rfl k
  have ls : ∀ {pc : Nat} {v w : Int64} {st : List AV}, decode mJ13_bitCount_95d88.2.1 pc = .ok (.lstore_n 0, 1) → wp mJ13_bitCount_95d88 0 0 0 (QI fun z h' => z = pcL x ∧ h' = h) (pc + 1) [some (vl v), none] st h → wp mJ13_bitCount_95d88 0 0 0 (QI fun z h' => z = pcL x ∧ h' = h) pc [some (vl w), none] (vl v :: st) h := fun hd k => w_lstore (i := 0) hd rfl (by decide) rfl k
  have pu : ∀ {pc : Nat} {lo : List (Option AV)} {st : List AV} (v : Int) {i : Instr} {n : Nat}, inr v → decode mJ13_bitCount_95d88.2.1 pc = .ok (i, n) → ((i = .iconst v ∧ n = 1) ∨ (∃ u : Int, i = .bipush u ∧ n = 2 ∧ (Int8.ofInt u).toInt32 = Int32.ofInt v) ∨ (∃ u : Int, i = .sipush u ∧ n = 3 ∧ (Int16.ofInt u).toInt32 = Int32.ofInt v)) → wp mJ13_bitCount_95d88 0 0 0 (QI fun z h' => z = pcL x ∧ h' = h) (pc + n) lo (vi v :: st) h → wp mJ13_bitCount_95d88 0 0 0 (QI fun z h' => z = pcL x ∧ h' = h) pc lo st h := fun v i n h1 h2 h3 k => w_push v h1 h2 h3 k
  show wp mJ13_bitCount_95d88 0 0 0 _ 0 [some (vl x), none] [] h
  refine ll (by decide +kernel) (ll (by decide +kernel) (pu 1 (by unfold inr; omega) (i := .iconst 1) (n := 1) (by decide +kernel) (Or.inl ⟨rfl, rfl⟩) (w_lushr (by decide +kernel) (w_ldc2 rfl sJ1 (by decide +kernel) (w_land (by decide +kernel) (w_lsub (by decide +kernel) (ls (by decide +kernel) ?_)))))))
  show wp mJ13_bitCount_95d88 0 0 0 _ 10 [some (vl (bcV1 x)), none] [] h
  refine ll (by decide +kernel) (w_ldc2 rfl sJ2 (by decide +kernel) (w_land (by decide +kernel) (ll (by decide +kernel) (pu 2 (by unfold inr; omega) (i := .iconst 2) (n := 1) (by decide +kernel) (Or.inl ⟨rfl, rfl⟩) (w_lushr (by decide +kernel) (w_ldc2 rfl sJ2 (by decide +kernel) (w_land (by decide +kernel) (w_ladd (by decide +kernel) (ls (by decide +kernel) ?_)))))))))
  show wp mJ13_bitCount_95d88 0 0 0 _ 24 [some (vl (bcV2 (bcV1 x))), none] [] h
  refine ll (by decide +kernel) (ll (by decide +kernel) (pu 4 (by unfold inr; omega) (i := .iconst 4) (n := 1) (by decide +kernel) (Or.inl ⟨rfl, rfl⟩) (w_lushr (by decide +kernel) (w_ladd (by decide +kernel) (w_ldc2 rfl sJ3 (by decide +kernel) (w_land (by decide +kernel) (ls (by decide +kernel) ?_)))))))
  show wp mJ13_bitCount_95d88 0 0 0 _ 34 [some (vl (bcV3 (bcV2 (bcV1 x)))), none] [] h
  refine ll (by decide +kernel) (ll (by decide +kernel) (pu 8 (by unfold inr; omega) (i := .bipush 8) (n := 2) (by decide +kernel) (Or.inr (Or.inl ⟨8, rfl, rfl, rfl⟩)) (w_lushr (by decide +kernel) (w_ladd (by decide +kernel) (ls (by decide +kernel) ?_)))))
  show wp mJ13_bitCount_95d88 0 0 0 _ 41 [some (vl (bcV4 (bcV3 (bcV2 (bcV1 x))))), none] [] h
  refine ll (by decide +kernel) (ll (by decide +kernel) (pu 16 (by unfold inr; omega) (i := .bipush 16) (n := 2) (by decide +kernel) (Or.inr (Or.inl ⟨16, rfl, rfl, rfl⟩)) (w_lushr (by decide +kernel) (w_ladd (by decide +kernel) (ls (by decide +kernel) ?_)))))
  show wp mJ13_bitCount_95d88 0 0 0 _ 48 [some (vl (bcV5 (bcV4 (bcV3 (bcV2 (bcV1 x)))))), none] [] h
  refine ll (by decide +kernel) (ll (by decide +kernel) (pu 32 (by unfold inr; omega) (i := .bipush 32) (n := 2) (by decide +kernel) (Or.inr (Or.inl ⟨32, rfl, rfl, rfl⟩)) (w_lushr (by decide +kernel) (w_ladd (by decide +kernel) (ls (by decide +kernel) ?_)))))
  show wp mJ13_bitCount_95d88 0 0 0 _ 55 [some (vl (bcV6 (bcV5 (bcV4 (bcV3 (bcV2 (bcV1 x))))))), none] [] h
  refine ll (by decide +kernel) (w_l2i (by decide +kernel) (pu 127 (by unfold inr; omega) (i := .bipush 127) (n := 2) (by decide +kernel) (Or.inr (Or.inl ⟨127, rfl, rfl, rfl⟩)) (w_iand (by decide +kernel) (w_iret rfl (by decide +kernel) ⟨_, rfl, bc_ok x, rfl⟩))))
end
