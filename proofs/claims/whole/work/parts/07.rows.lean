section WROWS
variable {y : MI} {d rc rs : Nat} {Q : Option AV → AH → Prop} {pc q : Nat} {lo : List (Option AV)} {st st' : List AV} {h : AH}
/-- an instruction that changes the operand stack alone -/
theorem wp_pure (k : wp y d rc rs Q q lo st' h) (hstep : ∀ (b : Nat) (p : Program) (l : Launch) (e : Env) (R : Room) (s : State) (m : MethodId) (args : Array Value) (below : List Frame) (meth : Method) (c : Code) (Z : State → Prop) (H : Heap) (locs : List Loc) (ls : Array Slot) (cells slots : Nat), p.tables.exec = Jvm.exec → c.code = y.2.1 → Lc b y.2.2.1 ls lo → (∀ v ∈ st, okV v) → W p l e R s m args below meth c H locs cells slots Z (F0 m q ls (st'.map (cv b))) → W p l e R s m args below meth c H locs cells slots Z (F0 m pc ls (st.map (cv b))))
    (hok : (∀ v ∈ st, okV v) → (∀ i v, lg lo i = some v → okV v) → ∀ v ∈ st', okV v) : wp y d rc rs Q pc lo st h := by
  intro E p l e R s m args below meth c Z hC hR hd1 hd2 hb H locs ls cells slots hc hs hW hS hl hst hlo
  exact hstep E.1 p l e R s m args below meth c Z H locs ls cells slots hC.1 hC.2.1 hl hst (k E p l e R s m args below meth c Z hC hR hd1 hd2 hb H locs ls cells slots hc hs hW hS hl (hok hst hlo) hlo)
theorem ok_cons {v : AV} {st : List AV} : (∀ w ∈ v :: st, okV w) ↔ okV v ∧ ∀ w ∈ st, okV w := List.forall_mem_cons
theorem oi_add (x z : Int) : Int32.ofInt x + Int32.ofInt z = Int32.ofInt (x + z) := (Int32.ofInt_add x z).symm
theorem oi_sub (x z : Int) : Int32.ofInt x - Int32.ofInt z = Int32.ofInt (x - z) := (Int32.ofInt_sub x z).symm
theorem oi_mul (x z : Int) : Int32.ofInt x * Int32.ofInt z = Int32.ofInt (x * z) := (Int32.ofInt_mul x z).symm
theorem oi_back (x : Int32) : Int32.ofInt x.toInt = x := Int32.ofInt_toInt x
theorem oi_in (x : Int32) : inr x.toInt := ⟨Int32.le_toInt x, Int32.toInt_lt x⟩
theorem oi_to {x : Int} (h : inr x) : (Int32.ofInt x).toInt = x := Int32.toInt_ofInt_of_le h.1 h.2
theorem oi_lt {x z : Int} (hx : inr x) (hz : inr z) : Int32.ofInt x < Int32.ofInt z ↔ x < z := by rw [Int32.lt_iff_toInt_lt, oi_to hx, oi_to hz]
theorem oi_le {x z : Int} (hx : inr x) (hz : inr z) : Int32.ofInt x ≤ Int32.ofInt z ↔ x ≤ z := by rw [Int32.le_iff_toInt_le, oi_to hx, oi_to hz]
theorem oi_eq {x z : Int} (hx : inr x) (hz : inr z) : Int32.ofInt x = Int32.ofInt z ↔ x = z := ⟨fun e => by rw [← oi_to hx, ← oi_to hz, e], fun e => by rw [e]⟩
theorem oi_0 : (0 : Int32) = Int32.ofInt 0 := rfl
theorem in_0 : inr 0 := by unfold inr; omega
theorem oi_nat {x : Int} (hx : inr x) : (Int32.ofInt x).toNatClampNeg = x.toNat := by
  show (Int32.ofInt x).toInt.toNat = x.toNat
  rw [oi_to hx]
theorem w_push (v : Int) (hv : inr v) {i : Instr} {n : Nat} (hd : decode y.2.1 pc = .ok (i, n)) (hi : (i = .iconst v ∧ n = 1) ∨ (∃ u : Int, i = .bipush u ∧ n = 2 ∧ (Int8.ofInt u).toInt32 = Int32.ofInt v) ∨ (∃ u : Int, i = .sipush u ∧ n = 3 ∧ (Int16.ofInt u).toInt32 = Int32.ofInt v))
    (k : wp y d rc rs Q (pc + n) lo (vi v :: st) h) : wp y d rc rs Q pc lo st h := by
  refine wp_pure k ?_ (fun h1 _ => ok_cons.mpr ⟨hv, h1⟩)
  intro b p l e R s m args below meth c Z H locs ls cells slots hx hb hl hst kk
  rcases hi with ⟨rfl, rfl⟩ | ⟨u, rfl, rfl, hu⟩ | ⟨u, rfl, rfl, hu⟩
  · exact lv_iconst hx hb hd rfl kk
  · exact lv_bipush hx hb hd hu kk
  · exact lv_sipush hx hb hd hu kk
theorem w_lconst {f : Fin 2} {v : Int64} (hd : decode y.2.1 pc = .ok (.lconst f, 1)) (hv : Int64.ofNat (f : Nat) = v) (k : wp y d rc rs Q (pc + 1) lo (vl v :: st) h) : wp y d rc rs Q pc lo st h :=
  wp_pure k (fun b p l e R s m args below meth c Z H locs ls cells slots hx hb hl hst kk => lv_lconst hx hb hd hv kk) (fun h1 _ => ok_cons.mpr ⟨trivial, h1⟩)
theorem w_iload {i : Nat} {x : Int} {ins : Instr} {n : Nat} (hd : decode y.2.1 pc = .ok (ins, n)) (hi : (∃ k : Fin 4, ins = .iload_n k ∧ (k : Nat) = i ∧ n = 1) ∨ (ins = .iload i ∧ n = 2)) (hl : lg lo i = some (vi x)) (k : wp y d rc rs Q (pc + n) lo (vi x :: st) h) : wp y d rc rs Q pc lo st h := by
  refine wp_pure k ?_ (fun h1 h2 => ok_cons.mpr ⟨h2 i _ hl, h1⟩)
  intro b p l e R s m args below meth c Z H locs ls cells slots hx hb hL hst kk
  rcases hi with ⟨f, rfl, hf, rfl⟩ | ⟨rfl, rfl⟩
  · exact lv_iload_n hx hb hd hf (hL.get hl) kk
  · exact lv_iload hx hb hd (hL.get hl) kk
theorem w_aload {i : Nat} {x : Nat} {ins : Instr} {n : Nat} (hd : decode y.2.1 pc = .ok (ins, n)) (hi : (∃ k : Fin 4, ins = .aload_n k ∧ (k : Nat) = i ∧ n = 1) ∨ (ins = .aload i ∧ n = 2)) (hl : lg lo i = some (vr x)) (k : wp y d rc rs Q (pc + n) lo (vr x :: st) h) : wp y d rc rs Q pc lo st h := by
  refine wp_pure k ?_ (fun h1 h2 => ok_cons.mpr ⟨h2 i _ hl, h1⟩)
  intro b p l e R s m args below meth c Z H locs ls cells slots hx hb hL hst kk
  rcases hi with ⟨f, rfl, hf, rfl⟩ | ⟨rfl, rfl⟩
  · exact lv_aload_n hx hb hd hf (hL.get hl) kk
  · exact lv_aload hx hb hd (hL.get hl) kk
theorem w_lload {i : Nat} {x : Int64} {f : Fin 4} (hd : decode y.2.1 pc = .ok (.lload_n f, 1)) (hf : (f : Nat) = i) (hl : lg lo i = some (vl x)) (k : wp y d rc rs Q (pc + 1) lo (vl x :: st) h) : wp y d rc rs Q pc lo st h :=
  wp_pure k (fun b p l e R s m args below meth c Z H locs ls cells slots hx hb hL hst kk => lv_lload_n hx hb hd hf (hL.get hl) kk) (fun h1 _ => ok_cons.mpr ⟨trivial, h1⟩)
theorem lst_ok {i : Nat} {v : AV} (hv : okV v) (h : ∀ i v, lg lo i = some v → okV v) : ∀ j w, lg (lst lo i (some v)) j = some w → okV w := fun j w hw => by
  rcases lg_lst _ _ _ _ _ hw with ⟨-, e⟩ | ⟨-, e⟩
  · cases e; exact hv
  · exact h j w e
theorem w_istore {i : Nat} {x : Int} {ins : Instr} {n : Nat} (hd : decode y.2.1 pc = .ok (ins, n)) (hi : (∃ k : Fin 4, ins = .istore_n k ∧ (k : Nat) = i ∧ n = 1) ∨ (ins = .istore i ∧ n = 2)) (hn : i < y.2.2.1) (hno : noL lo i = true) (k : wp y d rc rs Q (pc + n) (lst lo i (some (vi x))) st h) : wp y d rc rs Q pc lo (vi x :: st) h := by
  intro E p l e R s m args below meth c Z hC hR hd1 hd2 hb H locs ls cells slots hc hs hW hS hl hst hlo
  rcases hi with ⟨f, rfl, hf, rfl⟩ | ⟨rfl, rfl⟩
  · exact lv_istore_n hC.1 hC.2.1 hd hf hl hn rfl (fun ls' hl' => k E p l e R s m args below meth c Z hC hR hd1 hd2 hb H locs ls' cells slots hc hs hW hS (Lc.of1 (v := vi x) hno hl') (ok_cons.mp hst).2 (lst_ok (ok_cons.mp hst).1 hlo))
  · exact lv_istore hC.1 hC.2.1 hd hl hn rfl (fun ls' hl' => k E p l e R s m args below meth c Z hC hR hd1 hd2 hb H locs ls' cells slots hc hs hW hS (Lc.of1 (v := vi x) hno hl') (ok_cons.mp hst).2 (lst_ok (ok_cons.mp hst).1 hlo))
theorem w_astore {i : Nat} {x : Nat} {ins : Instr} {n : Nat} (hd : decode y.2.1 pc = .ok (ins, n)) (hi : (∃ k : Fin 4, ins = .astore_n k ∧ (k : Nat) = i ∧ n = 1) ∨ (ins = .astore i ∧ n = 2)) (hn : i < y.2.2.1) (hno : noL lo i = true) (k : wp y d rc rs Q (pc + n) (lst lo i (some (vr x))) st h) : wp y d rc rs Q pc lo (vr x :: st) h := by
  intro E p l e R s m args below meth c Z hC hR hd1 hd2 hb H locs ls cells slots hc hs hW hS hl hst hlo
  rcases hi with ⟨f, rfl, hf, rfl⟩ | ⟨rfl, rfl⟩
  · exact lv_astore_n hC.1 hC.2.1 hd hf hl hn rfl (fun ls' hl' => k E p l e R s m args below meth c Z hC hR hd1 hd2 hb H locs ls' cells slots hc hs hW hS (Lc.of1 (v := vr x) hno hl') (ok_cons.mp hst).2 (lst_ok (ok_cons.mp hst).1 hlo))
  · exact lv_astore hC.1 hC.2.1 hd hl hn rfl (fun ls' hl' => k E p l e R s m args below meth c Z hC hR hd1 hd2 hb H locs ls' cells slots hc hs hW hS (Lc.of1 (v := vr x) hno hl') (ok_cons.mp hst).2 (lst_ok (ok_cons.mp hst).1 hlo))
theorem w_lstore {i : Nat} {x : Int64} {f : Fin 4} (hd : decode y.2.1 pc = .ok (.lstore_n f, 1)) (hf : (f : Nat) = i) (hn : i + 1 < y.2.2.1) (hno : noL lo i = true) (k : wp y d rc rs Q (pc + 1) (lst (lst lo (i + 1) none) i (some (vl x))) st h) : wp y d rc rs Q pc lo (vl x :: st) h := by
  intro E p l e R s m args below meth c Z hC hR hd1 hd2 hb H locs ls cells slots hc hs hW hS hl hst hlo
  refine lv_lstore_n hC.1 hC.2.1 hd hf hl hn rfl (fun ls' hl' => k E p l e R s m args below meth c Z hC hR hd1 hd2 hb H locs ls' cells slots hc hs hW hS (Lc.of2 (v := vl x) hno hl') (ok_cons.mp hst).2 (lst_ok (ok_cons.mp hst).1 ?_))
  intro j w hw
  rcases lg_lst _ _ _ _ _ hw with ⟨-, e⟩ | ⟨-, e⟩
  · cases e
  · exact hlo j w e
theorem w_iinc {i : Nat} {n x : Int} (hd : decode y.2.1 pc = .ok (.iinc i n, 3)) (hx : lg lo i = some (vi x)) (hr : inr (x + n)) (hn : i < y.2.2.1) (hno : noL lo i = true) (k : wp y d rc rs Q (pc + 3) (lst lo i (some (vi (x + n)))) st h) : wp y d rc rs Q pc lo st h := by
  intro E p l e R s m args below meth c Z hC hR hd1 hd2 hb H locs ls cells slots hc hs hW hS hl hst hlo
  have hm : (i, Value.int (Int32.ofInt x)) ∈ lvs E.1 lo := lvs_mem.mpr ⟨_, hx, rfl⟩
  obtain ⟨kk, hk⟩ := List.mem_iff_getElem?.mp hm
  exact lv_iinc hC.1 hC.2.1 hd hl hk (oi_add x n) hn rfl (fun ls' hl' => k E p l e R s m args below meth c Z hC hR hd1 hd2 hb H locs ls' cells slots hc hs hW hS (Lc.of1 (v := vi (x + n)) hno hl') hst (lst_ok hr hlo))
theorem w_bin {ins : Instr} {x z r : Int} (hr : inr r) (hrow : ∀ (p : Program) (l : Launch) (e : Env) (R : Room) (s : State) (m : MethodId) (args : Array Value) (below : List Frame) (meth : Method) (c : Code) (Z : State → Prop) (H : Heap) (locs : List Loc) (ls : Array Slot) (cells slots : Nat) (rest : List Value), p.tables.exec = Jvm.exec → c.code = y.2.1 → inr x → inr z → W p l e R s m args below meth c H locs cells slots Z (F0 m (pc + 1) ls (.int (Int32.ofInt r) :: rest)) → W p l e R s m args below meth c H locs cells slots Z (F0 m pc ls (.int (Int32.ofInt z) :: .int (Int32.ofInt x) :: rest)))
    (k : wp y d rc rs Q (pc + 1) lo (vi r :: st) h) : wp y d rc rs Q pc lo (vi z :: vi x :: st) h :=
  wp_pure k (fun b p l e R s m args below meth c Z H locs ls cells slots hx hb hL hst kk => hrow p l e R s m args below meth c Z H locs ls cells slots _ hx hb (ok_cons.mp (ok_cons.mp hst).2).1 (ok_cons.mp hst).1 kk) (fun h1 _ => ok_cons.mpr ⟨hr, (ok_cons.mp (ok_cons.mp h1).2).2⟩)
theorem w_iadd {x z : Int} (hd : decode y.2.1 pc = .ok (.iadd, 1)) (hr : inr (x + z)) (k : wp y d rc rs Q (pc + 1) lo (vi (x + z) :: st) h) : wp y d rc rs Q pc lo (vi z :: vi x :: st) h :=
  w_bin (ins := .iadd) hr (fun p l e R s m args below meth c Z H locs ls cells slots rest hx hb _ _ kk => lv_iadd hx hb hd (by rw [oi_add]; exact kk)) k
theorem w_isub {x z : Int} (hd : decode y.2.1 pc = .ok (.isub, 1)) (hr : inr (x - z)) (k : wp y d rc rs Q (pc + 1) lo (vi (x - z) :: st) h) : wp y d rc rs Q pc lo (vi z :: vi x :: st) h :=
  w_bin (ins := .isub) hr (fun p l e R s m args below meth c Z H locs ls cells slots rest hx hb _ _ kk => lv_isub hx hb hd (by rw [oi_sub]; exact kk)) k
theorem w_imul {x z : Int} (hd : decode y.2.1 pc = .ok (.imul, 1)) (hr : inr (x * z)) (k : wp y d rc rs Q (pc + 1) lo (vi (x * z) :: st) h) : wp y d rc rs Q pc lo (vi z :: vi x :: st) h :=
  w_bin (ins := .imul) hr (fun p l e R s m args below meth c Z H locs ls cells slots rest hx hb _ _ kk => lv_imul hx hb hd (by rw [oi_mul]; exact kk)) k
theorem oi_div {x z : Int} (hx : inr x) (hz : inr z) (h0 : 0 ≤ x) (h1 : 0 < z) : Int32.ofInt x / Int32.ofInt z = Int32.ofInt (x / z) := by
  have hle : x / z ≤ x := Int.ediv_le_self _ h0
  have hge : 0 ≤ x / z := Int.ediv_nonneg h0 (by omega)
  have hr : inr (x / z) := by unfold inr at *; omega
  have hn : ¬ ((Int32.ofInt x).toInt = -2147483648 ∧ (Int32.ofInt z).toInt = -1) := by rw [oi_to hx, oi_to hz]; omega
  have e : (Int32.ofInt x / Int32.ofInt z).toInt = (Int32.ofInt (x / z)).toInt := by
    rw [Int32.toInt_div, oi_to hx, oi_to hz, oi_to hr, Int.tdiv_eq_ediv_of_nonneg h0]
    rw [Int.bmod_eq_of_le] <;> (unfold inr at hr; simp [Int32.size]; omega)
  rw [← oi_back (Int32.ofInt x / Int32.ofInt z), e, oi_back]
theorem w_idiv {x z : Int} (hd : decode y.2.1 pc = .ok (.idiv, 1)) (h0 : 0 ≤ x) (h1 : 0 < z) (hr : inr (x / z)) (k : wp y d rc rs Q (pc + 1) lo (vi (x / z) :: st) h) : wp y d rc rs Q pc lo (vi z :: vi x :: st) h :=
  w_bin (ins := .idiv) hr (fun p l e R s m args below meth c Z H locs ls cells slots rest hx hb ix iz kk => lv_idiv hx hb hd (fun e0 => by rw [oi_0, oi_eq iz in_0] at e0; omega) (by rw [oi_div ix iz h0 h1]; exact kk)) k
theorem w_irem {x z : Int} (hd : decode y.2.1 pc = .ok (.irem, 1)) (h0 : 0 ≤ x) (h1 : 0 < z) (hr : inr (x % z)) (k : wp y d rc rs Q (pc + 1) lo (vi (x % z) :: st) h) : wp y d rc rs Q pc lo (vi z :: vi x :: st) h :=
  w_bin (ins := .irem) hr (fun p l e R s m args below meth c Z H locs ls cells slots rest hx hb ix iz kk => lv_irem hx hb hd (fun e0 => by rw [oi_0, oi_eq iz in_0] at e0; omega) (by rw [oi_div ix iz h0 h1, oi_mul, oi_sub, show x - x / z * z = x % z by rw [Int.emod_def, Int.mul_comm]]; exact kk)) k
theorem w_iand {x z : Int} (hd : decode y.2.1 pc = .ok (.iand, 1)) (k : wp y d rc rs Q (pc + 1) lo (vi (Int32.ofInt x &&& Int32.ofInt z).toInt :: st) h) : wp y d rc rs Q pc lo (vi z :: vi x :: st) h :=
  w_bin (ins := .iand) (oi_in _) (fun p l e R s m args below meth c Z H locs ls cells slots rest hx hb _ _ kk => lv_iand hx hb hd (by rw [oi_back] at kk; exact kk)) k
theorem w_ior {x z : Int} (hd : decode y.2.1 pc = .ok (.ior, 1)) (k : wp y d rc rs Q (pc + 1) lo (vi (Int32.ofInt x ||| Int32.ofInt z).toInt :: st) h) : wp y d rc rs Q pc lo (vi z :: vi x :: st) h :=
  w_bin (ins := .ior) (oi_in _) (fun p l e R s m args below meth c Z H locs ls cells slots rest hx hb _ _ kk => lv_ior hx hb hd (by rw [oi_back] at kk; exact kk)) k
theorem w_ishl {x z : Int} (hd : decode y.2.1 pc = .ok (.ishl, 1)) (k : wp y d rc rs Q (pc + 1) lo (vi (Int32.ofInt x <<< (Int32.ofInt z &&& 31)).toInt :: st) h) : wp y d rc rs Q pc lo (vi z :: vi x :: st) h :=
  w_bin (ins := .ishl) (oi_in _) (fun p l e R s m args below meth c Z H locs ls cells slots rest hx hb _ _ kk => lv_ishl hx hb hd (by rw [oi_back] at kk; exact kk)) k
theorem w_i2b {x : Int} (hd : decode y.2.1 pc = .ok (.i2b, 1)) (k : wp y d rc rs Q (pc + 1) lo (vi ((Int32.ofInt x).toInt8.toInt32).toInt :: st) h) : wp y d rc rs Q pc lo (vi x :: st) h :=
  wp_pure k (fun b p l e R s m args below meth c Z H locs ls cells slots hx hb hL hst kk => lv_i2b hx hb hd (oi_back _).symm kk) (fun h1 _ => ok_cons.mpr ⟨oi_in _, (ok_cons.mp h1).2⟩)
theorem oi_neg (x : Int) : -Int32.ofInt x = Int32.ofInt (-x) := (Int32.ofInt_neg x).symm
theorem w_ineg {x : Int} (hd : decode y.2.1 pc = .ok (.ineg, 1)) (hr : inr (-x)) (k : wp y d rc rs Q (pc + 1) lo (vi (-x) :: st) h) : wp y d rc rs Q pc lo (vi x :: st) h :=
  wp_pure k (fun b p l e R s m args below meth c Z H locs ls cells slots hx hb hL hst kk => lv_ineg hx hb hd (by rw [oi_neg]; exact kk)) (fun h1 _ => ok_cons.mpr ⟨hr, (ok_cons.mp h1).2⟩)
theorem w_l2i {x : Int64} (hd : decode y.2.1 pc = .ok (.l2i, 1)) (k : wp y d rc rs Q (pc + 1) lo (vi (x.toInt32).toInt :: st) h) : wp y d rc rs Q pc lo (vl x :: st) h :=
  wp_pure k (fun b p l e R s m args below meth c Z H locs ls cells slots hx hb hL hst kk => lv_l2i hx hb hd (oi_back _).symm kk) (fun h1 _ => ok_cons.mpr ⟨oi_in _, (ok_cons.mp h1).2⟩)
theorem w_ladd {x z : Int64} (hd : decode y.2.1 pc = .ok (.ladd, 1)) (k : wp y d rc rs Q (pc + 1) lo (vl (x + z) :: st) h) : wp y d rc rs Q pc lo (vl z :: vl x :: st) h :=
  wp_pure k (fun b p l e R s m args below meth c Z H locs ls cells slots hx hb hL hst kk => lv_ladd hx hb hd kk) (fun h1 _ => ok_cons.mpr ⟨trivial, (ok_cons.mp (ok_cons.mp h1).2).2⟩)
theorem w_lsub {x z : Int64} (hd : decode y.2.1 pc = .ok (.lsub, 1)) (k : wp y d rc rs Q (pc + 1) lo (vl (x - z) :: st) h) : wp y d rc rs Q pc lo (vl z :: vl x :: st) h :=
  wp_pure k (fun b p l e R s m args below meth c Z H locs ls cells slots hx hb hL hst kk => lv_lsub hx hb hd kk) (fun h1 _ => ok_cons.mpr ⟨trivial, (ok_cons.mp (ok_cons.mp h1).2).2⟩)
theorem w_land {x z : Int64} (hd : decode y.2.1 pc = .ok (.land, 1)) (k : wp y d rc rs Q (pc + 1) lo (vl (x &&& z) :: st) h) : wp y d rc rs Q pc lo (vl z :: vl x :: st) h :=
  wp_pure k (fun b p l e R s m args below meth c Z H locs ls cells slots hx hb hL hst kk => lv_land hx hb hd kk) (fun h1 _ => ok_cons.mpr ⟨trivial, (ok_cons.mp (ok_cons.mp h1).2).2⟩)
theorem w_lor {x z : Int64} (hd : decode y.2.1 pc = .ok (.lor, 1)) (k : wp y d rc rs Q (pc + 1) lo (vl (x ||| z) :: st) h) : wp y d rc rs Q pc lo (vl z :: vl x :: st) h :=
  wp_pure k (fun b p l e R s m args below meth c Z H locs ls cells slots hx hb hL hst kk => lv_lor hx hb hd kk) (fun h1 _ => ok_cons.mpr ⟨trivial, (ok_cons.mp (ok_cons.mp h1).2).2⟩)
def shl6 (x : Int64) (z : Int) : Int64 := x <<< ((Int32.ofInt z).toInt64 &&& 63)
def shr6 (x : Int64) (z : Int) : Int64 := (x.toUInt64 >>> ((Int32.ofInt z).toInt64.toUInt64 &&& Int64.toUInt64 63)).toInt64
theorem w_lshl {x : Int64} {z : Int} (hd : decode y.2.1 pc = .ok (.lshl, 1)) (k : wp y d rc rs Q (pc + 1) lo (vl (shl6 x z) :: st) h) : wp y d rc rs Q pc lo (vi z :: vl x :: st) h :=
  wp_pure k (fun b p l e R s m args below meth c Z H locs ls cells slots hx hb hL hst kk => lv_lshl hx hb hd rfl kk) (fun h1 _ => ok_cons.mpr ⟨trivial, (ok_cons.mp (ok_cons.mp h1).2).2⟩)
theorem w_lushr {x : Int64} {z : Int} (hd : decode y.2.1 pc = .ok (.lushr, 1)) (k : wp y d rc rs Q (pc + 1) lo (vl (shr6 x z) :: st) h) : wp y d rc rs Q pc lo (vi z :: vl x :: st) h :=
  wp_pure k (fun b p l e R s m args below meth c Z H locs ls cells slots hx hb hL hst kk => lv_lushr hx hb hd rfl kk) (fun h1 _ => ok_cons.mpr ⟨trivial, (ok_cons.mp (ok_cons.mp h1).2).2⟩)
theorem w_lcmp {x z : Int64} (hd : decode y.2.1 pc = .ok (.lcmp, 1)) (k : wp y d rc rs Q (pc + 1) lo (vi (lg_cmp x z).toInt :: st) h) : wp y d rc rs Q pc lo (vl z :: vl x :: st) h :=
  wp_pure k (fun b p l e R s m args below meth c Z H locs ls cells slots hx hb hL hst kk => W.lcmp hx hb hd (by rw [← oi_back (lg_cmp x z)]; exact kk)) (fun h1 _ => ok_cons.mpr ⟨oi_in _, (ok_cons.mp (ok_cons.mp h1).2).2⟩)
theorem w_dup {v : AV} (hd : decode y.2.1 pc = .ok (.dup, 1)) (hv : cat v = 1) (k : wp y d rc rs Q (pc + 1) lo (v :: v :: st) h) : wp y d rc rs Q pc lo (v :: st) h :=
  wp_pure k (fun b p l e R s m args below meth c Z H locs ls cells slots hx hb hL hst kk => lv_dup hx hb hd (by rw [cv_cat]; exact hv) kk) (fun h1 _ => ok_cons.mpr ⟨(ok_cons.mp h1).1, h1⟩)
theorem w_dup2 {v w : AV} (hd : decode y.2.1 pc = .ok (.dup2, 1)) (hv : cat v = 1) (hw : cat w = 1) (k : wp y d rc rs Q (pc + 1) lo (v :: w :: v :: w :: st) h) : wp y d rc rs Q pc lo (v :: w :: st) h :=
  wp_pure k (fun b p l e R s m args below meth c Z H locs ls cells slots hx hb hL hst kk => lv_dup2_11 hx hb hd (by rw [cv_cat]; exact hv) (by rw [cv_cat]; exact hw) kk) (fun h1 _ => ok_cons.mpr ⟨(ok_cons.mp h1).1, ok_cons.mpr ⟨(ok_cons.mp (ok_cons.mp h1).2).1, h1⟩⟩)
theorem w_pop {v : AV} (hd : decode y.2.1 pc = .ok (.pop, 1)) (hv : cat v = 1) (k : wp y d rc rs Q (pc + 1) lo st h) : wp y d rc rs Q pc lo (v :: st) h :=
  wp_pure k (fun b p l e R s m args below meth c Z H locs ls cells slots hx hb hL hst kk => lv_pop hx hb hd (by rw [cv_cat]; exact hv) kk) (fun h1 _ => (ok_cons.mp h1).2)
end WROWS
