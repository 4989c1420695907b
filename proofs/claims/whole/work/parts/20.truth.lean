/-! TRUTHS AS NUMBERS, COUNTS, SUMS, FIRST PLACES -/
section
/-- a truth as a number -/
noncomputable def b01 (p : Prop) : Int := @ite _ p (Classical.propDecidable p) 1 0
theorem b01_t {p : Prop} (hp : p) : b01 p = 1 := by unfold b01; rw [if_pos hp]
theorem b01_f {p : Prop} (hp : ¬ p) : b01 p = 0 := by unfold b01; rw [if_neg hp]
theorem b01_01 (p : Prop) : b01 p = 0 ∨ b01 p = 1 := by
  by_cases hp : p
  · exact Or.inr (b01_t hp)
  · exact Or.inl (b01_f hp)
theorem b01_n {p : Prop} : b01 p = 0 ↔ ¬ p := ⟨fun e hp => by rw [b01_t hp] at e; omega, b01_f⟩
theorem b01_p {p : Prop} : ¬ b01 p = 0 ↔ p := ⟨fun e => Classical.byContradiction fun hp => e (b01_f hp), fun hp e => by rw [b01_t hp] at e; omega⟩
theorem b01_nn {p : Prop} : ¬ ¬ b01 p = 0 ↔ ¬ p := ⟨fun e hp => e (b01_p.mpr hp), fun hp e => hp (b01_p.mp e)⟩
theorem eQP {K : Option AV → AH → Prop} {x0 : Int} {h0 : AH} (k : K (some (vi x0)) h0) : ∀ v h, (∀ w, v = some w → okV w) → QI (fun x h' => x = x0 ∧ h' = h0) v h → K v h := by
  rintro v h ok ⟨x, rfl, rfl, rfl⟩
  exact k
noncomputable def cnt (p : Nat → Prop) : Nat → Int
  | 0 => 0
  | n + 1 => cnt p n + b01 (p n)
def sumN (f : Nat → Int) : Nat → Int
  | 0 => 0
  | n + 1 => sumN f n + f n
theorem cnt_bd (p : Nat → Prop) : ∀ n : Nat, 0 ≤ cnt p n ∧ cnt p n ≤ (n : Int)
  | 0 => ⟨Int.le_refl 0, Int.le_refl 0⟩
  | n + 1 => by
    have h1 := cnt_bd p n
    have h2 : cnt p (n + 1) = cnt p n + b01 (p n) := rfl
    rcases b01_01 (p n) with e | e <;> omega
theorem cnt_s {p : Nat → Prop} {n : Nat} (hp : p n) : cnt p (n + 1) = cnt p n + 1 := by show cnt p n + b01 (p n) = _; rw [b01_t hp]
theorem cnt_n {p : Nat → Prop} {n : Nat} (hp : ¬ p n) : cnt p (n + 1) = cnt p n := by show cnt p n + b01 (p n) = _; rw [b01_f hp]; omega
theorem cnt_cg {p q : Nat → Prop} : ∀ {n : Nat}, (∀ k, k < n → (p k ↔ q k)) → cnt p n = cnt q n
  | 0, _ => rfl
  | n + 1, h => by
    show cnt p n + b01 (p n) = cnt q n + b01 (q n)
    rw [cnt_cg (fun k hk => h k (by omega)), propext (h n (by omega))]
theorem sumN_bd (f : Nat → Int) (m : Int) (h0 : 0 ≤ m) : ∀ n : Nat, (∀ k, k < n → 0 ≤ f k ∧ f k ≤ m) → 0 ≤ sumN f n ∧ sumN f n ≤ (n : Int) * m
  | 0, _ => by simp [sumN]
  | n + 1, h => by
    have h1 := sumN_bd f m h0 n (fun k hk => h k (by omega))
    have h2 : sumN f (n + 1) = sumN f n + f n := rfl
    have h3 := h n (by omega)
    have h4 : ((n + 1 : Nat) : Int) * m = (n : Int) * m + m := by rw [Int.natCast_add, Int.add_mul]; simp
    omega
theorem sumN_cg {f g : Nat → Int} : ∀ {n : Nat}, (∀ k, k < n → f k = g k) → sumN f n = sumN g n
  | 0, _ => rfl
  | n + 1, h => by
    show sumN f n + f n = sumN g n + g n
    rw [sumN_cg (fun k hk => h k (by omega)), h n (by omega)]
/-- the first place that is so, or -1 -/
noncomputable def fst (p : Nat → Prop) : Nat → Int
  | 0 => -1
  | n + 1 => @ite _ (0 ≤ fst p n) (Classical.propDecidable _) (fst p n) (@ite _ (p n) (Classical.propDecidable _) (n : Int) (-1))
theorem fst_no {p : Nat → Prop} : ∀ {n : Nat}, (∀ k, k < n → ¬ p k) → fst p n = -1
  | 0, _ => rfl
  | n + 1, h => by
    unfold fst
    rw [fst_no (fun k hk => h k (by omega)), if_neg (by omega), if_neg (h n (by omega))]
theorem fst_at {p : Nat → Prop} : ∀ {n k : Nat}, k < n → (∀ j, j < k → ¬ p j) → p k → fst p n = k
  | 0, k, h, _, _ => by omega
  | n + 1, k, h, h1, h2 => by
    unfold fst
    by_cases e : k = n
    · subst e
      rw [fst_no h1, if_neg (by omega), if_pos h2]
    · rw [fst_at (by omega) h1 h2, if_pos (by omega)]
theorem fst_cs (p : Nat → Prop) : ∀ n : Nat, (fst p n = -1 ∧ ∀ k, k < n → ¬ p k) ∨ ∃ k, k < n ∧ fst p n = (k : Int) ∧ p k ∧ ∀ j, j < k → ¬ p j
  | 0 => Or.inl ⟨rfl, fun k hk => by omega⟩
  | n + 1 => by
    rcases fst_cs p n with ⟨e, h⟩ | ⟨k, hk, e, h1, h2⟩
    · by_cases hp : p n
      · exact Or.inr ⟨n, by omega, fst_at (by omega) h hp, hp, h⟩
      · refine Or.inl ⟨fst_no ?_, ?_⟩ <;>
        · intro k hk
          by_cases e2 : k = n
          · subst e2; exact hp
          · exact h k (by omega)
    · exact Or.inr ⟨k, by omega, fst_at (by omega) h2 h1, h1, h2⟩
theorem fst_bd (p : Nat → Prop) (n : Nat) : -1 ≤ fst p n ∧ fst p n < (n : Int) := by
  rcases fst_cs p n with ⟨e, -⟩ | ⟨k, hk, e, -⟩ <;> omega
theorem fst_cg {p q : Nat → Prop} : ∀ {n : Nat}, (∀ k, k < n → (p k ↔ q k)) → fst p n = fst q n
  | 0, _ => rfl
  | n + 1, h => by
    unfold fst
    rw [fst_cg (fun k hk => h k (by omega)), propext (h n (by omega))]
end
section
section MATH
variable {y z : MI} {d rc rs : Nat} {Q : Option AV → AH → Prop} {o pc q i : Nat} {es : List IE} {lo : List (Option AV)} {st : List AV} {h : AH}
def cMx (y : MI) (q i : Nat) (m : MethodName) (c : ByteArray) (n : Nat) : Prop := decode y.2.1 q = .ok (.invokestatic i, 3) ∧ Cond.methodLink y.1.cls i m ∈ gt ∧ Cond.static m ∈ gt ∧ Cond.initialized "java/lang/Math" ∈ gt ∧ Cond.code m c n (some .int) ∈ gt
theorem xMax (hb : ckB y o pc es q = true) (s : cMx y q i Lib.Math.max.name Lib.Math.max.code 2) (k : wpB es lo st h (fun lo stk h => pI stk fun z r => pI r fun x r => (1 ≤ d ∧ (r.map cat).sum ≤ 8) ∧ wp y d rc rs Q (q + 3) lo (vi (max x z) :: r) h)) : wp y d rc rs Q pc lo st h := by
  refine xB hb (wpB_mono ?_ k)
  intro lo st h hk
  obtain ⟨z, r1, rfl, k1⟩ := pI_e hk
  obtain ⟨x, r2, rfl, k2, k3⟩ := pI_e k1
  intro E p l e R s' m args below meth c' Z hC hR hdd1 hdd2 hb H locs ls cells slots hc hs hW hS hl hst hlo
  have hts := hC.2.2.2.2.1
  have hz : inr z := (ok_cons.mp hst).1
  have hx : inr x := (ok_cons.mp (ok_cons.mp hst).2).1
  have hm : inr (max x z) := by unfold inr at *; omega
  have e1 : (if Int32.ofInt x < Int32.ofInt z then Int32.ofInt z else Int32.ofInt x) = Int32.ofInt (max x z) := by
    by_cases c : x < z
    · rw [if_pos ((oi_lt hx hz).mpr c)]; congr 1; omega
    · rw [if_neg (fun q => c ((oi_lt hx hz).mp q))]; congr 1; omega
  refine va_mmax hC.1 hC.2.1 (hC.2.2.1.trans hl.1.symm) hC.2.2.2.1 (hts _ s.2.1) (hts _ s.2.2.1) (hts _ s.2.2.2.1) (hts _ s.2.2.2.2) (by omega) (by rw [cat_sum]; omega) (by omega) (by omega) s.1 ?_
  rw [e1]
  exact k3 E p l e R s' m args below meth c' Z hC hR hdd1 hdd2 hb H locs ls cells slots hc hs hW hS hl (ok_cons.mpr ⟨hm, (ok_cons.mp (ok_cons.mp hst).2).2⟩) hlo
theorem xMin (hb : ckB y o pc es q = true) (s : cMx y q i Lib.Math.min.name Lib.Math.min.code 2) (k : wpB es lo st h (fun lo stk h => pI stk fun z r => pI r fun x r => (1 ≤ d ∧ (r.map cat).sum ≤ 8) ∧ wp y d rc rs Q (q + 3) lo (vi (min x z) :: r) h)) : wp y d rc rs Q pc lo st h := by
  refine xB hb (wpB_mono ?_ k)
  intro lo st h hk
  obtain ⟨z, r1, rfl, k1⟩ := pI_e hk
  obtain ⟨x, r2, rfl, k2, k3⟩ := pI_e k1
  intro E p l e R s' m args below meth c' Z hC hR hdd1 hdd2 hb H locs ls cells slots hc hs hW hS hl hst hlo
  have hts := hC.2.2.2.2.1
  have hz : inr z := (ok_cons.mp hst).1
  have hx : inr x := (ok_cons.mp (ok_cons.mp hst).2).1
  have hm : inr (min x z) := by unfold inr at *; omega
  have e1 : (if Int32.ofInt z < Int32.ofInt x then Int32.ofInt z else Int32.ofInt x) = Int32.ofInt (min x z) := by
    by_cases c : z < x
    · rw [if_pos ((oi_lt hz hx).mpr c)]; congr 1; omega
    · rw [if_neg (fun q => c ((oi_lt hz hx).mp q))]; congr 1; omega
  refine va_mmin hC.1 hC.2.1 (hC.2.2.1.trans hl.1.symm) hC.2.2.2.1 (hts _ s.2.1) (hts _ s.2.2.1) (hts _ s.2.2.2.1) (hts _ s.2.2.2.2) (by omega) (by rw [cat_sum]; omega) (by omega) (by omega) s.1 ?_
  rw [e1]
  exact k3 E p l e R s' m args below meth c' Z hC hR hdd1 hdd2 hb H locs ls cells slots hc hs hW hS hl (ok_cons.mpr ⟨hm, (ok_cons.mp (ok_cons.mp hst).2).2⟩) hlo
theorem xAbs (hb : ckB y o pc es q = true) (s : cMx y q i Lib.Math.abs.name Lib.Math.abs.code 1) (k : wpB es lo st h (fun lo stk h => pI stk fun x r => (1 ≤ d ∧ (r.map cat).sum ≤ 8) ∧ inr (-x) ∧ wp y d rc rs Q (q + 3) lo (vi (max x (-x)) :: r) h)) : wp y d rc rs Q pc lo st h := by
  refine xB hb (wpB_mono ?_ k)
  intro lo st h hk
  obtain ⟨x, r2, rfl, k2, hn, k3⟩ := pI_e hk
  intro E p l e R s' m args below meth c' Z hC hR hdd1 hdd2 hb H locs ls cells slots hc hs hW hS hl hst hlo
  have hts := hC.2.2.2.2.1
  have hx : inr x := (ok_cons.mp hst).1
  have hm : inr (max x (-x)) := by unfold inr at *; omega
  have e1 : (if 0 ≤ Int32.ofInt x then Int32.ofInt x else 0 - Int32.ofInt x) = Int32.ofInt (max x (-x)) := by
    rw [oi_0]
    by_cases c : 0 ≤ x
    · rw [if_pos ((oi_le in_0 hx).mpr c)]; congr 1; omega
    · rw [if_neg (fun q => c ((oi_le in_0 hx).mp q)), oi_sub]; congr 1; omega
  refine va_mabs hC.1 hC.2.1 (hC.2.2.1.trans hl.1.symm) hC.2.2.2.1 (hts _ s.2.1) (hts _ s.2.2.1) (hts _ s.2.2.2.1) (hts _ s.2.2.2.2) (by omega) (by rw [cat_sum]; omega) (by omega) (by omega) s.1 ?_
  rw [e1]
  exact k3 E p l e R s' m args below meth c' Z hC hR hdd1 hdd2 hb H locs ls cells slots hc hs hW hS hl (ok_cons.mpr ⟨hm, (ok_cons.mp hst).2⟩) hlo
end MATH
end
