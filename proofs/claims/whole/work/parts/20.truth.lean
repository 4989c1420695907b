/-! TRUTHS AS NUMBERS, COUNTS, SUMS, FIRST PLACES -/
section
/-- a truth as a number -/
noncomputable def b01 (p : Prop) : Int := @ite _ p (Classical.propDecidable p) 1 0
theorem b01_t {p : Prop} (hp : p) : b01 p = 1 := by unfold b01; rw [if_pos hp]
theorem b01_f {p : Prop} (hp : ¬ p) : b01 p = 0 := by unfold b01; rw [if_neg hp]
theorem b01_01 (p : Prop) : b01 p = 0 ∨ b01 p = 1 := by
  by_cases hp : p
  · exact Or.inr (b01_t hp)
  · exact Or.inl (b01_f hp)
theorem b01_n {p : Prop} : b01 p = 0 ↔ ¬ p := ⟨fun e hp => by rw [b01_t hp] at e; omega, b01_f⟩
theorem b01_p {p : Prop} : ¬ b01 p = 0 ↔ p := ⟨fun e => Classical.byContradiction fun hp => e (b01_f hp), fun hp e => by rw [b01_t hp] at e; omega⟩
theorem b01_nn {p : Prop} : ¬ ¬ b01 p = 0 ↔ ¬ p := ⟨fun e hp => e (b01_p.mpr hp), fun hp e => hp (b01_p.mp e)⟩
theorem eQP {K : Option AV → AH → Prop} {x0 : Int} {h0 : AH} (k : K (some (vi x0)) h0) : ∀ v h, (∀ w, v = some w → okV w) → QI (fun x h' => x = x0 ∧ h' = h0) v h → K v h := by
  rintro v h ok ⟨x, rfl, rfl, rfl⟩
  exact k
noncomputable def cnt (p : Nat → Prop) : Nat → Int
  | 0 => 0
  | n + 1 => cnt p n + b01 (p n)
def sumN (f : Nat → Int) : Nat → Int
  | 0 => 0
  | n + 1 => sumN f n + f n
theorem cnt_bd (p : Nat → Prop) : ∀ n : Nat, 0 ≤ cnt p n ∧ cnt p n ≤ (n : Int)
  | 0 => ⟨Int.le_refl 0, Int.le_refl 0⟩
  | n + 1 => by
    have h1 := cnt_bd p n
    have h2 : cnt p (n + 1) = cnt p n + b01 (p n) := rfl
    rcases b01_01 (p n) with e | e <;> omega
theorem cnt_s {p : Nat → Prop} {n : Nat} (hp : p n) : cnt p (n + 1) = cnt p n + 1 := by show cnt p n + b01 (p n) = _; rw [b01_t hp]
theorem cnt_n {p : Nat → Prop} {n : Nat} (hp : ¬ p n) : cnt p (n + 1) = cnt p n := by show cnt p n + b01 (p n) = _; rw [b01_f hp]; omega
theorem cnt_cg {p q : Nat → Prop} : ∀ {n : Nat}, (∀ k, k < n → (p k ↔ q k)) → cnt p n = cnt q n
  | 0, _ => rfl
  | n + 1, h => by
    show cnt p n + b01 (p n) = cnt q n + b01 (q n)
    rw [cnt_cg (fun k hk => h k (by omega)), propext (h n (by omega))]
theorem sumN_bd (f : Nat → Int) (m : Int) (h0 : 0 ≤ m) : ∀ n : Nat, (∀ k, k < n → 0 ≤ f k ∧ f k ≤ m) → 0 ≤ sumN f n ∧ sumN f n ≤ (n : Int) * m
  | 0, _ => by simp [sumN]
  | n + 1, h => by
    have h1 := sumN_bd f m h0 n (fun k hk => h k (by omega))
    have h2 : sumN f (n + 1) = sumN f n + f n := rfl
    have h3 := h n (by omega)
    have h4 : ((n + 1 : Nat) : Int) * m = (n : Int) * m + m := by rw [Int.natCast_add, Int.add_mul]; simp
    omega
theorem sumN_cg {f g : Nat → Int} : ∀ {n : Nat}, (∀ k, k < n → f k = g k) → sumN f n = sumN g n
  | 0, _ => rfl
  | n + 1, h => by
    show sumN f n + f n = sumN g n + g n
    rw [sumN_cg (fun k hk => h k (by omega)), h n (by omega)]
/-- the first place that is so, or -1 -/
noncomputable def fst (p : Nat → Prop) : Nat → Int
  | 0 => -1
  | n + 1 => @ite _ (0 ≤ fst p n) (Classical.propDecidable _) (fst p n) (@ite _ (p n) (Classical.propDecidable _) (n : Int) (-1))
theorem fst_no {p : Nat → Prop} : ∀ {n : Nat}, (∀ k, k < n → ¬ p k) → fst p n = -1
  | 0, _ => rfl
  | n + 1, h => by
    unfold fst
    rw [fst_no (fun k hk => h k (by omega)), if_neg (by omega), if_neg (h n (by omega))]
theorem fst_at {p : Nat → Prop} : ∀ {n k : Nat}, k < n → (∀ j, j < k → ¬ p j) → p k → fst p n = k
  | 0, k, h, _, _ => by omega
  | n + 1, k, h, h1, h2 => by
    unfold fst
    by_cases e : k = n
    · subst e
      rw [fst_no h1, if_neg (by omega), if_pos h2]
    · rw [fst_at (by omega) h1 h2, if_pos (by omega)]
theorem fst_cs (p : Nat → Prop) : ∀ n : Nat, (fst p n = -1 ∧ ∀ k, k < n → ¬ p k) ∨ ∃ k, k < n ∧ fst p n = (k : Int) ∧ p k ∧ ∀ j, j < k → ¬ p j
  | 0 => Or.inl ⟨rfl, fun k hk => by omega⟩
  | n + 1 => by
    rcases fst_cs p n with ⟨e, h⟩ | ⟨k, hk, e, h1, h2⟩
    · by_cases hp : p n
      · exact Or.inr ⟨n, by omega, fst_at (by omega) h hp, hp, h⟩
      · refine Or.inl ⟨fst_no ?_, ?_⟩ <;>
        · intro k hk
          by_cases e2 : k = n
          · subst e2; exact hp
          · exact h k (by omega)
    · exact Or.inr ⟨k, by omega, fst_at (by omega) h2 h1, h1, h2⟩
theorem fst_bd (p : Nat → Prop) (n : Nat) : -1 ≤ fst p n ∧ fst p n < (n : Int) := by
  rcases fst_cs p n with ⟨e, -⟩ | ⟨k, hk, e, -⟩ <;> omega
theorem fst_cg {p q : Nat → Prop} : ∀ {n : Nat}, (∀ k, k < n → (p k ↔ q k)) → fst p n = fst q n
  | 0, _ => rfl
  | n + 1, h => by
    unfold fst
    rw [fst_cg (fun k hk => h k (by omega)), propext (h n (by omega))]
end
