/-! HOW MANY BITS OF A LONG: the JDK's own sum -/
section
/-- the masks, byte by byte -/
def m8 (b : Nat) : Nat → Nat
  | 0 => 0
  | k + 1 => b + 256 * m8 b k
theorem and_b {a m b k : Nat} (ha : a < 256) (hb : b < 256) : (a + 256 * m) &&& (b + 256 * k) = (a &&& b) + 256 * (m &&& k) := by
  have h1 : a &&& b < 256 := Nat.lt_of_le_of_lt Nat.and_le_left ha
  apply Nat.eq_of_testBit_eq
  intro i
  have e : ∀ x y : Nat, x + 256 * y = 2 ^ 8 * y + x := fun x y => by omega
  rw [Nat.testBit_and, e, e, e, Nat.testBit_two_pow_mul_add _ ha, Nat.testBit_two_pow_mul_add _ hb, Nat.testBit_two_pow_mul_add _ h1]
  split <;> rw [Nat.testBit_and]
def f1 (n m : Nat) : Nat := n - ((n / 2) &&& m)
def f2 (n m : Nat) : Nat := (n &&& m) + ((n / 4) &&& m)
def f3 (n m : Nat) : Nat := (n + n / 16) &&& m
def fA (k n : Nat) : Nat := f3 (f2 (f1 n (m8 85 k)) (m8 51 k)) (m8 15 k)
def c8 (b : Nat) : Nat := b % 2 + b / 2 % 2 + b / 4 % 2 + b / 8 % 2 + b / 16 % 2 + b / 32 % 2 + b / 64 % 2 + b / 128 % 2
theorem by1 : ∀ b, b < 256 → (b / 2) &&& 85 ≤ b ∧ (b / 2 + 128) &&& 85 = (b / 2) &&& 85 := by decide +kernel
def g1 (b : Nat) : Nat := b - ((b / 2) &&& 85)
theorem by2 : ∀ b, b < 256 → (b / 4 + 64) &&& 51 = (b / 4) &&& 51 ∧ (b / 4 + 128) &&& 51 = (b / 4) &&& 51 ∧ (b / 4 + 192) &&& 51 = (b / 4) &&& 51 := by decide +kernel
def g2 (b : Nat) : Nat := (g1 b &&& 51) + ((g1 b / 4) &&& 51)
theorem by3 : ∀ b, b < 256 → g2 b ≤ 68 ∧ g2 b % 16 ≤ 4 ∧ ∀ c, c < 5 → (g2 b + g2 b / 16 + 16 * c) &&& 15 = c8 b := by decide +kernel
theorem a1 {b m k : Nat} (hb : b < 256) : f1 (b + 256 * m) (m8 85 (k + 1)) = g1 b + 256 * f1 m (m8 85 k) ∧ g1 b < 256 := by
  have h := by1 b hb
  have h2 : (m / 2) &&& m8 85 k ≤ m / 2 := Nat.and_le_left
  have e : (b + 256 * m) / 2 = (b / 2 + 128 * (m % 2)) + 256 * (m / 2) := by omega
  have e2 : ((b + 256 * m) / 2) &&& m8 85 (k + 1) = ((b / 2) &&& 85) + 256 * ((m / 2) &&& m8 85 k) := by
    rw [e, show m8 85 (k + 1) = 85 + 256 * m8 85 k from rfl, and_b (by omega) (by omega)]
    congr 1
    rcases Nat.mod_two_eq_zero_or_one m with q | q <;> rw [q]
    · rfl
    · exact h.2
  unfold f1 g1
  rw [e2]
  omega
theorem a2 {b m k : Nat} (hb : b < 256) : f2 (g1 b + 256 * m) (m8 51 (k + 1)) = g2 b + 256 * f2 m (m8 51 k) := by
  have h0 : g1 b < 256 := by unfold g1; omega
  have h := by2 (g1 b) h0
  have e : (g1 b + 256 * m) / 4 = (g1 b / 4 + 64 * (m % 4)) + 256 * (m / 4) := by omega
  unfold f2
  rw [e, show m8 51 (k + 1) = 51 + 256 * m8 51 k from rfl, and_b h0 (by omega), and_b (by omega) (by omega)]
  have e3 : (g1 b / 4 + 64 * (m % 4)) &&& 51 = (g1 b / 4) &&& 51 := by
    rcases (show m % 4 = 0 ∨ m % 4 = 1 ∨ m % 4 = 2 ∨ m % 4 = 3 by omega) with q | q | q | q <;> rw [q]
    · rfl
    · exact h.1
    · exact h.2.1
    · exact h.2.2
  rw [e3]
  unfold g2
  omega
theorem a3 {b m k : Nat} (hb : b < 256) (hm : m % 16 ≤ 4) : f3 (g2 b + 256 * m) (m8 15 (k + 1)) = c8 b + 256 * f3 m (m8 15 k) := by
  have h := by3 b hb
  have e : (g2 b + 256 * m) + (g2 b + 256 * m) / 16 = (g2 b + g2 b / 16 + 16 * (m % 16)) + 256 * (m + m / 16) := by omega
  unfold f3
  rw [e, show m8 15 (k + 1) = 15 + 256 * m8 15 k from rfl, and_b (by omega) (by omega), h.2.2 _ (by omega)]
def T8 : Nat → Nat → Nat
  | 0, _ => 0
  | k + 1, n => c8 (n % 256) + T8 k (n / 256)
def D8 : Nat → Nat → Nat
  | 0, _ => 0
  | k + 1, n => n % 256 + D8 k (n / 256)
theorem f2_16 : ∀ (k n : Nat), n < 256 ^ k → f2 (f1 n (m8 85 k)) (m8 51 k) % 16 ≤ 4
  | 0, n, h => by
    have : n = 0 := by simpa using h
    subst this; decide
  | k + 1, n, h => by
    have h0 : n % 256 < 256 := by omega
    have e : n = n % 256 + 256 * (n / 256) := by omega
    rw [e, (a1 h0).1, a2 h0]
    have := (by3 _ h0).2.1
    omega
theorem fA_s {k n : Nat} (h : n < 256 ^ (k + 1)) : fA (k + 1) n = c8 (n % 256) + 256 * fA k (n / 256) := by
  have h0 : n % 256 < 256 := by omega
  have e : n = n % 256 + 256 * (n / 256) := by omega
  have h1 : n / 256 < 256 ^ k := by rw [Nat.pow_succ] at h; omega
  unfold fA
  conv => lhs; rw [e]
  rw [(a1 h0).1, a2 h0, a3 h0 (f2_16 k _ h1)]
theorem c8_le (b : Nat) : c8 b ≤ 8 := by unfold c8; omega
theorem fA_D : ∀ (k n : Nat), n < 256 ^ k → D8 k (fA k n) = T8 k n
  | 0, _, _ => rfl
  | k + 1, n, h => by
    have h1 : n / 256 < 256 ^ k := by rw [Nat.pow_succ] at h; omega
    have hc := c8_le (n % 256)
    have e := fA_s h
    show fA (k + 1) n % 256 + D8 k (fA (k + 1) n / 256) = c8 (n % 256) + T8 k (n / 256)
    rw [← fA_D k (n / 256) h1, e, show (c8 (n % 256) + 256 * fA k (n / 256)) / 256 = fA k (n / 256) by omega]
    omega
def dg : Nat → Nat → Prop
  | 0, n => n = 0
  | k + 1, n => n % 256 ≤ 8 ∧ dg k (n / 256)
theorem fA_dg : ∀ (k n : Nat), n < 256 ^ k → dg k (fA k n)
  | 0, n, h => by
    have : n = 0 := by simpa using h
    subst this; show fA 0 0 = 0; decide
  | k + 1, n, h => by
    have h1 : n / 256 < 256 ^ k := by rw [Nat.pow_succ] at h; omega
    have hc := c8_le (n % 256)
    have e := fA_s h
    refine ⟨by rw [e]; omega, ?_⟩
    rw [e, show (c8 (n % 256) + 256 * fA k (n / 256)) / 256 = fA k (n / 256) by omega]
    exact fA_dg k _ h1
theorem qd {a b m : Nat} (h : a < m) : (a + m * b) / m = b := by rw [Nat.add_mul_div_left _ _ (by omega), Nat.div_eq_of_lt h, Nat.zero_add]
theorem fold8p {p0 p1 p2 p3 p4 p5 p6 p7 x s1 s2 s3 : Nat} (hx : x = p0 + 256 * (p1 + 256 * (p2 + 256 * (p3 + 256 * (p4 + 256 * (p5 + 256 * (p6 + 256 * p7))))))) (h : p0 ≤ 8 ∧ p1 ≤ 8 ∧ p2 ≤ 8 ∧ p3 ≤ 8 ∧ p4 ≤ 8 ∧ p5 ≤ 8 ∧ p6 ≤ 8 ∧ p7 ≤ 8) (e1 : s1 = x + x / 256) (e2 : s2 = s1 + s1 / 65536) (e3 : s3 = s2 + s2 / 4294967296) : s3 % 128 = p0 + p1 + p2 + p3 + p4 + p5 + p6 + p7 := by
  have h1 : x / 256 = p1 + 256 * (p2 + 256 * (p3 + 256 * (p4 + 256 * (p5 + 256 * (p6 + 256 * p7))))) := by rw [hx]; exact qd (by omega)
  rw [h1, hx] at e1
  have h2 : s1 = (p0 + p1 + 256 * (p1 + p2)) + 65536 * (p2 + p3 + 256 * (p3 + p4 + 256 * (p4 + p5 + 256 * (p5 + p6 + 256 * (p6 + p7 + 256 * p7))))) := by rw [e1]; clear hx h1 e1 e2 e3 h; omega
  have h3 : s1 / 65536 = p2 + p3 + 256 * (p3 + p4 + 256 * (p4 + p5 + 256 * (p5 + p6 + 256 * (p6 + p7 + 256 * p7)))) := by rw [h2]; exact qd (by omega)
  rw [h3, h2] at e2
  have h4 : s2 = (p0 + p1 + p2 + p3 + 256 * (p1 + p2 + p3 + p4 + 256 * (p2 + p3 + p4 + p5 + 256 * (p3 + p4 + p5 + p6)))) + 4294967296 * (p4 + p5 + p6 + p7 + 256 * (p5 + p6 + p7 + 256 * (p6 + p7 + 256 * p7))) := by rw [e2]; clear hx h1 e1 e2 e3 h h2 h3; omega
  have h5 : s2 / 4294967296 = p4 + p5 + p6 + p7 + 256 * (p5 + p6 + p7 + 256 * (p6 + p7 + 256 * p7)) := by rw [h4]; exact qd (by omega)
  rw [h5, h4] at e3
  have h6 : s3 = (p0 + p1 + p2 + p3 + p4 + p5 + p6 + p7) + 128 * (2 * (p1 + p2 + p3 + p4 + p5 + p6 + p7 + 256 * (p2 + p3 + p4 + p5 + p6 + p7 + 256 * (p3 + p4 + p5 + p6 + p7 + 256 * (p4 + p5 + p6 + p7 + 256 * (p5 + p6 + p7 + 256 * (p6 + p7 + 256 * p7))))))) := by rw [e3]; clear hx h1 e1 e2 e3 h h2 h3 h4 h5; omega
  rw [h6, Nat.add_mul_mod_self_left]
  exact Nat.mod_eq_of_lt (by clear hx h1 e1 e2 e3 h2 h3 h4 h5 h6; omega)
theorem dm (n : Nat) : n = n % 256 + 256 * (n / 256) := (Nat.mod_add_div n 256).symm
theorem fold8 {x s1 s2 s3 : Nat} (hd : dg 8 x) (e1 : s1 = x + x / 256) (e2 : s2 = s1 + s1 / 65536) (e3 : s3 = s2 + s2 / 4294967296) : s3 % 128 = D8 8 x := by
  obtain ⟨q0, q1, q2, q3, q4, q5, q6, q7, q8⟩ := hd
  have hx : x = x % 256 + 256 * (x / 256 % 256 + 256 * (x / 256 / 256 % 256 + 256 * (x / 256 / 256 / 256 % 256 + 256 * (x / 256 / 256 / 256 / 256 % 256 + 256 * (x / 256 / 256 / 256 / 256 / 256 % 256 + 256 * (x / 256 / 256 / 256 / 256 / 256 / 256 % 256 + 256 * (x / 256 / 256 / 256 / 256 / 256 / 256 / 256 % 256))))))) := by
    have d7 := dm (x / 256 / 256 / 256 / 256 / 256 / 256 / 256)
    rw [show x / 256 / 256 / 256 / 256 / 256 / 256 / 256 / 256 = 0 from q8, Nat.mul_zero, Nat.add_zero] at d7
    rw [← d7, ← dm, ← dm, ← dm, ← dm, ← dm, ← dm, ← dm]
  rw [fold8p hx ⟨q0, q1, q2, q3, q4, q5, q6, q7⟩ e1 e2 e3]
  show _ = x % 256 + (x / 256 % 256 + (x / 256 / 256 % 256 + (x / 256 / 256 / 256 % 256 + (x / 256 / 256 / 256 / 256 % 256 + (x / 256 / 256 / 256 / 256 / 256 % 256 + (x / 256 / 256 / 256 / 256 / 256 / 256 % 256 + (x / 256 / 256 / 256 / 256 / 256 / 256 / 256 % 256 + 0)))))))
  simp only [Nat.add_assoc, Nat.add_zero]
/-- as a sum over places -/
def bs (n : Nat) : Nat → Nat
  | 0 => 0
  | k + 1 => bs n k + n / 2 ^ k % 2
theorem bs_add (n k : Nat) : ∀ j, bs n (k + j) = bs n k + bs (n / 2 ^ k) j
  | 0 => rfl
  | j + 1 => by
    show bs n (k + j) + n / 2 ^ (k + j) % 2 = bs n k + (bs (n / 2 ^ k) j + n / 2 ^ k / 2 ^ j % 2)
    rw [bs_add n k j, Nat.div_div_eq_div_mul, ← Nat.pow_add]; omega
theorem bs_8 (n : Nat) : bs n 8 = c8 (n % 256) := by
  have h : ∀ k, k < 8 → n % 256 / 2 ^ k % 2 = n / 2 ^ k % 2 := fun k hk => by
    have e1 := Nat.testBit_mod_two_pow n 8 k
    rw [Nat.testBit_eq_decide_div_mod_eq, Nat.testBit_eq_decide_div_mod_eq] at e1
    simp only [hk, decide_true, Bool.true_and, decide_eq_decide] at e1
    have h1 := Nat.mod_two_eq_zero_or_one (n % 2 ^ 8 / 2 ^ k)
    have h2 := Nat.mod_two_eq_zero_or_one (n / 2 ^ k)
    show n % 2 ^ 8 / 2 ^ k % 2 = n / 2 ^ k % 2
    omega
  show 0 + n / 2 ^ 0 % 2 + n / 2 ^ 1 % 2 + n / 2 ^ 2 % 2 + n / 2 ^ 3 % 2 + n / 2 ^ 4 % 2 + n / 2 ^ 5 % 2 + n / 2 ^ 6 % 2 + n / 2 ^ 7 % 2 = _
  rw [← h 0 (by decide), ← h 1 (by decide), ← h 2 (by decide), ← h 3 (by decide), ← h 4 (by decide), ← h 5 (by decide), ← h 6 (by decide), ← h 7 (by decide), Nat.zero_add]
  unfold c8
  rw [show n % 256 / 2 ^ 0 = n % 256 from Nat.div_one _]
theorem bs_T : ∀ (k n : Nat), bs n (8 * k) = T8 k n
  | 0, _ => rfl
  | k + 1, n => by
    rw [show 8 * (k + 1) = 8 + 8 * k by omega, bs_add, bs_8, bs_T k]
    rfl
theorem cnt_bs (x : Int64) : ∀ k, cnt (bt x) k = (bs x.toBitVec.toNat k : Int)
  | 0 => rfl
  | k + 1 => by
    show cnt (bt x) k + b01 (bt x k) = ((bs x.toBitVec.toNat k + x.toBitVec.toNat / 2 ^ k % 2 : Nat) : Int)
    rw [cnt_bs x k]
    have e : bt x k ↔ x.toBitVec.toNat / 2 ^ k % 2 = 1 := by
      unfold bt
      rw [← BitVec.testBit_toNat, Nat.testBit_eq_decide_div_mod_eq, decide_eq_true_eq]
    by_cases c : bt x k
    · rw [b01_t c, e.mp c]; rfl
    · rw [b01_f c, show x.toBitVec.toNat / 2 ^ k % 2 = 0 from (Nat.mod_two_eq_zero_or_one _).resolve_right (fun q => c (e.mpr q))]; rfl
/-- a long's number -/
def nL (x : Int64) : Nat := x.toBitVec.toNat
theorem nL_shr {x : Int64} {k : Nat} (hk : k < 64) : nL (shr6 x k) = nL x / 2 ^ k := by
  unfold nL; rw [shr_bv hk, BitVec.toNat_ushiftRight, Nat.shiftRight_eq_div_pow]
theorem nL_and (x z : Int64) : nL (x &&& z) = nL x &&& nL z := by
  unfold nL; rw [Int64.toBitVec_and, BitVec.toNat_and]
theorem nL_add {x z : Int64} (h : nL x + nL z < 2 ^ 64) : nL (x + z) = nL x + nL z := by
  unfold nL at *; rw [Int64.toBitVec_add, BitVec.toNat_add]; exact Nat.mod_eq_of_lt h
theorem nL_sub {x z : Int64} (h : nL z ≤ nL x) : nL (x - z) = nL x - nL z := by
  unfold nL at *
  have := x.toBitVec.isLt
  rw [Int64.toBitVec_sub, BitVec.toNat_sub]; omega
def bcV1 (x : Int64) : Int64 := x - (shr6 x 1 &&& 6148914691236517205)
def bcV2 (x : Int64) : Int64 := (x &&& 3689348814741910323) + (shr6 x 2 &&& 3689348814741910323)
def bcV3 (x : Int64) : Int64 := (x + shr6 x 4) &&& 1085102592571150095
def bcV4 (x : Int64) : Int64 := x + shr6 x 8
def bcV5 (x : Int64) : Int64 := x + shr6 x 16
def bcV6 (x : Int64) : Int64 := x + shr6 x 32
def bcV (x : Int64) : Int := andI ((bcV6 (bcV5 (bcV4 (bcV3 (bcV2 (bcV1 x)))))).toInt32).toInt 127
theorem andI_127 {x : Int64} {n : Nat} (h : nL x % 128 = n) : andI (x.toInt32).toInt 127 = n := by
  unfold andI
  rw [oi_back]
  have e : (x.toInt32 &&& Int32.ofInt 127).toBitVec = BitVec.ofNat 32 n := by
    apply BitVec.eq_of_toNat_eq
    rw [Int32.toBitVec_and, BitVec.toNat_and, BitVec.toNat_ofNat]
    have e1 : (x.toInt32).toBitVec.toNat = nL x % 2 ^ 32 := by
      unfold nL
      rw [Int64.toBitVec_toInt32, BitVec.signExtend_eq_setWidth_of_le _ (by decide), BitVec.toNat_setWidth]
    rw [e1, show (Int32.ofInt 127).toBitVec.toNat = 2 ^ 7 - 1 from rfl, Nat.and_two_pow_sub_one_eq_mod]
    omega
  show (x.toInt32 &&& Int32.ofInt 127).toBitVec.toInt = _
  rw [e, BitVec.toInt_eq_toNat_cond, BitVec.toNat_ofNat, Nat.mod_eq_of_lt (by omega), if_pos (by omega)]
theorem bc_ok (x : Int64) : bcV x = pcL x := by
  have hx : nL x < 256 ^ 8 := x.toBitVec.isLt
  have b1 : nL (bcV1 x) = f1 (nL x) (m8 85 8) := by
    have e : nL (shr6 x 1 &&& 6148914691236517205) = (nL x / 2) &&& m8 85 8 := by rw [nL_and, show (1 : Int) = ((1 : Nat) : Int) from rfl, nL_shr (by omega)]; rfl
    have h2 : (nL x / 2) &&& m8 85 8 ≤ nL x / 2 := Nat.and_le_left
    unfold bcV1
    rw [nL_sub (by rw [e]; omega), e]; rfl
  have l1 : f1 (nL x) (m8 85 8) < 2 ^ 64 := by unfold f1; omega
  have ha : ∀ a b : Nat, a &&& m8 b 8 ≤ m8 b 8 := fun a b => Nat.and_le_right
  have b2 : nL (bcV2 (bcV1 x)) = f2 (f1 (nL x) (m8 85 8)) (m8 51 8) := by
    have e : nL (shr6 (bcV1 x) 2 &&& 3689348814741910323) = (nL (bcV1 x) / 4) &&& m8 51 8 := by rw [nL_and, show (2 : Int) = ((2 : Nat) : Int) from rfl, nL_shr (by omega)]; rfl
    have e2 : nL (bcV1 x &&& 3689348814741910323) = nL (bcV1 x) &&& m8 51 8 := by rw [nL_and]; rfl
    have h1 := ha (nL (bcV1 x)) 51
    have h2 := ha (nL (bcV1 x) / 4) 51
    have h3 : m8 51 8 < 2 ^ 62 := by decide
    unfold bcV2
    rw [nL_add (by rw [e, e2]; omega), e, e2, b1]; rfl
  have l2 : f2 (f1 (nL x) (m8 85 8)) (m8 51 8) < 2 ^ 63 := by
    have h1 := ha (f1 (nL x) (m8 85 8)) 51
    have h2 := ha (f1 (nL x) (m8 85 8) / 4) 51
    have h3 : m8 51 8 < 2 ^ 62 := by decide
    unfold f2; omega
  have b3 : nL (bcV3 (bcV2 (bcV1 x))) = fA 8 (nL x) := by
    have e : nL (shr6 (bcV2 (bcV1 x)) 4) = nL (bcV2 (bcV1 x)) / 16 := by rw [show (4 : Int) = ((4 : Nat) : Int) from rfl, nL_shr (by omega)]
    unfold bcV3
    rw [nL_and, nL_add (by rw [e, b2]; omega), e, b2]; rfl
  have hd := fA_dg 8 (nL x) hx
  have hD := fA_D 8 (nL x) hx
  have l3 : fA 8 (nL x) < 2 ^ 60 := by
    have h1 := ha (f2 (f1 (nL x) (m8 85 8)) (m8 51 8) + f2 (f1 (nL x) (m8 85 8)) (m8 51 8) / 16) 15
    have h3 : m8 15 8 < 2 ^ 60 := by decide
    unfold fA f3; omega
  clear b1 l1 b2 l2 ha hx
  generalize hA : fA 8 (nL x) = A at *
  have b4 : nL (bcV4 (bcV3 (bcV2 (bcV1 x)))) = A + A / 256 := by
    have e : nL (shr6 (bcV3 (bcV2 (bcV1 x))) 8) = A / 256 := by rw [show (8 : Int) = ((8 : Nat) : Int) from rfl, nL_shr (by omega), b3]
    unfold bcV4
    rw [nL_add (by rw [e, b3]; omega), e, b3]
  obtain ⟨S1, e1⟩ : ∃ S1, S1 = A + A / 256 := ⟨_, rfl⟩
  have l4 : S1 < 2 ^ 61 := by have := Nat.div_le_self A 256; omega
  rw [← e1] at b4
  have b5 : nL (bcV5 (bcV4 (bcV3 (bcV2 (bcV1 x))))) = S1 + S1 / 65536 := by
    have e : nL (shr6 (bcV4 (bcV3 (bcV2 (bcV1 x)))) 16) = S1 / 65536 := by rw [show (16 : Int) = ((16 : Nat) : Int) from rfl, nL_shr (by omega), b4]
    have := Nat.div_le_self S1 65536
    unfold bcV5
    rw [nL_add (by rw [e, b4]; omega), e, b4]
  obtain ⟨S2, e2⟩ : ∃ S2, S2 = S1 + S1 / 65536 := ⟨_, rfl⟩
  have l5 : S2 < 2 ^ 62 := by have := Nat.div_le_self S1 65536; omega
  rw [← e2] at b5
  have b6 : nL (bcV6 (bcV5 (bcV4 (bcV3 (bcV2 (bcV1 x)))))) = S2 + S2 / 4294967296 := by
    have e : nL (shr6 (bcV5 (bcV4 (bcV3 (bcV2 (bcV1 x))))) 32) = S2 / 4294967296 := by rw [show (32 : Int) = ((32 : Nat) : Int) from rfl, nL_shr (by omega), b5]
    have := Nat.div_le_self S2 4294967296
    unfold bcV6
    rw [nL_add (by rw [e, b5]; omega), e, b5]
  have hf := fold8 hd e1 e2 rfl
  unfold bcV
  rw [andI_127 (n := D8 8 A) (by rw [b6]; exact hf), hD, ← bs_T]
  exact (cnt_bs x 64).symm
end
