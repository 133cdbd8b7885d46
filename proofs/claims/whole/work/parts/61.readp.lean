/-! READING, PURE: bytes as numbers -/
def ub (x : Int32) : Nat := x.toBitVec.toNat % 256
theorem ub_lt (x : Int32) : ub x < 256 := Nat.mod_lt _ (by decide)
theorem ub_eq (x : Int32) : x &&& 255 = nI (ub x) := pk_and x 8 (by decide)
theorem ub_bit (x : Int32) {t : Nat} (ht : t < 8) : (ub x).testBit t = x.toBitVec.getLsbD t := by
  unfold ub
  rw [show (256 : Nat) = 2 ^ 8 from rfl, Nat.testBit_mod_two_pow]
  simp [ht, BitVec.getLsbD]
theorem ub_big (x : Int32) {t : Nat} (ht : 8 ≤ t) : (ub x).testBit t = false := Nat.testBit_lt_two_pow (Nat.lt_of_lt_of_le (ub_lt x) (show 256 ≤ 2 ^ t from Nat.pow_le_pow_right (n := 2) (by decide) ht))
theorem ub_l (x : Int32) : x.toInt64 &&& 255 = lN (ub x) := by
  apply Int64.toBitVec_inj.mp
  apply BitVec.eq_of_getLsbD_eq
  intro i hi
  have hm : ∀ i, i < 64 → (255 : Int64).toBitVec.getLsbD i = decide (i < 8) := by decide
  rw [Int64.toBitVec_and, BitVec.getLsbD_and, hm i hi]
  show _ = (BitVec.ofNat 64 (ub x)).getLsbD i
  rw [BitVec.getLsbD_ofNat, Int32.toBitVec_toInt64, BitVec.getLsbD_signExtend]
  by_cases h : i < 8
  · rw [ub_bit x h]
    simp [h, hi, show i < 32 by omega]
  · rw [ub_big x (by omega)]
    simp [h]
def numN (φ : Nat → Int32) (i : Nat) : Nat → Nat
  | 0 => 0
  | k + 1 => numN φ i k + ub (φ (i + k)) * 2 ^ (8 * k)
theorem numN_lt (φ : Nat → Int32) (i : Nat) : ∀ k, numN φ i k < 2 ^ (8 * k) := by
  intro k
  induction k with
  | zero => exact Nat.one_pos
  | succ k ih =>
    have h := ub_lt (φ (i + k))
    have e : 2 ^ (8 * (k + 1)) = 2 ^ (8 * k) * 256 := by rw [show 8 * (k + 1) = 8 * k + 8 by omega, Nat.pow_add]
    rw [e]
    show numN φ i k + ub (φ (i + k)) * 2 ^ (8 * k) < _
    have h2 : (ub (φ (i + k)) + 1) * 2 ^ (8 * k) ≤ 256 * 2 ^ (8 * k) := Nat.mul_le_mul_right _ (by omega)
    rw [Nat.add_mul, Nat.one_mul] at h2
    rw [Nat.mul_comm (2 ^ (8 * k)) 256]
    omega
theorem numN_front (φ : Nat → Int32) (i : Nat) : ∀ k, numN φ i (k + 1) = ub (φ i) + 256 * numN φ (i + 1) k := by
  intro k
  induction k with
  | zero =>
    show numN φ i 0 + ub (φ (i + 0)) * 2 ^ (8 * 0) = ub (φ i) + 256 * numN φ (i + 1) 0
    simp [numN]
  | succ k ih =>
    show numN φ i (k + 1) + ub (φ (i + (k + 1))) * 2 ^ (8 * (k + 1)) = ub (φ i) + 256 * (numN φ (i + 1) k + ub (φ (i + 1 + k)) * 2 ^ (8 * k))
    have e : 2 ^ (8 * (k + 1)) = 256 * 2 ^ (8 * k) := by rw [show 8 * (k + 1) = 8 + 8 * k by omega, Nat.pow_add]
    have e3 : ub (φ (i + 1 + k)) * (256 * 2 ^ (8 * k)) = 256 * (ub (φ (i + 1 + k)) * 2 ^ (8 * k)) := by rw [Nat.mul_left_comm]
    rw [ih, e, show i + (k + 1) = i + 1 + k by omega, Nat.mul_add, e3]
    omega
theorem numN_congr {f g : Nat → Int32} {a b k : Nat} (h : ∀ j, j < k → f (a + j) = g (b + j)) : numN f a k = numN g b k := by
  induction k with
  | zero => rfl
  | succ k ih =>
    show numN f a k + ub (f (a + k)) * 2 ^ (8 * k) = numN g b k + ub (g (b + k)) * 2 ^ (8 * k)
    rw [ih (fun j hj => h j (by omega)), h k (by omega)]
theorem pw64 {k : Nat} (h : k ≤ 8) : 2 ^ (8 * k) ≤ 2 ^ 64 := Nat.pow_le_pow_right (by decide) (by omega)
/-- the class's number of bytes -/
theorem numL_eq (φ : Nat → Int32) (i : Nat) : ∀ k, k ≤ 8 → numL φ i k = lN (numN φ i k) := by
  intro k
  induction k with
  | zero => intro _; rfl
  | succ k ih =>
    intro hk
    have h1 := numN_lt φ i k
    have h2 := numN_lt φ i (k + 1)
    have h3 := pw64 hk
    show numL φ i k ||| lshl ((φ (i + k)).toInt64 &&& 255) (nI (8 * k)) = lN (numN φ i k + ub (φ (i + k)) * 2 ^ (8 * k))
    rw [ih (by omega), ub_l]
    unfold lshl
    rw [wb_shl _ (by omega)]
    exact g_or' (k := 8 * k) rfl h1 (Nat.lt_of_lt_of_le h2 h3)
/-- one step of the reference's number: the bytes from the highest on -/
theorem num_step {x : Int32} {a : Nat} (ha : a < 2 ^ 56) : lshl (lN a) 8 ||| (x.toInt64 &&& 255) = lN (ub x + 256 * a) := by
  have hx := ub_lt x
  have e8 : (8 : Int32) = nI 8 := rfl
  unfold lshl
  rw [ub_l, e8, wb_shl _ (by omega), g_or (k := 8) (p := 256) rfl hx (by omega), Nat.mul_comm a, Nat.add_comm]
theorem numN_bit (φ : Nat → Int32) (i : Nat) : ∀ k j t, j < k → t < 8 → (numN φ i k).testBit (8 * j + t) = (φ (i + j)).toBitVec.getLsbD t := by
  intro k
  induction k with
  | zero => intro j t hj; omega
  | succ k ih =>
    intro j t hj ht
    show (numN φ i k + ub (φ (i + k)) * 2 ^ (8 * k)).testBit (8 * j + t) = _
    rw [Nat.add_comm, Nat.mul_comm, Nat.testBit_two_pow_mul_add _ (numN_lt φ i k)]
    by_cases h : j < k
    · rw [if_pos (by omega)]
      exact ih j t h ht
    · have e : j = k := by omega
      subst e
      rw [if_neg (by omega), show 8 * j + t - 8 * j = t by omega]
      exact ub_bit _ ht
/-- a word is a number of four bytes -/
theorem wd_num (φ : Nat → Int32) (i : Nat) : wd φ i = nI (numN φ i 4) := by
  apply Int32.toBitVec_inj.mp
  apply BitVec.eq_of_getLsbD_eq
  intro b hb
  show _ = (BitVec.ofNat 32 (numN φ i 4)).getLsbD b
  rw [BitVec.getLsbD_ofNat]
  obtain ⟨j, t, e, hj, ht⟩ : ∃ j t, b = 8 * j + t ∧ j < 4 ∧ t < 8 := ⟨b / 8, b % 8, by omega, by omega, by omega⟩
  subst e
  rw [wd_bits φ i hj ht, numN_bit φ i 4 j t hj ht]
  simp [hb]
