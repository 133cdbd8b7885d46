/-! BYTES OF NUMBERS: the class shifts without the sign, the reference with it; the low eight bits are the same -/
def lsar (x : Int64) (y : Int32) : Int64 := x >>> (y.toInt64 &&& 63)
theorem zs_l : ∀ n, n < 32 → ((nI n &&& 31).toBitVec.smod 32).toNat = n := by decide +kernel
theorem zs_u : ∀ n, n < 32 → (((nI n).toUInt32 &&& Int32.toUInt32 31).toBitVec % 32).toNat = n := by decide +kernel
theorem zs_cl : ∀ k, k < 64 → (((nI k).toInt64 &&& 63).toBitVec.smod 64).toNat = k := by decide +kernel
theorem zs_cu : ∀ k, k < 64 → (((nI k).toInt64.toUInt64 &&& Int64.toUInt64 63).toBitVec % 64).toNat = k := by decide +kernel
theorem zb_lushr {k : Nat} (hk : k < 64) (v : Int64) (i : Nat) : (lushr v (nI k)).toBitVec.getLsbD i = v.toBitVec.getLsbD (k + i) := by
  show (v.toUInt64 >>> ((nI k).toInt64.toUInt64 &&& Int64.toUInt64 63)).toBitVec.getLsbD i = v.toUInt64.toBitVec.getLsbD (k + i)
  rw [UInt64.toBitVec_shiftRight]
  show (v.toUInt64.toBitVec >>> (((nI k).toInt64.toUInt64 &&& Int64.toUInt64 63).toBitVec % 64).toNat).getLsbD i = _
  rw [zs_cu k hk, BitVec.getLsbD_ushiftRight]
theorem zb_lsar {k : Nat} (hk : k < 64) (v : Int64) {i : Nat} (hi : k + i < 64) : (lsar v (nI k)).toBitVec.getLsbD i = v.toBitVec.getLsbD (k + i) := by
  unfold lsar
  rw [Int64.toBitVec_shiftRight]
  show (v.toBitVec.sshiftRight (((nI k).toInt64 &&& 63).toBitVec.smod 64).toNat).getLsbD i = _
  rw [zs_cl k hk, BitVec.getLsbD_sshiftRight, if_pos hi]
  simp [show ¬ 64 ≤ i by omega]
theorem zb_ushr {k : Nat} (hk : k < 32) (v : Int32) (i : Nat) : (ushr v (nI k)).toBitVec.getLsbD i = v.toBitVec.getLsbD (k + i) := by
  show (v.toUInt32 >>> ((nI k).toUInt32 &&& Int32.toUInt32 31)).toBitVec.getLsbD i = v.toUInt32.toBitVec.getLsbD (k + i)
  rw [UInt32.toBitVec_shiftRight]
  show (v.toUInt32.toBitVec >>> (((nI k).toUInt32 &&& Int32.toUInt32 31).toBitVec % 32).toNat).getLsbD i = _
  rw [zs_u k hk, BitVec.getLsbD_ushiftRight]
theorem zb_sar {k : Nat} (hk : k < 32) (v : Int32) {i : Nat} (hi : k + i < 32) : (sar v (nI k)).toBitVec.getLsbD i = v.toBitVec.getLsbD (k + i) := by
  unfold sar
  rw [Int32.toBitVec_shiftRight]
  show (v.toBitVec.sshiftRight ((nI k &&& 31).toBitVec.smod 32).toNat).getLsbD i = _
  rw [zs_l k hk, BitVec.getLsbD_sshiftRight, if_pos hi]
  simp [show ¬ 32 ≤ i by omega]
theorem i2b_bits {x y : Int32} (h : ∀ i, i < 8 → x.toBitVec.getLsbD i = y.toBitVec.getLsbD i) : i2b x = i2b y := by
  unfold i2b
  congr 1
  apply Int8.toBitVec_inj.mp
  rw [Int32.toBitVec_toInt8, Int32.toBitVec_toInt8]
  apply BitVec.eq_of_getLsbD_eq
  intro i hi
  rw [BitVec.getLsbD_signExtend, BitVec.getLsbD_signExtend]
  have h2 := h i hi
  have h3 : i < 32 := by omega
  simp only [hi, h3, h2, if_true]
theorem l2i_bits (x : Int64) {i : Nat} (hi : i < 32) : x.toInt32.toBitVec.getLsbD i = x.toBitVec.getLsbD i := by
  rw [Int64.toBitVec_toInt32, BitVec.getLsbD_signExtend]
  simp [hi, show i < 64 by omega]
/-- the byte k places up of a long, either way of shifting -/
theorem lo_sar (v : Int64) {k : Nat} (hk : k ≤ 7) : i2b (lsar v (nI (8 * k))).toInt32 = i2b (lushr v (nI (8 * k))).toInt32 := by
  apply i2b_bits
  intro i hi
  rw [l2i_bits _ (by omega), l2i_bits _ (by omega), zb_lsar (by omega) v (by omega), zb_lushr (by omega) v]
theorem mix_sar (v : Int32) : i2b (sar v 16) = i2b (ushr v 16) := by
  apply i2b_bits
  intro i hi
  exact (zb_sar (k := 16) (by omega) v (by omega)).trans (zb_ushr (k := 16) (by omega) v i).symm
def mixX (sd : Int32) : Nat → Int32
  | 0 => sd
  | t + 1 => mixX sd t * 1103515245 + 12345
def mixB (sd : Int32) : Nat → Int32 := fun j => i2b (ushr (mixX sd (j + 1)) 16)
/-- how many bytes tell what of a number does not go into the token -/
def moreN (k : Nat) : Nat := if k < 15 then 0 else (k - 15) / 255 + 1
