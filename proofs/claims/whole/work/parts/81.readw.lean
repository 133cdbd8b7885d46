/-! READING, PURE: what the reference's rows want -/
theorem shr6 {t : Nat} (h : t < 2 ^ 31) : sar (nI t) 6 = nI (t / 64) := pk_shrN h _ 6 (by decide)
theorem and3 {t : Nat} (h : t < 2 ^ 31) : nI t &&& 3 = nI (t % 4) := pk_andN (by omega) 2 (by decide)
theorem lsar31 {k : Nat} (hk : k < 2 ^ 32) : lsar (lN k) 31 = lN (k / 2147483648) := by
  apply Int64.toBitVec_inj.mp
  unfold lsar
  rw [Int64.toBitVec_shiftRight]
  show (lN k).toBitVec.sshiftRight (((nI 31).toInt64 &&& 63).toBitVec.smod 64).toNat = _
  rw [zs_cl 31 (by decide)]
  have hm : (lN k).toBitVec.msb = false := by
    show (BitVec.ofNat 64 k).msb = false
    rw [BitVec.msb_eq_decide, BitVec.toNat_ofNat, Nat.mod_eq_of_lt (by omega)]
    exact decide_eq_false (by omega)
  rw [BitVec.sshiftRight_eq_of_msb_false hm]
  apply BitVec.eq_of_toNat_eq
  rw [BitVec.toNat_ushiftRight]
  show (BitVec.ofNat 64 k).toNat >>> 31 = (BitVec.ofNat 64 (k / 2147483648)).toNat
  rw [BitVec.toNat_ofNat, BitVec.toNat_ofNat, Nat.mod_eq_of_lt (by omega), Nat.mod_eq_of_lt (by omega), Nat.shiftRight_eq_div_pow]
theorem land31 {k : Nat} (hk : k < 2 ^ 32) : lN k &&& 2147483647 = lN (k % 2147483648) := by
  apply Int64.toBitVec_inj.mp
  apply BitVec.eq_of_toNat_eq
  show ((BitVec.ofNat 64 k) &&& (2147483647 : Int64).toBitVec).toNat = (BitVec.ofNat 64 (k % 2147483648)).toNat
  rw [BitVec.toNat_and, BitVec.toNat_ofNat, BitVec.toNat_ofNat, Nat.mod_eq_of_lt (by omega), Nat.mod_eq_of_lt (by omega), show (2147483647 : Int64).toBitVec.toNat = 2 ^ 31 - 1 from rfl, Nat.and_two_pow_sub_one_eq_mod]
theorem numN_ag {f φ : Nat → Int32} {n a k : Nat} (h : ∀ j, j < n → f j = φ j) (hk : a + k ≤ n) : numN f a k = numN φ a k := numN_congr (fun j hj => h _ (by omega))
theorem hash_ag {f φ : Nat → Int32} {n a k : Nat} (h : ∀ j, j < n → f j = φ j) (hk : a + k ≤ n) : hashF f a k 0 = hashF φ a k 0 := hash_congr 0 (fun j hj => h _ (by omega))
