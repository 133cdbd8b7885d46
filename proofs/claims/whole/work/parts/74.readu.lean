/-! READING, PURE: a frame's head -/
def hcB (φ : Nat → Int32) (i k : Nat) : Nat := ub (ushr (hashF φ i k 0) 8)
theorem hc_sar (h : Int32) : ub (sar h 8) = ub (ushr h 8) := by
  unfold ub
  apply Nat.eq_of_testBit_eq
  intro t
  rw [show (256 : Nat) = 2 ^ 8 from rfl, Nat.testBit_mod_two_pow, Nat.testBit_mod_two_pow]
  by_cases ht : t < 8
  · have e := (zb_sar (k := 8) (by omega) h (i := t) (by omega)).trans (zb_ushr (k := 8) (by omega) h t).symm
    simp only [ht, decide_true, Bool.true_and]
    exact e
  · simp [ht]
/-- FLG, BD, SIZE, HC from aa on: the fault and its place, or FLG, MOST, SIZE and what lies behind -/
def headR (φ : Nat → Int32) (n aa : Nat) : (Nat × Nat) ⊕ (Nat × Nat × Nat × Nat) :=
  if n < aa + 1 then .inl (1, n) else
  if ¬ (ub (φ aa) / 64 = 1 ∧ ub (φ aa) % 4 = 0) then .inl (3, aa) else
  if n < aa + 2 then .inl (1, n) else
  if ¬ (ub (φ (aa + 1)) % 16 = 0 ∧ ub (φ (aa + 1)) < 128 ∧ 4 ≤ ub (φ (aa + 1)) / 16) then .inl (3, aa + 1) else
  if n < aa + 2 + 8 * (ub (φ aa) / 8 % 2) then .inl (1, n) else
  if n < aa + 2 + 8 * (ub (φ aa) / 8 % 2) + 1 then .inl (1, n) else
  if ub (φ (aa + 2 + 8 * (ub (φ aa) / 8 % 2))) = hcB φ aa (2 + 8 * (ub (φ aa) / 8 % 2)) then .inr (ub (φ aa), 2 ^ (8 + 2 * (ub (φ (aa + 1)) / 16)), numN φ (aa + 2) 8, aa + 2 + 8 * (ub (φ aa) / 8 % 2) + 1) else .inl (4, aa + 2 + 8 * (ub (φ aa) / 8 % 2))
section HR
variable {φ : Nat → Int32} {n aa : Nat}
theorem headR_1 (h : n < aa + 1) : headR φ n aa = .inl (1, n) := if_pos h
theorem headR_2 (h : ¬ n < aa + 1) (h2 : ¬ (ub (φ aa) / 64 = 1 ∧ ub (φ aa) % 4 = 0)) : headR φ n aa = .inl (3, aa) := by
  unfold headR
  rw [if_neg h, if_pos h2]
theorem headR_3 (h : n < aa + 2) (h0 : ¬ n < aa + 1) (h2 : ub (φ aa) / 64 = 1 ∧ ub (φ aa) % 4 = 0) : headR φ n aa = .inl (1, n) := by
  unfold headR
  rw [if_neg h0, if_neg (fun z => z h2), if_pos h]
theorem headR_4 (h : ¬ n < aa + 2) (h2 : ub (φ aa) / 64 = 1 ∧ ub (φ aa) % 4 = 0) (h3 : ¬ (ub (φ (aa + 1)) % 16 = 0 ∧ ub (φ (aa + 1)) < 128 ∧ 4 ≤ ub (φ (aa + 1)) / 16)) : headR φ n aa = .inl (3, aa + 1) := by
  unfold headR
  rw [if_neg (by omega), if_neg (fun z => z h2), if_neg h, if_pos h3]
theorem headR_5 (h2 : ub (φ aa) / 64 = 1 ∧ ub (φ aa) % 4 = 0) (h : ¬ n < aa + 2) (h3 : ub (φ (aa + 1)) % 16 = 0 ∧ ub (φ (aa + 1)) < 128 ∧ 4 ≤ ub (φ (aa + 1)) / 16) (h4 : n < aa + 2 + 8 * (ub (φ aa) / 8 % 2) + 1) : headR φ n aa = .inl (1, n) := by
  unfold headR
  rw [if_neg (by omega), if_neg (fun z => z h2), if_neg h, if_neg (fun z => z h3)]
  by_cases h5 : n < aa + 2 + 8 * (ub (φ aa) / 8 % 2)
  · rw [if_pos h5]
  · rw [if_neg h5, if_pos h4]
theorem headR_6 (h2 : ub (φ aa) / 64 = 1 ∧ ub (φ aa) % 4 = 0) (h3 : ub (φ (aa + 1)) % 16 = 0 ∧ ub (φ (aa + 1)) < 128 ∧ 4 ≤ ub (φ (aa + 1)) / 16) (h4 : ¬ n < aa + 2 + 8 * (ub (φ aa) / 8 % 2) + 1) (h5 : ub (φ (aa + 2 + 8 * (ub (φ aa) / 8 % 2))) ≠ hcB φ aa (2 + 8 * (ub (φ aa) / 8 % 2))) : headR φ n aa = .inl (4, aa + 2 + 8 * (ub (φ aa) / 8 % 2)) := by
  unfold headR
  rw [if_neg (by omega), if_neg (fun z => z h2), if_neg (by omega), if_neg (fun z => z h3), if_neg (by omega), if_neg h4, if_neg h5]
theorem headR_7 (h2 : ub (φ aa) / 64 = 1 ∧ ub (φ aa) % 4 = 0) (h3 : ub (φ (aa + 1)) % 16 = 0 ∧ ub (φ (aa + 1)) < 128 ∧ 4 ≤ ub (φ (aa + 1)) / 16) (h4 : ¬ n < aa + 2 + 8 * (ub (φ aa) / 8 % 2) + 1) (h5 : ub (φ (aa + 2 + 8 * (ub (φ aa) / 8 % 2))) = hcB φ aa (2 + 8 * (ub (φ aa) / 8 % 2))) : headR φ n aa = .inr (ub (φ aa), 2 ^ (8 + 2 * (ub (φ (aa + 1)) / 16)), numN φ (aa + 2) 8, aa + 2 + 8 * (ub (φ aa) / 8 % 2) + 1) := by
  unfold headR
  rw [if_neg (by omega), if_neg (fun z => z h2), if_neg (by omega), if_neg (fun z => z h3), if_neg (by omega), if_neg h4, if_pos h5]
end HR
