/-! READING, PURE: heads' bytes -/
theorem and195 : ∀ t, t < 256 → (nI t &&& 195 = 64 ↔ (t / 64 = 1 ∧ t % 4 = 0)) := by decide +kernel
theorem and143 : ∀ t, t < 256 → (nI t &&& 143 = 0 ↔ (t % 16 = 0 ∧ t < 128)) := by decide +kernel
theorem and8b : ∀ t, t < 256 → nI t &&& 8 = nI (8 * (t / 8 % 2)) := by decide +kernel
theorem and16b : ∀ t, t < 256 → nI t &&& 16 = nI (16 * (t / 16 % 2)) := by decide +kernel
theorem and4b : ∀ t, t < 256 → nI t &&& 4 = nI (4 * (t / 4 % 2)) := by decide +kernel
theorem shl1 : ∀ c, c < 8 → shl 1 (nI (8 + 2 * c)) = nI (2 ^ (8 + 2 * c)) := by decide +kernel
theorem pw22 {c : Nat} (h : c ≤ 7) : 2 ^ (8 + 2 * c) ≤ 4194304 := Nat.pow_le_pow_right (n := 2) (by decide) (show 8 + 2 * c ≤ 22 by omega)
