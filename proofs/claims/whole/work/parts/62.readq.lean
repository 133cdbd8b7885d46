/-! READING, PURE: the numbers of tokens -/
def lenLoop (φ : Nat → Int32) (e : Nat) : Nat → Nat → Nat → Option (Nat × Nat)
  | 0, _, _ => none
  | k + 1, a, acc => if a < e then (if ub (φ a) = 255 then lenLoop φ e k (a + 1) (acc + 255) else some (acc + ub (φ a), a + 1)) else none
def lenRd (φ : Nat → Int32) (e a nib : Nat) : Option (Nat × Nat) := if nib = 15 then lenLoop φ e (e - a + 1) a 15 else some (nib, a)
theorem lenLoop_out {φ : Nat → Int32} {e a acc : Nat} (k : Nat) (h : e ≤ a) : lenLoop φ e k a acc = none := by
  cases k with
  | zero => rfl
  | succ k => rw [lenLoop, if_neg (by omega)]
theorem lenLoop_255 {φ : Nat → Int32} {e a acc k : Nat} (h : a < e) (h2 : ub (φ a) = 255) : lenLoop φ e (k + 1) a acc = lenLoop φ e k (a + 1) (acc + 255) := by rw [lenLoop, if_pos h, if_pos h2]
theorem lenLoop_fin {φ : Nat → Int32} {e a acc k : Nat} (h : a < e) (h2 : ub (φ a) ≠ 255) : lenLoop φ e (k + 1) a acc = some (acc + ub (φ a), a + 1) := by rw [lenLoop, if_pos h, if_neg h2]
theorem lenLoop_le {φ : Nat → Int32} {e : Nat} : ∀ (k a acc v b : Nat), lenLoop φ e k a acc = some (v, b) → acc ≤ v ∧ v ≤ acc + 255 * (b - a) ∧ a < b ∧ b ≤ e := by
  intro k
  induction k with
  | zero => intro a acc v b h; cases h
  | succ k ih =>
    intro a acc v b h
    by_cases h1 : a < e
    · by_cases h2 : ub (φ a) = 255
      · rw [lenLoop_255 h1 h2] at h
        obtain ⟨i1, i2, i3, i4⟩ := ih _ _ _ _ h
        omega
      · rw [lenLoop_fin h1 h2] at h
        have h3 := ub_lt (φ a)
        have e1 := Option.some.inj h
        have e2 : acc + ub (φ a) = v := congrArg Prod.fst e1
        have e3 : a + 1 = b := congrArg Prod.snd e1
        omega
    · rw [lenLoop_out _ (by omega)] at h
      cases h
theorem lenRd_le {φ : Nat → Int32} {e a nib v b : Nat} (hn : nib ≤ 15) (ha : a ≤ e) (h : lenRd φ e a nib = some (v, b)) : nib ≤ v ∧ v ≤ 15 + 255 * (b - a) ∧ a ≤ b ∧ b ≤ e := by
  unfold lenRd at h
  by_cases h1 : nib = 15
  · rw [if_pos h1] at h
    obtain ⟨i1, i2, i3, i4⟩ := lenLoop_le _ _ _ _ _ h
    omega
  · rw [if_neg h1] at h
    have e1 := Option.some.inj h
    have e2 : nib = v := congrArg Prod.fst e1
    have e3 : a = b := congrArg Prod.snd e1
    omega
def lmV (lm : Nat) : Int32 := if lm = 0 then -1 else nI (lm - 1)
theorem lmV_0 : lmV 0 = -1 := rfl
theorem lmV_s {lm : Nat} (h : lm ≠ 0) : lmV lm = nI (lm - 1) := if_neg h
/-- the last sequence's rules: t the token, l its literals, z how many bytes there are, lm the last match's place and one -/
def lastOK (t l z lm : Nat) : Prop := t % 16 = 0 ∧ (lm = 0 ∨ (5 ≤ l ∧ 12 ≤ z - (lm - 1)))
theorem and15 {t : Nat} (h : t < 2 ^ 31) : nI t &&& 15 = nI (t % 16) := pk_andN (by omega) 4 (by decide)
theorem shr4 {t : Nat} (h : t < 2 ^ 31) : sar (nI t) 4 = nI (t / 16) := pk_shrN h _ 4 (by decide)
