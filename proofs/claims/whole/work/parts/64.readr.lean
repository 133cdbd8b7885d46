/-! READING, PURE: literals and a match of a sequence -/


def litR (φ : Nat → Int32) (ee aa nib zz bb mo : Nat) : Nat ⊕ (Nat × Nat) :=
  match lenRd φ ee aa nib with
  | none => .inl 9
  | some p => if zz - bb + p.1 ≤ mo ∧ zz + p.1 ≤ 140000 then (if ee - p.2 < p.1 then .inl 9 else .inr p) else .inl 8
theorem litR_n {φ : Nat → Int32} {ee aa nib zz bb mo : Nat} (h : lenRd φ ee aa nib = none) : litR φ ee aa nib zz bb mo = .inl 9 := by unfold litR; rw [h]
theorem litR_8 {φ : Nat → Int32} {ee aa nib zz bb mo v a1 : Nat} (h : lenRd φ ee aa nib = some (v, a1)) (h2 : mo < zz - bb + v ∨ 140000 < zz + v) : litR φ ee aa nib zz bb mo = .inl 8 := by
  unfold litR
  rw [h]
  exact if_neg (by dsimp only; omega)
theorem litR_9 {φ : Nat → Int32} {ee aa nib zz bb mo v a1 : Nat} (h : lenRd φ ee aa nib = some (v, a1)) (h2 : zz - bb + v ≤ mo) (h3 : zz + v ≤ 140000) (h4 : ee - a1 < v) : litR φ ee aa nib zz bb mo = .inl 9 := by
  unfold litR
  rw [h]
  exact (if_pos ⟨h2, h3⟩).trans (if_pos h4)
theorem litR_ok {φ : Nat → Int32} {ee aa nib zz bb mo v a1 : Nat} (h : lenRd φ ee aa nib = some (v, a1)) (h2 : zz - bb + v ≤ mo) (h3 : zz + v ≤ 140000) (h4 : ¬ ee - a1 < v) : litR φ ee aa nib zz bb mo = .inr (v, a1) := by
  unfold litR
  rw [h]
  exact (if_pos ⟨h2, h3⟩).trans (if_neg h4)
def mtR (φ : Nat → Int32) (ee aa nib zz bb mo hist : Nat) : Nat ⊕ (Nat × Nat × Nat) :=
  if ee - aa < 2 then .inl 9 else if numN φ aa 2 = 0 ∨ zz - hist < numN φ aa 2 then .inl 7 else
  match lenRd φ ee (aa + 2) nib with
  | none => .inl 9
  | some p => if zz - bb + (p.1 + 4) ≤ mo ∧ zz + (p.1 + 4) ≤ 140000 then .inr (numN φ aa 2, p.1 + 4, p.2) else .inl 8
theorem mtR_s {φ : Nat → Int32} {ee aa nib zz bb mo hist : Nat} (h : ee - aa < 2) : mtR φ ee aa nib zz bb mo hist = .inl 9 := if_pos h
theorem mtR_7 {φ : Nat → Int32} {ee aa nib zz bb mo hist : Nat} (h : ¬ ee - aa < 2) (h2 : numN φ aa 2 = 0 ∨ zz - hist < numN φ aa 2) : mtR φ ee aa nib zz bb mo hist = .inl 7 := (if_neg h).trans (if_pos h2)
theorem mtR_n {φ : Nat → Int32} {ee aa nib zz bb mo hist : Nat} (h : ¬ ee - aa < 2) (h2 : ¬ (numN φ aa 2 = 0 ∨ zz - hist < numN φ aa 2)) (h3 : lenRd φ ee (aa + 2) nib = none) : mtR φ ee aa nib zz bb mo hist = .inl 9 := by
  unfold mtR
  rw [if_neg h, if_neg h2, h3]
theorem mtR_8 {φ : Nat → Int32} {ee aa nib zz bb mo hist v a1 : Nat} (h : ¬ ee - aa < 2) (h2 : ¬ (numN φ aa 2 = 0 ∨ zz - hist < numN φ aa 2)) (h3 : lenRd φ ee (aa + 2) nib = some (v, a1)) (h4 : mo < zz - bb + (v + 4) ∨ 140000 < zz + (v + 4)) : mtR φ ee aa nib zz bb mo hist = .inl 8 := by
  unfold mtR
  rw [if_neg h, if_neg h2, h3]
  exact if_neg (by dsimp only; omega)
theorem mtR_ok {φ : Nat → Int32} {ee aa nib zz bb mo hist v a1 : Nat} (h : ¬ ee - aa < 2) (h2 : ¬ (numN φ aa 2 = 0 ∨ zz - hist < numN φ aa 2)) (h3 : lenRd φ ee (aa + 2) nib = some (v, a1)) (h4 : zz - bb + (v + 4) ≤ mo) (h5 : zz + (v + 4) ≤ 140000) : mtR φ ee aa nib zz bb mo hist = .inr (numN φ aa 2, v + 4, a1) := by
  unfold mtR
  rw [if_neg h, if_neg h2, h3]
  exact if_pos ⟨h4, h5⟩
theorem and32 : ∀ t, t < 256 → nI t &&& 32 = nI (32 * (t / 32 % 2)) := by decide +kernel
