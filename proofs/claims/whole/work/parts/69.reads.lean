/-! READING, PURE: the sequences of a block -/
theorem litR_inv {φ : Nat → Int32} {ee aa nib zz bb mo w y : Nat} (hn : nib ≤ 15) (ha : aa ≤ ee) (h : litR φ ee aa nib zz bb mo = .inr (w, y)) : zz - bb + w ≤ mo ∧ zz + w ≤ 140000 ∧ w ≤ ee - y ∧ aa ≤ y ∧ y ≤ ee := by
  unfold litR at h
  cases hl : lenRd φ ee aa nib with
  | none => rw [hl] at h; cases h
  | some p =>
    obtain ⟨v, a1⟩ := p
    have hb := lenRd_le hn ha hl
    rw [hl] at h
    dsimp only at h
    by_cases h1 : zz - bb + v ≤ mo ∧ zz + v ≤ 140000
    · rw [if_pos h1] at h
      by_cases h2 : ee - a1 < v
      · rw [if_pos h2] at h; cases h
      · rw [if_neg h2] at h
        have e := Sum.inr.inj h
        have e1 : v = w := congrArg Prod.fst e
        have e2 : a1 = y := congrArg Prod.snd e
        omega
    · rw [if_neg h1] at h; cases h
theorem mtR_inv {φ : Nat → Int32} {ee aa nib zz bb mo hist w y x : Nat} (hn : nib ≤ 15) (h : mtR φ ee aa nib zz bb mo hist = .inr (w, y, x)) : 1 ≤ w ∧ w ≤ zz - hist ∧ zz - bb + y ≤ mo ∧ zz + y ≤ 140000 ∧ aa + 2 ≤ x ∧ x ≤ ee ∧ 4 ≤ y := by
  unfold mtR at h
  by_cases h0 : ee - aa < 2
  · rw [if_pos h0] at h; cases h
  · rw [if_neg h0] at h
    by_cases h7 : numN φ aa 2 = 0 ∨ zz - hist < numN φ aa 2
    · rw [if_pos h7] at h; cases h
    · rw [if_neg h7] at h
      cases hl : lenRd φ ee (aa + 2) nib with
      | none => rw [hl] at h; cases h
      | some p =>
        obtain ⟨v, a1⟩ := p
        have hb := lenRd_le hn (by omega) hl
        rw [hl] at h
        dsimp only at h
        by_cases h1 : zz - bb + (v + 4) ≤ mo ∧ zz + (v + 4) ≤ 140000
        · rw [if_pos h1] at h
          have e := Sum.inr.inj h
          have e1 : numN φ aa 2 = w := congrArg Prod.fst e
          have e2 : v + 4 = y := congrArg (fun q : Nat × Nat × Nat => q.2.1) e
          have e3 : a1 = x := congrArg (fun q : Nat × Nat × Nat => q.2.2) e
          omega
        · rw [if_neg h1] at h; cases h
def seqR (φ : Nat → Int32) (np ee bb mo hist : Nat) : Nat → Nat → Nat → (Nat → Int32) → Nat → (Nat × Nat) ⊕ (Nat × (Nat → Int32))
  | 0, _, _, _, _ => .inl (9, np)
  | k + 1, aa, zz, o, lm =>
    if aa < ee then
      match litR φ ee (aa + 1) (ub (φ aa) / 16) zz bb mo with
      | .inl c => .inl (c, if c = 8 then aa else np)
      | .inr p =>
        if p.2 + p.1 < ee then
          match mtR φ ee (p.2 + p.1) (ub (φ aa) % 16) (zz + p.1) bb mo hist with
          | .inl c => .inl (c, if c = 7 then p.2 + p.1 else if c = 8 then aa else np)
          | .inr q => seqR φ np ee bb mo hist k q.2.2 (zz + p.1 + q.2.1) (agF (apF o zz p.1 (fun x => φ (p.2 + x))) (zz + p.1) q.1 q.2.1) (zz + p.1 + 1)
        else if ub (φ aa) % 16 = 0 ∧ (lm = 0 ∨ (5 ≤ p.1 ∧ 12 ≤ zz + p.1 - (lm - 1))) then .inr (zz + p.1, apF o zz p.1 (fun x => φ (p.2 + x))) else .inl (9, np)
    else .inl (9, np)
section SQ
variable {φ : Nat → Int32} {np ee bb mo hist k aa zz lm w y : Nat} {o : Nat → Int32}
theorem seqR_end (h : ¬ aa < ee) : seqR φ np ee bb mo hist (k + 1) aa zz o lm = .inl (9, np) := by rw [seqR, if_neg h]
theorem seqR_lit (h : aa < ee) {c : Nat} (hl : litR φ ee (aa + 1) (ub (φ aa) / 16) zz bb mo = .inl c) : seqR φ np ee bb mo hist (k + 1) aa zz o lm = .inl (c, if c = 8 then aa else np) := by rw [seqR, if_pos h, hl]
theorem seqR_mt (h : aa < ee) (hl : litR φ ee (aa + 1) (ub (φ aa) / 16) zz bb mo = .inr (w, y)) (h2 : y + w < ee) {c : Nat} (hm : mtR φ ee (y + w) (ub (φ aa) % 16) (zz + w) bb mo hist = .inl c) : seqR φ np ee bb mo hist (k + 1) aa zz o lm = .inl (c, if c = 7 then y + w else if c = 8 then aa else np) := by
  rw [seqR, if_pos h, hl]
  dsimp only
  rw [if_pos h2, hm]
theorem seqR_go (h : aa < ee) (hl : litR φ ee (aa + 1) (ub (φ aa) / 16) zz bb mo = .inr (w, y)) (h2 : y + w < ee) {q m x : Nat} (hm : mtR φ ee (y + w) (ub (φ aa) % 16) (zz + w) bb mo hist = .inr (q, m, x)) : seqR φ np ee bb mo hist (k + 1) aa zz o lm = seqR φ np ee bb mo hist k x (zz + w + m) (agF (apF o zz w (fun x => φ (y + x))) (zz + w) q m) (zz + w + 1) := by
  rw [seqR, if_pos h, hl]
  dsimp only
  rw [if_pos h2, hm]
theorem seqR_ok (h : aa < ee) (hl : litR φ ee (aa + 1) (ub (φ aa) / 16) zz bb mo = .inr (w, y)) (h2 : ¬ y + w < ee) (h3 : lastOK (ub (φ aa)) w (zz + w) lm) : seqR φ np ee bb mo hist (k + 1) aa zz o lm = .inr (zz + w, apF o zz w (fun x => φ (y + x))) := by
  rw [seqR, if_pos h, hl]
  dsimp only
  rw [if_neg h2]
  exact if_pos h3
theorem seqR_bad (h : aa < ee) (hl : litR φ ee (aa + 1) (ub (φ aa) / 16) zz bb mo = .inr (w, y)) (h2 : ¬ y + w < ee) (h3 : ¬ lastOK (ub (φ aa)) w (zz + w) lm) : seqR φ np ee bb mo hist (k + 1) aa zz o lm = .inl (9, np) := by
  rw [seqR, if_pos h, hl]
  dsimp only
  rw [if_neg h2]
  exact if_neg h3
end SQ
theorem apF_agree {o ψ : Nat → Int32} {zz w : Nat} (g : Nat → Int32) (h : ∀ j, j < zz → o j = ψ j) : ∀ j, j < zz + w → apF o zz w g j = apF ψ zz w g j := by
  intro j hj
  unfold apF
  by_cases h1 : zz ≤ j ∧ j < zz + w
  · rw [if_pos h1, if_pos h1]
  · rw [if_neg h1, if_neg h1]; exact h j (by omega)
theorem agF_agree {o ψ : Nat → Int32} {zz d : Nat} (hd : 1 ≤ d) (hd2 : d ≤ zz) (h : ∀ j, j < zz → o j = ψ j) : ∀ m j, j < zz + m → agF o zz d m j = agF ψ zz d m j := by
  intro m
  induction m with
  | zero => exact h
  | succ m ih =>
    intro j hj
    show upd (agF o zz d m) (zz + m) (agF o zz d m (zz + m - d)) j = upd (agF ψ zz d m) (zz + m) (agF ψ zz d m (zz + m - d)) j
    by_cases e : j = zz + m
    · rw [e, pk_us, pk_us]; exact ih _ (by omega)
    · rw [pk_un e, pk_un e]; exact ih _ (by omega)
