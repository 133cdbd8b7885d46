/-! WHAT IS FOUND, PURE: every sequence is as the rules say -/
def sqOK (q : Sq) : Prop := q_l q ≤ 140000 ∧ q_m q ≤ 140000 ∧ q_o q ≤ 65535 ∧ ((q_o q = 0 ∧ q_m q = 0) ∨ (1 ≤ q_o q ∧ 4 ≤ q_m q))
theorem moreN_le (k : Nat) : moreN k ≤ k := by
  unfold moreN
  split <;> omega
theorem seqSz_le (q : Sq) : seqSz q ≤ 3 + 2 * (q_l q + q_m q) := by
  unfold seqSz
  have h1 := moreN_le (q_l q)
  have h2 := moreN_le (q_m q - 4)
  split <;> omega
theorem findL_all {φ : Nat → Int32} (hφ : bytF φ) {b hist e : Nat} (he : e ≤ 140000) : ∀ (k p first : Nat) (tb : Nat → Nat), first ≤ p → p ≤ e → first < e → e < p + k → (∀ z, z < 4096 → tb z ≤ p) →
    (∀ x ∈ (findL φ b hist e k p first tb).1, sqOK x ∧ q_b x = b ∧ first ≤ q_f x ∧ q_f x < e) ∧ pkS (findL φ b hist e k p first tb).1 ≤ 5 * (e - first) ∧ 1 ≤ (findL φ b hist e k p first tb).1.length ∧ (∀ z, z < 4096 → (findL φ b hist e k p first tb).2 z ≤ e) := by
  intro k
  induction k with
  | zero => intro p first tb h1 h2 h3 h4; omega
  | succ k ih =>
    intro p first tb h1 h2 h3 h4 h5
    by_cases hp : p + 12 ≤ e
    · have hsl := slN_lt (wd φ p)
      have hq := h5 _ hsl
      have hup : ∀ r, p < r → ∀ z, z < 4096 → upN tb (slN (wd φ p)) (p + 1) z ≤ r := by
        intro r hr z hz
        have := h5 z hz
        unfold upN
        split <;> omega
      by_cases hc : hist < tb (slN (wd φ p)) ∧ p - (tb (slN (wd φ p)) - 1) ≤ 65535 ∧ wd φ (tb (slN (wd φ p)) - 1) = wd φ p
      · obtain ⟨q, eq⟩ : ∃ q, tb (slN (wd φ p)) = q + 1 := ⟨tb (slN (wd φ p)) - 1, by omega⟩
        rw [eq, Nat.add_sub_cancel] at hc
        have hm4 := mlenC_ge hφ (lim := e - 5) hc.2.2 (by omega)
        have hml := mlenC_le (φ := φ) (q := q) (p := p) (lim := e - 5) (by omega)
        rw [findL_yes hp eq (by omega) hc.2.1 hc.2.2]
        generalize mlenC φ q p (e - 5) = mx at hm4 hml ⊢
        obtain ⟨i1, i2, i3, i4⟩ := ih (p + mx) (p + mx) (upN tb (slN (wd φ p)) (p + 1)) (by omega) (by omega) (by omega) (by omega) (hup _ (by omega))
        refine ⟨?_, ?_, ?_, i4⟩
        · intro x hx
          rcases List.mem_cons.mp hx with rfl | hx
          · exact ⟨⟨by show p - first ≤ 140000; omega, by show mx ≤ 140000; omega, hc.2.1, Or.inr ⟨by show 1 ≤ p - q; omega, hm4⟩⟩, rfl, Nat.le_refl _, h3⟩
          · obtain ⟨j1, j2, j3, j4⟩ := i1 x hx
            exact ⟨j1, j2, by omega, j4⟩
        · have hz := seqSz_le (b, first, p - first, p - q, mx)
          show seqSz (b, first, p - first, p - q, mx) + pkS _ ≤ _
          have e1 : q_l (b, first, p - first, p - q, mx) = p - first := rfl
          have e2 : q_m (b, first, p - first, p - q, mx) = mx := rfl
          rw [e1, e2] at hz
          omega
        · exact Nat.succ_le_succ (Nat.zero_le _)
      · rw [findL_no hp hc]
        exact ih (p + 1) first _ (by omega) (by omega) h3 (by omega) (hup _ (by omega))
    · rw [findL_end (by omega)]
      refine ⟨?_, ?_, Nat.le_refl _, fun z hz => by have := h5 z hz; show tb z ≤ e; omega⟩
      · intro x hx
        have ex := List.mem_singleton.mp hx
        subst ex
        exact ⟨⟨by show e - first ≤ 140000; omega, Nat.zero_le _, Nat.zero_le _, Or.inl ⟨rfl, rfl⟩⟩, rfl, Nat.le_refl _, h3⟩
      · have hz := seqSz_le (b, first, e - first, 0, 0)
        show seqSz (b, first, e - first, 0, 0) + 0 ≤ _
        have e1 : q_l (b, first, e - first, 0, 0) = e - first := rfl
        have e2 : q_m (b, first, e - first, 0, 0) = 0 := rfl
        rw [e1, e2] at hz
        omega
def allOK (L : List Sq) : Prop := ∀ x ∈ L, sqOK x
theorem getD_mem {L : List Sq} {i : Nat} (h : i < L.length) : L.getD i sq0 ∈ L := by
  rw [List.getD_eq_getElem?_getD, List.getElem?_eq_getElem h]
  exact List.getElem_mem h
/-- the sizes of t sequences from i on -/
def pkR (L : List Sq) (i : Nat) : Nat → Nat
  | 0 => 0
  | t + 1 => pkR L i t + seqSz (L.getD (i + t) sq0)
theorem pkR_app (A B : List Sq) : ∀ t, t ≤ B.length → pkR (A ++ B) A.length t = pkS (B.take t) := by
  intro t
  induction t with
  | zero => intro _; rfl
  | succ t ih =>
    intro h
    have e : (A ++ B).getD (A.length + t) sq0 = B[t]'(by omega) := by
      rw [List.getD_eq_getElem?_getD, List.getElem?_append_right (by omega), Nat.add_sub_cancel_left, List.getElem?_eq_getElem (by omega)]
      rfl
    rw [pkR, ih (by omega), e, List.take_succ_eq_append_getElem (by omega)]
    unfold pkS
    rw [List.map_append, List.sum_append]
    simp only [List.map_cons, List.map_nil, List.sum_cons, List.sum_nil, Nat.add_zero]
theorem pkR_all (A B : List Sq) : pkR (A ++ B) A.length B.length = pkS B := by rw [pkR_app A B B.length (Nat.le_refl _), List.take_length]
theorem sub_lem (a b m : Nat) : nI (a + b + m) - nI a - nI b = nI m := by rw [pk_sub (by omega), pk_sub (by omega)]; congr 1; omega
theorem fnd_end {φ : Nat → Int32} {b hist e k p first : Nat} {tb : Nat → Nat} {TT : List Sq × (Nat → Nat)} {K : List Sq} (hI : fndI φ b hist e TT K (k + 1) p first tb) (h : e < p + 12) : TT.1 = K ++ [(b, first, e - first, 0, 0)] ∧ TT.2 = tb := by
  unfold fndI at hI
  rw [findL_end h] at hI
  rw [hI]
  exact ⟨rfl, rfl⟩
theorem fnd_no {φ : Nat → Int32} {b hist e k p first : Nat} {tb : Nat → Nat} {TT : List Sq × (Nat → Nat)} {K : List Sq} (hI : fndI φ b hist e TT K (k + 1) p first tb) (h : p + 12 ≤ e) (h2 : ¬ (hist < tb (slN (wd φ p)) ∧ p - (tb (slN (wd φ p)) - 1) ≤ 65535 ∧ wd φ (tb (slN (wd φ p)) - 1) = wd φ p)) : fndI φ b hist e TT K k (p + 1) first (upN tb (slN (wd φ p)) (p + 1)) := by
  unfold fndI at hI ⊢
  rw [findL_no h h2] at hI
  exact hI
theorem fnd_yes {φ : Nat → Int32} {b hist e k p first q : Nat} {tb : Nat → Nat} {TT : List Sq × (Nat → Nat)} {K : List Sq} (hI : fndI φ b hist e TT K (k + 1) p first tb) (h : p + 12 ≤ e) (hq : tb (slN (wd φ p)) = q + 1) (h1 : hist ≤ q) (h2 : p - q ≤ 65535) (h3 : wd φ q = wd φ p) : fndI φ b hist e TT (K ++ [(b, first, p - first, p - q, mlenC φ q p (e - 5))]) k (p + mlenC φ q p (e - 5)) (p + mlenC φ q p (e - 5)) (upN tb (slN (wd φ p)) (p + 1)) := by
  unfold fndI at hI ⊢
  rw [findL_yes h hq h1 h2 h3] at hI
  rw [hI, List.append_assoc]
  rfl
