/-! THE REFERENCE'S WRITING, PURE -/
theorem take_sB {L : List Int32} {t : Nat} (h : t < L.length) : L.take (t + 1) = L.take t ++ [L.getD t 0] := by
  rw [List.take_succ_eq_append_getElem h, List.getD_eq_getElem?_getD, List.getElem?_eq_getElem h]
  rfl
theorem sar8 (x : Int32) : i2b (sar x 8) = i2b (ushr x 8) := by
  apply i2b_bits
  intro i hi
  exact (zb_sar (k := 8) (by omega) x (by omega)).trans (zb_ushr (k := 8) (by omega) x i).symm
theorem numB_byt (v : Int64) (k j : Nat) : byt ((numB v k).getD j 0) := by
  rw [List.getD_eq_getElem?_getD]
  unfold numB
  rw [List.getElem?_map]
  cases h : (List.range k)[j]? with
  | none => exact byt_0
  | some x => exact byt_i2b _
theorem hdB0_byt (lk ck sz ca : Bool) (cd n j : Nat) : byt ((hdB0 lk ck sz ca cd n).getD j 0) := by
  unfold hdB0
  match j with
  | 0 => exact byt_i2b _
  | 1 => exact byt_i2b _
  | j + 2 =>
    show byt ((if sz = true then numB (lN n) 8 else []).getD j 0)
    cases sz
    · exact byt_0
    · exact numB_byt _ _ _
theorem hd_two {lk ck ca : Bool} {cd n : Nat} (hd : Nat → Int32) (x y : Int32) (j : Nat) (h : j < (hdB0 lk ck false ca cd n).length) : upd (upd hd 0 (i2b (nI (flN lk ck false ca)))) 1 (i2b (nI (16 * cd))) j = (hdB0 lk ck false ca cd n).getD j 0 := by
  rw [hdB0_len] at h
  match j, h with
  | 0, _ => rfl
  | 1, _ => rfl
theorem hd_ten {lk ck ca : Bool} {cd n : Nat} (hd : Nat → Int32) (x y z : Int32) (j : Nat) (h : j < (hdB0 lk ck true ca cd n).length) : apL (upd (upd hd 0 (i2b (nI (flN lk ck true ca)))) 1 (i2b (nI (16 * cd)))) 2 (numB (lN n) 8) j = (hdB0 lk ck true ca cd n).getD j 0 := by
  rw [hdB0_len] at h
  match j, h with
  | 0, _ => rfl
  | 1, _ => rfl
  | j + 2, h =>
    have h2 := apF_in (f := upd (upd hd 0 (i2b (nI (flN lk ck true ca)))) 1 (i2b (nI (16 * cd)))) (n := 2) (k := (numB (lN n) 8).length) (g := fun j => (numB (lN n) 8).getD j 0) (j := j) (by rw [numB_len]; simp at h; omega)
    rw [Nat.add_comm 2 j] at h2
    exact h2
theorem bo_f {b : Bool} (h : ((b.toNat : Nat) : Int) ≠ 1) : b = false := by
  cases b
  · rfl
  · exact absurd rfl h
theorem bo_t {b : Bool} (h : ((b.toNat : Nat) : Int) = 1) : b = true := by
  cases b
  · exact absurd h (by decide)
  · rfl
/-- there are not more sequences than bytes -/
theorem findL_cnt {φ : Nat → Int32} (hφ : bytF φ) {b hist e : Nat} : ∀ (k p first : Nat) (tb : Nat → Nat), first ≤ p → p ≤ e → first < e → e < p + k → (∀ z, z < 4096 → tb z ≤ p) → (findL φ b hist e k p first tb).1.length ≤ e - first := by
  intro k
  induction k with
  | zero => intro p first tb h1 h2 h3 h4; omega
  | succ k ih =>
    intro p first tb h1 h2 h3 h4 h5
    by_cases hp : p + 12 ≤ e
    · have hup : ∀ r, p < r → ∀ z, z < 4096 → upN tb (slN (wd φ p)) (p + 1) z ≤ r := by
        intro r hr z hz
        have := h5 z hz
        unfold upN
        split <;> omega
      by_cases hc : hist < tb (slN (wd φ p)) ∧ p - (tb (slN (wd φ p)) - 1) ≤ 65535 ∧ wd φ (tb (slN (wd φ p)) - 1) = wd φ p
      · obtain ⟨q, eq⟩ : ∃ q, tb (slN (wd φ p)) = q + 1 := ⟨tb (slN (wd φ p)) - 1, by omega⟩
        rw [eq, Nat.add_sub_cancel] at hc
        have hm4 := mlenC_ge hφ (lim := e - 5) hc.2.2 (by omega)
        have hml := mlenC_le (φ := φ) (q := q) (p := p) (lim := e - 5) (by omega)
        rw [findL_yes hp eq (by omega) hc.2.1 hc.2.2]
        generalize mlenC φ q p (e - 5) = mx at hm4 hml ⊢
        have i1 := ih (p + mx) (p + mx) (upN tb (slN (wd φ p)) (p + 1)) (by omega) (by omega) (by omega) (by omega) (hup _ (by omega))
        show _ + 1 ≤ e - first
        omega
      · rw [findL_no hp hc]
        exact ih (p + 1) first _ (by omega) (by omega) h3 (by omega) (hup _ (by omega))
    · rw [findL_end (by omega)]
      show 1 ≤ e - first
      omega
