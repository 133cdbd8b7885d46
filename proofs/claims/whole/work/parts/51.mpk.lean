/-! THE REFERENCE'S WRITING, PURE -/
theorem take_sB {L : List Int32} {t : Nat} (h : t < L.length) : L.take (t + 1) = L.take t ++ [L.getD t 0] := by
  rw [List.take_succ_eq_append_getElem h, List.getD_eq_getElem?_getD, List.getElem?_eq_getElem h]
  rfl
theorem sar8 (x : Int32) : i2b (sar x 8) = i2b (ushr x 8) := by
  apply i2b_bits
  intro i hi
  exact (zb_sar (k := 8) (by omega) x (by omega)).trans (zb_ushr (k := 8) (by omega) x i).symm
theorem numB_byt (v : Int64) (k j : Nat) : byt ((numB v k).getD j 0) := by
  rw [List.getD_eq_getElem?_getD]
  unfold numB
  rw [List.getElem?_map]
  cases h : (List.range k)[j]? with
  | none => exact byt_0
  | some x => exact byt_i2b _
theorem hdB0_byt (lk ck sz ca : Bool) (cd n j : Nat) : byt ((hdB0 lk ck sz ca cd n).getD j 0) := by
  unfold hdB0
  match j with
  | 0 => exact byt_i2b _
  | 1 => exact byt_i2b _
  | j + 2 =>
    show byt ((if sz = true then numB (lN n) 8 else []).getD j 0)
    cases sz
    · exact byt_0
    · exact numB_byt _ _ _
theorem hd_two {lk ck ca : Bool} {cd n : Nat} (hd : Nat → Int32) (x y : Int32) (j : Nat) (h : j < (hdB0 lk ck false ca cd n).length) : upd (upd hd 0 (i2b (nI (flN lk ck false ca)))) 1 (i2b (nI (16 * cd))) j = (hdB0 lk ck false ca cd n).getD j 0 := by
  rw [hdB0_len] at h
  match j, h with
  | 0, _ => rfl
  | 1, _ => rfl
theorem hd_ten {lk ck ca : Bool} {cd n : Nat} (hd : Nat → Int32) (x y z : Int32) (j : Nat) (h : j < (hdB0 lk ck true ca cd n).length) : apL (upd (upd hd 0 (i2b (nI (flN lk ck true ca)))) 1 (i2b (nI (16 * cd)))) 2 (numB (lN n) 8) j = (hdB0 lk ck true ca cd n).getD j 0 := by
  rw [hdB0_len] at h
  match j, h with
  | 0, _ => rfl
  | 1, _ => rfl
  | j + 2, h =>
    have h2 := apF_in (f := upd (upd hd 0 (i2b (nI (flN lk ck true ca)))) 1 (i2b (nI (16 * cd)))) (n := 2) (k := (numB (lN n) 8).length) (g := fun j => (numB (lN n) 8).getD j 0) (j := j) (by rw [numB_len]; simp at h; omega)
    rw [Nat.add_comm 2 j] at h2
    exact h2
