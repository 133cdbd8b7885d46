/-! WRITING LISTS OF BYTES -/
theorem zn_decN {n : Int} (a k : Nat) (h : nI k + Int32.ofInt n = 0) (hk : k ≤ a) : nI a + Int32.ofInt n = nI (a - k) := by
  have e : nI a = nI (a - k) + nI k := by rw [nI_add, show a - k + k = a by omega]
  rw [e, Int32.add_assoc, h, Int32.add_zero]
theorem apL_app' {f : Nat → Int32} {n u : Nat} {a : List Int32} (b : List Int32) (h : u = n + a.length) : apL (apL f n a) u b = apL f n (a ++ b) := by subst h; exact apL_app f n a b
theorem apL_lo {f : Nat → Int32} {n : Nat} {a : List Int32} {j : Nat} (h : j < n) : apL f n a j = f j := apF_lo h
def numB (v : Int64) (k : Nat) : List Int32 := (List.range k).map (loB v)
theorem numB_len (v : Int64) (k : Nat) : (numB v k).length = k := by simp [numB]
theorem numB_s (v : Int64) (k : Nat) : numB v (k + 1) = numB v k ++ [loB v k] := by simp [numB, List.range_succ]
theorem litB_len (φ : Nat → Int32) (i k : Nat) : (litB φ i k).length = k := by simp [litB]
theorem litB_s (φ : Nat → Int32) (i k : Nat) : litB φ i (k + 1) = litB φ i k ++ [φ (i + k)] := by simp [litB, List.range_succ]
theorem rep_s (k : Nat) (x : Int32) : List.replicate (k + 1) x = List.replicate k x ++ [x] := List.replicate_succ'
theorem byt_i2b_eq {x : Int32} (h : byt x) : i2b x = x := h
theorem z_min15 (k : Nat) (h : k < 2 ^ 31) : (if (15 : Int32) < nI k then (15 : Int32) else nI k) = nI (min k 15) := by
  have e : (15 : Int32) = nI 15 := rfl
  rw [e]
  by_cases h1 : 15 < k
  · rw [if_pos (nI_lt h1 h), Nat.min_eq_right (by omega)]
  · rw [if_neg (nI_nlt (by omega) (by omega)), Nat.min_eq_left (by omega)]
/-- a number of a few bytes, and the same bytes of an int that is as good -/
theorem skp {f : Nat → Int32} {n d : Nat} (hd : d ≤ 15) : apL f n ([i2b (nI (80 + d))] ++ numB 1592618 3) = apL f n (numB (lN (407710288 + d)) 4) := by
  have h : ∀ d, d < 16 → ([i2b (nI (80 + d))] ++ numB 1592618 3) = numB (lN (407710288 + d)) 4 := by decide +kernel
  rw [h d (by omega)]
def octP (f : Nat → Int32) (n : Nat) (y : Int) (r : Int32) : Prop := (∃ j : Nat, y = j ∧ j < n ∧ r = f j &&& 255) ∨ ((y < 0 ∨ (n : Int) ≤ y) ∧ r = -1)
def hshP (f : Nat → Int32) (n : Nat) (y z : Int) (sd : Int32) (r : Int64) : Prop := (∃ i k : Nat, y = i ∧ z = k ∧ i + k ≤ n ∧ r = (hashF f i k sd).toInt64 &&& 4294967295) ∨ ((y < 0 ∨ z < 0 ∨ (n : Int) < y + z) ∧ r = -1)
/-- the first place at which two rows differ, or one of them ends -/
def difP (f g : Nat → Int32) (n k : Nat) (r : Int32) : Prop := ∃ j : Nat, j ≤ n ∧ j ≤ k ∧ (∀ i, i < j → f i = g i) ∧ ((j = n ∧ j = k ∧ r = -1) ∨ ((j < n → j < k → f j ≠ g j) ∧ ¬ (j = n ∧ j = k) ∧ r = nI j))
def optLo (j : Nat) : Int := if j < 4 then 0 else if j = 4 then 4 else 1
def optHi (j : Nat) : Int := if j < 4 then 1 else if j = 4 then 7 else 65536
def optP (v : Nat → Int32) (xi yi : Int) (y r : Int32) (v2 : Nat → Int32) : Prop := (∃ j : Nat, xi = j ∧ j < 6 ∧ optLo j ≤ yi ∧ yi ≤ optHi j ∧ r = v j ∧ v2 = upd v j y) ∨ ((xi < 0 ∨ 5 < xi ∨ ∃ j : Nat, xi = j ∧ j < 6 ∧ (yi < optLo j ∨ optHi j < yi)) ∧ r = -1 ∧ v2 = v)
theorem z_minI (a b : Nat) (ha : a < 2 ^ 31) (hb : b < 2 ^ 31) : (if nI b < nI a then nI b else nI a) = nI (min a b) := by
  by_cases h : b < a
  · rw [if_pos (nI_lt h ha), Nat.min_eq_right (by omega)]
  · rw [if_neg (nI_nlt (by omega) hb), Nat.min_eq_left (by omega)]
theorem map_rep (k : Nat) (x : Int32) : (List.range k).map (fun _ => x) = List.replicate k x := by
  induction k with
  | zero => rfl
  | succ k ih => rw [List.range_succ, List.map_append, ih, rep_s]; rfl
