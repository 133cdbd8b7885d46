/-! PURE WORDS: rows of bytes, numbers, THE HASH (both sides are tied to these) -/
def byt (x : Int32) : Prop := x.toInt8.toInt32 = x
def bytF (f : Nat → Int32) : Prop := ∀ j, byt (f j)
theorem byt_i2b (x : Int32) : byt (i2b x) := by unfold byt i2b; simp
theorem byt_0 : byt 0 := by unfold byt; decide
theorem bytF_upd {f : Nat → Int32} (h : bytF f) (n : Nat) {x : Int32} (hx : byt x) : bytF (upd f n x) := fun j => by
  show byt (if j = n then x else f j)
  by_cases h2 : j = n
  · rw [if_pos h2]; exact hx
  · rw [if_neg h2]; exact h j
theorem byt_nar {x : Int32} (h : byt x) : vp_nar .byte x = x := (vp_nar_byte x).trans h
theorem byt_fit {x : Int32} (h : byt x) : fits .byte (.int x) = true := by rw [← h]; exact pk_fb x
theorem z255 (x : Int32) : 0 ≤ (x &&& 255).toInt ∧ (x &&& 255).toInt < 256 := by
  obtain ⟨j, hj, e⟩ := pk_andE x (m := 255) 8 (by decide)
  rw [e, nI_toInt (by omega)]
  omega
def apF (f : Nat → Int32) (n k : Nat) (g : Nat → Int32) : Nat → Int32 := fun j => if n ≤ j ∧ j < n + k then g (j - n) else f j
theorem apF_0 (f : Nat → Int32) (n : Nat) (g : Nat → Int32) : apF f n 0 g = f := by funext j; unfold apF; rw [if_neg (by omega)]
theorem apF_s (f : Nat → Int32) (n k : Nat) (g : Nat → Int32) : upd (apF f n k g) (n + k) (g k) = apF f n (k + 1) g := by
  funext j
  unfold apF upd
  by_cases h : j = n + k
  · subst h
    rw [if_pos rfl, if_pos (by omega), Nat.add_sub_cancel_left]
  · rw [if_neg h]
    show (if n ≤ j ∧ j < n + k then g (j - n) else f j) = _
    by_cases h2 : n ≤ j ∧ j < n + k
    · rw [if_pos h2, if_pos (by omega)]
    · rw [if_neg h2, if_neg (by omega)]
theorem apF_lo {f : Nat → Int32} {n k : Nat} {g : Nat → Int32} {j : Nat} (h : j < n) : apF f n k g j = f j := by unfold apF; rw [if_neg (by omega)]
theorem apF_in {f : Nat → Int32} {n k : Nat} {g : Nat → Int32} {j : Nat} (h : j < k) : apF f n k g (n + j) = g j := by unfold apF; rw [if_pos (by omega), Nat.add_sub_cancel_left]
theorem bytF_apF {f g : Nat → Int32} (h : bytF f) (hg : bytF g) (n k : Nat) : bytF (apF f n k g) := fun j => by
  show byt (if n ≤ j ∧ j < n + k then g (j - n) else f j)
  by_cases h2 : n ≤ j ∧ j < n + k
  · rw [if_pos h2]; exact hg _
  · rw [if_neg h2]; exact h j
def agF (f : Nat → Int32) (n d : Nat) : Nat → Nat → Int32
  | 0 => f
  | k + 1 => upd (agF f n d k) (n + k) (agF f n d k (n + k - d))
theorem bytF_agF {f : Nat → Int32} (h : bytF f) (n d k : Nat) : bytF (agF f n d k) := by
  induction k with
  | zero => exact h
  | succ k ih => exact bytF_upd ih _ (ih _)
def hiB (v : Int64) (k : Nat) : Nat → Int32 := fun j => i2b (lushr v (nI (8 * (k - 1 - j)))).toInt32
def loB (v : Int64) : Nat → Int32 := fun j => i2b (lushr v (nI (8 * j))).toInt32
def numL (f : Nat → Int32) (i : Nat) : Nat → Int64
  | 0 => 0
  | k + 1 => numL f i k ||| lshl ((f (i + k)).toInt64 &&& 255) (nI (8 * k))
def wd (f : Nat → Int32) (i : Nat) : Int32 := (((f i &&& 255) ||| (shl (f (i + 1) &&& 255) 8)) ||| (shl (f (i + 2) &&& 255) 16)) ||| (shl (f (i + 3) &&& 255) 24)
def wdG (f : Nat → Int32) (n i : Nat) : Int32 := if i + 4 ≤ n then wd f i else 0
def rotl (x a b : Int32) : Int32 := (shl x a) ||| (ushr x b)
def rndF (a w : Int32) : Int32 := rotl (a + (-2048144777) * w) 13 19 * (-1640531535)
def six (f : Nat → Int32) (i : Nat) (sd : Int32) : Nat → Int32 × Int32 × Int32 × Int32
  | 0 => ((sd + (-1640531535)) + (-2048144777), sd + (-2048144777), sd, sd - (-1640531535))
  | t + 1 => (rndF (six f i sd t).1 (wd f (i + 16 * t)), rndF (six f i sd t).2.1 (wd f (i + 16 * t + 4)), rndF (six f i sd t).2.2.1 (wd f (i + 16 * t + 8)), rndF (six f i sd t).2.2.2 (wd f (i + 16 * t + 12)))
def sixF (q : Int32 × Int32 × Int32 × Int32) : Int32 := ((rotl q.1 1 31 + rotl q.2.1 7 25) + rotl q.2.2.1 12 20) + rotl q.2.2.2 18 14
def hw4 (f : Nat → Int32) (i : Nat) (h : Int32) : Nat → Int32
  | 0 => h
  | t + 1 => rotl (hw4 f i h t + (-1028477379) * wd f (i + 4 * t)) 17 15 * 668265263
def hb1 (f : Nat → Int32) (i : Nat) (h : Int32) : Nat → Int32
  | 0 => h
  | t + 1 => rotl (hb1 f i h t + 374761393 * (f (i + t) &&& 255)) 11 21 * (-1640531535)
def hav (h : Int32) : Int32 :=
  let a := (h ^^^ ushr h 15) * (-2048144777)
  let b := (a ^^^ ushr a 13) * (-1028477379)
  b ^^^ ushr b 16
def hbase (f : Nat → Int32) (i k : Nat) (sd : Int32) : Int32 := if 16 ≤ k then sixF (six f i sd (k / 16)) else sd + 374761393
def hashF (f : Nat → Int32) (i k : Nat) (sd : Int32) : Int32 := hav (hb1 f (i + k / 4 * 4) (hw4 f (i + k / 16 * 16) (hbase f i k sd + nI k) (k % 16 / 4)) (k % 4))
theorem wd_congr {f g : Nat → Int32} {a b : Nat} (h : ∀ j, j < 4 → f (a + j) = g (b + j)) : wd f a = wd g b := by
  have h0 := h 0 (by omega); have h1 := h 1 (by omega); have h2 := h 2 (by omega); have h3 := h 3 (by omega)
  simp only [Nat.add_zero] at h0
  unfold wd
  rw [h0, h1, h2, h3]
theorem six_congr {f g : Nat → Int32} {a b : Nat} (sd : Int32) {t : Nat} (h : ∀ j, j < 16 * t → f (a + j) = g (b + j)) : six f a sd t = six g b sd t := by
  induction t with
  | zero => rfl
  | succ t ih =>
    have e := ih (fun j hj => h j (by omega))
    unfold six
    rw [e, wd_congr (f := f) (g := g) (a := a + 16 * t) (b := b + 16 * t) (fun j hj => by rw [Nat.add_assoc, Nat.add_assoc]; exact h _ (by omega)),
      wd_congr (f := f) (g := g) (a := a + 16 * t + 4) (b := b + 16 * t + 4) (fun j hj => by rw [Nat.add_assoc, Nat.add_assoc, Nat.add_assoc, Nat.add_assoc]; exact h _ (by omega)),
      wd_congr (f := f) (g := g) (a := a + 16 * t + 8) (b := b + 16 * t + 8) (fun j hj => by rw [Nat.add_assoc, Nat.add_assoc, Nat.add_assoc, Nat.add_assoc]; exact h _ (by omega)),
      wd_congr (f := f) (g := g) (a := a + 16 * t + 12) (b := b + 16 * t + 12) (fun j hj => by rw [Nat.add_assoc, Nat.add_assoc, Nat.add_assoc, Nat.add_assoc]; exact h _ (by omega))]
theorem hw4_congr {f g : Nat → Int32} {a b : Nat} (x : Int32) {t : Nat} (h : ∀ j, j < 4 * t → f (a + j) = g (b + j)) : hw4 f a x t = hw4 g b x t := by
  induction t with
  | zero => rfl
  | succ t ih =>
    unfold hw4
    rw [ih (fun j hj => h j (by omega)), wd_congr (f := f) (g := g) (a := a + 4 * t) (b := b + 4 * t) (fun j hj => by rw [Nat.add_assoc, Nat.add_assoc]; exact h _ (by omega))]
theorem hb1_congr {f g : Nat → Int32} {a b : Nat} (x : Int32) {t : Nat} (h : ∀ j, j < t → f (a + j) = g (b + j)) : hb1 f a x t = hb1 g b x t := by
  induction t with
  | zero => rfl
  | succ t ih =>
    unfold hb1
    rw [ih (fun j hj => h j (by omega)), h t (by omega)]
/-- THE HASH rests on the piece's bytes alone -/
theorem hash_congr {f g : Nat → Int32} {a b k : Nat} (sd : Int32) (h : ∀ j, j < k → f (a + j) = g (b + j)) : hashF f a k sd = hashF g b k sd := by
  unfold hashF hbase
  rw [six_congr (f := f) (g := g) (a := a) (b := b) sd (t := k / 16) (fun j hj => h j (by omega)),
    hw4_congr (f := f) (g := g) (a := a + k / 16 * 16) (b := b + k / 16 * 16) _ (t := k % 16 / 4) (fun j hj => by rw [Nat.add_assoc, Nat.add_assoc]; exact h _ (by omega)),
    hb1_congr (f := f) (g := g) (a := a + k / 4 * 4) (b := b + k / 4 * 4) _ (t := k % 4) (fun j hj => by rw [Nat.add_assoc, Nat.add_assoc]; exact h _ (by omega))]
theorem z_and15 {k : Nat} (h : k < 2 ^ 31) : nI k &&& (-16) = nI (k / 16 * 16) := by
  have e : k / 16 * 16 = (k >>> 4) <<< 4 := by rw [Nat.shiftRight_eq_div_pow, Nat.shiftLeft_eq]
  rw [e]
  apply Int32.toBitVec_inj.mp
  apply BitVec.eq_of_getLsbD_eq
  intro i hi
  have hm : ∀ i, i < 32 → (-16 : Int32).toBitVec.getLsbD i = decide (4 ≤ i) := by decide
  show ((BitVec.ofNat 32 k) &&& (-16 : Int32).toBitVec).getLsbD i = (BitVec.ofNat 32 ((k >>> 4) <<< 4)).getLsbD i
  rw [BitVec.getLsbD_and, hm i hi, BitVec.getLsbD_ofNat, BitVec.getLsbD_ofNat, Nat.testBit_shiftLeft, Nat.testBit_shiftRight]
  by_cases h4 : 4 ≤ i
  · simp [hi, h4]
  · simp [hi, h4]
