/-! READING, PURE: blocks, a frame's end, and all frames -/
theorem nI_inj {a b : Nat} (ha : a < 2 ^ 32) (hb : b < 2 ^ 32) (h : nI a = nI b) : a = b := by
  have e : (nI a).toBitVec.toNat = (nI b).toBitVec.toNat := congrArg (fun z : Int32 => z.toBitVec.toNat) h
  have e1 : (nI a).toBitVec.toNat = a % 2 ^ 32 := BitVec.toNat_ofNat a 32
  have e2 : (nI b).toBitVec.toNat = b % 2 ^ 32 := BitVec.toNat_ofNat b 32
  rw [e1, e2, Nat.mod_eq_of_lt ha, Nat.mod_eq_of_lt hb] at e
  exact e
theorem nI_iff {a b : Nat} (ha : a < 2 ^ 32) (hb : b < 2 ^ 32) : nI a = nI b ↔ a = b := ⟨nI_inj ha hb, fun h => congrArg nI h⟩
theorem and16w {k : Nat} (hk : k < 2 ^ 32) : nI k &&& (-16) = 407710288 ↔ (407710288 ≤ k ∧ k ≤ 407710303) := by
  have e : nI k &&& (-16) = nI (k / 16 * 16) := by
    have e : k / 16 * 16 = (k >>> 4) <<< 4 := by rw [Nat.shiftRight_eq_div_pow, Nat.shiftLeft_eq]
    rw [e]
    apply Int32.toBitVec_inj.mp
    apply BitVec.eq_of_getLsbD_eq
    intro i hi
    have hm : ∀ i, i < 32 → (-16 : Int32).toBitVec.getLsbD i = decide (4 ≤ i) := by decide
    show ((BitVec.ofNat 32 k) &&& (-16 : Int32).toBitVec).getLsbD i = (BitVec.ofNat 32 ((k >>> 4) <<< 4)).getLsbD i
    rw [BitVec.getLsbD_and, hm i hi, BitVec.getLsbD_ofNat, BitVec.getLsbD_ofNat, Nat.testBit_shiftLeft, Nat.testBit_shiftRight]
    by_cases h4 : 4 ≤ i
    · simp [hi, h4]
    · simp [hi, h4]
  rw [e, show (407710288 : Int32) = nI 407710288 from rfl, nI_iff (by omega) (by omega)]
  omega
theorem rawBit {k : Nat} (hk : k < 2 ^ 32) : nI k &&& (-2147483648) = 0 ↔ k < 2147483648 := by
  constructor
  · intro h
    have e : (nI k &&& (-2147483648)).toBitVec.getLsbD 31 = (0 : Int32).toBitVec.getLsbD 31 := by rw [h]
    have e2 : (nI k &&& (-2147483648)).toBitVec.getLsbD 31 = k.testBit 31 := by
      show ((BitVec.ofNat 32 k) &&& (-2147483648 : Int32).toBitVec).getLsbD 31 = _
      rw [BitVec.getLsbD_and, BitVec.getLsbD_ofNat, show (-2147483648 : Int32).toBitVec.getLsbD 31 = true from by decide]
      simp
    rw [e2, show (0 : Int32).toBitVec.getLsbD 31 = false from by decide] at e
    rcases Nat.lt_or_ge k (2 ^ 31) with h1 | h1
    · exact h1
    · have h2 := Nat.testBit_two_pow_add_eq (k - 2 ^ 31) 31
      rw [show 2 ^ 31 + (k - 2 ^ 31) = k by omega, e, Nat.testBit_lt_two_pow (show k - 2 ^ 31 < 2 ^ 31 by omega)] at h2
      cases h2
  · intro h
    apply Int32.toBitVec_inj.mp
    apply BitVec.eq_of_getLsbD_eq
    intro i hi
    have hm : ∀ i, i < 32 → (-2147483648 : Int32).toBitVec.getLsbD i = decide (i = 31) := by decide
    have h0 : ∀ i, i < 32 → (0 : Int32).toBitVec.getLsbD i = false := by decide
    show ((BitVec.ofNat 32 k) &&& (-2147483648 : Int32).toBitVec).getLsbD i = (0 : Int32).toBitVec.getLsbD i
    rw [BitVec.getLsbD_and, hm i hi, BitVec.getLsbD_ofNat, h0 i hi]
    by_cases e : i = 31
    · subst e
      rw [Nat.testBit_lt_two_pow h]; simp
    · simp [e]
theorem and31w {k : Nat} (hk : k < 2 ^ 32) : nI k &&& 2147483647 = nI (k % 2147483648) := pk_andN hk 31 (by decide)
theorem lN_cmp {a b : Nat} (ha : a < 2 ^ 64) (hb : b < 2 ^ 31) : (lN a).toInt = (b : Int) ↔ a = b := by
  constructor
  · intro h
    have e : lN a = lN b := Int64.toInt_inj.mp (h.trans (lN_toInt hb).symm)
    have e0 : (lN a).toBitVec.toNat = (lN b).toBitVec.toNat := congrArg (fun z : Int64 => z.toBitVec.toNat) e
    have e1 : (lN a).toBitVec.toNat = a % 2 ^ 64 := BitVec.toNat_ofNat a 64
    have e2 : (lN b).toBitVec.toNat = b % 2 ^ 64 := BitVec.toNat_ofNat b 64
    rw [e1, e2, Nat.mod_eq_of_lt ha, Nat.mod_eq_of_lt (by omega)] at e0
    exact e0
  · intro h
    rw [h]; exact lN_toInt hb
def blkR (φ : Nat → Int32) (n fl mo fb aa zz : Nat) (o : Nat → Int32) (nw : Nat) : (Nat × Nat) ⊕ (Nat × Nat × (Nat → Int32)) :=
  if mo < nw % 2147483648 then .inl (5, aa) else
  if n < aa + 4 + nw % 2147483648 then .inl (1, n) else
  if n < aa + 4 + nw % 2147483648 + 4 * (fl / 16 % 2) then .inl (1, n) else
  if fl / 16 % 2 = 1 ∧ wd φ (aa + 4 + nw % 2147483648) ≠ hashF φ (aa + 4) (nw % 2147483648) 0 then .inl (6, aa + 4 + nw % 2147483648) else
  if nw < 2147483648 then
    (match seqR φ aa (aa + 4 + nw % 2147483648) zz mo (if fl / 32 % 2 = 0 then fb else zz) (aa + 4 + nw % 2147483648 - (aa + 4) + 1) (aa + 4) zz o 0 with
     | .inl p => .inl p
     | .inr q => .inr (aa + 4 + nw % 2147483648 + 4 * (fl / 16 % 2), q.1, q.2))
  else if 140000 < zz + nw % 2147483648 then .inl (8, aa) else .inr (aa + 4 + nw % 2147483648 + 4 * (fl / 16 % 2), zz + nw % 2147483648, apF o zz (nw % 2147483648) (fun x => φ (aa + 4 + x)))
section BL
variable {φ : Nat → Int32} {n fl mo fb aa zz nw kw : Nat} {o : Nat → Int32}
theorem blkR_5 (ek : nw % 2147483648 = kw) (h : mo < kw) : blkR φ n fl mo fb aa zz o nw = .inl (5, aa) := by subst ek; exact if_pos h
theorem blkR_1 (ek : nw % 2147483648 = kw) (h : ¬ mo < kw) (h2 : n < aa + 4 + kw + 4 * (fl / 16 % 2)) : blkR φ n fl mo fb aa zz o nw = .inl (1, n) := by
  subst ek
  unfold blkR
  rw [if_neg h]
  by_cases h3 : n < aa + 4 + nw % 2147483648
  · rw [if_pos h3]
  · rw [if_neg h3, if_pos h2]
theorem blkR_6 (ek : nw % 2147483648 = kw) (h : ¬ mo < kw) (h2 : ¬ n < aa + 4 + kw + 4 * (fl / 16 % 2)) (hc : fl / 16 % 2 = 1) (hw : wd φ (aa + 4 + kw) ≠ hashF φ (aa + 4) kw 0) : blkR φ n fl mo fb aa zz o nw = .inl (6, aa + 4 + kw) := by
  subst ek
  unfold blkR
  rw [if_neg h, if_neg (by omega), if_neg h2, if_pos ⟨hc, hw⟩]
theorem blkR_8 (ek : nw % 2147483648 = kw) (h : ¬ mo < kw) (h2 : ¬ n < aa + 4 + kw + 4 * (fl / 16 % 2)) (hc : fl / 16 % 2 = 1 → wd φ (aa + 4 + kw) = hashF φ (aa + 4) kw 0) (hr : ¬ nw < 2147483648) (h8 : 140000 < zz + kw) : blkR φ n fl mo fb aa zz o nw = .inl (8, aa) := by
  subst ek
  unfold blkR
  rw [if_neg h, if_neg (by omega), if_neg h2, if_neg (fun z => z.2 (hc z.1)), if_neg hr, if_pos h8]
theorem blkR_r (ek : nw % 2147483648 = kw) (h : ¬ mo < kw) (h2 : ¬ n < aa + 4 + kw + 4 * (fl / 16 % 2)) (hc : fl / 16 % 2 = 1 → wd φ (aa + 4 + kw) = hashF φ (aa + 4) kw 0) (hr : ¬ nw < 2147483648) (h8 : ¬ 140000 < zz + kw) : blkR φ n fl mo fb aa zz o nw = .inr (aa + 4 + kw + 4 * (fl / 16 % 2), zz + kw, apF o zz kw (fun x => φ (aa + 4 + x))) := by
  subst ek
  unfold blkR
  rw [if_neg h, if_neg (by omega), if_neg h2, if_neg (fun z => z.2 (hc z.1)), if_neg hr, if_neg h8]
theorem blkR_sf (ek : nw % 2147483648 = kw) (h : ¬ mo < kw) (h2 : ¬ n < aa + 4 + kw + 4 * (fl / 16 % 2)) (hc : fl / 16 % 2 = 1 → wd φ (aa + 4 + kw) = hashF φ (aa + 4) kw 0) (hr : nw < 2147483648) {hist : Nat} (hh : hist = (if fl / 32 % 2 = 0 then fb else zz)) {w y : Nat} (hs : seqR φ aa (aa + 4 + kw) zz mo hist (aa + 4 + kw - (aa + 4) + 1) (aa + 4) zz o 0 = .inl (w, y)) : blkR φ n fl mo fb aa zz o nw = .inl (w, y) := by
  subst ek
  subst hh
  unfold blkR
  rw [if_neg h, if_neg (by omega), if_neg h2, if_neg (fun z => z.2 (hc z.1)), if_pos hr, hs]
theorem blkR_so (ek : nw % 2147483648 = kw) (h : ¬ mo < kw) (h2 : ¬ n < aa + 4 + kw + 4 * (fl / 16 % 2)) (hc : fl / 16 % 2 = 1 → wd φ (aa + 4 + kw) = hashF φ (aa + 4) kw 0) (hr : nw < 2147483648) {hist : Nat} (hh : hist = (if fl / 32 % 2 = 0 then fb else zz)) {w : Nat} {g : Nat → Int32} (hs : seqR φ aa (aa + 4 + kw) zz mo hist (aa + 4 + kw - (aa + 4) + 1) (aa + 4) zz o 0 = .inr (w, g)) : blkR φ n fl mo fb aa zz o nw = .inr (aa + 4 + kw + 4 * (fl / 16 % 2), w, g) := by
  subst ek
  subst hh
  unfold blkR
  rw [if_neg h, if_neg (by omega), if_neg h2, if_neg (fun z => z.2 (hc z.1)), if_pos hr, hs]
end BL
def endR (φ : Nat → Int32) (n fl tol fb aa zz : Nat) (o : Nat → Int32) : (Nat × Nat) ⊕ Nat :=
  if fl / 8 % 2 = 1 ∧ tol ≠ zz - fb then .inl (10, aa) else
  if n < aa + 4 + 4 * (fl / 4 % 2) then .inl (1, n) else
  if fl / 4 % 2 = 1 ∧ wd φ (aa + 4) ≠ hashF o fb (zz - fb) 0 then .inl (11, aa + 4) else .inr (aa + 4 + 4 * (fl / 4 % 2))
theorem endR_10 {φ : Nat → Int32} {n fl tol fb aa zz : Nat} {o : Nat → Int32} (h : fl / 8 % 2 = 1) (h2 : tol ≠ zz - fb) : endR φ n fl tol fb aa zz o = .inl (10, aa) := if_pos ⟨h, h2⟩
theorem endR_1 {φ : Nat → Int32} {n fl tol fb aa zz : Nat} {o : Nat → Int32} (h : fl / 8 % 2 = 1 → tol = zz - fb) (h2 : n < aa + 4 + 4 * (fl / 4 % 2)) : endR φ n fl tol fb aa zz o = .inl (1, n) := by
  unfold endR
  rw [if_neg (fun z => z.2 (h z.1)), if_pos h2]
theorem endR_11 {φ : Nat → Int32} {n fl tol fb aa zz : Nat} {o : Nat → Int32} (h : fl / 8 % 2 = 1 → tol = zz - fb) (h2 : ¬ n < aa + 4 + 4 * (fl / 4 % 2)) (h3 : fl / 4 % 2 = 1) (h4 : wd φ (aa + 4) ≠ hashF o fb (zz - fb) 0) : endR φ n fl tol fb aa zz o = .inl (11, aa + 4) := by
  unfold endR
  rw [if_neg (fun z => z.2 (h z.1)), if_neg h2, if_pos ⟨h3, h4⟩]
theorem endR_ok {φ : Nat → Int32} {n fl tol fb aa zz : Nat} {o : Nat → Int32} (h : fl / 8 % 2 = 1 → tol = zz - fb) (h2 : ¬ n < aa + 4 + 4 * (fl / 4 % 2)) (h3 : fl / 4 % 2 = 1 → wd φ (aa + 4) = hashF o fb (zz - fb) 0) : endR φ n fl tol fb aa zz o = .inr (aa + 4 + 4 * (fl / 4 % 2)) := by
  unfold endR
  rw [if_neg (fun z => z.2 (h z.1)), if_neg h2, if_neg (fun z => z.2 (h3 z.1))]
abbrev MS := Option (Nat × Nat × Nat × Nat) × Nat × Nat × (Nat → Int32) × Nat × Nat
abbrev MR := (Nat × Nat) ⊕ (Nat × (Nat → Int32) × Nat × Nat)
/-- a step where no frame is open -/
def stN (φ : Nat → Int32) (n aa zz : Nat) (o : Nat → Int32) (fr bl nw nx : Nat) : MR ⊕ MS :=
  if aa < n then
    if n < aa + 4 then .inl (.inl (1, n)) else
    if nw = 407708164 then
      (match headR φ n (aa + 4) with
       | .inl p => .inl (.inl p)
       | .inr q => .inr (some (q.1, q.2.1, q.2.2.1, zz), q.2.2.2, zz, o, fr, bl))
    else if 407710288 ≤ nw ∧ nw ≤ 407710303 then
      (if n < aa + 8 ∨ n < aa + 8 + nx then .inl (.inl (1, n)) else .inr (none, aa + 8 + nx, zz, o, fr + 1, bl))
    else .inl (.inl (2, aa))
  else .inl (.inr (zz, o, fr, bl))
/-- a step in the open frame: FLG, MOST, SIZE and where its bytes begin -/
def stS (φ : Nat → Int32) (n fl mo tol fb aa zz : Nat) (o : Nat → Int32) (fr bl nw : Nat) : MR ⊕ MS :=
  if n < aa + 4 then .inl (.inl (1, n)) else
  if nw = 0 then
    (match endR φ n fl tol fb aa zz o with
     | .inl p => .inl (.inl p)
     | .inr q => .inr (none, q, zz, o, fr + 1, bl))
  else
    (match blkR φ n fl mo fb aa zz o nw with
     | .inl p => .inl (.inl p)
     | .inr q => .inr (some (fl, mo, tol, fb), q.1, q.2.1, q.2.2, fr, bl + 1))
def stp (φ : Nat → Int32) (n : Nat) (s : MS) : MR ⊕ MS :=
  match s with
  | (none, aa, zz, o, fr, bl) => stN φ n aa zz o fr bl (numN φ aa 4) (numN φ (aa + 4) 4)
  | (some (fl, mo, tol, fb), aa, zz, o, fr, bl) => stS φ n fl mo tol fb aa zz o fr bl (numN φ aa 4)
def mchQ (g : MS → MR ⊕ MS) : Nat → MS → MR
  | 0, _ => .inl (0, 0)
  | k + 1, s => match g s with
    | .inl r => r
    | .inr t => mchQ g k t
theorem mchQ_r {g : MS → MR ⊕ MS} {k : Nat} {s : MS} {r : MR} (h : g s = .inl r) : mchQ g (k + 1) s = r := by rw [mchQ, h]
theorem mchQ_g {g : MS → MR ⊕ MS} {k : Nat} {s t : MS} (h : g s = .inr t) : mchQ g (k + 1) s = mchQ g k t := by rw [mchQ, h]
def mchR (φ : Nat → Int32) (n k : Nat) (h : Option (Nat × Nat × Nat × Nat)) (aa zz : Nat) (o : Nat → Int32) (fr bl : Nat) : MR := mchQ (stp φ n) k (h, aa, zz, o, fr, bl)
section MC
variable {φ : Nat → Int32} {n k aa zz fr bl : Nat} {o : Nat → Int32}
theorem mch_done (h1 : ¬ aa < n) : mchR φ n (k + 1) none aa zz o fr bl = .inr (zz, o, fr, bl) := mchQ_r (g := stp φ n) (if_neg h1)
theorem mch_1 (h1 : aa < n) (h2 : n < aa + 4) : mchR φ n (k + 1) none aa zz o fr bl = .inl (1, n) := mchQ_r (g := stp φ n) ((if_pos h1).trans (if_pos h2))
theorem mch_hf (h1 : ¬ n < aa + 4) (h2 : numN φ aa 4 = 407708164) {p : Nat × Nat} (h3 : headR φ n (aa + 4) = .inl p) : mchR φ n (k + 1) none aa zz o fr bl = .inl p := mchQ_r (g := stp φ n) (by
  show stN φ n aa zz o fr bl (numN φ aa 4) (numN φ (aa + 4) 4) = _
  generalize numN φ aa 4 = nw at h2 ⊢
  unfold stN
  rw [if_pos (by omega), if_neg h1, if_pos h2, h3])
theorem mch_ho (h1 : ¬ n < aa + 4) (h2 : numN φ aa 4 = 407708164) {a b c d : Nat} (h3 : headR φ n (aa + 4) = .inr (a, b, c, d)) : mchR φ n (k + 1) none aa zz o fr bl = mchR φ n k (some (a, b, c, zz)) d zz o fr bl := mchQ_g (g := stp φ n) (by
  show stN φ n aa zz o fr bl (numN φ aa 4) (numN φ (aa + 4) 4) = _
  generalize numN φ aa 4 = nw at h2 ⊢
  unfold stN
  rw [if_pos (by omega), if_neg h1, if_pos h2, h3])
theorem mch_sf (h1 : ¬ n < aa + 4) (h2 : 407710288 ≤ numN φ aa 4 ∧ numN φ aa 4 ≤ 407710303) (h3 : n < aa + 8 ∨ n < aa + 8 + numN φ (aa + 4) 4) : mchR φ n (k + 1) none aa zz o fr bl = .inl (1, n) := mchQ_r (g := stp φ n) (by
  show stN φ n aa zz o fr bl (numN φ aa 4) (numN φ (aa + 4) 4) = _
  generalize numN φ aa 4 = nw at h2 ⊢
  generalize numN φ (aa + 4) 4 = nx at h3 ⊢
  unfold stN
  rw [if_pos (by omega), if_neg h1, if_neg (by omega), if_pos h2, if_pos h3])
theorem mch_so (h1 : ¬ n < aa + 4) (h2 : 407710288 ≤ numN φ aa 4 ∧ numN φ aa 4 ≤ 407710303) (h3 : ¬ (n < aa + 8 ∨ n < aa + 8 + numN φ (aa + 4) 4)) : mchR φ n (k + 1) none aa zz o fr bl = mchR φ n k none (aa + 8 + numN φ (aa + 4) 4) zz o (fr + 1) bl := mchQ_g (g := stp φ n) (by
  show stN φ n aa zz o fr bl (numN φ aa 4) (numN φ (aa + 4) 4) = _
  generalize numN φ aa 4 = nw at h2 ⊢
  generalize numN φ (aa + 4) 4 = nx at h3 ⊢
  unfold stN
  rw [if_pos (by omega), if_neg h1, if_neg (by omega), if_pos h2, if_neg h3])
theorem mch_2 (h1 : ¬ n < aa + 4) (h2 : ¬ numN φ aa 4 = 407708164) (h3 : ¬ (407710288 ≤ numN φ aa 4 ∧ numN φ aa 4 ≤ 407710303)) : mchR φ n (k + 1) none aa zz o fr bl = .inl (2, aa) := mchQ_r (g := stp φ n) (by
  show stN φ n aa zz o fr bl (numN φ aa 4) (numN φ (aa + 4) 4) = _
  generalize numN φ aa 4 = nw at h2 h3 ⊢
  unfold stN
  rw [if_pos (by omega), if_neg h1, if_neg h2, if_neg h3])
theorem mch_w1 {fl mo tol fb : Nat} (h1 : n < aa + 4) : mchR φ n (k + 1) (some (fl, mo, tol, fb)) aa zz o fr bl = .inl (1, n) := mchQ_r (g := stp φ n) (if_pos h1)
theorem mch_ef {fl mo tol fb : Nat} (h1 : ¬ n < aa + 4) (h2 : numN φ aa 4 = 0) {p : Nat × Nat} (h3 : endR φ n fl tol fb aa zz o = .inl p) : mchR φ n (k + 1) (some (fl, mo, tol, fb)) aa zz o fr bl = .inl p := mchQ_r (g := stp φ n) (by
  show stS φ n fl mo tol fb aa zz o fr bl (numN φ aa 4) = _
  generalize numN φ aa 4 = nw at h2 ⊢
  unfold stS
  rw [if_neg h1, if_pos h2, h3])
theorem mch_eo {fl mo tol fb : Nat} (h1 : ¬ n < aa + 4) (h2 : numN φ aa 4 = 0) {a : Nat} (h3 : endR φ n fl tol fb aa zz o = .inr a) : mchR φ n (k + 1) (some (fl, mo, tol, fb)) aa zz o fr bl = mchR φ n k none a zz o (fr + 1) bl := mchQ_g (g := stp φ n) (by
  show stS φ n fl mo tol fb aa zz o fr bl (numN φ aa 4) = _
  generalize numN φ aa 4 = nw at h2 ⊢
  unfold stS
  rw [if_neg h1, if_pos h2, h3])
theorem mch_bf {fl mo tol fb : Nat} (h1 : ¬ n < aa + 4) (h2 : ¬ numN φ aa 4 = 0) {p : Nat × Nat} (h3 : blkR φ n fl mo fb aa zz o (numN φ aa 4) = .inl p) : mchR φ n (k + 1) (some (fl, mo, tol, fb)) aa zz o fr bl = .inl p := mchQ_r (g := stp φ n) (by
  show stS φ n fl mo tol fb aa zz o fr bl (numN φ aa 4) = _
  generalize numN φ aa 4 = nw at h2 h3 ⊢
  unfold stS
  rw [if_neg h1, if_neg h2, h3])
theorem mch_bo {fl mo tol fb : Nat} (h1 : ¬ n < aa + 4) (h2 : ¬ numN φ aa 4 = 0) {a b : Nat} {g : Nat → Int32} (h3 : blkR φ n fl mo fb aa zz o (numN φ aa 4) = .inr (a, b, g)) : mchR φ n (k + 1) (some (fl, mo, tol, fb)) aa zz o fr bl = mchR φ n k (some (fl, mo, tol, fb)) a b g fr (bl + 1) := mchQ_g (g := stp φ n) (by
  show stS φ n fl mo tol fb aa zz o fr bl (numN φ aa 4) = _
  generalize numN φ aa 4 = nw at h2 h3 ⊢
  unfold stS
  rw [if_neg h1, if_neg h2, h3])
end MC
