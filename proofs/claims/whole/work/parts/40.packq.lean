/-! FINDING, PURE: what both sides' loops keep -/
theorem byt_bits {x y : Int32} (hx : byt x) (hy : byt y) (h : ∀ i, i < 8 → x.toBitVec.getLsbD i = y.toBitVec.getLsbD i) : x = y := by
  have e := i2b_bits h
  exact (show x = i2b x from hx.symm).trans (e.trans (show i2b y = y from hy))
theorem and255_bits (x : Int32) (i : Nat) : (x &&& 255).toBitVec.getLsbD i = (x.toBitVec.getLsbD i && decide (i < 8)) := by
  have hm : (255 : Int32).toBitVec.getLsbD i = decide (i < 8) := by
    by_cases h : i < 32
    · have h2 : ∀ i, i < 32 → (255 : Int32).toBitVec.getLsbD i = decide (i < 8) := by decide
      exact h2 i h
    · rw [BitVec.getLsbD_of_ge _ _ (by omega)]
      simp [show ¬ i < 8 by omega]
  rw [Int32.toBitVec_and, BitVec.getLsbD_and, hm]
theorem u8_inj {x y : Int32} (hx : byt x) (hy : byt y) : x &&& 255 = y &&& 255 ↔ x = y := by
  constructor
  · intro h
    apply byt_bits hx hy
    intro i hi
    have e := congrArg (fun z : Int32 => z.toBitVec.getLsbD i) h
    simp only [and255_bits, hi, decide_true, Bool.and_true] at e
    exact e
  · intro h; rw [h]
theorem shl_bits {k : Nat} (hk : k < 32) (x : Int32) {i : Nat} (hi : i < 32) : (shl x (nI k)).toBitVec.getLsbD i = (decide (k ≤ i) && x.toBitVec.getLsbD (i - k)) := by
  unfold shl
  rw [Int32.toBitVec_shiftLeft]
  show (x.toBitVec <<< ((nI k &&& 31).toBitVec.smod 32).toNat).getLsbD i = _
  rw [zs_l k hk, BitVec.getLsbD_shiftLeft]
  simp only [hi, decide_true, Bool.true_and]
  by_cases h : k ≤ i
  · simp [h, show ¬ i < k by omega]
  · simp [h, show i < k by omega]
theorem wd_bits (φ : Nat → Int32) (p : Nat) {j i : Nat} (hj : j < 4) (hi : i < 8) : (wd φ p).toBitVec.getLsbD (8 * j + i) = (φ (p + j)).toBitVec.getLsbD i := by
  have e8 : (8 : Int32) = nI 8 := rfl
  have e16 : (16 : Int32) = nI 16 := rfl
  have e24 : (24 : Int32) = nI 24 := rfl
  unfold wd
  rw [e8, e16, e24]
  simp only [Int32.toBitVec_or, BitVec.getLsbD_or]
  rw [shl_bits (by omega) _ (by omega), shl_bits (by omega) _ (by omega), shl_bits (by omega) _ (by omega)]
  simp only [and255_bits]
  rcases (show j = 0 ∨ j = 1 ∨ j = 2 ∨ j = 3 by omega) with rfl | rfl | rfl | rfl
  · simp [hi, show ¬ 8 ≤ i by omega, show ¬ 16 ≤ i by omega, show ¬ 24 ≤ i by omega]
  · simp [show ¬ 8 + i < 8 by omega, show ¬ 16 ≤ 8 + i by omega, show ¬ 24 ≤ 8 + i by omega, hi]
  · simp [show ¬ 16 + i < 8 by omega, show ¬ 24 ≤ 16 + i by omega, hi, show ¬ 16 + i - 8 < 8 by omega, show 8 ≤ 16 + i by omega]
  · simp [show ¬ 24 + i < 8 by omega, hi, show ¬ 24 + i - 8 < 8 by omega, show ¬ 24 + i - 16 < 8 by omega, show 8 ≤ 24 + i by omega, show 16 ≤ 24 + i by omega]
theorem wd_bytes {φ : Nat → Int32} (hφ : bytF φ) {p q : Nat} (h : wd φ q = wd φ p) {j : Nat} (hj : j < 4) : φ (p + j) = φ (q + j) := by
  apply byt_bits (hφ _) (hφ _)
  intro i hi
  rw [← wd_bits φ p hj hi, ← wd_bits φ q hj hi, h]
theorem mlenC_4 {φ : Nat → Int32} (hφ : bytF φ) {p q lim : Nat} (h : wd φ q = wd φ p) (hl : p + 4 ≤ lim) : mlenC φ q p lim = mlen φ q p lim (lim - p - 4) 4 := by
  unfold mlenC
  have e := mlen_skip (φ := φ) (q := q) (p := p) (lim := lim) (k := lim - p - 4) 4 (fun j hj => ⟨by omega, wd_bytes hφ h hj⟩) 0 (by omega)
  rw [← e]
  congr 1
  omega
theorem mlenC_ge {φ : Nat → Int32} (hφ : bytF φ) {p q lim : Nat} (h : wd φ q = wd φ p) (hl : p + 4 ≤ lim) : 4 ≤ mlenC φ q p lim := by
  rw [mlenC_4 hφ h hl]
  exact mlen_ge _ _ _ _ _ _
theorem mlenC_le {φ : Nat → Int32} {p q lim : Nat} (hl : p ≤ lim) : p + mlenC φ q p lim ≤ lim := by
  rcases mlen_le φ q p lim (lim - p) 0 with h | h
  · unfold mlenC; omega
  · exact h
/-- the class's three rows hold the sequences L, and the next one begins at en -/
def sqC (L : List Sq) (en : Nat) (st li of : Nat → Int32) : Prop := (∀ i, i < L.length → st i = nI (q_f (L.getD i sq0)) ∧ li i = nI (q_l (L.getD i sq0)) ∧ of i = nI (q_o (L.getD i sq0)) ∧ st (i + 1) = nI (q_f (L.getD i sq0) + q_l (L.getD i sq0) + q_m (L.getD i sq0))) ∧ st L.length = nI en
theorem getD_lo {L : List Sq} {x : Sq} {i : Nat} (h : i < L.length) : (L ++ [x]).getD i sq0 = L.getD i sq0 := by
  rw [List.getD_eq_getElem?_getD, List.getD_eq_getElem?_getD, List.getElem?_append_left h]
theorem getD_hi {L : List Sq} {x : Sq} : (L ++ [x]).getD L.length sq0 = x := by
  rw [List.getD_eq_getElem?_getD, List.getElem?_append_right (Nat.le_refl _)]
  simp
theorem sqC_add {L : List Sq} {en : Nat} {st li of : Nat → Int32} (h : sqC L en st li of) (b a o m : Nat) : sqC (L ++ [(b, en, a, o, m)]) (en + a + m) (upd st (L.length + 1) ((st L.length + nI a) + nI m)) (upd li L.length (nI a)) (upd of L.length (nI o)) := by
  have ee : (st L.length + nI a) + nI m = nI (en + a + m) := by rw [h.2, nI_add, nI_add]
  refine ⟨fun i hi => ?_, ?_⟩
  · rw [List.length_append, List.length_singleton] at hi
    by_cases h1 : i < L.length
    · rw [getD_lo h1]
      obtain ⟨h2, h3, h4, h5⟩ := h.1 i h1
      refine ⟨(pk_un (by omega)).trans h2, (pk_un (by omega)).trans h3, (pk_un (by omega)).trans h4, (pk_un (by omega)).trans h5⟩
    · have e : i = L.length := by omega
      subst e
      rw [getD_hi]
      exact ⟨(pk_un (by omega)).trans h.2, pk_us, pk_us, pk_us.trans ee⟩
  · rw [List.length_append, List.length_singleton]
    exact pk_us.trans ee
/-- the reference's five rows hold the sequences L -/
def sqM (L : List Sq) (g0 g1 g2 g3 g4 : Nat → Int32) : Prop := ∀ i, i < L.length → g0 i = nI (q_b (L.getD i sq0)) ∧ g1 i = nI (q_f (L.getD i sq0)) ∧ g2 i = nI (q_l (L.getD i sq0)) ∧ g3 i = nI (q_o (L.getD i sq0)) ∧ g4 i = nI (q_m (L.getD i sq0))
theorem sqM_add {L : List Sq} {g0 g1 g2 g3 g4 : Nat → Int32} (h : sqM L g0 g1 g2 g3 g4) (x : Sq) : sqM (L ++ [x]) (upd g0 L.length (nI (q_b x))) (upd g1 L.length (nI (q_f x))) (upd g2 L.length (nI (q_l x))) (upd g3 L.length (nI (q_o x))) (upd g4 L.length (nI (q_m x))) := by
  intro i hi
  rw [List.length_append, List.length_singleton] at hi
  by_cases h1 : i < L.length
  · rw [getD_lo h1]
    obtain ⟨h2, h3, h4, h5, h6⟩ := h i h1
    exact ⟨(pk_un (by omega)).trans h2, (pk_un (by omega)).trans h3, (pk_un (by omega)).trans h4, (pk_un (by omega)).trans h5, (pk_un (by omega)).trans h6⟩
  · have e : i = L.length := by omega
    subst e
    rw [getD_hi]
    exact ⟨pk_us, pk_us, pk_us, pk_us, pk_us⟩
def mSum (L : List Sq) : Nat := (L.map q_m).sum
theorem mSum_add (L : List Sq) (x : Sq) : mSum (L ++ [x]) = mSum L + q_m x := by simp [mSum]
/-- the class's table and the reference's slots, as places tb -/
def tbC (tb : Nat → Nat) (ta : Nat → Int32) (p : Nat) : Prop := ∀ k, k < 4096 → ta k = nI (tb k) - 1 ∧ tb k ≤ p
def tbM (tb : Nat → Nat) (hist : Nat) (sl : Nat → Int32) (p : Nat) : Prop := ∀ k, k < 4096 → sl k = nI (if hist < tb k then tb k else 0) ∧ tb k ≤ p
theorem tbC_set {tb : Nat → Nat} {ta : Nat → Int32} {p q : Nat} (h : tbC tb ta p) (k : Nat) (hq : p < q) : tbC (upN tb k (p + 1)) (upd ta k (nI p)) q := by
  intro j hj
  obtain ⟨h1, h2⟩ := h j hj
  by_cases e : j = k
  · subst e
    refine ⟨?_, ?_⟩
    · rw [pk_us, show upN tb j (p + 1) j = p + 1 from if_pos rfl, nI_pred]
    · rw [show upN tb j (p + 1) j = p + 1 from if_pos rfl]; omega
  · rw [pk_un e, show upN tb k (p + 1) j = tb j from if_neg e]
    exact ⟨h1, by omega⟩
theorem tbM_set {tb : Nat → Nat} {hist : Nat} {sl : Nat → Int32} {p q : Nat} (h : tbM tb hist sl p) (k : Nat) (hq : p < q) (hh : hist ≤ p) : tbM (upN tb k (p + 1)) hist (upd sl k (nI (p + 1))) q := by
  intro j hj
  obtain ⟨h1, h2⟩ := h j hj
  by_cases e : j = k
  · subst e
    rw [pk_us, show upN tb j (p + 1) j = p + 1 from if_pos rfl, if_pos (by omega)]
    exact ⟨rfl, by omega⟩
  · rw [pk_un e, show upN tb k (p + 1) j = tb j from if_neg e]
    exact ⟨h1, by omega⟩
/-- one step of finding -/
theorem findL_end {φ : Nat → Int32} {b hist e k p first : Nat} {tb : Nat → Nat} (h : e < p + 12) : findL φ b hist e (k + 1) p first tb = ([(b, first, e - first, 0, 0)], tb) := by
  rw [findL]
  exact if_neg (by omega)
theorem findL_no {φ : Nat → Int32} {b hist e k p first : Nat} {tb : Nat → Nat} (h : p + 12 ≤ e) (h2 : ¬ (hist < tb (slN (wd φ p)) ∧ p - (tb (slN (wd φ p)) - 1) ≤ 65535 ∧ wd φ (tb (slN (wd φ p)) - 1) = wd φ p)) : findL φ b hist e (k + 1) p first tb = findL φ b hist e k (p + 1) first (upN tb (slN (wd φ p)) (p + 1)) := by
  rw [findL, if_pos h, if_neg h2]
theorem findL_yes {φ : Nat → Int32} {b hist e k p first q : Nat} {tb : Nat → Nat} (h : p + 12 ≤ e) (hq : tb (slN (wd φ p)) = q + 1) (h1 : hist ≤ q) (h2 : p - q ≤ 65535) (h3 : wd φ q = wd φ p) : findL φ b hist e (k + 1) p first tb = ((b, first, p - first, p - q, mlenC φ q p (e - 5)) :: (findL φ b hist e k (p + mlenC φ q p (e - 5)) (p + mlenC φ q p (e - 5)) (upN tb (slN (wd φ p)) (p + 1))).1, (findL φ b hist e k (p + mlenC φ q p (e - 5)) (p + mlenC φ q p (e - 5)) (upN tb (slN (wd φ p)) (p + 1))).2) := by
  rw [findL, if_pos h, hq, Nat.add_sub_cancel, if_pos ⟨by omega, h2, h3⟩]
/-- what is known while finding: the whole, out of what was found (K) and what is still to be found -/
def fndI (φ : Nat → Int32) (b hist e : Nat) (T : List Sq × (Nat → Nat)) (K : List Sq) (k p first : Nat) (tb : Nat → Nat) : Prop := T = (K ++ (findL φ b hist e k p first tb).1, (findL φ b hist e k p first tb).2)
theorem z_max1 (m : Nat) (h1 : 1 ≤ m) (h : m < 2 ^ 31) : (if (1 : Int32) < nI m then nI m else (1 : Int32)) = nI m := by
  have e : (1 : Int32) = nI 1 := rfl
  by_cases h2 : 1 < m
  · rw [e, if_pos (nI_lt h2 h)]
  · rw [e, if_neg (nI_nlt (by omega) (by omega)), show m = 1 by omega]
