/-! PACKING, PURE: sequences found, blocks, their bytes -/
abbrev Sq : Type := Nat × Nat × Nat × Nat × Nat
abbrev q_b (q : Sq) : Nat := q.1
abbrev q_f (q : Sq) : Nat := q.2.1
abbrev q_l (q : Sq) : Nat := q.2.2.1
abbrev q_o (q : Sq) : Nat := q.2.2.2.1
abbrev q_m (q : Sq) : Nat := q.2.2.2.2
def sq0 : Sq := (0, 0, 0, 0, 0)
def slN (w : Int32) : Nat := (w * (-1640531535)).toBitVec.toNat / 1048576
theorem z_of32 (x : Int32) : x = nI x.toBitVec.toNat := by
  apply Int32.toBitVec_inj.mp
  show x.toBitVec = BitVec.ofNat 32 x.toBitVec.toNat
  simp
theorem slN_lt (w : Int32) : slN w < 4096 := by
  have h := (w * (-1640531535)).toBitVec.isLt
  unfold slN
  omega
theorem slN_eq (w : Int32) : ushr (w * (-1640531535)) 20 = nI (slN w) := by
  have h := (w * (-1640531535)).toBitVec.isLt
  unfold slN
  generalize hx : w * (-1640531535) = x at h ⊢
  have e := pk_ushrN (n := x.toBitVec.toNat) h 20 20 (by decide)
  rw [← z_of32 x] at e
  exact e
/-- how far the bytes from p on are those from q on, up to lim; t of them are known -/
def mlen (φ : Nat → Int32) (q p lim : Nat) : Nat → Nat → Nat
  | 0, t => t
  | k + 1, t => if p + t < lim ∧ φ (p + t) = φ (q + t) then mlen φ q p lim k (t + 1) else t
def mlenC (φ : Nat → Int32) (q p lim : Nat) : Nat := mlen φ q p lim (lim - p) 0
theorem mlen_skip {φ : Nat → Int32} {q p lim k : Nat} (m : Nat) (h : ∀ j, j < m → p + j < lim ∧ φ (p + j) = φ (q + j)) : ∀ t, t ≤ m → mlen φ q p lim (k + (m - t)) t = mlen φ q p lim k m := by
  intro t ht
  obtain ⟨d, hd⟩ : ∃ d, d = m - t := ⟨_, rfl⟩
  induction d generalizing t with
  | zero =>
    have e : t = m := by omega
    subst e
    simp
  | succ d ih =>
    have e : mlen φ q p lim ((k + (m - (t + 1))) + 1) t = mlen φ q p lim (k + (m - (t + 1))) (t + 1) := by
      rw [mlen]
      exact if_pos (h t (by omega))
    rw [show k + (m - t) = (k + (m - (t + 1))) + 1 by omega, e]
    exact ih (t + 1) (by omega) (by omega)
theorem mlen_ge (φ : Nat → Int32) (q p lim : Nat) : ∀ k t, t ≤ mlen φ q p lim k t := by
  intro k
  induction k with
  | zero => intro t; exact Nat.le_refl t
  | succ k ih =>
    intro t
    unfold mlen
    split
    · exact Nat.le_trans (Nat.le_succ t) (ih (t + 1))
    · exact Nat.le_refl t
theorem mlen_le (φ : Nat → Int32) (q p lim : Nat) : ∀ k t, mlen φ q p lim k t ≤ t ∨ p + mlen φ q p lim k t ≤ lim := by
  intro k
  induction k with
  | zero => intro t; exact Or.inl (Nat.le_refl t)
  | succ k ih =>
    intro t
    unfold mlen
    split
    · rename_i h
      rcases ih (t + 1) with h1 | h1
      · have h2 := mlen_ge φ q p lim k (t + 1)
        exact Or.inr (by omega)
      · exact Or.inr h1
    · exact Or.inl (Nat.le_refl t)
def upN (f : Nat → Nat) (k x : Nat) : Nat → Nat := fun j => if j = k then x else f j
/-- the sequences of the bytes up to e, from p on; tb k is one more than the place that slot k has, 0 without -/
def findL (φ : Nat → Int32) (b hist e : Nat) : Nat → Nat → Nat → (Nat → Nat) → List Sq × (Nat → Nat)
  | 0, _, _, tb => ([], tb)
  | k + 1, p, first, tb =>
    if p + 12 ≤ e then
      if hist < tb (slN (wd φ p)) ∧ p - (tb (slN (wd φ p)) - 1) ≤ 65535 ∧ wd φ (tb (slN (wd φ p)) - 1) = wd φ p then
        ((b, first, p - first, p - (tb (slN (wd φ p)) - 1), mlenC φ (tb (slN (wd φ p)) - 1) p (e - 5)) :: (findL φ b hist e k (p + mlenC φ (tb (slN (wd φ p)) - 1) p (e - 5)) (p + mlenC φ (tb (slN (wd φ p)) - 1) p (e - 5)) (upN tb (slN (wd φ p)) (p + 1))).1,
          (findL φ b hist e k (p + mlenC φ (tb (slN (wd φ p)) - 1) p (e - 5)) (p + mlenC φ (tb (slN (wd φ p)) - 1) p (e - 5)) (upN tb (slN (wd φ p)) (p + 1))).2)
      else findL φ b hist e k (p + 1) first (upN tb (slN (wd φ p)) (p + 1))
    else ([(b, first, e - first, 0, 0)], tb)
/-- the blocks: from, to, sequences -/
def blocksL (φ : Nat → Int32) (n pt : Nat) (lk : Bool) : Nat → Nat → Nat → (Nat → Nat) → List (Nat × Nat × List Sq)
  | 0, _, _, _ => []
  | k + 1, s, b, tb =>
    if s < n then
      (s, min (s + pt) n, (findL φ b (if lk then 0 else s) (min (s + pt) n) (min (s + pt) n - s + 1) s s tb).1) ::
        blocksL φ n pt lk k (s + pt) (b + 1) (findL φ b (if lk then 0 else s) (min (s + pt) n) (min (s + pt) n - s + 1) s s tb).2
    else []
def seqSz (q : Sq) : Nat := 1 + moreN (q_l q) + q_l q + (if q_o q = 0 then 0 else 2 + moreN (q_m q - 4))
def pkS (L : List Sq) : Nat := (L.map seqSz).sum
def apL (f : Nat → Int32) (n : Nat) (bs : List Int32) : Nat → Int32 := apF f n bs.length (fun j => bs.getD j 0)
theorem apL_nil (f : Nat → Int32) (n : Nat) : apL f n [] = f := apF_0 f n _
theorem apL_app (f : Nat → Int32) (n : Nat) (a b : List Int32) : apL (apL f n a) (n + a.length) b = apL f n (a ++ b) := by
  funext j
  unfold apL apF
  rw [List.length_append]
  by_cases h1 : n + a.length ≤ j ∧ j < n + a.length + b.length
  · rw [if_pos h1, if_pos (by omega)]
    show b.getD (j - (n + a.length)) 0 = (a ++ b).getD (j - n) 0
    rw [List.getD_eq_getElem?_getD, List.getD_eq_getElem?_getD, List.getElem?_append_right (by omega), show j - n - a.length = j - (n + a.length) by omega]
  · rw [if_neg h1]
    by_cases h2 : n ≤ j ∧ j < n + a.length
    · rw [if_pos h2, if_pos (by omega)]
      show a.getD (j - n) 0 = (a ++ b).getD (j - n) 0
      rw [List.getD_eq_getElem?_getD, List.getD_eq_getElem?_getD, List.getElem?_append_left (by omega)]
    · rw [if_neg h2, if_neg (by omega)]
theorem apL_one (f : Nat → Int32) (n : Nat) (x : Int32) : upd f n x = apL f n [x] := by
  have h := apF_s f n 0 (fun j => [x].getD j 0)
  rw [apF_0] at h
  exact h
theorem apL_of (f : Nat → Int32) (n k : Nat) (g : Nat → Int32) : apF f n k g = apL f n ((List.range k).map g) := by
  funext j
  unfold apL apF
  simp only [List.length_map, List.length_range]
  by_cases h : n ≤ j ∧ j < n + k
  · rw [if_pos h, if_pos h]
    simp [List.getD, List.getElem?_map, show j - n < k by omega]
  · rw [if_neg h, if_neg h]
def le4 (v : Int64) : List Int32 := (List.range 4).map (loB v)
def le8 (v : Int64) : List Int32 := (List.range 8).map (loB v)
def le2 (v : Int64) : List Int32 := (List.range 2).map (loB v)
def moreB (k : Nat) : List Int32 := if k < 15 then [] else List.replicate ((k - 15) / 255) (i2b 255) ++ [i2b (nI ((k - 15) % 255))]
theorem moreB_len (k : Nat) : (moreB k).length = moreN k := by
  unfold moreB moreN
  split
  · rfl
  · simp
def q_x (q : Sq) : Nat := if q_o q = 0 then 0 else q_m q - 4
def tokB (q : Sq) : Int32 := i2b (shl (nI (min (q_l q) 15)) 4 ||| nI (min (q_x q) 15))
def litB (φ : Nat → Int32) (i k : Nat) : List Int32 := (List.range k).map (fun j => φ (i + j))
def seqB (φ : Nat → Int32) (q : Sq) : List Int32 := [tokB q] ++ (moreB (q_l q) ++ (litB φ (q_f q) (q_l q) ++ (if q_o q = 0 then [] else le2 (lN (q_o q)) ++ moreB (q_x q))))
theorem seqB_len (φ : Nat → Int32) (q : Sq) : (seqB φ q).length = seqSz q := by
  unfold seqB seqSz q_x
  simp only [List.length_append, moreB_len, litB, List.length_map, List.length_range, List.length_singleton]
  split
  · simp; omega
  · simp [le2, moreB_len]; omega
