/-! WRITING, PURE: chains of sequences, blocks' bytes -/
def chn (e : Nat) : Nat → List Sq → Prop
  | s, [] => s = e
  | s, x :: L => q_f x = s ∧ chn e (s + q_l x + q_m x) L
theorem findL_chn {φ : Nat → Int32} (hφ : bytF φ) {b hist e : Nat} : ∀ (k p first : Nat) (tb : Nat → Nat), first ≤ p → p ≤ e → first < e → e < p + k → (∀ z, z < 4096 → tb z ≤ p) → chn e first (findL φ b hist e k p first tb).1 ∧ ∀ x ∈ (findL φ b hist e k p first tb).1, q_f x + q_l x + q_m x ≤ e := by
  intro k
  induction k with
  | zero => intro p first tb h1 h2 h3 h4; omega
  | succ k ih =>
    intro p first tb h1 h2 h3 h4 h5
    by_cases hp : p + 12 ≤ e
    · have hsl := slN_lt (wd φ p)
      have hup : ∀ r, p < r → ∀ z, z < 4096 → upN tb (slN (wd φ p)) (p + 1) z ≤ r := by
        intro r hr z hz
        have := h5 z hz
        unfold upN
        split <;> omega
      by_cases hc : hist < tb (slN (wd φ p)) ∧ p - (tb (slN (wd φ p)) - 1) ≤ 65535 ∧ wd φ (tb (slN (wd φ p)) - 1) = wd φ p
      · obtain ⟨q, eq⟩ : ∃ q, tb (slN (wd φ p)) = q + 1 := ⟨tb (slN (wd φ p)) - 1, by omega⟩
        rw [eq, Nat.add_sub_cancel] at hc
        have hm4 := mlenC_ge hφ (lim := e - 5) hc.2.2 (by omega)
        have hml := mlenC_le (φ := φ) (q := q) (p := p) (lim := e - 5) (by omega)
        rw [findL_yes hp eq (by omega) hc.2.1 hc.2.2]
        generalize mlenC φ q p (e - 5) = mx at hm4 hml ⊢
        obtain ⟨i1, i2⟩ := ih (p + mx) (p + mx) (upN tb (slN (wd φ p)) (p + 1)) (by omega) (by omega) (by omega) (by omega) (hup _ (by omega))
        refine ⟨⟨rfl, ?_⟩, ?_⟩
        · show chn e (first + (p - first) + mx) _
          rw [show first + (p - first) + mx = p + mx by omega]
          exact i1
        · intro x hx
          rcases List.mem_cons.mp hx with rfl | hx
          · show first + (p - first) + mx ≤ e; omega
          · exact i2 x hx
      · rw [findL_no hp hc]
        exact ih (p + 1) first _ (by omega) (by omega) h3 (by omega) (hup _ (by omega))
    · rw [findL_end (by omega)]
      refine ⟨⟨rfl, ?_⟩, ?_⟩
      · show first + (e - first) + 0 = e; omega
      · intro x hx
        have ex := List.mem_singleton.mp hx
        subst ex
        show first + (e - first) + 0 ≤ e; omega
/-- what is known of the blocks from the place s on, the first of them number b -/
def bksOK (n pt : Nat) : Nat → Nat → List Bk → Prop
  | s, _, [] => n ≤ s
  | s, b, x :: B => x.1 = s ∧ s < n ∧ x.2.1 = min (s + pt) n ∧ (∀ q ∈ x.2.2, sqOK q ∧ q_b q = b ∧ s ≤ q_f q ∧ q_f q < x.2.1 ∧ q_f q + q_l q + q_m q ≤ x.2.1) ∧ chn x.2.1 s x.2.2 ∧ pkS x.2.2 ≤ 5 * (x.2.1 - s) ∧ 1 ≤ x.2.2.length ∧ bksOK n pt (s + pt) (b + 1) B
theorem bks_ok {φ : Nat → Int32} (hφ : bytF φ) {n pt : Nat} (hn : n ≤ 140000) (hpt : 1 ≤ pt) (lk : Bool) : ∀ (k s b : Nat) (tb : Nat → Nat), n < s + k → (∀ z, z < 4096 → tb z ≤ min s n) → bksOK n pt s b (blocksL φ n pt lk k s b tb) := by
  intro k
  induction k with
  | zero => intro s b tb h _; show n ≤ s; omega
  | succ k ih =>
    intro s b tb h ht
    rw [blocksL]
    by_cases hs : s < n
    · rw [if_pos hs]
      have ht2 : ∀ z, z < 4096 → tb z ≤ s := fun z hz => by have := ht z hz; omega
      obtain ⟨a1, a2, a3, a4⟩ := bF_all hφ hn hpt lk (b := b) hs ht2
      obtain ⟨c1, c2⟩ := findL_chn hφ (b := b) (hist := if lk then 0 else s) (e := min (s + pt) n) (min (s + pt) n - s + 1) s s tb (Nat.le_refl _) (by omega) (by omega) (by omega) ht2
      refine ⟨rfl, hs, rfl, fun q hq => ?_, c1, a2, a3, ih _ _ _ (by omega) (fun z hz => ?_)⟩
      · obtain ⟨h1, h2, h3, h4⟩ := a1 q hq
        exact ⟨h1, h2, h3, h4, c2 q hq⟩
      · have := a4 z hz
        exact this
    · rw [if_neg hs]
      show n ≤ s; omega
/-- the row of starts at the end of a chain -/
theorem chn_end {st li of : Nat → Int32} : ∀ (A B : List Sq) (en e s : Nat), sqC (A ++ B) en st li of → chn e s A → (A = [] → st 0 = nI s) → st A.length = nI e := by
  intro A B en e s h hc h0
  rcases List.eq_nil_or_concat A with rfl | ⟨A', x, rfl⟩
  · have : s = e := hc
    rw [← this]
    exact h0 rfl
  · have hl : A'.length < (A'.concat x ++ B).length := by simp
    have hx := (h.1 A'.length hl).2.2.2
    have hg : (A'.concat x ++ B).getD A'.length sq0 = x := by
      rw [List.getD_eq_getElem?_getD, List.concat_eq_append, List.append_assoc, List.getElem?_append_right (Nat.le_refl _)]
      simp
    rw [hg] at hx
    have he : ∀ (L : List Sq) (s : Nat), chn e s (L ++ [x]) → q_f x + q_l x + q_m x = e := by
      intro L
      induction L with
      | nil => intro s h; obtain ⟨h1, h2⟩ := h; rw [h1]; exact h2
      | cons y L ih => intro s h; exact ih _ h.2
    rw [List.concat_eq_append] at hc
    rw [he A' s hc] at hx
    rw [List.length_concat]
    exact hx
theorem chn_app {e e2 : Nat} : ∀ (A B : List Sq) (s : Nat), chn e s A → chn e2 e B → chn e2 s (A ++ B) := by
  intro A
  induction A with
  | nil => intro B s h h2; have : s = e := h; rw [this]; exact h2
  | cons x A ih => intro B s h h2; exact ⟨h.1, ih B _ h.2 h2⟩
def hashL (bs : List Int32) : Int32 := hashF (fun j => bs.getD j 0) 0 bs.length 0
def bRaw (x : Bk) : Prop := x.2.1 - x.1 ≤ pkS x.2.2
def bHd (x : Bk) : List Int32 := if x.2.1 - x.1 ≤ pkS x.2.2 then numB (lN (x.2.1 - x.1 + 2147483648)) 4 else numB (lN (pkS x.2.2)) 4
def seqsB (φ : Nat → Int32) (L : List Sq) : List Int32 := L.flatMap (seqB φ)
theorem seqsB_add (φ : Nat → Int32) (L : List Sq) (x : Sq) : seqsB φ (L ++ [x]) = seqsB φ L ++ seqB φ x := by simp [seqsB]
theorem seqsB_len (φ : Nat → Int32) (L : List Sq) : (seqsB φ L).length = pkS L := by
  induction L with
  | nil => rfl
  | cons x L ih =>
    show (seqB φ x ++ seqsB φ L).length = seqSz x + pkS L
    rw [List.length_append, seqB_len, ih]
def bBody (φ : Nat → Int32) (x : Bk) : List Int32 := if x.2.1 - x.1 ≤ pkS x.2.2 then litB φ x.1 (x.2.1 - x.1) else seqsB φ x.2.2
def bCk (ck : Bool) (φ : Nat → Int32) (x : Bk) : List Int32 := if ck then numB (hashL (bBody φ x)).toInt64 4 else []
def bAll (ck : Bool) (φ : Nat → Int32) (x : Bk) : List Int32 := bHd x ++ (bBody φ x ++ bCk ck φ x)
theorem bHd_len (x : Bk) : (bHd x).length = 4 := by unfold bHd; split <;> exact numB_len _ _
theorem bBody_len (φ : Nat → Int32) (x : Bk) : (bBody φ x).length = min (pkS x.2.2) (x.2.1 - x.1) := by
  unfold bBody
  split
  · rw [litB_len]; omega
  · rw [seqsB_len]; omega
theorem bCk_len (ck : Bool) (φ : Nat → Int32) (x : Bk) : (bCk ck φ x).length = 4 * ck.toNat := by
  unfold bCk
  cases ck
  · rfl
  · exact numB_len _ _
theorem bAll_len (ck : Bool) (φ : Nat → Int32) (x : Bk) : (bAll ck φ x).length = (4 + 4 * ck.toNat) + min (pkS x.2.2) (x.2.1 - x.1) := by
  unfold bAll
  rw [List.length_append, List.length_append, bHd_len, bBody_len, bCk_len]
  omega
def bksB (ck : Bool) (φ : Nat → Int32) (B : List Bk) : List Int32 := B.flatMap (bAll ck φ)
theorem bksB_add (ck : Bool) (φ : Nat → Int32) (B : List Bk) (x : Bk) : bksB ck φ (B ++ [x]) = bksB ck φ B ++ bAll ck φ x := by simp [bksB]
theorem bksB_len (ck : Bool) (φ : Nat → Int32) (B : List Bk) : (bksB ck φ B).length = lenOf (4 + 4 * ck.toNat) B := by
  induction B with
  | nil => rfl
  | cons x B ih =>
    show (bAll ck φ x ++ bksB ck φ B).length = ((4 + 4 * ck.toNat) + min (pkS x.2.2) (x.2.1 - x.1)) + lenOf (4 + 4 * ck.toNat) B
    rw [List.length_append, bAll_len, ih]
/-- the hash of a piece that was just written -/
theorem hash_piece {f : Nat → Int32} {n u : Nat} (a b c : List Int32) (hu : u = n + a.length) : hashF (apL f n (a ++ (b ++ c))) u b.length 0 = hashL b := by
  subst hu
  apply hash_congr
  intro j hj
  rw [Nat.zero_add]
  have h := apF_in (f := f) (n := n) (k := (a ++ (b ++ c)).length) (g := fun j => (a ++ (b ++ c)).getD j 0) (j := a.length + j) (by simp; omega)
  show apL f n (a ++ (b ++ c)) (n + a.length + j) = _
  rw [Nat.add_assoc]
  refine h.trans ?_
  show (a ++ (b ++ c)).getD (a.length + j) 0 = b.getD j 0
  rw [List.getD_eq_getElem?_getD, List.getD_eq_getElem?_getD, List.getElem?_append_right (by omega), Nat.add_sub_cancel_left, List.getElem?_append_left hj]
theorem numB_low {v w : Int64} (h : ∀ t, t < 32 → v.toBitVec.getLsbD t = w.toBitVec.getLsbD t) : numB v 4 = numB w 4 := by
  have e : ∀ j, j < 4 → loB v j = loB w j := by
    intro j hj
    apply i2b_bits
    intro i hi
    rw [l2i_bits _ (by omega), l2i_bits _ (by omega), zb_lushr (by omega) v, zb_lushr (by omega) w]
    exact h _ (by omega)
  unfold numB
  apply List.map_congr_left
  intro j hj
  exact e j (List.mem_range.mp hj)
theorem numB_ext (z : Nat) : numB (nI z).toInt64 4 = numB (lN z) 4 := by
  apply numB_low
  intro t ht
  rw [Int32.toBitVec_toInt64, BitVec.getLsbD_signExtend]
  show _ = (BitVec.ofNat 64 z).getLsbD t
  have e : (nI z).toBitVec.getLsbD t = z.testBit t := by
    show (BitVec.ofNat 32 z).getLsbD t = _
    rw [BitVec.getLsbD_ofNat]; simp [ht]
  rw [BitVec.getLsbD_ofNat, if_pos ht, e]
theorem or_top {x : Nat} (hx : x < 2147483648) : nI x ||| (-2147483648) = nI (x + 2147483648) := by
  apply Int32.toBitVec_inj.mp
  apply BitVec.eq_of_getLsbD_eq
  intro i hi
  have hm : ∀ i, i < 32 → (-2147483648 : Int32).toBitVec.getLsbD i = decide (i = 31) := by decide
  rw [Int32.toBitVec_or, BitVec.getLsbD_or, hm i hi]
  show ((BitVec.ofNat 32 x).getLsbD i || decide (i = 31)) = (BitVec.ofNat 32 (x + 2147483648)).getLsbD i
  rw [BitVec.getLsbD_ofNat, BitVec.getLsbD_ofNat, Nat.add_comm x]
  by_cases h : i = 31
  · subst h
    have e : (2147483648 + x).testBit 31 = !x.testBit 31 := Nat.testBit_two_pow_add_eq x 31
    have e2 : x.testBit 31 = false := Nat.testBit_lt_two_pow (by omega)
    simp [e, e2]
  · have e : (2147483648 + x).testBit i = x.testBit i := Nat.testBit_two_pow_add_gt (show i < 31 by omega) x
    simp [h, e]
