/-! BLOCKS, PURE -/
abbrev Bk : Type := Nat × Nat × List Sq
def allSeq (B : List Bk) : List Sq := B.flatMap (fun x => x.2.2)
theorem allSeq_add (B : List Bk) (x : Bk) : allSeq (B ++ [x]) = allSeq B ++ x.2.2 := by simp [allSeq]
def rawsOf (B : List Bk) : Nat := (B.map (fun x => if x.2.1 - x.1 ≤ pkS x.2.2 then 1 else 0)).sum
theorem rawsOf_add (B : List Bk) (x : Bk) : rawsOf (B ++ [x]) = rawsOf B + (if x.2.1 - x.1 ≤ pkS x.2.2 then 1 else 0) := by simp [rawsOf]
def lenOf (ar : Nat) (B : List Bk) : Nat := (B.map (fun x => ar + min (pkS x.2.2) (x.2.1 - x.1))).sum
theorem lenOf_add (ar : Nat) (B : List Bk) (x : Bk) : lenOf ar (B ++ [x]) = lenOf ar B + (ar + min (pkS x.2.2) (x.2.1 - x.1)) := by simp [lenOf]
def blkI (φ : Nat → Int32) (n pt : Nat) (lk : Bool) (BT BD : List Bk) (k s b : Nat) (tb : Nat → Nat) : Prop := BT = BD ++ blocksL φ n pt lk k s b tb
/-- one block's finding -/
def bF (φ : Nat → Int32) (n pt : Nat) (lk : Bool) (s b : Nat) (tb : Nat → Nat) : List Sq × (Nat → Nat) := findL φ b (if lk then 0 else s) (min (s + pt) n) (min (s + pt) n - s + 1) s s tb
theorem blk_end {φ : Nat → Int32} {n pt : Nat} {lk : Bool} {BT BD : List Bk} {k s b : Nat} {tb : Nat → Nat} (hI : blkI φ n pt lk BT BD k s b tb) (h : n ≤ s) : BT = BD := by
  unfold blkI at hI
  cases k with
  | zero => rw [hI, blocksL, List.append_nil]
  | succ k => rw [hI, blocksL, if_neg (by omega), List.append_nil]
theorem blk_step {φ : Nat → Int32} {n pt : Nat} {lk : Bool} {BT BD : List Bk} {k s b : Nat} {tb : Nat → Nat} (hI : blkI φ n pt lk BT BD (k + 1) s b tb) (h : s < n) : blkI φ n pt lk BT (BD ++ [(s, min (s + pt) n, (bF φ n pt lk s b tb).1)]) k (s + pt) (b + 1) (bF φ n pt lk s b tb).2 := by
  unfold blkI at hI ⊢
  rw [hI, blocksL, if_pos h, List.append_assoc]
  rfl
/-- what holds of one block's finding -/
theorem bF_all {φ : Nat → Int32} (hφ : bytF φ) {n pt : Nat} (hn : n ≤ 140000) (hpt : 1 ≤ pt) (lk : Bool) {s b : Nat} (hs : s < n) {tb : Nat → Nat} (ht : ∀ z, z < 4096 → tb z ≤ s) :
    (∀ x ∈ (bF φ n pt lk s b tb).1, sqOK x ∧ q_b x = b ∧ s ≤ q_f x ∧ q_f x < min (s + pt) n) ∧ pkS (bF φ n pt lk s b tb).1 ≤ 5 * (min (s + pt) n - s) ∧ 1 ≤ (bF φ n pt lk s b tb).1.length ∧ (∀ z, z < 4096 → (bF φ n pt lk s b tb).2 z ≤ min (s + pt) n) :=
  findL_all hφ (by omega) _ _ _ _ (Nat.le_refl _) (by omega) (by omega) (by omega) ht
def optV (v : Nat → Int32) (lk ck sz ca : Bool) (cd pt : Nat) : Prop := v 0 = nI lk.toNat ∧ v 1 = nI ck.toNat ∧ v 2 = nI sz.toNat ∧ v 3 = nI ca.toNat ∧ v 4 = nI cd ∧ v 5 = nI pt ∧ 4 ≤ cd ∧ cd ≤ 7 ∧ 1 ≤ pt ∧ pt ≤ 65536
def flN (lk ck sz ca : Bool) : Nat := 64 + (32 - 32 * lk.toNat) + 16 * ck.toNat + 8 * sz.toNat + 4 * ca.toNat
theorem fl16 (lk ck sz ca : Bool) : nI (flN lk ck sz ca) &&& 16 = nI (16 * ck.toNat) := by cases lk <;> cases ck <;> cases sz <;> cases ca <;> decide
theorem fl8 (lk ck sz ca : Bool) : nI (flN lk ck sz ca) &&& 8 = nI (8 * sz.toNat) := by cases lk <;> cases ck <;> cases sz <;> cases ca <;> decide
theorem fl4 (lk ck sz ca : Bool) : nI (flN lk ck sz ca) &&& 4 = nI (4 * ca.toNat) := by cases lk <;> cases ck <;> cases sz <;> cases ca <;> decide
theorem z_min {a b : Nat} (ha : a < 2 ^ 31) (hb : b < 2 ^ 31) : (if nI b < nI a then nI b else nI a) = nI (min a b) := z_minI a b ha hb
theorem rawsOf_y {B : List Bk} {s e : Nat} {L : List Sq} (h : e - s ≤ pkS L) : rawsOf (B ++ [(s, e, L)]) = rawsOf B + 1 := by
  rw [rawsOf_add]
  exact congrArg (rawsOf B + ·) (if_pos h)
theorem rawsOf_n {B : List Bk} {s e : Nat} {L : List Sq} (h : ¬ e - s ≤ pkS L) : rawsOf (B ++ [(s, e, L)]) = rawsOf B := by
  rw [rawsOf_add]
  exact congrArg (rawsOf B + ·) (if_neg h)
