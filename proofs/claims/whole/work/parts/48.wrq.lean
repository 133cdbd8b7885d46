/-! WRITING BLOCKS, PURE -/
theorem pkR_mid (A B C : List Sq) : pkR (A ++ (B ++ C)) A.length B.length = pkS B := by
  rw [pkR_app A (B ++ C) B.length (by simp), List.take_left]
theorem getD_mid (A B C : List Sq) {t : Nat} (h : t < B.length) : (A ++ (B ++ C)).getD (A.length + t) sq0 = B.getD t sq0 := by
  rw [List.getD_eq_getElem?_getD, List.getD_eq_getElem?_getD, List.getElem?_append_right (by omega), Nat.add_sub_cancel_left, List.getElem?_append_left h]
theorem take_s {L : List Sq} {t : Nat} (h : t < L.length) : L.take (t + 1) = L.take t ++ [L.getD t sq0] := by
  rw [List.take_succ_eq_append_getElem h, List.getD_eq_getElem?_getD, List.getElem?_eq_getElem h]
  rfl
theorem pkS_app (A B : List Sq) : pkS (A ++ B) = pkS A + pkS B := by simp [pkS]
theorem pkS_take {L : List Sq} {t : Nat} (h : t < L.length) : pkS (L.take t) + seqSz (L.getD t sq0) ≤ pkS L := by
  have e := List.take_append_drop (t + 1) L
  rw [take_s h] at e
  have e2 := congrArg pkS e
  rw [pkS_app, pkS_app] at e2
  have e3 : pkS [L.getD t sq0] = seqSz (L.getD t sq0) := by simp [pkS]
  omega
theorem hash_piece0 {f : Nat → Int32} {n u k : Nat} (a b : List Int32) (hu : u = n + a.length) (hk : k = b.length) : hashF (apL f n (a ++ b)) u k 0 = hashL b := by
  subst hk
  have h := hash_piece (f := f) (n := n) a b [] hu
  rw [List.append_nil] at h
  exact h
theorem bHd_raw {s e : Nat} {L : List Sq} (h : e - s ≤ pkS L) : bHd (s, e, L) = numB (lN (e - s + 2147483648)) 4 := if_pos h
theorem bHd_pk {s e : Nat} {L : List Sq} (h : ¬ e - s ≤ pkS L) : bHd (s, e, L) = numB (lN (pkS L)) 4 := if_neg h
theorem bBody_raw {φ : Nat → Int32} {s e : Nat} {L : List Sq} (h : e - s ≤ pkS L) : bBody φ (s, e, L) = litB φ s (e - s) := if_pos h
theorem bBody_pk {φ : Nat → Int32} {s e : Nat} {L : List Sq} (h : ¬ e - s ≤ pkS L) : bBody φ (s, e, L) = seqsB φ L := if_neg h
theorem lenOf_cons (ar : Nat) (x : Bk) (B : List Bk) : lenOf ar (x :: B) = ar + min (pkS x.2.2) (x.2.1 - x.1) + lenOf ar B := rfl
theorem lenOf_app (ar : Nat) (A B : List Bk) : lenOf ar (A ++ B) = lenOf ar A + lenOf ar B := by simp [lenOf]
theorem allSeq_cons (x : Bk) (B : List Bk) : allSeq (x :: B) = x.2.2 ++ allSeq B := rfl
theorem allSeq_app (A B : List Bk) : allSeq (A ++ B) = allSeq A ++ allSeq B := by simp [allSeq]
/-- the frame's head and end -/
def hdB0 (lk ck sz ca : Bool) (cd n : Nat) : List Int32 := [i2b (nI (flN lk ck sz ca)), i2b (nI (16 * cd))] ++ (if sz then numB (lN n) 8 else [])
def hdB (lk ck sz ca : Bool) (cd n : Nat) : List Int32 := numB 407708164 4 ++ (hdB0 lk ck sz ca cd n ++ [i2b (ushr (hashL (hdB0 lk ck sz ca cd n)) 8)])
theorem hdB0_len (lk ck sz ca : Bool) (cd n : Nat) : (hdB0 lk ck sz ca cd n).length = 2 + 8 * sz.toNat := by
  unfold hdB0
  cases sz
  · rfl
  · simp [numB_len]
theorem hdB_len (lk ck sz ca : Bool) (cd n : Nat) : (hdB lk ck sz ca cd n).length = 7 + 8 * sz.toNat := by
  unfold hdB
  rw [List.length_append, List.length_append, hdB0_len, numB_len, List.length_singleton]
  omega
def enB (ca : Bool) (φ : Nat → Int32) (n : Nat) : List Int32 := numB 0 4 ++ (if ca then numB (hashF φ 0 n 0).toInt64 4 else [])
theorem enB_len (ca : Bool) (φ : Nat → Int32) (n : Nat) : (enB ca φ n).length = 4 + 4 * ca.toNat := by
  unfold enB
  cases ca
  · simp [numB_len]
  · simp [numB_len]
/-- a whole frame -/
def frmB (lk ck sz ca : Bool) (cd n : Nat) (φ : Nat → Int32) (B : List Bk) : List Int32 := hdB lk ck sz ca cd n ++ (bksB ck φ B ++ enB ca φ n)
theorem frmB_len (lk ck sz ca : Bool) (cd n : Nat) (φ : Nat → Int32) (B : List Bk) : (frmB lk ck sz ca cd n φ B).length = (7 + 8 * sz.toNat) + lenOf (4 + 4 * ck.toNat) B + (4 + 4 * ca.toNat) := by
  unfold frmB
  rw [List.length_append, List.length_append, hdB_len, bksB_len, enB_len]
  omega
theorem wb_n {fr f : Nat → Int32} {m : Nat} {ck : Bool} (h : ck = false) (BD : List Bk) (x : Bk) : apL (apL fr m (bksB ck f BD)) (m + lenOf (4 + 4 * ck.toNat) BD) (bHd x ++ bBody f x) = apL fr m (bksB ck f (BD ++ [x])) := by
  rw [apL_app' _ (by rw [bksB_len]), bksB_add]
  unfold bAll bCk
  rw [h, if_neg (by decide), List.append_nil]
theorem wb_y {fr f : Nat → Int32} {m u : Nat} {ck : Bool} (h : ck = true) (BD : List Bk) (x : Bk) (hu : u = m + lenOf (4 + 4 * ck.toNat) BD + (4 + min (pkS x.2.2) (x.2.1 - x.1))) : apF (apL (apL fr m (bksB ck f BD)) (m + lenOf (4 + 4 * ck.toNat) BD) (bHd x ++ bBody f x)) u 4 (loB (hashL (bBody f x)).toInt64) = apL fr m (bksB ck f (BD ++ [x])) := by
  have h1 : apL (apL fr m (bksB ck f BD)) (m + lenOf (4 + 4 * ck.toNat) BD) (bHd x ++ bBody f x) = apL fr m (bksB ck f BD ++ (bHd x ++ bBody f x)) := apL_app' _ (by rw [bksB_len])
  rw [h1, apL_of]
  have h2 : apL (apL fr m (bksB ck f BD ++ (bHd x ++ bBody f x))) u ((List.range 4).map (loB (hashL (bBody f x)).toInt64)) = apL fr m ((bksB ck f BD ++ (bHd x ++ bBody f x)) ++ (List.range 4).map (loB (hashL (bBody f x)).toInt64)) := apL_app' _ (by rw [List.length_append, List.length_append, bksB_len, bHd_len, bBody_len, hu]; omega)
  rw [h2, bksB_add]
  unfold bAll bCk
  rw [if_pos h, List.append_assoc, List.append_assoc]
  rfl
theorem lenOf_le {n pt ar : Nat} (ha : ar ≤ 8) (hpt : 1 ≤ pt) : ∀ (B : List Bk) (s b : Nat), bksOK n pt s b B → lenOf ar B ≤ 9 * (n - s) := by
  intro B
  induction B with
  | nil => intro s b _; exact Nat.zero_le _
  | cons x B ih =>
    intro s b h
    obtain ⟨h1, h2, h3, _, _, _, _, h8⟩ := h
    have := ih _ _ h8
    rw [lenOf_cons]
    omega
theorem allOK_bks {n pt : Nat} : ∀ (B : List Bk) (s b : Nat), bksOK n pt s b B → allOK (allSeq B) := by
  intro B
  induction B with
  | nil => intro s b _ x hx; exact absurd hx List.not_mem_nil
  | cons y B ih =>
    intro s b h x hx
    obtain ⟨_, _, _, h4, _, _, _, h8⟩ := h
    rw [allSeq_cons] at hx
    exact (List.mem_append.mp hx).elim (fun hx => (h4 x hx).1) (ih _ _ h8 x)
theorem hd_join {fr : Nat → Int32} {m : Nat} (a b : List Int32) {u : Nat} (hu : u = m + a.length) : apL (apL fr m a) u b = apL fr m (a ++ b) := apL_app' b hu
