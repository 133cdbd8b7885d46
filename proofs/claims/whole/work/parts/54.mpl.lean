/-! THE REFERENCE'S PACKING, PURE -/
theorem chn_m {e : Nat} : ∀ (L : List Sq) (s : Nat), chn e s L → s + mSum L ≤ e := by
  intro L
  induction L with
  | nil => intro s h; have : s = e := h; show s + 0 ≤ e; omega
  | cons x L ih =>
    intro s h
    have := ih _ h.2
    show s + (q_m x + mSum L) ≤ e
    omega
theorem bF_more {φ : Nat → Int32} (hφ : bytF φ) {n pt : Nat} (hpt : 1 ≤ pt) (lk : Bool) {s b : Nat} (hs : s < n) {tb : Nat → Nat} (ht : ∀ z, z < 4096 → tb z ≤ s) : (bF φ n pt lk s b tb).1.length ≤ min (s + pt) n - s ∧ s + mSum (bF φ n pt lk s b tb).1 ≤ min (s + pt) n :=
  ⟨findL_cnt hφ _ _ _ _ (Nat.le_refl _) (by omega) (by omega) (by omega) ht, chn_m _ _ (findL_chn hφ _ _ _ _ (Nat.le_refl _) (by omega) (by omega) (by omega) ht).1⟩
theorem mp_step {fr φ : Nat → Int32} {m1 T9 : Nat} {lk ck sz ca : Bool} {cd n : Nat} {BD : List Bk} {x : Bk} {F9 f2 : Nat → Int32} (hT : T9 = m1 + ((7 + 8 * sz.toNat) + lenOf (4 + 4 * ck.toNat) BD)) (h2 : T9 ≤ 150000 → F9 = apL fr m1 (hdB lk ck sz ca cd n ++ bksB ck φ BD)) {u : Nat} (hu : T9 ≤ u) (h3 : u ≤ 150000 → f2 = apL F9 T9 (bAll ck φ x)) : u ≤ 150000 → f2 = apL fr m1 (hdB lk ck sz ca cd n ++ bksB ck φ (BD ++ [x])) := by
  intro h
  rw [h3 h, h2 (by omega), apL_app' _ (by rw [List.length_append, hdB_len, bksB_len, hT]), bksB_add, List.append_assoc]
theorem mp_end {fr φ : Nat → Int32} {m1 T9 : Nat} {lk ck sz ca : Bool} {cd n : Nat} {BD : List Bk} {F9 f2 : Nat → Int32} (hT : T9 = m1 + ((7 + 8 * sz.toNat) + lenOf (4 + 4 * ck.toNat) BD)) (h2 : T9 ≤ 150000 → F9 = apL fr m1 (hdB lk ck sz ca cd n ++ bksB ck φ BD)) (h3 : f2 = apL F9 T9 (enB ca φ n)) (h : T9 ≤ 150000) : f2 = apL fr m1 (frmB lk ck sz ca cd n φ BD) := by
  rw [h3, h2 h, apL_app' _ (by rw [List.length_append, hdB_len, bksB_len, hT]), List.append_assoc]
  rfl
