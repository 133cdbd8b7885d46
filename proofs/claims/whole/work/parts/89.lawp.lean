/-! THE LAW, PURE: two answers to the same call are the same, and what was alike stays alike -/
def bytL (l : List Int32) : Prop := ∀ x ∈ l, byt x
theorem bytL_app {a b : List Int32} (ha : bytL a) (hb : bytL b) : bytL (a ++ b) := fun x h => (List.mem_append.mp h).elim (ha x) (hb x)
theorem bytL_nil : bytL [] := fun x h => by cases h
theorem bytL_map {α : Type} (l : List α) (g : α → Int32) (h : ∀ a, byt (g a)) : bytL (l.map g) := fun x hx => by
  obtain ⟨a, -, rfl⟩ := List.mem_map.mp hx
  exact h a
theorem bytL_rep (k : Nat) {x : Int32} (h : byt x) : bytL (List.replicate k x) := fun y hy => by rw [List.eq_of_mem_replicate hy]; exact h
theorem bytL_one {x : Int32} (h : byt x) : bytL [x] := fun y hy => by rw [List.mem_singleton.mp hy]; exact h
theorem bytL_if {p : Prop} [Decidable p] {a b : List Int32} (ha : bytL a) (hb : bytL b) : bytL (if p then a else b) := by
  by_cases h : p
  · rw [if_pos h]; exact ha
  · rw [if_neg h]; exact hb
theorem bytL_flat {α : Type} (l : List α) (g : α → List Int32) (h : ∀ a, bytL (g a)) : bytL (l.flatMap g) := fun x hx => by
  obtain ⟨a, -, ha⟩ := List.mem_flatMap.mp hx
  exact h a x ha
theorem bytL_getD {l : List Int32} (h : bytL l) : bytF (fun j => l.getD j 0) := fun j => by
  show byt (l.getD j 0)
  rw [List.getD_eq_getElem?_getD]
  cases e : l[j]? with
  | none => exact byt_0
  | some x => exact h x (List.mem_of_getElem? e)
theorem bytF_apL {f : Nat → Int32} (h : bytF f) (n : Nat) {l : List Int32} (hl : bytL l) : bytF (apL f n l) := bytF_apF h (bytL_getD hl) n l.length
theorem byt_loB (v : Int64) (j : Nat) : byt (loB v j) := byt_i2b _
theorem bytL_num (v : Int64) (k : Nat) : bytL (numB v k) := bytL_map _ _ (byt_loB v)
theorem bytL_more (k : Nat) : bytL (moreB k) := by
  unfold moreB
  exact bytL_if bytL_nil (bytL_app (bytL_rep _ (byt_i2b _)) (bytL_one (byt_i2b _)))
theorem bytL_seq {φ : Nat → Int32} (h : bytF φ) (q : Sq) : bytL (seqB φ q) := by
  unfold seqB
  refine bytL_app (bytL_one (byt_i2b _)) (bytL_app (bytL_more _) (bytL_app (bytL_map _ _ (fun j => h _)) (bytL_if bytL_nil (bytL_app (bytL_map _ _ (byt_loB _)) (bytL_more _)))))
theorem bytL_blk {φ : Nat → Int32} (h : bytF φ) (ck : Bool) (x : Bk) : bytL (bAll ck φ x) := by
  unfold bAll bHd bBody bCk
  refine bytL_app (bytL_if (bytL_num _ _) (bytL_num _ _)) (bytL_app (bytL_if (bytL_map _ _ (fun j => h _)) (bytL_flat _ _ (bytL_seq h))) (bytL_if (bytL_num _ _) bytL_nil))
theorem bytL_frm {φ : Nat → Int32} (h : bytF φ) (lk ck sz ca : Bool) (cd n : Nat) (B : List Bk) : bytL (frmB lk ck sz ca cd n φ B) := by
  unfold frmB hdB hdB0 bksB enB
  refine bytL_app (bytL_app (bytL_num _ _) (bytL_app (bytL_app ?_ (bytL_if (bytL_num _ _) bytL_nil)) (bytL_one (byt_i2b _)))) (bytL_app (bytL_flat _ _ (bytL_blk h ck)) (bytL_app (bytL_num _ _) (bytL_if (bytL_num _ _) bytL_nil)))
  exact bytL_app (bytL_one (byt_i2b _)) (bytL_one (byt_i2b _))
theorem apF_ag {f g : Nat → Int32} {n k : Nat} {B : Nat → Int32} (h : ∀ j, j < n → g j = f j) {j : Nat} (hj : j < n + k) : apF g n k B j = apF f n k B j := by
  unfold apF
  by_cases hc : n ≤ j ∧ j < n + k
  · rw [if_pos hc, if_pos hc]
  · rw [if_neg hc, if_neg hc]; exact h j (by omega)
theorem apL_ag {f g : Nat → Int32} {n : Nat} {l : List Int32} (h : ∀ j, j < n → g j = f j) {j : Nat} (hj : j < n + l.length) : apL g n l j = apL f n l j := apF_ag h hj
def addP (cap hi : Nat) (hz xi : Int) (n : Nat) (f : Nat → Int32) (B : Nat → Nat → Int32) (r : Int32) (n2 : Nat) (f2 : Nat → Int32) : Prop := (∃ k : Nat, xi = k ∧ 1 ≤ k ∧ k ≤ hi ∧ ((n + k ≤ cap ∧ r = nI (n + k) ∧ n2 = n + k ∧ f2 = apF f n k (B k)) ∨ (cap < n + k ∧ r = -2 ∧ n2 = n ∧ f2 = f))) ∨ ((xi < 1 ∨ hz < xi) ∧ r = -1 ∧ n2 = n ∧ f2 = f)
theorem det_add {cap hi : Nat} {hz xi : Int} {n : Nat} {f g : Nat → Int32} {B : Nat → Nat → Int32} {r r' : Int32} {n2 n2' : Nat} {f2 g2 : Nat → Int32} (h1 : addP cap hi hz xi n f B r n2 f2) (h2 : addP cap hi hz xi n g B r' n2' g2) (hh : hz = hi) (hn : n ≤ cap) (hag : ∀ j, j < n → g j = f j) (hB : ∀ k, bytF (B k)) (hf : bytF f) : r = r' ∧ n2' = n2 ∧ n2 ≤ cap ∧ (∀ j, j < n2 → g2 j = f2 j) ∧ bytF f2 ∧ (g = f → g2 = f2) := by
  have B2 : ∀ {n2 n2' : Nat} {f2 g2 : Nat → Int32} {r r' x : Int32}, r = x → n2 = n → f2 = f → r' = x → n2' = n → g2 = g → r = r' ∧ n2' = n2 ∧ n2 ≤ cap ∧ (∀ j, j < n2 → g2 j = f2 j) ∧ bytF f2 ∧ (g = f → g2 = f2) := by
    intro n2 n2' f2 g2 r r' x a1 a2 a3 b1 b2 b3
    refine ⟨a1.trans b1.symm, b2.trans a2.symm, by omega, fun j hj => ?_, by rw [a3]; exact hf, fun e => by rw [b3, a3, e]⟩
    rw [b3, a3]; exact hag j (by omega)
  rcases h1 with ⟨k, e1, a1, a2, h1⟩ | ⟨a1, r1, m1, f1⟩ <;> rcases h2 with ⟨k', e2, b1, b2, h2⟩ | ⟨b1, r2, m2, f3⟩
  · have ek : k' = k := by omega
    subst ek
    rcases h1 with ⟨c1, r1, m1, f1⟩ | ⟨c1, r1, m1, f1⟩ <;> rcases h2 with ⟨d1, r2, m2, f3⟩ | ⟨d1, r2, m2, f3⟩
    · refine ⟨r1.trans r2.symm, m2.trans m1.symm, by omega, fun j hj => ?_, by rw [f1]; exact bytF_apF hf (hB _) _ _, fun e => by rw [f3, f1, e]⟩
      rw [f3, f1]; exact apF_ag hag (by omega)
    · exfalso; omega
    · exfalso; omega
    · exact B2 r1 m1 f1 r2 m2 f3
  · exfalso; omega
  · exfalso; omega
  · exact B2 r1 m1 f1 r2 m2 f3
def agnP (xi yi : Int) (n : Nat) (f : Nat → Int32) (r : Int32) (n2 : Nat) (f2 : Nat → Int32) : Prop := (∃ d k : Nat, xi = d ∧ yi = k ∧ 1 ≤ d ∧ d ≤ n ∧ 1 ≤ k ∧ k ≤ 70000 ∧ ((n + k ≤ 140000 ∧ r = nI (n + k) ∧ n2 = n + k ∧ f2 = agF f n d k) ∨ (140000 < n + k ∧ r = -2 ∧ n2 = n ∧ f2 = f))) ∨ ((xi < 1 ∨ (n : Int) < xi ∨ yi < 1 ∨ 70000 < yi) ∧ r = -1 ∧ n2 = n ∧ f2 = f)
theorem det_agn {xi yi : Int} {n : Nat} {f : Nat → Int32} {r r' : Int32} {n2 n2' : Nat} {f2 g2 : Nat → Int32} (h1 : agnP xi yi n f r n2 f2) (h2 : agnP xi yi n f r' n2' g2) (hn : n ≤ 140000) (hf : bytF f) : r = r' ∧ n2' = n2 ∧ n2 ≤ 140000 ∧ g2 = f2 ∧ bytF f2 := by
  rcases h1 with ⟨d, k, e1, e2, a1, a2, a3, a4, h1⟩ | ⟨a1, r1, m1, f1⟩ <;> rcases h2 with ⟨d', k', e3, e4, b1, b2, b3, b4, h2⟩ | ⟨b1, r2, m2, f3⟩
  · have ek : k' = k := by omega
    have ed : d' = d := by omega
    subst ek; subst ed
    rcases h1 with ⟨c1, r1, m1, f1⟩ | ⟨c1, r1, m1, f1⟩ <;> rcases h2 with ⟨d1, r2, m2, f3⟩ | ⟨d1, r2, m2, f3⟩
    · exact ⟨r1.trans r2.symm, m2.trans m1.symm, by omega, f3.trans f1.symm, by rw [f1]; exact bytF_agF hf _ _ _⟩
    · exfalso; omega
    · exfalso; omega
    · exact ⟨r1.trans r2.symm, m2.trans m1.symm, by omega, f3.trans f1.symm, by rw [f1]; exact hf⟩
  · exfalso; omega
  · exfalso; omega
  · exact ⟨r1.trans r2.symm, m2.trans m1.symm, by omega, f3.trans f1.symm, by rw [f1]; exact hf⟩
def setP (xi : Int) (y : Int32) (n : Nat) (f : Nat → Int32) (r : Int32) (f2 : Nat → Int32) : Prop := (∃ j : Nat, xi = j ∧ j < n ∧ r = f j &&& 255 ∧ f2 = upd f j (i2b y)) ∨ ((xi < 0 ∨ (n : Int) ≤ xi) ∧ r = -1 ∧ f2 = f)
theorem det_set {xi : Int} {y : Int32} {n : Nat} {f g : Nat → Int32} {r r' : Int32} {f2 g2 : Nat → Int32} (h1 : setP xi y n f r f2) (h2 : setP xi y n g r' g2) (hag : ∀ j, j < n → g j = f j) (hf : bytF f) : r = r' ∧ (∀ j, j < n → g2 j = f2 j) ∧ bytF f2 ∧ (g = f → g2 = f2) := by
  rcases h1 with ⟨k, e1, a1, r1, f1⟩ | ⟨a1, r1, f1⟩ <;> rcases h2 with ⟨k', e2, b1, r2, f3⟩ | ⟨b1, r2, f3⟩
  · have ek : k' = k := by omega
    subst ek
    refine ⟨by rw [r1, r2, hag _ a1], fun j hj => ?_, by rw [f1]; exact bytF_upd hf _ (byt_i2b _), fun e => by rw [f3, f1, e]⟩
    rw [f3, f1]
    unfold upd
    by_cases e : j = k'
    · rw [if_pos e, if_pos e]
    · rw [if_neg e, if_neg e]; exact hag j hj
  · exfalso; omega
  · exfalso; omega
  · exact ⟨r1.trans r2.symm, fun j hj => by rw [f3, f1]; exact hag j hj, by rw [f1]; exact hf, fun e => by rw [f3, f1, e]⟩
def cutP (xi : Int) (n : Nat) (r : Int32) (n2 : Nat) : Prop := (∃ j : Nat, xi = j ∧ j ≤ n ∧ r = nI n ∧ n2 = j) ∨ ((xi < 0 ∨ (n : Int) < xi) ∧ r = -1 ∧ n2 = n)
theorem det_cut {xi : Int} {n : Nat} {r r' : Int32} {n2 n2' : Nat} (h1 : cutP xi n r n2) (h2 : cutP xi n r' n2') : r = r' ∧ n2' = n2 ∧ n2 ≤ n := by
  rcases h1 with ⟨k, e1, a1, r1, m1⟩ | ⟨a1, r1, m1⟩ <;> rcases h2 with ⟨k', e2, b1, r2, m2⟩ | ⟨b1, r2, m2⟩
  · exact ⟨r1.trans r2.symm, by omega, by omega⟩
  · exfalso; omega
  · exfalso; omega
  · exact ⟨r1.trans r2.symm, by omega, by omega⟩
def skpL (d k : Nat) (z : Int32) : List Int32 := numB (lN (407710288 + d)) 4 ++ (numB (lN k) 4 ++ List.replicate k (i2b z))
theorem skpL_len (d k : Nat) (z : Int32) : (skpL d k z).length = 8 + k := by
  unfold skpL
  rw [List.length_append, List.length_append, numB_len, numB_len, List.length_replicate]; omega
theorem bytL_skp (d k : Nat) (z : Int32) : bytL (skpL d k z) := bytL_app (bytL_num _ _) (bytL_app (bytL_num _ _) (bytL_rep _ (byt_i2b _)))
def skpP (xi yi : Int) (z : Int32) (n : Nat) (f : Nat → Int32) (r : Int32) (n2 : Nat) (f2 : Nat → Int32) : Prop := (∃ d k : Nat, xi = d ∧ yi = k ∧ d ≤ 15 ∧ k ≤ 1000 ∧ ((n + (8 + k) ≤ 150000 ∧ r = nI (n + (8 + k)) ∧ n2 = n + (8 + k) ∧ f2 = apL f n (skpL d k z)) ∨ (150000 < n + (8 + k) ∧ r = -2 ∧ n2 = n ∧ f2 = f))) ∨ ((xi < 0 ∨ 15 < xi ∨ yi < 0 ∨ 1000 < yi) ∧ r = -1 ∧ n2 = n ∧ f2 = f)
theorem det_skp {xi yi : Int} {z : Int32} {n : Nat} {f g : Nat → Int32} {r r' : Int32} {n2 n2' : Nat} {f2 g2 : Nat → Int32} (h1 : skpP xi yi z n f r n2 f2) (h2 : skpP xi yi z n g r' n2' g2) (hn : n ≤ 150000) (hag : ∀ j, j < n → g j = f j) (hf : bytF f) : r = r' ∧ n2' = n2 ∧ n2 ≤ 150000 ∧ (∀ j, j < n2 → g2 j = f2 j) ∧ bytF f2 := by
  have B2 : ∀ {n2 n2' : Nat} {f2 g2 : Nat → Int32} {r r' x : Int32}, r = x → n2 = n → f2 = f → r' = x → n2' = n → g2 = g → r = r' ∧ n2' = n2 ∧ n2 ≤ 150000 ∧ (∀ j, j < n2 → g2 j = f2 j) ∧ bytF f2 := by
    intro n2 n2' f2 g2 r r' x a1 a2 a3 b1 b2 b3
    refine ⟨a1.trans b1.symm, b2.trans a2.symm, by omega, fun j hj => ?_, by rw [a3]; exact hf⟩
    rw [b3, a3]; exact hag j (by omega)
  rcases h1 with ⟨d, k, e1, e2, a1, a2, h1⟩ | ⟨a1, r1, m1, f1⟩ <;> rcases h2 with ⟨d', k', e3, e4, b1, b2, h2⟩ | ⟨b1, r2, m2, f3⟩
  · have ek : k' = k := by omega
    have ed : d' = d := by omega
    subst ek; subst ed
    rcases h1 with ⟨c1, r1, m1, f1⟩ | ⟨c1, r1, m1, f1⟩ <;> rcases h2 with ⟨d1, r2, m2, f3⟩ | ⟨d1, r2, m2, f3⟩
    · refine ⟨r1.trans r2.symm, m2.trans m1.symm, by omega, fun j hj => ?_, by rw [f1]; exact bytF_apL hf _ (bytL_skp _ _ _)⟩
      rw [f3, f1]; exact apL_ag hag (by rw [skpL_len]; omega)
    · exfalso; omega
    · exfalso; omega
    · exact B2 r1 m1 f1 r2 m2 f3
  · exfalso; omega
  · exfalso; omega
  · exact B2 r1 m1 f1 r2 m2 f3
theorem det_oct {f g : Nat → Int32} {n : Nat} {y : Int} {r r' : Int32} (h1 : octP f n y r) (h2 : octP g n y r') (hag : ∀ j, j < n → g j = f j) : r = r' := by
  rcases h1 with ⟨k, e1, a1, r1⟩ | ⟨a1, r1⟩ <;> rcases h2 with ⟨k', e2, b1, r2⟩ | ⟨b1, r2⟩
  · have ek : k' = k := by omega
    subst ek
    rw [r1, r2, hag _ a1]
  · exfalso; omega
  · exfalso; omega
  · exact r1.trans r2.symm
theorem det_hsh {f g : Nat → Int32} {n : Nat} {y z : Int} {sd : Int32} {r r' : Int64} (h1 : hshP f n y z sd r) (h2 : hshP g n y z sd r') (hag : ∀ j, j < n → g j = f j) : r = r' := by
  rcases h1 with ⟨i, k, e1, e2, a1, r1⟩ | ⟨a1, r1⟩ <;> rcases h2 with ⟨i', k', e3, e4, b1, r2⟩ | ⟨b1, r2⟩
  · have ek : k' = k := by omega
    have ei : i' = i := by omega
    subst ek; subst ei
    rw [r1, r2, hash_congr (f := f) (g := g) (a := i') (b := i') sd (fun j hj => (hag _ (by omega)).symm)]
  · exfalso; omega
  · exfalso; omega
  · exact r1.trans r2.symm
theorem det_dif {f g g' : Nat → Int32} {n k : Nat} {r r' : Int32} (h1 : difP f g n k r) (h2 : difP f g' n k r') (hag : ∀ j, j < k → g' j = g j) : r = r' := by
  obtain ⟨j, a1, a2, a3, a4⟩ := h1
  obtain ⟨j', b1, b2, b3, b4⟩ := h2
  have e : j = j' := by
    rcases Nat.lt_trichotomy j j' with h | h | h
    · exfalso
      rcases a4 with ⟨q1, q2, -⟩ | ⟨q1, -, -⟩
      · omega
      · exact q1 (by omega) (by omega) ((b3 j h).trans (hag j (by omega)))
    · exact h
    · exfalso
      rcases b4 with ⟨q1, q2, -⟩ | ⟨q1, -, -⟩
      · omega
      · exact q1 (by omega) (by omega) ((a3 j' h).trans (hag j' (by omega)).symm)
  subst e
  rcases a4 with ⟨q1, q2, r1⟩ | ⟨-, q2, r1⟩ <;> rcases b4 with ⟨p1, p2, r2⟩ | ⟨-, p2, r2⟩
  · exact r1.trans r2.symm
  · exact absurd ⟨q1, q2⟩ p2
  · exact absurd ⟨p1, p2⟩ q2
  · exact r1.trans r2.symm
def rowP {α : Type} (xi : Int) (P0 P1 P2 : α → Prop) (d r : α) : Prop := (xi = 0 ∧ P0 r) ∨ (xi = 1 ∧ P1 r) ∨ (xi = 2 ∧ P2 r) ∨ ((xi < 0 ∨ 2 < xi) ∧ r = d)
theorem det_row {α : Type} {xi : Int} {P0 P1 P2 Q0 Q1 Q2 : α → Prop} {d r r' : α} (h1 : rowP xi P0 P1 P2 d r) (h2 : rowP xi Q0 Q1 Q2 d r') (d0 : P0 r → Q0 r' → r = r') (d1 : P1 r → Q1 r' → r = r') (d2 : P2 r → Q2 r' → r = r') : r = r' := by
  rcases h1 with ⟨x1, h1⟩ | ⟨x1, h1⟩ | ⟨x1, h1⟩ | ⟨x1, h1⟩ <;> rcases h2 with ⟨x2, h2⟩ | ⟨x2, h2⟩ | ⟨x2, h2⟩ | ⟨x2, h2⟩ <;> first | (exfalso; omega) | exact d0 h1 h2 | exact d1 h1 h2 | exact d2 h1 h2 | exact h1.trans h2.symm
def cntP (xi : Int) (a0 a1 a2 a3 a4 a5 a6 a7 a8 r : Int32) : Prop := (xi = 0 ∧ r = a0) ∨ (xi = 1 ∧ r = a1) ∨ (xi = 2 ∧ r = a2) ∨ (xi = 3 ∧ r = a3) ∨ (xi = 4 ∧ r = a4) ∨ (xi = 5 ∧ r = a5) ∨ (xi = 6 ∧ r = a6) ∨ (xi = 7 ∧ r = a7) ∨ (xi = 8 ∧ r = a8) ∨ ((xi < 0 ∨ 8 < xi) ∧ r = -1)
def cntF (xi : Int) (a0 a1 a2 a3 a4 a5 a6 a7 a8 : Int32) : Int32 := if xi = 0 then a0 else if xi = 1 then a1 else if xi = 2 then a2 else if xi = 3 then a3 else if xi = 4 then a4 else if xi = 5 then a5 else if xi = 6 then a6 else if xi = 7 then a7 else if xi = 8 then a8 else -1
theorem cnt_eq {xi : Int} {a0 a1 a2 a3 a4 a5 a6 a7 a8 r : Int32} (h : cntP xi a0 a1 a2 a3 a4 a5 a6 a7 a8 r) : r = cntF xi a0 a1 a2 a3 a4 a5 a6 a7 a8 := by
  unfold cntF
  rcases h with ⟨e, h⟩ | ⟨e, h⟩ | ⟨e, h⟩ | ⟨e, h⟩ | ⟨e, h⟩ | ⟨e, h⟩ | ⟨e, h⟩ | ⟨e, h⟩ | ⟨e, h⟩ | ⟨e, h⟩
  · rw [if_pos e]; exact h
  · rw [if_neg (by omega), if_pos e]; exact h
  · rw [if_neg (by omega), if_neg (by omega), if_pos e]; exact h
  · rw [if_neg (by omega), if_neg (by omega), if_neg (by omega), if_pos e]; exact h
  · rw [if_neg (by omega), if_neg (by omega), if_neg (by omega), if_neg (by omega), if_pos e]; exact h
  · rw [if_neg (by omega), if_neg (by omega), if_neg (by omega), if_neg (by omega), if_neg (by omega), if_pos e]; exact h
  · rw [if_neg (by omega), if_neg (by omega), if_neg (by omega), if_neg (by omega), if_neg (by omega), if_neg (by omega), if_pos e]; exact h
  · rw [if_neg (by omega), if_neg (by omega), if_neg (by omega), if_neg (by omega), if_neg (by omega), if_neg (by omega), if_neg (by omega), if_pos e]; exact h
  · rw [if_neg (by omega), if_neg (by omega), if_neg (by omega), if_neg (by omega), if_neg (by omega), if_neg (by omega), if_neg (by omega), if_neg (by omega), if_pos e]; exact h
  · rw [if_neg (by omega), if_neg (by omega), if_neg (by omega), if_neg (by omega), if_neg (by omega), if_neg (by omega), if_neg (by omega), if_neg (by omega), if_neg (by omega)]; exact h
theorem det_cnt {xi : Int} {a0 a1 a2 a3 a4 a5 a6 a7 a8 r r' : Int32} (h1 : cntP xi a0 a1 a2 a3 a4 a5 a6 a7 a8 r) (h2 : cntP xi a0 a1 a2 a3 a4 a5 a6 a7 a8 r') : r = r' := (cnt_eq h1).trans (cnt_eq h2).symm
def optOK (v : Nat → Int32) : Prop := ∃ (lk ck sz ca : Bool) (cd pt : Nat), optV v lk ck sz ca cd pt
theorem optOK_D : optOK optD := ⟨false, false, false, false, 4, 65536, rfl, rfl, rfl, rfl, rfl, rfl, by omega, by omega, by omega, by omega⟩
theorem b01 {k : Nat} (h : k ≤ 1) : nI k = nI (decide (k = 1)).toNat := by
  rcases (show k = 0 ∨ k = 1 by omega) with rfl | rfl <;> rfl
theorem upd_at (v : Nat → Int32) (j : Nat) (x : Int32) : upd v j x j = x := if_pos rfl
theorem upd_ne (v : Nat → Int32) {j i : Nat} (x : Int32) (h : i ≠ j) : upd v j x i = v i := if_neg h
theorem det_opt {v : Nat → Int32} {xi yi : Int} {y r r' : Int32} {v2 v3 : Nat → Int32} (h1 : optP v xi yi y r v2) (h2 : optP v xi yi y r' v3) (hy : y.toInt = yi) (hv : optOK v) : r = r' ∧ v3 = v2 ∧ optOK v2 := by
  rcases h1 with ⟨j, e1, a1, a2, a3, r1, f1⟩ | ⟨a1, r1, f1⟩ <;> rcases h2 with ⟨j', e2, b1, b2, b3, r2, f2⟩ | ⟨b1, r2, f2⟩
  · have ej : j' = j := by omega
    subst ej
    refine ⟨r1.trans r2.symm, f2.trans f1.symm, ?_⟩
    obtain ⟨lk, ck, sz, ca, cd, pt, v0, v1, v2', v3', v4, v5, l1, l2, l3, l4⟩ := hv
    have hlo : 0 ≤ yi := by unfold optLo at a2; split at a2 <;> first | omega | (split at a2 <;> omega)
    obtain ⟨k, hk, ek⟩ := z_nat (x := y) (by omega)
    subst ek
    rw [nI_toInt hk] at hy
    subst hy
    rw [f1]
    unfold optLo at a2
    unfold optHi at a3
    rcases (show j' = 0 ∨ j' = 1 ∨ j' = 2 ∨ j' = 3 ∨ j' = 4 ∨ j' = 5 by omega) with rfl | rfl | rfl | rfl | rfl | rfl
    · rw [if_pos (by omega)] at a2 a3
      exact ⟨decide (k = 1), ck, sz, ca, cd, pt, (upd_at _ _ _).trans (b01 (by omega)), v1, v2', v3', v4, v5, l1, l2, l3, l4⟩
    · rw [if_pos (by omega)] at a2 a3
      exact ⟨lk, decide (k = 1), sz, ca, cd, pt, v0, (upd_at _ _ _).trans (b01 (by omega)), v2', v3', v4, v5, l1, l2, l3, l4⟩
    · rw [if_pos (by omega)] at a2 a3
      exact ⟨lk, ck, decide (k = 1), ca, cd, pt, v0, v1, (upd_at _ _ _).trans (b01 (by omega)), v3', v4, v5, l1, l2, l3, l4⟩
    · rw [if_pos (by omega)] at a2 a3
      exact ⟨lk, ck, sz, decide (k = 1), cd, pt, v0, v1, v2', (upd_at _ _ _).trans (b01 (by omega)), v4, v5, l1, l2, l3, l4⟩
    · rw [if_neg (by omega), if_pos (by omega)] at a2 a3
      exact ⟨lk, ck, sz, ca, k, pt, v0, v1, v2', v3', upd_at _ _ _, v5, by omega, by omega, l3, l4⟩
    · rw [if_neg (by omega), if_neg (by omega)] at a2 a3
      exact ⟨lk, ck, sz, ca, cd, k, v0, v1, v2', v3', v4, upd_at _ _ _, l1, l2, by omega, by omega⟩
  · exfalso
    rcases b1 with q | q | ⟨j2, q1, q2, q3⟩
    · omega
    · omega
    · have ej : j2 = j := by omega
      subst ej
      rcases q3 with q3 | q3 <;> omega
  · exfalso
    rcases a1 with q | q | ⟨j2, q1, q2, q3⟩
    · omega
    · omega
    · have ej : j2 = j' := by omega
      subst ej
      rcases q3 with q3 | q3 <;> omega
  · exact ⟨r1.trans r2.symm, f2.trans f1.symm, by rw [f1]; exact hv⟩
theorem bks_num {n pt : Nat} (hpt : 1 ≤ pt) : ∀ (B : List Bk) (b : Nat), bksOK n pt (b * pt) b B → ∀ q ∈ allSeq B, q_b q = q_f q / pt ∧ q_f q < n := by
  intro B
  induction B with
  | nil => intro b _ q hq; simp [allSeq] at hq
  | cons x B ih =>
    intro b h q hq
    obtain ⟨h1, h2, h3, h4, h5, h6, h7, h8⟩ := h
    have hm : q ∈ x.2.2 ++ allSeq B := by simpa [allSeq] using hq
    rcases List.mem_append.mp hm with hm | hm
    · obtain ⟨a1, a2, a3, a4, a5⟩ := h4 q hm
      rw [h3] at a4
      refine ⟨?_, by omega⟩
      rw [a2]
      exact (Nat.div_eq_of_lt_le a3 (by rw [Nat.succ_mul]; omega)).symm
    · exact ih (b + 1) (by rw [Nat.succ_mul]; exact h8) q hm
def seqE (nu pt : Nat) (sn : Nat → Nat) (st li of g0 g1 g2 g3 g4 : Nat → Int32) : Prop := ∀ j, j < nu → (st j = nI (sn j) ∧ sn j ≤ 140000) ∧ g0 j = nI (sn j / pt) ∧ g1 j = st j ∧ g2 j = li j ∧ g3 j = of j ∧ g4 j = (st (j + 1) - st j) - li j
theorem seqE_of {φ : Nat → Int32} (hφ : bytF φ) {n pt : Nat} (hn : n ≤ 140000) (hpt : 1 ≤ pt) {lk : Bool} {L : List Sq} (eL : L = allSeq (blocksL φ n pt lk (n + 1) 0 0 (fun _ => 0))) {st li of g0 g1 g2 g3 g4 : Nat → Int32} (hC : sqC L n st li of) (hM : sqM L g0 g1 g2 g3 g4) : seqE L.length pt (fun j => q_f (L.getD j sq0)) st li of g0 g1 g2 g3 g4 := by
  intro j hj
  have hb := bks_ok hφ hn hpt lk (n + 1) 0 0 (fun _ => 0) (by omega) (fun z hz => Nat.zero_le _)
  have hq := bks_num hpt _ 0 (by rw [Nat.zero_mul]; exact hb) (L.getD j sq0) (by rw [← eL]; exact getD_mem hj)
  obtain ⟨c1, c2, c3, c4⟩ := hC.1 j hj
  obtain ⟨d0, d1, d2, d3, d4⟩ := hM j hj
  refine ⟨⟨c1, by show q_f (L.getD j sq0) ≤ 140000; omega⟩, by rw [d0, hq.1], by rw [d1, c1], by rw [d2, c2], by rw [d3, c3], ?_⟩
  rw [d4, c4, c1, c2]
  exact (sub_lem _ _ _).symm
theorem det_seq {nu pt : Nat} {sn : Nat → Nat} {st li of g0 g1 g2 g3 g4 : Nat → Int32} (hE : seqE nu pt sn st li of g0 g1 g2 g3 g4) {xi yi : Int} {r r' : Int32}
    (h1 : (∃ j : Nat, xi = j ∧ j < nu ∧ ((yi = 0 ∧ r = nI (sn j / pt)) ∨ (yi = 1 ∧ r = st j) ∨ (yi = 2 ∧ r = li j) ∨ (yi = 3 ∧ r = of j) ∨ (yi = 4 ∧ r = (st (j + 1) - st j) - li j) ∨ ((yi < 0 ∨ 4 < yi) ∧ r = -1))) ∨ ((xi < 0 ∨ (nu : Int) ≤ xi) ∧ r = -1))
    (h2 : (∃ j : Nat, xi = j ∧ j < nu ∧ ((yi = 0 ∧ r' = g0 j) ∨ (yi = 1 ∧ r' = g1 j) ∨ (yi = 2 ∧ r' = g2 j) ∨ (yi = 3 ∧ r' = g3 j) ∨ (yi = 4 ∧ r' = g4 j) ∨ ((yi < 0 ∨ 4 < yi) ∧ r' = -1))) ∨ ((xi < 0 ∨ (nu : Int) ≤ xi) ∧ r' = -1)) : r = r' := by
  rcases h1 with ⟨j, e1, a1, h1⟩ | ⟨a1, r1⟩ <;> rcases h2 with ⟨j', e2, b1, h2⟩ | ⟨b1, r2⟩
  · have ej : j' = j := by omega
    subst ej
    obtain ⟨-, s0, s1, s2, s3, s4⟩ := hE j' a1
    rcases h1 with ⟨y1, r1⟩ | ⟨y1, r1⟩ | ⟨y1, r1⟩ | ⟨y1, r1⟩ | ⟨y1, r1⟩ | ⟨y1, r1⟩ <;> rcases h2 with ⟨y2, r2⟩ | ⟨y2, r2⟩ | ⟨y2, r2⟩ | ⟨y2, r2⟩ | ⟨y2, r2⟩ | ⟨y2, r2⟩ <;> first | (exfalso; omega) | exact r1.trans (s0.symm.trans r2.symm) | exact r1.trans (s1.symm.trans r2.symm) | exact r1.trans (s2.symm.trans r2.symm) | exact r1.trans (s3.symm.trans r2.symm) | exact r1.trans (s4.symm.trans r2.symm) | exact r1.trans r2.symm
  · exfalso; omega
  · exfalso; omega
  · exact r1.trans r2.symm
/-- what pack leaves in the frames: the class's row, and the reference's -/
theorem det_pck {m1 FL : Nat} {FB : List Int32} (hl : FB.length = FL) (hb : bytL FB) {fr fm fr2 fm2 : Nat → Int32} {r r' : Int32} {m2 m3 : Nat} (hm : m1 ≤ 150000) (hag : ∀ j, j < m1 → fm j = fr j) (hfr : bytF fr)
    (h1 : (m1 + FL ≤ 150000 ∧ r = nI (m1 + FL) ∧ m2 = m1 + FL ∧ fr2 = apL fr m1 FB) ∨ (150000 < m1 + FL ∧ r = -2 ∧ m2 = m1 ∧ fr2 = fr))
    (h2 : (m1 + FL ≤ 150000 ∧ r' = nI (m1 + FL) ∧ m3 = m1 + FL ∧ fm2 = apL fm m1 FB) ∨ (150000 < m1 + FL ∧ r' = -2 ∧ m3 = m1 ∧ ∀ j, j < m1 → fm2 j = fm j)) : r = r' ∧ m3 = m2 ∧ m2 ≤ 150000 ∧ (∀ j, j < m2 → fm2 j = fr2 j) ∧ bytF fr2 := by
  rcases h1 with ⟨c1, r1, e1, f1⟩ | ⟨c1, r1, e1, f1⟩ <;> rcases h2 with ⟨d1, r2, e2, f3⟩ | ⟨d1, r2, e2, f3⟩
  · refine ⟨r1.trans r2.symm, e2.trans e1.symm, by omega, fun j hj => ?_, by rw [f1]; exact bytF_apL hfr _ hb⟩
    rw [f3, f1]; exact apL_ag hag (by rw [hl]; omega)
  · exfalso; omega
  · exfalso; omega
  · exact ⟨r1.trans r2.symm, e2.trans e1.symm, by omega, fun j hj => by rw [f3 j (by omega), f1]; exact hag j (by omega), by rw [f1]; exact hfr⟩
theorem bytF_hiB (v : Int64) (k : Nat) : bytF (hiB v k) := fun j => byt_i2b _
theorem bytF_mixB (x : Int32) : bytF (mixB x) := fun j => byt_i2b _
theorem bytF_0 : bytF (fun _ => 0) := fun _ => byt_0
