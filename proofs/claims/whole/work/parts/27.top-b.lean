set_option maxHeartbeats 4000000 in
set_option maxRecDepth 100000 in
theorem c_Top_rowOf (l : Launch) (dC : Nat → ClassId) (dI : Nat → Nat → Nat) (kB kI : ClassId) (t0 : Nat) (y3 : Nat) (y4 : Nat) (y5 : Nat) (y6 : Nat) (y7 : Int32) (y8 : Int32) (y9 : Int32) (c0 : Nat) (g0 : Nat) (e0 : Nat) (x : Int32) (xi : Int) (xh : x.toInt = xi) : zMq l yX7_rowOf wsX7_rowOf ({ frames := 0, cells := 0, slots := 0, locals := 0 }) (dC, dI) kB kI [.ref t0, .int x] [(t0, .inr (7, [.ref c0, .ref g0, .ref e0, .ref y3, .ref y4, .ref y5, .ref y6, .int y7, .int y8, .int y9]))] 0 0 (fun (r : Option Nat) => fun _ : Unit => (xi = 0 ∧ r = some c0) ∨ (xi = 1 ∧ r = some g0) ∨ (xi = 2 ∧ r = some e0) ∨ ((xi < 0 ∨ 2 < xi) ∧ r = none)) (fun _ : Unit => [(t0, .inr (7, [.ref c0, .ref g0, .ref e0, .ref y3, .ref y4, .ref y5, .ref y6, .int y7, .int y8, .int y9]))]) := by
  intro sz
  refine Met.ofW (cc := cX7_rowOf) (maxL := 2) (ret := (some (.object "SequenceFrames$Row"))) (by decide) rfl ?_
  intro p e s m args below meth c s₁ B hml hv
  obtain ⟨rfl, hsz, hP, hK, hD0⟩ := hv
  have hx := B.exec
  have hb := B.bytes
  have hr := B.returns
  have hts := atoms_spec (ws := wsX7_rowOf) B.pre
  have hown : s.vm.findClass RX7 = some m.cls := findClass_of_methodNamed B.named
  have hlocks := B.notSynchronized
  subst hsz
  have hD := hD0.self (sz := s.heap.size)
  generalize hAe : va_A [(t0, .inr (7, [.ref c0, .ref g0, .ref e0, .ref y3, .ref y4, .ref y5, .ref y6, .int y7, .int y8, .int y9]))] s.heap.size = A at hD ⊢
  have hA : ∀ q : Nat, s.heap.size ≤ q → A q := fun q h => by rw [← hAe]; exact Or.inr h
  have hS : va_S A s.heap s.heap [] := va_S.rf
  have hP : va_P (dC, dI) vwCl [(t0, .inr (7, [.ref c0, .ref g0, .ref e0, .ref y3, .ref y4, .ref y5, .ref y6, .int y7, .int y8, .int y9]))] s.heap := hP
  have hl := lv_entry ([.ref t0, .int x]) (n := 2) (Nat.le_of_ble_eq_true rfl)
  rw [lg_entry_eq]
  generalize (lg_sl ([.ref t0, .int x]) ++ List.replicate (2 - (lg_sl ([.ref t0, .int x])).length) Slot.unset).toArray = ls at hl ⊢
  have hl : lv_has ls 2 [(0, .ref t0), (1, .int x)] := hl
  refine zG (fun GG hG1 hG2 => ?_)
  refine lv_iload_n hx hb dX7_rowOf_0 rfl (lv_at hl 1 rfl) ?_
  rcases (show xi = 0 ∨ xi = 1 ∨ xi = 2 ∨ (xi < 0 ∨ 2 < xi) by omega) with ek | ek | ek | ek
  · refine z_swIn (off := 27) (tgt := 28) hx hb 0 dX7_rowOf_1 ((xh).trans ek) (by decide) (by decide) (by decide) (by decide) ?_
    refine lv_aload_n hx hb dX7_rowOf_28 rfl (lv_at hl 0 rfl) ?_
    refine va_get (D := (dC, dI)) (ci := 7) (v := .ref c0) (C := RX7) (T := TX7) (N := 10) hx hb hts (by decide +kernel) hown hK hP 0 rfl rfl 0 (by decide) (hts (.fieldLink RX7 15 "SequenceFrames" "content" "LSequenceFrames$Row;") (by decide +kernel)) (fun _ h9 => h9) rfl dX7_rowOf_29 ?_
    have hP9 := hP.sub (ws' := [(t0, .inr (7, [.ref c0, .ref g0, .ref e0, .ref y3, .ref y4, .ref y5, .ref y6, .int y7, .int y8, .int y9]))]) [0] rfl
    have hD9 := hD.sub (ws' := [(t0, .inr (7, [.ref c0, .ref g0, .ref e0, .ref y3, .ref y4, .ref y5, .ref y6, .int y7, .int y8, .int y9]))]) [0] (by decide) rfl
    exact W.aret (v := (.ref c0)) hx hb hr (Or.inl ⟨_, rfl⟩) (Or.inr ⟨_, rfl⟩) (fun t9 ht9 hW9 => ⟨⟨(some c0), (), rfl, (Or.inl ⟨ek, rfl⟩), by rw [ht9]; exact hP9, va_K.moved hW9.alike hK, hD9⟩, hS.F ht9⟩) hS.2.2 dX7_rowOf_32
  · refine z_swIn (off := 32) (tgt := 33) hx hb 1 dX7_rowOf_1 ((xh).trans ek) (by decide) (by decide) (by decide) (by decide) ?_
    refine lv_aload_n hx hb dX7_rowOf_33 rfl (lv_at hl 0 rfl) ?_
    refine va_get (D := (dC, dI)) (ci := 7) (v := .ref g0) (C := RX7) (T := TX7) (N := 10) hx hb hts (by decide +kernel) hown hK hP 0 rfl rfl 1 (by decide) (hts (.fieldLink RX7 20 "SequenceFrames" "frames" "LSequenceFrames$Row;") (by decide +kernel)) (fun _ h9 => h9) rfl dX7_rowOf_34 ?_
    have hP9 := hP.sub (ws' := [(t0, .inr (7, [.ref c0, .ref g0, .ref e0, .ref y3, .ref y4, .ref y5, .ref y6, .int y7, .int y8, .int y9]))]) [0] rfl
    have hD9 := hD.sub (ws' := [(t0, .inr (7, [.ref c0, .ref g0, .ref e0, .ref y3, .ref y4, .ref y5, .ref y6, .int y7, .int y8, .int y9]))]) [0] (by decide) rfl
    exact W.aret (v := (.ref g0)) hx hb hr (Or.inl ⟨_, rfl⟩) (Or.inr ⟨_, rfl⟩) (fun t9 ht9 hW9 => ⟨⟨(some g0), (), rfl, (Or.inr (Or.inl ⟨ek, rfl⟩)), by rw [ht9]; exact hP9, va_K.moved hW9.alike hK, hD9⟩, hS.F ht9⟩) hS.2.2 dX7_rowOf_37
  · refine z_swIn (off := 37) (tgt := 38) hx hb 2 dX7_rowOf_1 ((xh).trans ek) (by decide) (by decide) (by decide) (by decide) ?_
    refine lv_aload_n hx hb dX7_rowOf_38 rfl (lv_at hl 0 rfl) ?_
    refine va_get (D := (dC, dI)) (ci := 7) (v := .ref e0) (C := RX7) (T := TX7) (N := 10) hx hb hts (by decide +kernel) hown hK hP 0 rfl rfl 2 (by decide) (hts (.fieldLink RX7 23 "SequenceFrames" "output" "LSequenceFrames$Row;") (by decide +kernel)) (fun _ h9 => h9) rfl dX7_rowOf_39 ?_
    have hP9 := hP.sub (ws' := [(t0, .inr (7, [.ref c0, .ref g0, .ref e0, .ref y3, .ref y4, .ref y5, .ref y6, .int y7, .int y8, .int y9]))]) [0] rfl
    have hD9 := hD.sub (ws' := [(t0, .inr (7, [.ref c0, .ref g0, .ref e0, .ref y3, .ref y4, .ref y5, .ref y6, .int y7, .int y8, .int y9]))]) [0] (by decide) rfl
    exact W.aret (v := (.ref e0)) hx hb hr (Or.inl ⟨_, rfl⟩) (Or.inr ⟨_, rfl⟩) (fun t9 ht9 hW9 => ⟨⟨(some e0), (), rfl, (Or.inr (Or.inr (Or.inl ⟨ek, rfl⟩))), by rw [ht9]; exact hP9, va_K.moved hW9.alike hK, hD9⟩, hS.F ht9⟩) hS.2.2 dX7_rowOf_42
  · refine lv_tableOut (tgt := 43) hx hb dX7_rowOf_1 (by have hz := xh; omega) (by decide) ?_
    refine lv_null hx hb dX7_rowOf_43 ?_
    have hP9 := hP.sub (ws' := [(t0, .inr (7, [.ref c0, .ref g0, .ref e0, .ref y3, .ref y4, .ref y5, .ref y6, .int y7, .int y8, .int y9]))]) [0] rfl
    have hD9 := hD.sub (ws' := [(t0, .inr (7, [.ref c0, .ref g0, .ref e0, .ref y3, .ref y4, .ref y5, .ref y6, .int y7, .int y8, .int y9]))]) [0] (by decide) rfl
    exact W.aret (v := .null) hx hb hr (Or.inl ⟨_, rfl⟩) (Or.inl rfl) (fun t9 ht9 hW9 => ⟨⟨none, (), rfl, (Or.inr (Or.inr (Or.inr (⟨ek, rfl⟩)))), by rw [ht9]; exact hP9, va_K.moved hW9.alike hK, hD9⟩, hS.F ht9⟩) hS.2.2 dX7_rowOf_44

set_option maxHeartbeats 4000000 in
set_option maxRecDepth 100000 in
theorem c_Top_octet (l : Launch) (dC : Nat → ClassId) (dI : Nat → Nat → Nat) (kB kI : ClassId) (t0 : Nat) (y3 : Nat) (y4 : Nat) (y5 : Nat) (y6 : Nat) (y7 : Int32) (y8 : Int32) (y9 : Int32) (c0 : Nat) (c1 : Nat) (g0 : Nat) (g1 : Nat) (e0 : Nat) (e1 : Nat) (n0 : Nat) (n1 : Nat) (n2 : Nat) (f0 : Nat → Int32) (f1 : Nat → Int32) (f2 : Nat → Int32) (x : Int32) (xi : Int) (y : Int32) (yi : Int) (hn0 : n0 ≤ 140000) (hn1 : n1 ≤ 150000) (hn2 : n2 ≤ 140000) (xh : x.toInt = xi) (yh : y.toInt = yi) : zMi l yX7_octet wsX7_octet ({ frames := 1, cells := 0, slots := 0, locals := 21 }) (dC, dI) kB kI [.ref t0, .int x, .int y] [(t0, .inr (7, [.ref c0, .ref g0, .ref e0, .ref y3, .ref y4, .ref y5, .ref y6, .int y7, .int y8, .int y9])), (c0, .inr (5, [.ref c1, .int (nI n0)])), (c1, .inl (kB, 140000, .inl f0)), (g0, .inr (5, [.ref g1, .int (nI n1)])), (g1, .inl (kB, 150000, .inl f1)), (e0, .inr (5, [.ref e1, .int (nI n2)])), (e1, .inl (kB, 140000, .inl f2))] 0 0 (fun (r : Int32) => fun _ : Unit => (xi = 0 ∧ octP f0 n0 yi r) ∨ (xi = 1 ∧ octP f1 n1 yi r) ∨ (xi = 2 ∧ octP f2 n2 yi r) ∨ ((xi < 0 ∨ 2 < xi) ∧ r = -1)) (fun _ : Unit => [(t0, .inr (7, [.ref c0, .ref g0, .ref e0, .ref y3, .ref y4, .ref y5, .ref y6, .int y7, .int y8, .int y9])), (c0, .inr (5, [.ref c1, .int (nI n0)])), (c1, .inl (kB, 140000, .inl f0)), (g0, .inr (5, [.ref g1, .int (nI n1)])), (g1, .inl (kB, 150000, .inl f1)), (e0, .inr (5, [.ref e1, .int (nI n2)])), (e1, .inl (kB, 140000, .inl f2))]) := by
  intro sz
  refine Met.ofW (cc := cX7_octet) (maxL := 4) (ret := (some .int)) (by decide) rfl ?_
  intro p e s m args below meth c s₁ B hml hv
  obtain ⟨rfl, hsz, hP, hK, hD0⟩ := hv
  have hx := B.exec
  have hb := B.bytes
  have hr := B.returns
  have hts := atoms_spec (ws := wsX7_octet) B.pre
  have hown : s.vm.findClass RX7 = some m.cls := findClass_of_methodNamed B.named
  have hlocks := B.notSynchronized
  subst hsz
  have hD := hD0.self (sz := s.heap.size)
  generalize hAe : va_A [(t0, .inr (7, [.ref c0, .ref g0, .ref e0, .ref y3, .ref y4, .ref y5, .ref y6, .int y7, .int y8, .int y9])), (c0, .inr (5, [.ref c1, .int (nI n0)])), (c1, .inl (kB, 140000, .inl f0)), (g0, .inr (5, [.ref g1, .int (nI n1)])), (g1, .inl (kB, 150000, .inl f1)), (e0, .inr (5, [.ref e1, .int (nI n2)])), (e1, .inl (kB, 140000, .inl f2))] s.heap.size = A at hD ⊢
  have hA : ∀ q : Nat, s.heap.size ≤ q → A q := fun q h => by rw [← hAe]; exact Or.inr h
  have hS : va_S A s.heap s.heap [] := va_S.rf
  have hP : va_P (dC, dI) vwCl [(t0, .inr (7, [.ref c0, .ref g0, .ref e0, .ref y3, .ref y4, .ref y5, .ref y6, .int y7, .int y8, .int y9])), (c0, .inr (5, [.ref c1, .int (nI n0)])), (c1, .inl (kB, 140000, .inl f0)), (g0, .inr (5, [.ref g1, .int (nI n1)])), (g1, .inl (kB, 150000, .inl f1)), (e0, .inr (5, [.ref e1, .int (nI n2)])), (e1, .inl (kB, 140000, .inl f2))] s.heap := hP
  have hl := lv_entry ([.ref t0, .int x, .int y]) (n := 4) (Nat.le_of_ble_eq_true rfl)
  rw [lg_entry_eq]
  generalize (lg_sl ([.ref t0, .int x, .int y]) ++ List.replicate (4 - (lg_sl ([.ref t0, .int x, .int y])).length) Slot.unset).toArray = ls at hl ⊢
  have hl : lv_has ls 4 [(0, .ref t0), (1, .int x), (2, .int y)] := hl
  refine zG (fun GG hG1 hG2 => ?_)
  refine lv_aload_n hx hb dX7_octet_0 rfl (lv_at hl 0 rfl) ?_
  refine lv_iload_n hx hb dX7_octet_1 rfl (lv_at hl 1 rfl) ?_
  refine z_callq (wr := [(c0, .inr (5, [.ref c1, .int (nI n0)])), (c1, .inl (kB, 140000, .inl f0)), (g0, .inr (5, [.ref g1, .int (nI n1)])), (g1, .inl (kB, 150000, .inl f1)), (e0, .inr (5, [.ref e1, .int (nI n2)])), (e1, .inl (kB, 140000, .inl f2))]) (va_runV (As := [.int x]) (rest := []) ⟨hx, hb, hml, hown, hts⟩ (c_Top_rowOf l dC dI kB kI t0 y3 y4 y5 y6 y7 y8 y9 c0 g0 e0 x xi xh s.heap.size) (cwV 1 hts gX7_octet_X7_rowOf rfl rfl rfl (by decide +kernel) ⟨Nat.le_of_ble_eq_true rfl, Nat.le_of_ble_eq_true rfl⟩) (z_preV hK (hP.sub [0] rfl) (hD.sub [0] (by decide) rfl) (va_recv hK hP (ci := 7) (q0 := 0) rfl rfl)) rfl rfl hl.1 rfl (lv_room (Nat.le_of_ble_eq_true rfl)) dX7_octet_2 ⟨Nat.le_of_ble_eq_true rfl, Nat.le_of_ble_eq_true rfl⟩) hK hP hD hS hA [0] [1, 2, 3, 4, 5, 6] rfl rfl (by decide) (by decide) (fun r1 uq2 H locs hw hP hD hS => ?_)
  replace hw : (xi = 0 ∧ r1 = some c0) ∨ (xi = 1 ∧ r1 = some g0) ∨ (xi = 2 ∧ r1 = some e0) ∨ ((xi < 0 ∨ 2 < xi) ∧ r1 = none) := hw
  have hP : va_P (dC, dI) vwCl [(c0, .inr (5, [.ref c1, .int (nI n0)])), (c1, .inl (kB, 140000, .inl f0)), (g0, .inr (5, [.ref g1, .int (nI n1)])), (g1, .inl (kB, 150000, .inl f1)), (e0, .inr (5, [.ref e1, .int (nI n2)])), (e1, .inl (kB, 140000, .inl f2)), (t0, .inr (7, [.ref c0, .ref g0, .ref e0, .ref y3, .ref y4, .ref y5, .ref y6, .int y7, .int y8, .int y9]))] H := hP
  have hD : va_D A [(c0, .inr (5, [.ref c1, .int (nI n0)])), (c1, .inl (kB, 140000, .inl f0)), (g0, .inr (5, [.ref g1, .int (nI n1)])), (g1, .inl (kB, 150000, .inl f1)), (e0, .inr (5, [.ref e1, .int (nI n2)])), (e1, .inl (kB, 140000, .inl f2)), (t0, .inr (7, [.ref c0, .ref g0, .ref e0, .ref y3, .ref y4, .ref y5, .ref y6, .int y7, .int y8, .int y9]))] := hD
  rcases hw with ⟨ex, er⟩ | ⟨ex, er⟩ | ⟨ex, er⟩ | ⟨ex, er⟩ <;> subst er
  · refine W.eq (g2 := F0 m 5 ls [.ref c0]) rfl ?_
    refine lv_astore_n (lv' := [(3, .ref c0), (0, .ref t0), (1, .int x), (2, .int y)]) hx hb dX7_octet_5 rfl hl (by decide) rfl (fun ls hl => ?_)
    refine lv_aload_n hx hb dX7_octet_6 rfl (lv_at hl 0 rfl) ?_
    refine lv_ifnonnull (tgt := 14) hx hb dX7_octet_7 (by decide) ?_
    refine lv_aload_n hx hb dX7_octet_14 rfl (lv_at hl 0 rfl) ?_
    refine lv_iload_n hx hb dX7_octet_15 rfl (lv_at hl 3 rfl) ?_
    refine z_calli (wr := [(g0, .inr (5, [.ref g1, .int (nI n1)])), (g1, .inl (kB, 150000, .inl f1)), (e0, .inr (5, [.ref e1, .int (nI n2)])), (e1, .inl (kB, 140000, .inl f2)), (t0, .inr (7, [.ref c0, .ref g0, .ref e0, .ref y3, .ref y4, .ref y5, .ref y6, .int y7, .int y8, .int y9]))]) (va_runV (As := [.int y]) (rest := []) ⟨hx, hb, hml, hown, hts⟩ (c_Row_get l dC dI kB kI c0 c1 140000 n0 f0 y yi (by omega) (by omega) yh H.size) (cwV 1 hts gX7_octet_X5_get rfl rfl rfl (by decide +kernel) ⟨Nat.le_of_ble_eq_true rfl, Nat.le_of_ble_eq_true rfl⟩) (z_preV hK (hP.sub [0, 1] rfl) (hD.sub [0, 1] (by decide) rfl) (va_recv hK hP (ci := 5) (q0 := 0) rfl rfl)) rfl rfl hl.1 rfl (lv_room (Nat.le_of_ble_eq_true rfl)) dX7_octet_16 ⟨Nat.le_of_ble_eq_true rfl, Nat.le_of_ble_eq_true rfl⟩) hK hP hD hS hA [0, 1] [2, 3, 4, 5, 6] rfl rfl (by decide) (by decide) (fun r3 uq4 H locs hw hP hD hS => ?_)
    replace hw : (∃ j : Nat, yi = j ∧ j < n0 ∧ r3 = f0 j &&& 255) ∨ ((yi < 0 ∨ (n0 : Int) ≤ yi) ∧ r3 = -1) := hw
    have hP : va_P (dC, dI) vwCl [(g0, .inr (5, [.ref g1, .int (nI n1)])), (g1, .inl (kB, 150000, .inl f1)), (e0, .inr (5, [.ref e1, .int (nI n2)])), (e1, .inl (kB, 140000, .inl f2)), (t0, .inr (7, [.ref c0, .ref g0, .ref e0, .ref y3, .ref y4, .ref y5, .ref y6, .int y7, .int y8, .int y9])), (c0, .inr (5, [.ref c1, .int (nI n0)])), (c1, .inl (kB, 140000, .inl f0))] H := hP
    have hD : va_D A [(g0, .inr (5, [.ref g1, .int (nI n1)])), (g1, .inl (kB, 150000, .inl f1)), (e0, .inr (5, [.ref e1, .int (nI n2)])), (e1, .inl (kB, 140000, .inl f2)), (t0, .inr (7, [.ref c0, .ref g0, .ref e0, .ref y3, .ref y4, .ref y5, .ref y6, .int y7, .int y8, .int y9])), (c0, .inr (5, [.ref c1, .int (nI n0)])), (c1, .inl (kB, 140000, .inl f0))] := hD
    have hP9 := hP.sub (ws' := [(t0, .inr (7, [.ref c0, .ref g0, .ref e0, .ref y3, .ref y4, .ref y5, .ref y6, .int y7, .int y8, .int y9])), (c0, .inr (5, [.ref c1, .int (nI n0)])), (c1, .inl (kB, 140000, .inl f0)), (g0, .inr (5, [.ref g1, .int (nI n1)])), (g1, .inl (kB, 150000, .inl f1)), (e0, .inr (5, [.ref e1, .int (nI n2)])), (e1, .inl (kB, 140000, .inl f2))]) [4, 5, 6, 0, 1, 2, 3] rfl
    have hD9 := hD.sub (ws' := [(t0, .inr (7, [.ref c0, .ref g0, .ref e0, .ref y3, .ref y4, .ref y5, .ref y6, .int y7, .int y8, .int y9])), (c0, .inr (5, [.ref c1, .int (nI n0)])), (c1, .inl (kB, 140000, .inl f0)), (g0, .inr (5, [.ref g1, .int (nI n1)])), (g1, .inl (kB, 150000, .inl f1)), (e0, .inr (5, [.ref e1, .int (nI n2)])), (e1, .inl (kB, 140000, .inl f2))]) [4, 5, 6, 0, 1, 2, 3] (by decide) rfl
    exact W.iret (v := r3) hx hb hr (fun t9 ht9 hW9 => ⟨⟨r3, (), rfl, (Or.inl ⟨ex, hw⟩), by rw [ht9]; exact hP9, va_K.moved hW9.alike hK, hD9⟩, hS.F ht9⟩) hS.2.2 dX7_octet_19
  · refine W.eq (g2 := F0 m 5 ls [.ref g0]) rfl ?_
    refine lv_astore_n (lv' := [(3, .ref g0), (0, .ref t0), (1, .int x), (2, .int y)]) hx hb dX7_octet_5 rfl hl (by decide) rfl (fun ls hl => ?_)
    refine lv_aload_n hx hb dX7_octet_6 rfl (lv_at hl 0 rfl) ?_
    refine lv_ifnonnull (tgt := 14) hx hb dX7_octet_7 (by decide) ?_
    refine lv_aload_n hx hb dX7_octet_14 rfl (lv_at hl 0 rfl) ?_
    refine lv_iload_n hx hb dX7_octet_15 rfl (lv_at hl 3 rfl) ?_
    refine z_calli (wr := [(c0, .inr (5, [.ref c1, .int (nI n0)])), (c1, .inl (kB, 140000, .inl f0)), (e0, .inr (5, [.ref e1, .int (nI n2)])), (e1, .inl (kB, 140000, .inl f2)), (t0, .inr (7, [.ref c0, .ref g0, .ref e0, .ref y3, .ref y4, .ref y5, .ref y6, .int y7, .int y8, .int y9]))]) (va_runV (As := [.int y]) (rest := []) ⟨hx, hb, hml, hown, hts⟩ (c_Row_get l dC dI kB kI g0 g1 150000 n1 f1 y yi (by omega) (by omega) yh H.size) (cwV 1 hts gX7_octet_X5_get rfl rfl rfl (by decide +kernel) ⟨Nat.le_of_ble_eq_true rfl, Nat.le_of_ble_eq_true rfl⟩) (z_preV hK (hP.sub [2, 3] rfl) (hD.sub [2, 3] (by decide) rfl) (va_recv hK hP (ci := 5) (q0 := 2) rfl rfl)) rfl rfl hl.1 rfl (lv_room (Nat.le_of_ble_eq_true rfl)) dX7_octet_16 ⟨Nat.le_of_ble_eq_true rfl, Nat.le_of_ble_eq_true rfl⟩) hK hP hD hS hA [2, 3] [0, 1, 4, 5, 6] rfl rfl (by decide) (by decide) (fun r5 uq6 H locs hw hP hD hS => ?_)
    replace hw : (∃ j : Nat, yi = j ∧ j < n1 ∧ r5 = f1 j &&& 255) ∨ ((yi < 0 ∨ (n1 : Int) ≤ yi) ∧ r5 = -1) := hw
    have hP : va_P (dC, dI) vwCl [(c0, .inr (5, [.ref c1, .int (nI n0)])), (c1, .inl (kB, 140000, .inl f0)), (e0, .inr (5, [.ref e1, .int (nI n2)])), (e1, .inl (kB, 140000, .inl f2)), (t0, .inr (7, [.ref c0, .ref g0, .ref e0, .ref y3, .ref y4, .ref y5, .ref y6, .int y7, .int y8, .int y9])), (g0, .inr (5, [.ref g1, .int (nI n1)])), (g1, .inl (kB, 150000, .inl f1))] H := hP
    have hD : va_D A [(c0, .inr (5, [.ref c1, .int (nI n0)])), (c1, .inl (kB, 140000, .inl f0)), (e0, .inr (5, [.ref e1, .int (nI n2)])), (e1, .inl (kB, 140000, .inl f2)), (t0, .inr (7, [.ref c0, .ref g0, .ref e0, .ref y3, .ref y4, .ref y5, .ref y6, .int y7, .int y8, .int y9])), (g0, .inr (5, [.ref g1, .int (nI n1)])), (g1, .inl (kB, 150000, .inl f1))] := hD
    have hP9 := hP.sub (ws' := [(t0, .inr (7, [.ref c0, .ref g0, .ref e0, .ref y3, .ref y4, .ref y5, .ref y6, .int y7, .int y8, .int y9])), (c0, .inr (5, [.ref c1, .int (nI n0)])), (c1, .inl (kB, 140000, .inl f0)), (g0, .inr (5, [.ref g1, .int (nI n1)])), (g1, .inl (kB, 150000, .inl f1)), (e0, .inr (5, [.ref e1, .int (nI n2)])), (e1, .inl (kB, 140000, .inl f2))]) [4, 0, 1, 5, 6, 2, 3] rfl
    have hD9 := hD.sub (ws' := [(t0, .inr (7, [.ref c0, .ref g0, .ref e0, .ref y3, .ref y4, .ref y5, .ref y6, .int y7, .int y8, .int y9])), (c0, .inr (5, [.ref c1, .int (nI n0)])), (c1, .inl (kB, 140000, .inl f0)), (g0, .inr (5, [.ref g1, .int (nI n1)])), (g1, .inl (kB, 150000, .inl f1)), (e0, .inr (5, [.ref e1, .int (nI n2)])), (e1, .inl (kB, 140000, .inl f2))]) [4, 0, 1, 5, 6, 2, 3] (by decide) rfl
    exact W.iret (v := r5) hx hb hr (fun t9 ht9 hW9 => ⟨⟨r5, (), rfl, (Or.inr (Or.inl ⟨ex, hw⟩)), by rw [ht9]; exact hP9, va_K.moved hW9.alike hK, hD9⟩, hS.F ht9⟩) hS.2.2 dX7_octet_19
  · refine W.eq (g2 := F0 m 5 ls [.ref e0]) rfl ?_
    refine lv_astore_n (lv' := [(3, .ref e0), (0, .ref t0), (1, .int x), (2, .int y)]) hx hb dX7_octet_5 rfl hl (by decide) rfl (fun ls hl => ?_)
    refine lv_aload_n hx hb dX7_octet_6 rfl (lv_at hl 0 rfl) ?_
    refine lv_ifnonnull (tgt := 14) hx hb dX7_octet_7 (by decide) ?_
    refine lv_aload_n hx hb dX7_octet_14 rfl (lv_at hl 0 rfl) ?_
    refine lv_iload_n hx hb dX7_octet_15 rfl (lv_at hl 3 rfl) ?_
    refine z_calli (wr := [(c0, .inr (5, [.ref c1, .int (nI n0)])), (c1, .inl (kB, 140000, .inl f0)), (g0, .inr (5, [.ref g1, .int (nI n1)])), (g1, .inl (kB, 150000, .inl f1)), (t0, .inr (7, [.ref c0, .ref g0, .ref e0, .ref y3, .ref y4, .ref y5, .ref y6, .int y7, .int y8, .int y9]))]) (va_runV (As := [.int y]) (rest := []) ⟨hx, hb, hml, hown, hts⟩ (c_Row_get l dC dI kB kI e0 e1 140000 n2 f2 y yi (by omega) (by omega) yh H.size) (cwV 1 hts gX7_octet_X5_get rfl rfl rfl (by decide +kernel) ⟨Nat.le_of_ble_eq_true rfl, Nat.le_of_ble_eq_true rfl⟩) (z_preV hK (hP.sub [4, 5] rfl) (hD.sub [4, 5] (by decide) rfl) (va_recv hK hP (ci := 5) (q0 := 4) rfl rfl)) rfl rfl hl.1 rfl (lv_room (Nat.le_of_ble_eq_true rfl)) dX7_octet_16 ⟨Nat.le_of_ble_eq_true rfl, Nat.le_of_ble_eq_true rfl⟩) hK hP hD hS hA [4, 5] [0, 1, 2, 3, 6] rfl rfl (by decide) (by decide) (fun r7 uq8 H locs hw hP hD hS => ?_)
    replace hw : (∃ j : Nat, yi = j ∧ j < n2 ∧ r7 = f2 j &&& 255) ∨ ((yi < 0 ∨ (n2 : Int) ≤ yi) ∧ r7 = -1) := hw
    have hP : va_P (dC, dI) vwCl [(c0, .inr (5, [.ref c1, .int (nI n0)])), (c1, .inl (kB, 140000, .inl f0)), (g0, .inr (5, [.ref g1, .int (nI n1)])), (g1, .inl (kB, 150000, .inl f1)), (t0, .inr (7, [.ref c0, .ref g0, .ref e0, .ref y3, .ref y4, .ref y5, .ref y6, .int y7, .int y8, .int y9])), (e0, .inr (5, [.ref e1, .int (nI n2)])), (e1, .inl (kB, 140000, .inl f2))] H := hP
    have hD : va_D A [(c0, .inr (5, [.ref c1, .int (nI n0)])), (c1, .inl (kB, 140000, .inl f0)), (g0, .inr (5, [.ref g1, .int (nI n1)])), (g1, .inl (kB, 150000, .inl f1)), (t0, .inr (7, [.ref c0, .ref g0, .ref e0, .ref y3, .ref y4, .ref y5, .ref y6, .int y7, .int y8, .int y9])), (e0, .inr (5, [.ref e1, .int (nI n2)])), (e1, .inl (kB, 140000, .inl f2))] := hD
    have hP9 := hP.sub (ws' := [(t0, .inr (7, [.ref c0, .ref g0, .ref e0, .ref y3, .ref y4, .ref y5, .ref y6, .int y7, .int y8, .int y9])), (c0, .inr (5, [.ref c1, .int (nI n0)])), (c1, .inl (kB, 140000, .inl f0)), (g0, .inr (5, [.ref g1, .int (nI n1)])), (g1, .inl (kB, 150000, .inl f1)), (e0, .inr (5, [.ref e1, .int (nI n2)])), (e1, .inl (kB, 140000, .inl f2))]) [4, 0, 1, 2, 3, 5, 6] rfl
    have hD9 := hD.sub (ws' := [(t0, .inr (7, [.ref c0, .ref g0, .ref e0, .ref y3, .ref y4, .ref y5, .ref y6, .int y7, .int y8, .int y9])), (c0, .inr (5, [.ref c1, .int (nI n0)])), (c1, .inl (kB, 140000, .inl f0)), (g0, .inr (5, [.ref g1, .int (nI n1)])), (g1, .inl (kB, 150000, .inl f1)), (e0, .inr (5, [.ref e1, .int (nI n2)])), (e1, .inl (kB, 140000, .inl f2))]) [4, 0, 1, 2, 3, 5, 6] (by decide) rfl
    exact W.iret (v := r7) hx hb hr (fun t9 ht9 hW9 => ⟨⟨r7, (), rfl, (Or.inr (Or.inr (Or.inl ⟨ex, hw⟩))), by rw [ht9]; exact hP9, va_K.moved hW9.alike hK, hD9⟩, hS.F ht9⟩) hS.2.2 dX7_octet_19
  · refine W.eq (g2 := F0 m 5 ls [.null]) rfl ?_
    refine lv_astore_nN (lv' := [(3, .null), (0, .ref t0), (1, .int x), (2, .int y)]) hx hb dX7_octet_5 rfl hl (by decide) rfl (fun ls hl => ?_)
    refine lv_aload_nN hx hb dX7_octet_6 rfl (lv_at hl 0 rfl) ?_
    refine lv_ifnonnullN hx hb dX7_octet_7 ?_
    refine lv_iconst (v := (-1)) hx hb dX7_octet_10 (by decide) ?_
    refine lv_goto (tgt := 19) hx hb dX7_octet_11 (by decide) ?_
    have hP9 := hP.sub (ws' := [(t0, .inr (7, [.ref c0, .ref g0, .ref e0, .ref y3, .ref y4, .ref y5, .ref y6, .int y7, .int y8, .int y9])), (c0, .inr (5, [.ref c1, .int (nI n0)])), (c1, .inl (kB, 140000, .inl f0)), (g0, .inr (5, [.ref g1, .int (nI n1)])), (g1, .inl (kB, 150000, .inl f1)), (e0, .inr (5, [.ref e1, .int (nI n2)])), (e1, .inl (kB, 140000, .inl f2))]) [6, 0, 1, 2, 3, 4, 5] rfl
    have hD9 := hD.sub (ws' := [(t0, .inr (7, [.ref c0, .ref g0, .ref e0, .ref y3, .ref y4, .ref y5, .ref y6, .int y7, .int y8, .int y9])), (c0, .inr (5, [.ref c1, .int (nI n0)])), (c1, .inl (kB, 140000, .inl f0)), (g0, .inr (5, [.ref g1, .int (nI n1)])), (g1, .inl (kB, 150000, .inl f1)), (e0, .inr (5, [.ref e1, .int (nI n2)])), (e1, .inl (kB, 140000, .inl f2))]) [6, 0, 1, 2, 3, 4, 5] (by decide) rfl
    exact W.iret (v := (-1)) hx hb hr (fun t9 ht9 hW9 => ⟨⟨(-1), (), rfl, (Or.inr (Or.inr (Or.inr ⟨ex, rfl⟩))), by rw [ht9]; exact hP9, va_K.moved hW9.alike hK, hD9⟩, hS.F ht9⟩) hS.2.2 dX7_octet_19

set_option maxHeartbeats 4000000 in
set_option maxRecDepth 100000 in
theorem c_Top_hash (l : Launch) (dC : Nat → ClassId) (dI : Nat → Nat → Nat) (kB kI : ClassId) (t0 : Nat) (y3 : Nat) (y4 : Nat) (y5 : Nat) (y6 : Nat) (y7 : Int32) (y8 : Int32) (y9 : Int32) (c0 : Nat) (c1 : Nat) (g0 : Nat) (g1 : Nat) (e0 : Nat) (e1 : Nat) (n0 : Nat) (n1 : Nat) (n2 : Nat) (f0 : Nat → Int32) (f1 : Nat → Int32) (f2 : Nat → Int32) (x : Int32) (xi : Int) (y : Int32) (yi : Int) (z : Int32) (zi : Int) (sd : Int32) (hn0 : n0 ≤ 140000) (hn1 : n1 ≤ 150000) (hn2 : n2 ≤ 140000) (xh : x.toInt = xi) (yh : y.toInt = yi) (zh : z.toInt = zi) : zMl l yX7_hash wsX7_hash ({ frames := 3, cells := 0, slots := 0, locals := 79 }) (dC, dI) kB kI [.ref t0, .int x, .int y, .int z, .int sd] [(t0, .inr (7, [.ref c0, .ref g0, .ref e0, .ref y3, .ref y4, .ref y5, .ref y6, .int y7, .int y8, .int y9])), (c0, .inr (5, [.ref c1, .int (nI n0)])), (c1, .inl (kB, 140000, .inl f0)), (g0, .inr (5, [.ref g1, .int (nI n1)])), (g1, .inl (kB, 150000, .inl f1)), (e0, .inr (5, [.ref e1, .int (nI n2)])), (e1, .inl (kB, 140000, .inl f2))] 0 0 (fun (r : Int64) => fun _ : Unit => (xi = 0 ∧ hshP f0 n0 yi zi sd r) ∨ (xi = 1 ∧ hshP f1 n1 yi zi sd r) ∨ (xi = 2 ∧ hshP f2 n2 yi zi sd r) ∨ ((xi < 0 ∨ 2 < xi) ∧ r = -1)) (fun _ : Unit => [(t0, .inr (7, [.ref c0, .ref g0, .ref e0, .ref y3, .ref y4, .ref y5, .ref y6, .int y7, .int y8, .int y9])), (c0, .inr (5, [.ref c1, .int (nI n0)])), (c1, .inl (kB, 140000, .inl f0)), (g0, .inr (5, [.ref g1, .int (nI n1)])), (g1, .inl (kB, 150000, .inl f1)), (e0, .inr (5, [.ref e1, .int (nI n2)])), (e1, .inl (kB, 140000, .inl f2))]) := by
  intro sz
  refine Met.ofW (cc := cX7_hash) (maxL := 6) (ret := (some .long)) (by decide) rfl ?_
  intro p e s m args below meth c s₁ B hml hv
  obtain ⟨rfl, hsz, hP, hK, hD0⟩ := hv
  have hx := B.exec
  have hb := B.bytes
  have hr := B.returns
  have hts := atoms_spec (ws := wsX7_hash) B.pre
  have hown : s.vm.findClass RX7 = some m.cls := findClass_of_methodNamed B.named
  have hlocks := B.notSynchronized
  subst hsz
  have hD := hD0.self (sz := s.heap.size)
  generalize hAe : va_A [(t0, .inr (7, [.ref c0, .ref g0, .ref e0, .ref y3, .ref y4, .ref y5, .ref y6, .int y7, .int y8, .int y9])), (c0, .inr (5, [.ref c1, .int (nI n0)])), (c1, .inl (kB, 140000, .inl f0)), (g0, .inr (5, [.ref g1, .int (nI n1)])), (g1, .inl (kB, 150000, .inl f1)), (e0, .inr (5, [.ref e1, .int (nI n2)])), (e1, .inl (kB, 140000, .inl f2))] s.heap.size = A at hD ⊢
  have hA : ∀ q : Nat, s.heap.size ≤ q → A q := fun q h => by rw [← hAe]; exact Or.inr h
  have hS : va_S A s.heap s.heap [] := va_S.rf
  have hP : va_P (dC, dI) vwCl [(t0, .inr (7, [.ref c0, .ref g0, .ref e0, .ref y3, .ref y4, .ref y5, .ref y6, .int y7, .int y8, .int y9])), (c0, .inr (5, [.ref c1, .int (nI n0)])), (c1, .inl (kB, 140000, .inl f0)), (g0, .inr (5, [.ref g1, .int (nI n1)])), (g1, .inl (kB, 150000, .inl f1)), (e0, .inr (5, [.ref e1, .int (nI n2)])), (e1, .inl (kB, 140000, .inl f2))] s.heap := hP
  have hl := lv_entry ([.ref t0, .int x, .int y, .int z, .int sd]) (n := 6) (Nat.le_of_ble_eq_true rfl)
  rw [lg_entry_eq]
  generalize (lg_sl ([.ref t0, .int x, .int y, .int z, .int sd]) ++ List.replicate (6 - (lg_sl ([.ref t0, .int x, .int y, .int z, .int sd])).length) Slot.unset).toArray = ls at hl ⊢
  have hl : lv_has ls 6 [(0, .ref t0), (1, .int x), (2, .int y), (3, .int z), (4, .int sd)] := hl
  refine zG (fun GG hG1 hG2 => ?_)
  refine lv_aload_n hx hb dX7_hash_0 rfl (lv_at hl 0 rfl) ?_
  refine lv_iload_n hx hb dX7_hash_1 rfl (lv_at hl 1 rfl) ?_
  refine z_callq (wr := [(c0, .inr (5, [.ref c1, .int (nI n0)])), (c1, .inl (kB, 140000, .inl f0)), (g0, .inr (5, [.ref g1, .int (nI n1)])), (g1, .inl (kB, 150000, .inl f1)), (e0, .inr (5, [.ref e1, .int (nI n2)])), (e1, .inl (kB, 140000, .inl f2))]) (va_runV (As := [.int x]) (rest := []) ⟨hx, hb, hml, hown, hts⟩ (c_Top_rowOf l dC dI kB kI t0 y3 y4 y5 y6 y7 y8 y9 c0 g0 e0 x xi xh s.heap.size) (cwV 1 hts gX7_hash_X7_rowOf rfl rfl rfl (by decide +kernel) ⟨Nat.le_of_ble_eq_true rfl, Nat.le_of_ble_eq_true rfl⟩) (z_preV hK (hP.sub [0] rfl) (hD.sub [0] (by decide) rfl) (va_recv hK hP (ci := 7) (q0 := 0) rfl rfl)) rfl rfl hl.1 rfl (lv_room (Nat.le_of_ble_eq_true rfl)) dX7_hash_2 ⟨Nat.le_of_ble_eq_true rfl, Nat.le_of_ble_eq_true rfl⟩) hK hP hD hS hA [0] [1, 2, 3, 4, 5, 6] rfl rfl (by decide) (by decide) (fun r1 uq2 H locs hw hP hD hS => ?_)
  replace hw : (xi = 0 ∧ r1 = some c0) ∨ (xi = 1 ∧ r1 = some g0) ∨ (xi = 2 ∧ r1 = some e0) ∨ ((xi < 0 ∨ 2 < xi) ∧ r1 = none) := hw
  have hP : va_P (dC, dI) vwCl [(c0, .inr (5, [.ref c1, .int (nI n0)])), (c1, .inl (kB, 140000, .inl f0)), (g0, .inr (5, [.ref g1, .int (nI n1)])), (g1, .inl (kB, 150000, .inl f1)), (e0, .inr (5, [.ref e1, .int (nI n2)])), (e1, .inl (kB, 140000, .inl f2)), (t0, .inr (7, [.ref c0, .ref g0, .ref e0, .ref y3, .ref y4, .ref y5, .ref y6, .int y7, .int y8, .int y9]))] H := hP
  have hD : va_D A [(c0, .inr (5, [.ref c1, .int (nI n0)])), (c1, .inl (kB, 140000, .inl f0)), (g0, .inr (5, [.ref g1, .int (nI n1)])), (g1, .inl (kB, 150000, .inl f1)), (e0, .inr (5, [.ref e1, .int (nI n2)])), (e1, .inl (kB, 140000, .inl f2)), (t0, .inr (7, [.ref c0, .ref g0, .ref e0, .ref y3, .ref y4, .ref y5, .ref y6, .int y7, .int y8, .int y9]))] := hD
  rcases hw with ⟨ex, er⟩ | ⟨ex, er⟩ | ⟨ex, er⟩ | ⟨ex, er⟩ <;> subst er
  · refine W.eq (g2 := F0 m 5 ls [.ref c0]) rfl ?_
    refine lv_astore (lv' := [(5, .ref c0), (0, .ref t0), (1, .int x), (2, .int y), (3, .int z), (4, .int sd)]) hx hb dX7_hash_5 hl (by decide) rfl (fun ls hl => ?_)
    refine lv_aload hx hb dX7_hash_7 (lv_at hl 0 rfl) ?_
    refine lv_ifnull hx hb dX7_hash_9 ?_
    refine lv_aload hx hb dX7_hash_12 (lv_at hl 0 rfl) ?_
    refine lv_iload_n hx hb dX7_hash_14 rfl (lv_at hl 3 rfl) ?_
    refine lv_iload_n hx hb dX7_hash_15 rfl (lv_at hl 4 rfl) ?_
    refine z_calli (wr := [(g0, .inr (5, [.ref g1, .int (nI n1)])), (g1, .inl (kB, 150000, .inl f1)), (e0, .inr (5, [.ref e1, .int (nI n2)])), (e1, .inl (kB, 140000, .inl f2)), (t0, .inr (7, [.ref c0, .ref g0, .ref e0, .ref y3, .ref y4, .ref y5, .ref y6, .int y7, .int y8, .int y9]))]) (va_runV (As := [.int y, .int z]) (rest := []) ⟨hx, hb, hml, hown, hts⟩ (c_Row_hasPiece l dC dI kB kI c0 c1 140000 n0 f0 y yi z zi (by omega) (by omega) yh zh H.size) (cwV 2 hts gX7_hash_X5_hasPiece rfl rfl rfl (by decide +kernel) ⟨Nat.le_of_ble_eq_true rfl, Nat.le_of_ble_eq_true rfl⟩) (z_preV hK (hP.sub [0, 1] rfl) (hD.sub [0, 1] (by decide) rfl) (va_recv hK hP (ci := 5) (q0 := 0) rfl rfl)) rfl rfl hl.1 rfl (lv_room (Nat.le_of_ble_eq_true rfl)) dX7_hash_16 ⟨Nat.le_of_ble_eq_true rfl, Nat.le_of_ble_eq_true rfl⟩) hK hP hD hS hA [0, 1] [2, 3, 4, 5, 6] rfl rfl (by decide) (by decide) (fun r3 uq4 H locs hw hP hD hS => ?_)
    replace hw : (r3 = 1 ∧ 0 ≤ yi ∧ 0 ≤ zi ∧ yi + zi ≤ n0) ∨ (r3 = 0 ∧ (yi < 0 ∨ zi < 0 ∨ (n0 : Int) < yi + zi)) := hw
    have hP : va_P (dC, dI) vwCl [(g0, .inr (5, [.ref g1, .int (nI n1)])), (g1, .inl (kB, 150000, .inl f1)), (e0, .inr (5, [.ref e1, .int (nI n2)])), (e1, .inl (kB, 140000, .inl f2)), (t0, .inr (7, [.ref c0, .ref g0, .ref e0, .ref y3, .ref y4, .ref y5, .ref y6, .int y7, .int y8, .int y9])), (c0, .inr (5, [.ref c1, .int (nI n0)])), (c1, .inl (kB, 140000, .inl f0))] H := hP
    have hD : va_D A [(g0, .inr (5, [.ref g1, .int (nI n1)])), (g1, .inl (kB, 150000, .inl f1)), (e0, .inr (5, [.ref e1, .int (nI n2)])), (e1, .inl (kB, 140000, .inl f2)), (t0, .inr (7, [.ref c0, .ref g0, .ref e0, .ref y3, .ref y4, .ref y5, .ref y6, .int y7, .int y8, .int y9])), (c0, .inr (5, [.ref c1, .int (nI n0)])), (c1, .inl (kB, 140000, .inl f0))] := hD
    rcases hw with ⟨r3e, hw⟩ | ⟨r3e, hw⟩ <;> subst r3e
    · obtain ⟨i, ib, ye⟩ := z_nat (x := y) (by omega)
      subst ye
      rw [nI_toInt ib] at yh
      subst yh
      obtain ⟨k, kb, ze⟩ := z_nat (x := z) (by omega)
      subst ze
      rw [nI_toInt kb] at zh
      subst zh
      refine lv_if_ne (tgt := 26) hx hb dX7_hash_19 (by decide) (fun _ => ?_) (fun c => absurd c (by decide))
      refine lv_aload hx hb dX7_hash_26 (lv_at hl 0 rfl) ?_
      refine lv_iload_n hx hb dX7_hash_28 rfl (lv_at hl 3 rfl) ?_
      refine lv_iload_n hx hb dX7_hash_29 rfl (lv_at hl 4 rfl) ?_
      refine lv_iload hx hb dX7_hash_30 (lv_at hl 5 rfl) ?_
      refine z_calli (wr := [(g0, .inr (5, [.ref g1, .int (nI n1)])), (g1, .inl (kB, 150000, .inl f1)), (e0, .inr (5, [.ref e1, .int (nI n2)])), (e1, .inl (kB, 140000, .inl f2)), (t0, .inr (7, [.ref c0, .ref g0, .ref e0, .ref y3, .ref y4, .ref y5, .ref y6, .int y7, .int y8, .int y9]))]) (va_runV (As := [.int (nI i), .int (nI k), .int sd]) (rest := []) ⟨hx, hb, hml, hown, hts⟩ (c_Row_hashOf l dC dI kB kI c0 c1 140000 n0 f0 i k sd (by omega) (by omega) (by omega) H.size) (cwV 3 hts gX7_hash_X5_hashOf rfl rfl rfl (by decide +kernel) ⟨Nat.le_of_ble_eq_true rfl, Nat.le_of_ble_eq_true rfl⟩) (z_preV hK (hP.sub [5, 6] rfl) (hD.sub [5, 6] (by decide) rfl) (va_recv hK hP (ci := 5) (q0 := 5) rfl rfl)) rfl rfl hl.1 rfl (lv_room (Nat.le_of_ble_eq_true rfl)) dX7_hash_32 ⟨Nat.le_of_ble_eq_true rfl, Nat.le_of_ble_eq_true rfl⟩) hK hP hD hS hA [5, 6] [0, 1, 2, 3, 4] rfl rfl (by decide) (by decide) (fun r5 uq6 H locs hw hP hD hS => ?_)
      replace hw : r5 = hashF f0 i k sd := hw
      have hP : va_P (dC, dI) vwCl [(g0, .inr (5, [.ref g1, .int (nI n1)])), (g1, .inl (kB, 150000, .inl f1)), (e0, .inr (5, [.ref e1, .int (nI n2)])), (e1, .inl (kB, 140000, .inl f2)), (t0, .inr (7, [.ref c0, .ref g0, .ref e0, .ref y3, .ref y4, .ref y5, .ref y6, .int y7, .int y8, .int y9])), (c0, .inr (5, [.ref c1, .int (nI n0)])), (c1, .inl (kB, 140000, .inl f0))] H := hP
      have hD : va_D A [(g0, .inr (5, [.ref g1, .int (nI n1)])), (g1, .inl (kB, 150000, .inl f1)), (e0, .inr (5, [.ref e1, .int (nI n2)])), (e1, .inl (kB, 140000, .inl f2)), (t0, .inr (7, [.ref c0, .ref g0, .ref e0, .ref y3, .ref y4, .ref y5, .ref y6, .int y7, .int y8, .int y9])), (c0, .inr (5, [.ref c1, .int (nI n0)])), (c1, .inl (kB, 140000, .inl f0))] := hD
      subst hw
      refine lv_i2l (v := ((hashF f0 i k sd).toInt64)) hx hb dX7_hash_35 rfl ?_
      refine lv_ldc2 (v := 4294967295) hx hb hown (hts (.constantLong RX7 154 4294967295) (by decide +kernel)) dX7_hash_36 ?_
      refine lv_land hx hb dX7_hash_39 ?_
      have hP9 := hP.sub (ws' := [(t0, .inr (7, [.ref c0, .ref g0, .ref e0, .ref y3, .ref y4, .ref y5, .ref y6, .int y7, .int y8, .int y9])), (c0, .inr (5, [.ref c1, .int (nI n0)])), (c1, .inl (kB, 140000, .inl f0)), (g0, .inr (5, [.ref g1, .int (nI n1)])), (g1, .inl (kB, 150000, .inl f1)), (e0, .inr (5, [.ref e1, .int (nI n2)])), (e1, .inl (kB, 140000, .inl f2))]) [4, 5, 6, 0, 1, 2, 3] rfl
      have hD9 := hD.sub (ws' := [(t0, .inr (7, [.ref c0, .ref g0, .ref e0, .ref y3, .ref y4, .ref y5, .ref y6, .int y7, .int y8, .int y9])), (c0, .inr (5, [.ref c1, .int (nI n0)])), (c1, .inl (kB, 140000, .inl f0)), (g0, .inr (5, [.ref g1, .int (nI n1)])), (g1, .inl (kB, 150000, .inl f1)), (e0, .inr (5, [.ref e1, .int (nI n2)])), (e1, .inl (kB, 140000, .inl f2))]) [4, 5, 6, 0, 1, 2, 3] (by decide) rfl
      exact W.lret (v := (((hashF f0 i k sd).toInt64) &&& 4294967295)) hx hb hr (fun t9 ht9 hW9 => ⟨⟨(((hashF f0 i k sd).toInt64) &&& 4294967295), (), rfl, (Or.inl ⟨ex, Or.inl ⟨i, k, rfl, rfl, by omega, rfl⟩⟩), by rw [ht9]; exact hP9, va_K.moved hW9.alike hK, hD9⟩, hS.F ht9⟩) hS.2.2 dX7_hash_40
    · refine lv_if_ne (tgt := 26) hx hb dX7_hash_19 (by decide) (fun c => absurd c (by decide)) (fun _ => ?_)
      refine lv_ldc2 (v := (-1)) hx hb hown (hts (.constantLong RX7 148 (-1)) (by decide +kernel)) dX7_hash_22 ?_
      have hP9 := hP.sub (ws' := [(t0, .inr (7, [.ref c0, .ref g0, .ref e0, .ref y3, .ref y4, .ref y5, .ref y6, .int y7, .int y8, .int y9])), (c0, .inr (5, [.ref c1, .int (nI n0)])), (c1, .inl (kB, 140000, .inl f0)), (g0, .inr (5, [.ref g1, .int (nI n1)])), (g1, .inl (kB, 150000, .inl f1)), (e0, .inr (5, [.ref e1, .int (nI n2)])), (e1, .inl (kB, 140000, .inl f2))]) [4, 5, 6, 0, 1, 2, 3] rfl
      have hD9 := hD.sub (ws' := [(t0, .inr (7, [.ref c0, .ref g0, .ref e0, .ref y3, .ref y4, .ref y5, .ref y6, .int y7, .int y8, .int y9])), (c0, .inr (5, [.ref c1, .int (nI n0)])), (c1, .inl (kB, 140000, .inl f0)), (g0, .inr (5, [.ref g1, .int (nI n1)])), (g1, .inl (kB, 150000, .inl f1)), (e0, .inr (5, [.ref e1, .int (nI n2)])), (e1, .inl (kB, 140000, .inl f2))]) [4, 5, 6, 0, 1, 2, 3] (by decide) rfl
      exact W.lret (v := (-1)) hx hb hr (fun t9 ht9 hW9 => ⟨⟨(-1), (), rfl, (Or.inl ⟨ex, Or.inr ⟨hw, rfl⟩⟩), by rw [ht9]; exact hP9, va_K.moved hW9.alike hK, hD9⟩, hS.F ht9⟩) hS.2.2 dX7_hash_25
  · refine W.eq (g2 := F0 m 5 ls [.ref g0]) rfl ?_
    refine lv_astore (lv' := [(5, .ref g0), (0, .ref t0), (1, .int x), (2, .int y), (3, .int z), (4, .int sd)]) hx hb dX7_hash_5 hl (by decide) rfl (fun ls hl => ?_)
    refine lv_aload hx hb dX7_hash_7 (lv_at hl 0 rfl) ?_
    refine lv_ifnull hx hb dX7_hash_9 ?_
    refine lv_aload hx hb dX7_hash_12 (lv_at hl 0 rfl) ?_
    refine lv_iload_n hx hb dX7_hash_14 rfl (lv_at hl 3 rfl) ?_
    refine lv_iload_n hx hb dX7_hash_15 rfl (lv_at hl 4 rfl) ?_
    refine z_calli (wr := [(c0, .inr (5, [.ref c1, .int (nI n0)])), (c1, .inl (kB, 140000, .inl f0)), (e0, .inr (5, [.ref e1, .int (nI n2)])), (e1, .inl (kB, 140000, .inl f2)), (t0, .inr (7, [.ref c0, .ref g0, .ref e0, .ref y3, .ref y4, .ref y5, .ref y6, .int y7, .int y8, .int y9]))]) (va_runV (As := [.int y, .int z]) (rest := []) ⟨hx, hb, hml, hown, hts⟩ (c_Row_hasPiece l dC dI kB kI g0 g1 150000 n1 f1 y yi z zi (by omega) (by omega) yh zh H.size) (cwV 2 hts gX7_hash_X5_hasPiece rfl rfl rfl (by decide +kernel) ⟨Nat.le_of_ble_eq_true rfl, Nat.le_of_ble_eq_true rfl⟩) (z_preV hK (hP.sub [2, 3] rfl) (hD.sub [2, 3] (by decide) rfl) (va_recv hK hP (ci := 5) (q0 := 2) rfl rfl)) rfl rfl hl.1 rfl (lv_room (Nat.le_of_ble_eq_true rfl)) dX7_hash_16 ⟨Nat.le_of_ble_eq_true rfl, Nat.le_of_ble_eq_true rfl⟩) hK hP hD hS hA [2, 3] [0, 1, 4, 5, 6] rfl rfl (by decide) (by decide) (fun r7 uq8 H locs hw hP hD hS => ?_)
    replace hw : (r7 = 1 ∧ 0 ≤ yi ∧ 0 ≤ zi ∧ yi + zi ≤ n1) ∨ (r7 = 0 ∧ (yi < 0 ∨ zi < 0 ∨ (n1 : Int) < yi + zi)) := hw
    have hP : va_P (dC, dI) vwCl [(c0, .inr (5, [.ref c1, .int (nI n0)])), (c1, .inl (kB, 140000, .inl f0)), (e0, .inr (5, [.ref e1, .int (nI n2)])), (e1, .inl (kB, 140000, .inl f2)), (t0, .inr (7, [.ref c0, .ref g0, .ref e0, .ref y3, .ref y4, .ref y5, .ref y6, .int y7, .int y8, .int y9])), (g0, .inr (5, [.ref g1, .int (nI n1)])), (g1, .inl (kB, 150000, .inl f1))] H := hP
    have hD : va_D A [(c0, .inr (5, [.ref c1, .int (nI n0)])), (c1, .inl (kB, 140000, .inl f0)), (e0, .inr (5, [.ref e1, .int (nI n2)])), (e1, .inl (kB, 140000, .inl f2)), (t0, .inr (7, [.ref c0, .ref g0, .ref e0, .ref y3, .ref y4, .ref y5, .ref y6, .int y7, .int y8, .int y9])), (g0, .inr (5, [.ref g1, .int (nI n1)])), (g1, .inl (kB, 150000, .inl f1))] := hD
    rcases hw with ⟨r7e, hw⟩ | ⟨r7e, hw⟩ <;> subst r7e
    · obtain ⟨i, ib, ye⟩ := z_nat (x := y) (by omega)
      subst ye
      rw [nI_toInt ib] at yh
      subst yh
      obtain ⟨k, kb, ze⟩ := z_nat (x := z) (by omega)
      subst ze
      rw [nI_toInt kb] at zh
      subst zh
      refine lv_if_ne (tgt := 26) hx hb dX7_hash_19 (by decide) (fun _ => ?_) (fun c => absurd c (by decide))
      refine lv_aload hx hb dX7_hash_26 (lv_at hl 0 rfl) ?_
      refine lv_iload_n hx hb dX7_hash_28 rfl (lv_at hl 3 rfl) ?_
      refine lv_iload_n hx hb dX7_hash_29 rfl (lv_at hl 4 rfl) ?_
      refine lv_iload hx hb dX7_hash_30 (lv_at hl 5 rfl) ?_
      refine z_calli (wr := [(c0, .inr (5, [.ref c1, .int (nI n0)])), (c1, .inl (kB, 140000, .inl f0)), (e0, .inr (5, [.ref e1, .int (nI n2)])), (e1, .inl (kB, 140000, .inl f2)), (t0, .inr (7, [.ref c0, .ref g0, .ref e0, .ref y3, .ref y4, .ref y5, .ref y6, .int y7, .int y8, .int y9]))]) (va_runV (As := [.int (nI i), .int (nI k), .int sd]) (rest := []) ⟨hx, hb, hml, hown, hts⟩ (c_Row_hashOf l dC dI kB kI g0 g1 150000 n1 f1 i k sd (by omega) (by omega) (by omega) H.size) (cwV 3 hts gX7_hash_X5_hashOf rfl rfl rfl (by decide +kernel) ⟨Nat.le_of_ble_eq_true rfl, Nat.le_of_ble_eq_true rfl⟩) (z_preV hK (hP.sub [5, 6] rfl) (hD.sub [5, 6] (by decide) rfl) (va_recv hK hP (ci := 5) (q0 := 5) rfl rfl)) rfl rfl hl.1 rfl (lv_room (Nat.le_of_ble_eq_true rfl)) dX7_hash_32 ⟨Nat.le_of_ble_eq_true rfl, Nat.le_of_ble_eq_true rfl⟩) hK hP hD hS hA [5, 6] [0, 1, 2, 3, 4] rfl rfl (by decide) (by decide) (fun r9 uq10 H locs hw hP hD hS => ?_)
      replace hw : r9 = hashF f1 i k sd := hw
      have hP : va_P (dC, dI) vwCl [(c0, .inr (5, [.ref c1, .int (nI n0)])), (c1, .inl (kB, 140000, .inl f0)), (e0, .inr (5, [.ref e1, .int (nI n2)])), (e1, .inl (kB, 140000, .inl f2)), (t0, .inr (7, [.ref c0, .ref g0, .ref e0, .ref y3, .ref y4, .ref y5, .ref y6, .int y7, .int y8, .int y9])), (g0, .inr (5, [.ref g1, .int (nI n1)])), (g1, .inl (kB, 150000, .inl f1))] H := hP
      have hD : va_D A [(c0, .inr (5, [.ref c1, .int (nI n0)])), (c1, .inl (kB, 140000, .inl f0)), (e0, .inr (5, [.ref e1, .int (nI n2)])), (e1, .inl (kB, 140000, .inl f2)), (t0, .inr (7, [.ref c0, .ref g0, .ref e0, .ref y3, .ref y4, .ref y5, .ref y6, .int y7, .int y8, .int y9])), (g0, .inr (5, [.ref g1, .int (nI n1)])), (g1, .inl (kB, 150000, .inl f1))] := hD
      subst hw
      refine lv_i2l (v := ((hashF f1 i k sd).toInt64)) hx hb dX7_hash_35 rfl ?_
      refine lv_ldc2 (v := 4294967295) hx hb hown (hts (.constantLong RX7 154 4294967295) (by decide +kernel)) dX7_hash_36 ?_
      refine lv_land hx hb dX7_hash_39 ?_
      have hP9 := hP.sub (ws' := [(t0, .inr (7, [.ref c0, .ref g0, .ref e0, .ref y3, .ref y4, .ref y5, .ref y6, .int y7, .int y8, .int y9])), (c0, .inr (5, [.ref c1, .int (nI n0)])), (c1, .inl (kB, 140000, .inl f0)), (g0, .inr (5, [.ref g1, .int (nI n1)])), (g1, .inl (kB, 150000, .inl f1)), (e0, .inr (5, [.ref e1, .int (nI n2)])), (e1, .inl (kB, 140000, .inl f2))]) [4, 0, 1, 5, 6, 2, 3] rfl
      have hD9 := hD.sub (ws' := [(t0, .inr (7, [.ref c0, .ref g0, .ref e0, .ref y3, .ref y4, .ref y5, .ref y6, .int y7, .int y8, .int y9])), (c0, .inr (5, [.ref c1, .int (nI n0)])), (c1, .inl (kB, 140000, .inl f0)), (g0, .inr (5, [.ref g1, .int (nI n1)])), (g1, .inl (kB, 150000, .inl f1)), (e0, .inr (5, [.ref e1, .int (nI n2)])), (e1, .inl (kB, 140000, .inl f2))]) [4, 0, 1, 5, 6, 2, 3] (by decide) rfl
      exact W.lret (v := (((hashF f1 i k sd).toInt64) &&& 4294967295)) hx hb hr (fun t9 ht9 hW9 => ⟨⟨(((hashF f1 i k sd).toInt64) &&& 4294967295), (), rfl, (Or.inr (Or.inl ⟨ex, Or.inl ⟨i, k, rfl, rfl, by omega, rfl⟩⟩)), by rw [ht9]; exact hP9, va_K.moved hW9.alike hK, hD9⟩, hS.F ht9⟩) hS.2.2 dX7_hash_40
    · refine lv_if_ne (tgt := 26) hx hb dX7_hash_19 (by decide) (fun c => absurd c (by decide)) (fun _ => ?_)
      refine lv_ldc2 (v := (-1)) hx hb hown (hts (.constantLong RX7 148 (-1)) (by decide +kernel)) dX7_hash_22 ?_
      have hP9 := hP.sub (ws' := [(t0, .inr (7, [.ref c0, .ref g0, .ref e0, .ref y3, .ref y4, .ref y5, .ref y6, .int y7, .int y8, .int y9])), (c0, .inr (5, [.ref c1, .int (nI n0)])), (c1, .inl (kB, 140000, .inl f0)), (g0, .inr (5, [.ref g1, .int (nI n1)])), (g1, .inl (kB, 150000, .inl f1)), (e0, .inr (5, [.ref e1, .int (nI n2)])), (e1, .inl (kB, 140000, .inl f2))]) [4, 0, 1, 5, 6, 2, 3] rfl
      have hD9 := hD.sub (ws' := [(t0, .inr (7, [.ref c0, .ref g0, .ref e0, .ref y3, .ref y4, .ref y5, .ref y6, .int y7, .int y8, .int y9])), (c0, .inr (5, [.ref c1, .int (nI n0)])), (c1, .inl (kB, 140000, .inl f0)), (g0, .inr (5, [.ref g1, .int (nI n1)])), (g1, .inl (kB, 150000, .inl f1)), (e0, .inr (5, [.ref e1, .int (nI n2)])), (e1, .inl (kB, 140000, .inl f2))]) [4, 0, 1, 5, 6, 2, 3] (by decide) rfl
      exact W.lret (v := (-1)) hx hb hr (fun t9 ht9 hW9 => ⟨⟨(-1), (), rfl, (Or.inr (Or.inl ⟨ex, Or.inr ⟨hw, rfl⟩⟩)), by rw [ht9]; exact hP9, va_K.moved hW9.alike hK, hD9⟩, hS.F ht9⟩) hS.2.2 dX7_hash_25
  · refine W.eq (g2 := F0 m 5 ls [.ref e0]) rfl ?_
    refine lv_astore (lv' := [(5, .ref e0), (0, .ref t0), (1, .int x), (2, .int y), (3, .int z), (4, .int sd)]) hx hb dX7_hash_5 hl (by decide) rfl (fun ls hl => ?_)
    refine lv_aload hx hb dX7_hash_7 (lv_at hl 0 rfl) ?_
    refine lv_ifnull hx hb dX7_hash_9 ?_
    refine lv_aload hx hb dX7_hash_12 (lv_at hl 0 rfl) ?_
    refine lv_iload_n hx hb dX7_hash_14 rfl (lv_at hl 3 rfl) ?_
    refine lv_iload_n hx hb dX7_hash_15 rfl (lv_at hl 4 rfl) ?_
    refine z_calli (wr := [(c0, .inr (5, [.ref c1, .int (nI n0)])), (c1, .inl (kB, 140000, .inl f0)), (g0, .inr (5, [.ref g1, .int (nI n1)])), (g1, .inl (kB, 150000, .inl f1)), (t0, .inr (7, [.ref c0, .ref g0, .ref e0, .ref y3, .ref y4, .ref y5, .ref y6, .int y7, .int y8, .int y9]))]) (va_runV (As := [.int y, .int z]) (rest := []) ⟨hx, hb, hml, hown, hts⟩ (c_Row_hasPiece l dC dI kB kI e0 e1 140000 n2 f2 y yi z zi (by omega) (by omega) yh zh H.size) (cwV 2 hts gX7_hash_X5_hasPiece rfl rfl rfl (by decide +kernel) ⟨Nat.le_of_ble_eq_true rfl, Nat.le_of_ble_eq_true rfl⟩) (z_preV hK (hP.sub [4, 5] rfl) (hD.sub [4, 5] (by decide) rfl) (va_recv hK hP (ci := 5) (q0 := 4) rfl rfl)) rfl rfl hl.1 rfl (lv_room (Nat.le_of_ble_eq_true rfl)) dX7_hash_16 ⟨Nat.le_of_ble_eq_true rfl, Nat.le_of_ble_eq_true rfl⟩) hK hP hD hS hA [4, 5] [0, 1, 2, 3, 6] rfl rfl (by decide) (by decide) (fun r11 uq12 H locs hw hP hD hS => ?_)
    replace hw : (r11 = 1 ∧ 0 ≤ yi ∧ 0 ≤ zi ∧ yi + zi ≤ n2) ∨ (r11 = 0 ∧ (yi < 0 ∨ zi < 0 ∨ (n2 : Int) < yi + zi)) := hw
    have hP : va_P (dC, dI) vwCl [(c0, .inr (5, [.ref c1, .int (nI n0)])), (c1, .inl (kB, 140000, .inl f0)), (g0, .inr (5, [.ref g1, .int (nI n1)])), (g1, .inl (kB, 150000, .inl f1)), (t0, .inr (7, [.ref c0, .ref g0, .ref e0, .ref y3, .ref y4, .ref y5, .ref y6, .int y7, .int y8, .int y9])), (e0, .inr (5, [.ref e1, .int (nI n2)])), (e1, .inl (kB, 140000, .inl f2))] H := hP
    have hD : va_D A [(c0, .inr (5, [.ref c1, .int (nI n0)])), (c1, .inl (kB, 140000, .inl f0)), (g0, .inr (5, [.ref g1, .int (nI n1)])), (g1, .inl (kB, 150000, .inl f1)), (t0, .inr (7, [.ref c0, .ref g0, .ref e0, .ref y3, .ref y4, .ref y5, .ref y6, .int y7, .int y8, .int y9])), (e0, .inr (5, [.ref e1, .int (nI n2)])), (e1, .inl (kB, 140000, .inl f2))] := hD
    rcases hw with ⟨r11e, hw⟩ | ⟨r11e, hw⟩ <;> subst r11e
    · obtain ⟨i, ib, ye⟩ := z_nat (x := y) (by omega)
      subst ye
      rw [nI_toInt ib] at yh
      subst yh
      obtain ⟨k, kb, ze⟩ := z_nat (x := z) (by omega)
      subst ze
      rw [nI_toInt kb] at zh
      subst zh
      refine lv_if_ne (tgt := 26) hx hb dX7_hash_19 (by decide) (fun _ => ?_) (fun c => absurd c (by decide))
      refine lv_aload hx hb dX7_hash_26 (lv_at hl 0 rfl) ?_
      refine lv_iload_n hx hb dX7_hash_28 rfl (lv_at hl 3 rfl) ?_
      refine lv_iload_n hx hb dX7_hash_29 rfl (lv_at hl 4 rfl) ?_
      refine lv_iload hx hb dX7_hash_30 (lv_at hl 5 rfl) ?_
      refine z_calli (wr := [(c0, .inr (5, [.ref c1, .int (nI n0)])), (c1, .inl (kB, 140000, .inl f0)), (g0, .inr (5, [.ref g1, .int (nI n1)])), (g1, .inl (kB, 150000, .inl f1)), (t0, .inr (7, [.ref c0, .ref g0, .ref e0, .ref y3, .ref y4, .ref y5, .ref y6, .int y7, .int y8, .int y9]))]) (va_runV (As := [.int (nI i), .int (nI k), .int sd]) (rest := []) ⟨hx, hb, hml, hown, hts⟩ (c_Row_hashOf l dC dI kB kI e0 e1 140000 n2 f2 i k sd (by omega) (by omega) (by omega) H.size) (cwV 3 hts gX7_hash_X5_hashOf rfl rfl rfl (by decide +kernel) ⟨Nat.le_of_ble_eq_true rfl, Nat.le_of_ble_eq_true rfl⟩) (z_preV hK (hP.sub [5, 6] rfl) (hD.sub [5, 6] (by decide) rfl) (va_recv hK hP (ci := 5) (q0 := 5) rfl rfl)) rfl rfl hl.1 rfl (lv_room (Nat.le_of_ble_eq_true rfl)) dX7_hash_32 ⟨Nat.le_of_ble_eq_true rfl, Nat.le_of_ble_eq_true rfl⟩) hK hP hD hS hA [5, 6] [0, 1, 2, 3, 4] rfl rfl (by decide) (by decide) (fun r13 uq14 H locs hw hP hD hS => ?_)
      replace hw : r13 = hashF f2 i k sd := hw
      have hP : va_P (dC, dI) vwCl [(c0, .inr (5, [.ref c1, .int (nI n0)])), (c1, .inl (kB, 140000, .inl f0)), (g0, .inr (5, [.ref g1, .int (nI n1)])), (g1, .inl (kB, 150000, .inl f1)), (t0, .inr (7, [.ref c0, .ref g0, .ref e0, .ref y3, .ref y4, .ref y5, .ref y6, .int y7, .int y8, .int y9])), (e0, .inr (5, [.ref e1, .int (nI n2)])), (e1, .inl (kB, 140000, .inl f2))] H := hP
      have hD : va_D A [(c0, .inr (5, [.ref c1, .int (nI n0)])), (c1, .inl (kB, 140000, .inl f0)), (g0, .inr (5, [.ref g1, .int (nI n1)])), (g1, .inl (kB, 150000, .inl f1)), (t0, .inr (7, [.ref c0, .ref g0, .ref e0, .ref y3, .ref y4, .ref y5, .ref y6, .int y7, .int y8, .int y9])), (e0, .inr (5, [.ref e1, .int (nI n2)])), (e1, .inl (kB, 140000, .inl f2))] := hD
      subst hw
      refine lv_i2l (v := ((hashF f2 i k sd).toInt64)) hx hb dX7_hash_35 rfl ?_
      refine lv_ldc2 (v := 4294967295) hx hb hown (hts (.constantLong RX7 154 4294967295) (by decide +kernel)) dX7_hash_36 ?_
      refine lv_land hx hb dX7_hash_39 ?_
      have hP9 := hP.sub (ws' := [(t0, .inr (7, [.ref c0, .ref g0, .ref e0, .ref y3, .ref y4, .ref y5, .ref y6, .int y7, .int y8, .int y9])), (c0, .inr (5, [.ref c1, .int (nI n0)])), (c1, .inl (kB, 140000, .inl f0)), (g0, .inr (5, [.ref g1, .int (nI n1)])), (g1, .inl (kB, 150000, .inl f1)), (e0, .inr (5, [.ref e1, .int (nI n2)])), (e1, .inl (kB, 140000, .inl f2))]) [4, 0, 1, 2, 3, 5, 6] rfl
      have hD9 := hD.sub (ws' := [(t0, .inr (7, [.ref c0, .ref g0, .ref e0, .ref y3, .ref y4, .ref y5, .ref y6, .int y7, .int y8, .int y9])), (c0, .inr (5, [.ref c1, .int (nI n0)])), (c1, .inl (kB, 140000, .inl f0)), (g0, .inr (5, [.ref g1, .int (nI n1)])), (g1, .inl (kB, 150000, .inl f1)), (e0, .inr (5, [.ref e1, .int (nI n2)])), (e1, .inl (kB, 140000, .inl f2))]) [4, 0, 1, 2, 3, 5, 6] (by decide) rfl
      exact W.lret (v := (((hashF f2 i k sd).toInt64) &&& 4294967295)) hx hb hr (fun t9 ht9 hW9 => ⟨⟨(((hashF f2 i k sd).toInt64) &&& 4294967295), (), rfl, (Or.inr (Or.inr (Or.inl ⟨ex, Or.inl ⟨i, k, rfl, rfl, by omega, rfl⟩⟩))), by rw [ht9]; exact hP9, va_K.moved hW9.alike hK, hD9⟩, hS.F ht9⟩) hS.2.2 dX7_hash_40
    · refine lv_if_ne (tgt := 26) hx hb dX7_hash_19 (by decide) (fun c => absurd c (by decide)) (fun _ => ?_)
      refine lv_ldc2 (v := (-1)) hx hb hown (hts (.constantLong RX7 148 (-1)) (by decide +kernel)) dX7_hash_22 ?_
      have hP9 := hP.sub (ws' := [(t0, .inr (7, [.ref c0, .ref g0, .ref e0, .ref y3, .ref y4, .ref y5, .ref y6, .int y7, .int y8, .int y9])), (c0, .inr (5, [.ref c1, .int (nI n0)])), (c1, .inl (kB, 140000, .inl f0)), (g0, .inr (5, [.ref g1, .int (nI n1)])), (g1, .inl (kB, 150000, .inl f1)), (e0, .inr (5, [.ref e1, .int (nI n2)])), (e1, .inl (kB, 140000, .inl f2))]) [4, 0, 1, 2, 3, 5, 6] rfl
      have hD9 := hD.sub (ws' := [(t0, .inr (7, [.ref c0, .ref g0, .ref e0, .ref y3, .ref y4, .ref y5, .ref y6, .int y7, .int y8, .int y9])), (c0, .inr (5, [.ref c1, .int (nI n0)])), (c1, .inl (kB, 140000, .inl f0)), (g0, .inr (5, [.ref g1, .int (nI n1)])), (g1, .inl (kB, 150000, .inl f1)), (e0, .inr (5, [.ref e1, .int (nI n2)])), (e1, .inl (kB, 140000, .inl f2))]) [4, 0, 1, 2, 3, 5, 6] (by decide) rfl
      exact W.lret (v := (-1)) hx hb hr (fun t9 ht9 hW9 => ⟨⟨(-1), (), rfl, (Or.inr (Or.inr (Or.inl ⟨ex, Or.inr ⟨hw, rfl⟩⟩))), by rw [ht9]; exact hP9, va_K.moved hW9.alike hK, hD9⟩, hS.F ht9⟩) hS.2.2 dX7_hash_25
  · refine W.eq (g2 := F0 m 5 ls [.null]) rfl ?_
    refine lv_astoreN (lv' := [(5, .null), (0, .ref t0), (1, .int x), (2, .int y), (3, .int z), (4, .int sd)]) hx hb dX7_hash_5 hl (by decide) rfl (fun ls hl => ?_)
    refine lv_aloadN hx hb dX7_hash_7 (lv_at hl 0 rfl) ?_
    refine lv_ifnullN (tgt := 22) hx hb dX7_hash_9 (by decide) ?_
    refine lv_ldc2 (v := (-1)) hx hb hown (hts (.constantLong RX7 148 (-1)) (by decide +kernel)) dX7_hash_22 ?_
    have hP9 := hP.sub (ws' := [(t0, .inr (7, [.ref c0, .ref g0, .ref e0, .ref y3, .ref y4, .ref y5, .ref y6, .int y7, .int y8, .int y9])), (c0, .inr (5, [.ref c1, .int (nI n0)])), (c1, .inl (kB, 140000, .inl f0)), (g0, .inr (5, [.ref g1, .int (nI n1)])), (g1, .inl (kB, 150000, .inl f1)), (e0, .inr (5, [.ref e1, .int (nI n2)])), (e1, .inl (kB, 140000, .inl f2))]) [6, 0, 1, 2, 3, 4, 5] rfl
    have hD9 := hD.sub (ws' := [(t0, .inr (7, [.ref c0, .ref g0, .ref e0, .ref y3, .ref y4, .ref y5, .ref y6, .int y7, .int y8, .int y9])), (c0, .inr (5, [.ref c1, .int (nI n0)])), (c1, .inl (kB, 140000, .inl f0)), (g0, .inr (5, [.ref g1, .int (nI n1)])), (g1, .inl (kB, 150000, .inl f1)), (e0, .inr (5, [.ref e1, .int (nI n2)])), (e1, .inl (kB, 140000, .inl f2))]) [6, 0, 1, 2, 3, 4, 5] (by decide) rfl
    exact W.lret (v := (-1)) hx hb hr (fun t9 ht9 hW9 => ⟨⟨(-1), (), rfl, (Or.inr (Or.inr (Or.inr ⟨ex, rfl⟩))), by rw [ht9]; exact hP9, va_K.moved hW9.alike hK, hD9⟩, hS.F ht9⟩) hS.2.2 dX7_hash_25

set_option maxHeartbeats 4000000 in
set_option maxRecDepth 100000 in
theorem c_Top_differs (l : Launch) (dC : Nat → ClassId) (dI : Nat → Nat → Nat) (kB kI : ClassId) (t0 : Nat) (y1 : Nat) (y3 : Nat) (y4 : Nat) (y5 : Nat) (y6 : Nat) (y7 : Int32) (y8 : Int32) (y9 : Int32) (c0 : Nat) (c1 : Nat) (e0 : Nat) (e1 : Nat) (n : Nat) (k : Nat) (f : Nat → Int32) (g : Nat → Int32) (hn : n ≤ 140000) (hk : k ≤ 140000) : zMi l yX7_differs wsX7_differs ({ frames := 1, cells := 0, slots := 0, locals := 21 }) (dC, dI) kB kI [.ref t0] [(t0, .inr (7, [.ref c0, .ref y1, .ref e0, .ref y3, .ref y4, .ref y5, .ref y6, .int y7, .int y8, .int y9])), (c0, .inr (5, [.ref c1, .int (nI n)])), (c1, .inl (kB, 140000, .inl f)), (e0, .inr (5, [.ref e1, .int (nI k)])), (e1, .inl (kB, 140000, .inl g))] 0 0 (fun (r : Int32) => fun _ : Unit => difP f g n k r) (fun _ : Unit => [(t0, .inr (7, [.ref c0, .ref y1, .ref e0, .ref y3, .ref y4, .ref y5, .ref y6, .int y7, .int y8, .int y9])), (c0, .inr (5, [.ref c1, .int (nI n)])), (c1, .inl (kB, 140000, .inl f)), (e0, .inr (5, [.ref e1, .int (nI k)])), (e1, .inl (kB, 140000, .inl g))]) := by
  intro sz
  refine Met.ofW (cc := cX7_differs) (maxL := 3) (ret := (some .int)) (by decide) rfl ?_
  intro p e s m args below meth c s₁ B hml hv
  obtain ⟨rfl, hsz, hP, hK, hD0⟩ := hv
  have hx := B.exec
  have hb := B.bytes
  have hr := B.returns
  have hts := atoms_spec (ws := wsX7_differs) B.pre
  have hown : s.vm.findClass RX7 = some m.cls := findClass_of_methodNamed B.named
  have hlocks := B.notSynchronized
  subst hsz
  have hD := hD0.self (sz := s.heap.size)
  generalize hAe : va_A [(t0, .inr (7, [.ref c0, .ref y1, .ref e0, .ref y3, .ref y4, .ref y5, .ref y6, .int y7, .int y8, .int y9])), (c0, .inr (5, [.ref c1, .int (nI n)])), (c1, .inl (kB, 140000, .inl f)), (e0, .inr (5, [.ref e1, .int (nI k)])), (e1, .inl (kB, 140000, .inl g))] s.heap.size = A at hD ⊢
  have hA : ∀ q : Nat, s.heap.size ≤ q → A q := fun q h => by rw [← hAe]; exact Or.inr h
  have hS : va_S A s.heap s.heap [] := va_S.rf
  have hP : va_P (dC, dI) vwCl [(t0, .inr (7, [.ref c0, .ref y1, .ref e0, .ref y3, .ref y4, .ref y5, .ref y6, .int y7, .int y8, .int y9])), (c0, .inr (5, [.ref c1, .int (nI n)])), (c1, .inl (kB, 140000, .inl f)), (e0, .inr (5, [.ref e1, .int (nI k)])), (e1, .inl (kB, 140000, .inl g))] s.heap := hP
  have hl := lv_entry ([.ref t0]) (n := 3) (Nat.le_of_ble_eq_true rfl)
  rw [lg_entry_eq]
  generalize (lg_sl ([.ref t0]) ++ List.replicate (3 - (lg_sl ([.ref t0])).length) Slot.unset).toArray = ls at hl ⊢
  have hl : lv_has ls 3 [(0, .ref t0)] := hl
  refine zG (fun GG hG1 hG2 => ?_)
  refine lv_aload_n hx hb dX7_differs_0 rfl (lv_at hl 0 rfl) ?_
  refine va_get (D := (dC, dI)) (ci := 7) (v := .ref c0) (C := RX7) (T := TX7) (N := 10) hx hb hts (by decide +kernel) hown hK hP 0 rfl rfl 0 (by decide) (hts (.fieldLink RX7 15 "SequenceFrames" "content" "LSequenceFrames$Row;") (by decide +kernel)) (fun _ h9 => h9) rfl dX7_differs_1 ?_
  refine va_get (D := (dC, dI)) (ci := 5) (v := .int (nI n)) (C := RX5) (T := TX5) (N := 2) hx hb hts (by decide +kernel) hown hK hP 1 rfl rfl 1 (by decide) (hts (.fieldLink RX7 68 "SequenceFrames$Row" "size" "I") (by decide +kernel)) (fun _ h9 => h9) rfl dX7_differs_4 ?_
  refine lv_aload_n hx hb dX7_differs_7 rfl (lv_at hl 0 rfl) ?_
  refine va_get (D := (dC, dI)) (ci := 7) (v := .ref e0) (C := RX7) (T := TX7) (N := 10) hx hb hts (by decide +kernel) hown hK hP 0 rfl rfl 2 (by decide) (hts (.fieldLink RX7 23 "SequenceFrames" "output" "LSequenceFrames$Row;") (by decide +kernel)) (fun _ h9 => h9) rfl dX7_differs_8 ?_
  refine va_get (D := (dC, dI)) (ci := 5) (v := .int (nI k)) (C := RX5) (T := TX5) (N := 2) hx hb hts (by decide +kernel) hown hK hP 3 rfl rfl 1 (by decide) (hts (.fieldLink RX7 68 "SequenceFrames$Row" "size" "I") (by decide +kernel)) (fun _ h9 => h9) rfl dX7_differs_11 ?_
  refine va_mmin hx hb (hml.trans hl.1.symm) hown (hts (.methodLink RX7 156 Lib.Math.min.name) (by decide +kernel)) (hts (.static Lib.Math.min.name) (by decide +kernel)) (hts (.initialized "java/lang/Math") (by decide +kernel)) (hts (.code Lib.Math.min.name Lib.Math.min.code 2 (some .int)) (by decide +kernel)) (Nat.le_of_ble_eq_true rfl) (Nat.le_of_ble_eq_true rfl) (Nat.zero_le _) (Nat.zero_le _) dX7_differs_14 ?_
  refine lv_is (y := (nI (min n k))) (z_minI n k (by omega) (by omega)) ?_
  refine lv_istore_n (lv' := [(1, .int (nI (min n k))), (0, .ref t0)]) hx hb dX7_differs_17 rfl hl (by decide) rfl (fun ls hl => ?_)
  refine lv_iconst (v := 0) hx hb dX7_differs_18 (by decide) ?_
  refine lv_istore_n (lv' := [(2, .int 0), (1, .int (nI (min n k))), (0, .ref t0)]) hx hb dX7_differs_19 rfl hl (by decide) rfl (fun ls hl => ?_)
  have lp : ∀ (kf : Nat) (j : Nat) (hj : j ≤ min n k) (hag : ∀ i, i < j → f i = g i), min n k - j < kf → ∀ (H : Heap) (locs : List Loc), va_P (dC, dI) vwCl [(t0, .inr (7, [.ref c0, .ref y1, .ref e0, .ref y3, .ref y4, .ref y5, .ref y6, .int y7, .int y8, .int y9])), (c0, .inr (5, [.ref c1, .int (nI n)])), (c1, .inl (kB, 140000, .inl f)), (e0, .inr (5, [.ref e1, .int (nI k)])), (e1, .inl (kB, 140000, .inl g))] H → va_D A [(t0, .inr (7, [.ref c0, .ref y1, .ref e0, .ref y3, .ref y4, .ref y5, .ref y6, .int y7, .int y8, .int y9])), (c0, .inr (5, [.ref c1, .int (nI n)])), (c1, .inl (kB, 140000, .inl f)), (e0, .inr (5, [.ref e1, .int (nI k)])), (e1, .inl (kB, 140000, .inl g))] → va_S A s.heap H locs → ∀ (ls : Array Slot), lv_has ls 3 [(0, .ref t0), (1, .int (nI (min n k))), (2, .int (nI j))] → GG H locs (F0 m 20 ls []) := by
    intro kf
    induction kf with
    | zero => intro j hj hag hm; exact absurd hm (Nat.not_lt_zero _)
    | succ kf ih =>
      intro j hj hag hm H locs hP hD hS ls hl
      apply hG1
      refine lv_iload_n hx hb dX7_differs_20 rfl (lv_at hl 2 rfl) ?_
      refine lv_iload_n hx hb dX7_differs_21 rfl (lv_at hl 1 rfl) ?_
      refine zb_icmp_ge (tgt := 54) (a := ((j : Nat) : Int)) (b := ((min n k : Nat) : Int)) hx hb dX7_differs_22 (by decide) (nI_toInt (by omega)) (nI_toInt (by omega)) (fun c22 => ?_) (fun c22 => ?_)
      · have et9 : min n k = j := by omega
        subst et9
        refine lv_aload_n hx hb dX7_differs_54 rfl (lv_at hl 0 rfl) ?_
        refine va_get (D := (dC, dI)) (ci := 7) (v := .ref c0) (C := RX7) (T := TX7) (N := 10) hx hb hts (by decide +kernel) hown hK hP 0 rfl rfl 0 (by decide) (hts (.fieldLink RX7 15 "SequenceFrames" "content" "LSequenceFrames$Row;") (by decide +kernel)) (fun _ h9 => h9) rfl dX7_differs_55 ?_
        refine va_get (D := (dC, dI)) (ci := 5) (v := .int (nI n)) (C := RX5) (T := TX5) (N := 2) hx hb hts (by decide +kernel) hown hK hP 1 rfl rfl 1 (by decide) (hts (.fieldLink RX7 68 "SequenceFrames$Row" "size" "I") (by decide +kernel)) (fun _ h9 => h9) rfl dX7_differs_58 ?_
        refine lv_aload_n hx hb dX7_differs_61 rfl (lv_at hl 0 rfl) ?_
        refine va_get (D := (dC, dI)) (ci := 7) (v := .ref e0) (C := RX7) (T := TX7) (N := 10) hx hb hts (by decide +kernel) hown hK hP 0 rfl rfl 2 (by decide) (hts (.fieldLink RX7 23 "SequenceFrames" "output" "LSequenceFrames$Row;") (by decide +kernel)) (fun _ h9 => h9) rfl dX7_differs_62 ?_
        refine va_get (D := (dC, dI)) (ci := 5) (v := .int (nI k)) (C := RX5) (T := TX5) (N := 2) hx hb hts (by decide +kernel) hown hK hP 3 rfl rfl 1 (by decide) (hts (.fieldLink RX7 68 "SequenceFrames$Row" "size" "I") (by decide +kernel)) (fun _ h9 => h9) rfl dX7_differs_65 ?_
        refine zb_icmp_ne (tgt := 75) (a := ((n : Nat) : Int)) (b := ((k : Nat) : Int)) hx hb dX7_differs_68 (by decide) (nI_toInt (by omega)) (nI_toInt (by omega)) (fun c68 => ?_) (fun c68 => ?_)
        · refine lv_iload_n hx hb dX7_differs_75 rfl (lv_at hl 1 rfl) ?_
          have hP9 := hP.sub (ws' := [(t0, .inr (7, [.ref c0, .ref y1, .ref e0, .ref y3, .ref y4, .ref y5, .ref y6, .int y7, .int y8, .int y9])), (c0, .inr (5, [.ref c1, .int (nI n)])), (c1, .inl (kB, 140000, .inl f)), (e0, .inr (5, [.ref e1, .int (nI k)])), (e1, .inl (kB, 140000, .inl g))]) [0, 1, 2, 3, 4] rfl
          have hD9 := hD.sub (ws' := [(t0, .inr (7, [.ref c0, .ref y1, .ref e0, .ref y3, .ref y4, .ref y5, .ref y6, .int y7, .int y8, .int y9])), (c0, .inr (5, [.ref c1, .int (nI n)])), (c1, .inl (kB, 140000, .inl f)), (e0, .inr (5, [.ref e1, .int (nI k)])), (e1, .inl (kB, 140000, .inl g))]) [0, 1, 2, 3, 4] (by decide) rfl
          exact W.iret (v := (nI (min n k))) hx hb hr (fun t9 ht9 hW9 => ⟨⟨(nI (min n k)), (), rfl, (⟨min n k, by omega, by omega, hag, Or.inr ⟨fun h1 h2 => absurd h1 (by omega), by omega, rfl⟩⟩), by rw [ht9]; exact hP9, va_K.moved hW9.alike hK, hD9⟩, hS.F ht9⟩) hS.2.2 dX7_differs_76
        · refine lv_iconst (v := (-1)) hx hb dX7_differs_71 (by decide) ?_
          refine lv_goto (tgt := 76) hx hb dX7_differs_72 (by decide) ?_
          have hP9 := hP.sub (ws' := [(t0, .inr (7, [.ref c0, .ref y1, .ref e0, .ref y3, .ref y4, .ref y5, .ref y6, .int y7, .int y8, .int y9])), (c0, .inr (5, [.ref c1, .int (nI n)])), (c1, .inl (kB, 140000, .inl f)), (e0, .inr (5, [.ref e1, .int (nI k)])), (e1, .inl (kB, 140000, .inl g))]) [0, 1, 2, 3, 4] rfl
          have hD9 := hD.sub (ws' := [(t0, .inr (7, [.ref c0, .ref y1, .ref e0, .ref y3, .ref y4, .ref y5, .ref y6, .int y7, .int y8, .int y9])), (c0, .inr (5, [.ref c1, .int (nI n)])), (c1, .inl (kB, 140000, .inl f)), (e0, .inr (5, [.ref e1, .int (nI k)])), (e1, .inl (kB, 140000, .inl g))]) [0, 1, 2, 3, 4] (by decide) rfl
          exact W.iret (v := (-1)) hx hb hr (fun t9 ht9 hW9 => ⟨⟨(-1), (), rfl, (⟨min n k, by omega, by omega, hag, Or.inl ⟨by omega, by omega, rfl⟩⟩), by rw [ht9]; exact hP9, va_K.moved hW9.alike hK, hD9⟩, hS.F ht9⟩) hS.2.2 dX7_differs_76
      · refine lv_aload_n hx hb dX7_differs_25 rfl (lv_at hl 0 rfl) ?_
        refine va_get (D := (dC, dI)) (ci := 7) (v := .ref c0) (C := RX7) (T := TX7) (N := 10) hx hb hts (by decide +kernel) hown hK hP 0 rfl rfl 0 (by decide) (hts (.fieldLink RX7 15 "SequenceFrames" "content" "LSequenceFrames$Row;") (by decide +kernel)) (fun _ h9 => h9) rfl dX7_differs_26 ?_
        refine va_get (D := (dC, dI)) (ci := 5) (v := .ref c1) (C := RX5) (T := TX5) (N := 2) hx hb hts (by decide +kernel) hown hK hP 1 rfl rfl 0 (by decide) (hts (.fieldLink RX7 161 "SequenceFrames$Row" "bytes" "[B") (by decide +kernel)) (fun _ h9 => h9) rfl dX7_differs_29 ?_
        refine lv_iload_n hx hb dX7_differs_32 rfl (lv_at hl 2 rfl) ?_
        refine va_bald hx hb hK hP 2 0 rfl rfl (zin rfl (by omega) (by omega)) dX7_differs_33 ?_
        refine lv_is (y := (f j)) (zld f rfl (by omega)) ?_
        refine lv_aload_n hx hb dX7_differs_34 rfl (lv_at hl 0 rfl) ?_
        refine va_get (D := (dC, dI)) (ci := 7) (v := .ref e0) (C := RX7) (T := TX7) (N := 10) hx hb hts (by decide +kernel) hown hK hP 0 rfl rfl 2 (by decide) (hts (.fieldLink RX7 23 "SequenceFrames" "output" "LSequenceFrames$Row;") (by decide +kernel)) (fun _ h9 => h9) rfl dX7_differs_35 ?_
        refine va_get (D := (dC, dI)) (ci := 5) (v := .ref e1) (C := RX5) (T := TX5) (N := 2) hx hb hts (by decide +kernel) hown hK hP 3 rfl rfl 0 (by decide) (hts (.fieldLink RX7 161 "SequenceFrames$Row" "bytes" "[B") (by decide +kernel)) (fun _ h9 => h9) rfl dX7_differs_38 ?_
        refine lv_iload_n hx hb dX7_differs_41 rfl (lv_at hl 2 rfl) ?_
        refine va_bald hx hb hK hP 4 0 rfl rfl (zin rfl (by omega) (by omega)) dX7_differs_42 ?_
        refine lv_is (y := (g j)) (zld g rfl (by omega)) ?_
        refine lv_icmp_eq (tgt := 48) hx hb dX7_differs_43 (by decide) (fun c43 => ?_) (fun c43 => ?_)
        · refine lv_iinc (v := (nI (j + 1))) (lv' := [(2, .int (nI (j + 1))), (0, .ref t0), (1, .int (nI (min n k)))]) hx hb dX7_differs_48 hl (k := 2) rfl (zn_inc j 1 (by decide)) (by decide) rfl (fun ls hl => ?_)
          refine lv_goto (tgt := 20) hx hb dX7_differs_51 (by decide) ?_
          exact hG2 _ _ _ (ih (j + 1) (by omega) (fun i hi => by rcases (show i < j ∨ i = j by omega) with h | h; exact hag i h; rw [h]; exact c43) (by omega) _ _ (hP.sub [0, 1, 2, 3, 4] rfl) (hD.sub [0, 1, 2, 3, 4] (by decide) rfl) hS ls (lv_sub hl [1, 2, 0] rfl))
        · refine lv_iload_n hx hb dX7_differs_46 rfl (lv_at hl 2 rfl) ?_
          have hP9 := hP.sub (ws' := [(t0, .inr (7, [.ref c0, .ref y1, .ref e0, .ref y3, .ref y4, .ref y5, .ref y6, .int y7, .int y8, .int y9])), (c0, .inr (5, [.ref c1, .int (nI n)])), (c1, .inl (kB, 140000, .inl f)), (e0, .inr (5, [.ref e1, .int (nI k)])), (e1, .inl (kB, 140000, .inl g))]) [0, 1, 2, 3, 4] rfl
          have hD9 := hD.sub (ws' := [(t0, .inr (7, [.ref c0, .ref y1, .ref e0, .ref y3, .ref y4, .ref y5, .ref y6, .int y7, .int y8, .int y9])), (c0, .inr (5, [.ref c1, .int (nI n)])), (c1, .inl (kB, 140000, .inl f)), (e0, .inr (5, [.ref e1, .int (nI k)])), (e1, .inl (kB, 140000, .inl g))]) [0, 1, 2, 3, 4] (by decide) rfl
          exact W.iret (v := (nI j)) hx hb hr (fun t9 ht9 hW9 => ⟨⟨(nI j), (), rfl, (⟨j, by omega, by omega, hag, Or.inr ⟨fun _ _ => c43, by omega, rfl⟩⟩), by rw [ht9]; exact hP9, va_K.moved hW9.alike hK, hD9⟩, hS.F ht9⟩) hS.2.2 dX7_differs_47
  exact hG2 _ _ _ (lp (min n k - 0 + 1) 0 (by omega) (fun i hi => absurd hi (Nat.not_lt_zero i)) (Nat.lt_succ_self _) _ _ (hP.sub [0, 1, 2, 3, 4] rfl) (hD.sub [0, 1, 2, 3, 4] (by decide) rfl) hS ls (lv_sub hl [2, 1, 0] rfl))

set_option maxHeartbeats 4000000 in
set_option maxRecDepth 100000 in
theorem c_Top_count (l : Launch) (dC : Nat → ClassId) (dI : Nat → Nat → Nat) (kB kI : ClassId) (t0 : Nat) (y3 : Nat) (y4 : Nat) (y7 : Int32) (y8 : Int32) (y9 : Int32) (c0 : Nat) (c1 : Nat) (n0 : Nat) (g0 : Nat) (g1 : Nat) (n1 : Nat) (e0 : Nat) (e1 : Nat) (n2 : Nat) (s0 : Nat) (s1 : Nat) (s2 : Nat) (s3 : Nat) (pt : Nat) (nu : Nat) (ma : Nat) (p0 : Nat) (p1 : Nat) (p2 : Nat) (p3 : Nat) (p4 : Nat) (p5 : Nat) (bl : Nat) (ra : Nat) (x : Int32) (xi : Int) (xh : x.toInt = xi) : zMi l yX7_count wsX7_count ({ frames := 0, cells := 0, slots := 0, locals := 0 }) (dC, dI) kB kI [.ref t0, .int x] [(t0, .inr (7, [.ref c0, .ref g0, .ref e0, .ref y3, .ref y4, .ref s0, .ref p0, .int y7, .int y8, .int y9])), (c0, .inr (5, [.ref c1, .int (nI n0)])), (g0, .inr (5, [.ref g1, .int (nI n1)])), (e0, .inr (5, [.ref e1, .int (nI n2)])), (s0, .inr (6, [.ref s1, .ref s2, .ref s3, .int (nI pt), .int (nI nu), .int (nI ma)])), (p0, .inr (4, [.ref p1, .ref p2, .ref p3, .ref p4, .ref p5, .int (nI bl), .int (nI ra)]))] 0 0 (fun (r : Int32) => fun _ : Unit => (xi = 0 ∧ r = nI n0) ∨ (xi = 1 ∧ r = nI n1) ∨ (xi = 2 ∧ r = nI n2) ∨ (xi = 3 ∧ r = nI nu) ∨ (xi = 4 ∧ r = nI bl) ∨ (xi = 5 ∧ r = nI ra) ∨ (xi = 6 ∧ r = nI ma) ∨ (xi = 7 ∧ r = y8) ∨ (xi = 8 ∧ r = y9) ∨ ((xi < 0 ∨ 8 < xi) ∧ r = -1)) (fun _ : Unit => [(t0, .inr (7, [.ref c0, .ref g0, .ref e0, .ref y3, .ref y4, .ref s0, .ref p0, .int y7, .int y8, .int y9])), (c0, .inr (5, [.ref c1, .int (nI n0)])), (g0, .inr (5, [.ref g1, .int (nI n1)])), (e0, .inr (5, [.ref e1, .int (nI n2)])), (s0, .inr (6, [.ref s1, .ref s2, .ref s3, .int (nI pt), .int (nI nu), .int (nI ma)])), (p0, .inr (4, [.ref p1, .ref p2, .ref p3, .ref p4, .ref p5, .int (nI bl), .int (nI ra)]))]) := by
  intro sz
  refine Met.ofW (cc := cX7_count) (maxL := 2) (ret := (some .int)) (by decide) rfl ?_
  intro p e s m args below meth c s₁ B hml hv
  obtain ⟨rfl, hsz, hP, hK, hD0⟩ := hv
  have hx := B.exec
  have hb := B.bytes
  have hr := B.returns
  have hts := atoms_spec (ws := wsX7_count) B.pre
  have hown : s.vm.findClass RX7 = some m.cls := findClass_of_methodNamed B.named
  have hlocks := B.notSynchronized
  subst hsz
  have hD := hD0.self (sz := s.heap.size)
  generalize hAe : va_A [(t0, .inr (7, [.ref c0, .ref g0, .ref e0, .ref y3, .ref y4, .ref s0, .ref p0, .int y7, .int y8, .int y9])), (c0, .inr (5, [.ref c1, .int (nI n0)])), (g0, .inr (5, [.ref g1, .int (nI n1)])), (e0, .inr (5, [.ref e1, .int (nI n2)])), (s0, .inr (6, [.ref s1, .ref s2, .ref s3, .int (nI pt), .int (nI nu), .int (nI ma)])), (p0, .inr (4, [.ref p1, .ref p2, .ref p3, .ref p4, .ref p5, .int (nI bl), .int (nI ra)]))] s.heap.size = A at hD ⊢
  have hA : ∀ q : Nat, s.heap.size ≤ q → A q := fun q h => by rw [← hAe]; exact Or.inr h
  have hS : va_S A s.heap s.heap [] := va_S.rf
  have hP : va_P (dC, dI) vwCl [(t0, .inr (7, [.ref c0, .ref g0, .ref e0, .ref y3, .ref y4, .ref s0, .ref p0, .int y7, .int y8, .int y9])), (c0, .inr (5, [.ref c1, .int (nI n0)])), (g0, .inr (5, [.ref g1, .int (nI n1)])), (e0, .inr (5, [.ref e1, .int (nI n2)])), (s0, .inr (6, [.ref s1, .ref s2, .ref s3, .int (nI pt), .int (nI nu), .int (nI ma)])), (p0, .inr (4, [.ref p1, .ref p2, .ref p3, .ref p4, .ref p5, .int (nI bl), .int (nI ra)]))] s.heap := hP
  have hl := lv_entry ([.ref t0, .int x]) (n := 2) (Nat.le_of_ble_eq_true rfl)
  rw [lg_entry_eq]
  generalize (lg_sl ([.ref t0, .int x]) ++ List.replicate (2 - (lg_sl ([.ref t0, .int x])).length) Slot.unset).toArray = ls at hl ⊢
  have hl : lv_has ls 2 [(0, .ref t0), (1, .int x)] := hl
  refine zG (fun GG hG1 hG2 => ?_)
  refine lv_iload_n hx hb dX7_count_0 rfl (lv_at hl 1 rfl) ?_
  rcases (show xi = 0 ∨ xi = 1 ∨ xi = 2 ∨ xi = 3 ∨ xi = 4 ∨ xi = 5 ∨ xi = 6 ∨ xi = 7 ∨ xi = 8 ∨ (xi < 0 ∨ 8 < xi) by omega) with ek | ek | ek | ek | ek | ek | ek | ek | ek | ek
  · refine z_swIn (off := 51) (tgt := 52) hx hb 0 dX7_count_1 ((xh).trans ek) (by decide) (by decide) (by decide) (by decide) ?_
    refine lv_aload_n hx hb dX7_count_52 rfl (lv_at hl 0 rfl) ?_
    refine va_get (D := (dC, dI)) (ci := 7) (v := .ref c0) (C := RX7) (T := TX7) (N := 10) hx hb hts (by decide +kernel) hown hK hP 0 rfl rfl 0 (by decide) (hts (.fieldLink RX7 15 "SequenceFrames" "content" "LSequenceFrames$Row;") (by decide +kernel)) (fun _ h9 => h9) rfl dX7_count_53 ?_
    refine va_get (D := (dC, dI)) (ci := 5) (v := .int (nI n0)) (C := RX5) (T := TX5) (N := 2) hx hb hts (by decide +kernel) hown hK hP 1 rfl rfl 1 (by decide) (hts (.fieldLink RX7 68 "SequenceFrames$Row" "size" "I") (by decide +kernel)) (fun _ h9 => h9) rfl dX7_count_56 ?_
    have hP9 := hP.sub (ws' := [(t0, .inr (7, [.ref c0, .ref g0, .ref e0, .ref y3, .ref y4, .ref s0, .ref p0, .int y7, .int y8, .int y9])), (c0, .inr (5, [.ref c1, .int (nI n0)])), (g0, .inr (5, [.ref g1, .int (nI n1)])), (e0, .inr (5, [.ref e1, .int (nI n2)])), (s0, .inr (6, [.ref s1, .ref s2, .ref s3, .int (nI pt), .int (nI nu), .int (nI ma)])), (p0, .inr (4, [.ref p1, .ref p2, .ref p3, .ref p4, .ref p5, .int (nI bl), .int (nI ra)]))]) [0, 1, 2, 3, 4, 5] rfl
    have hD9 := hD.sub (ws' := [(t0, .inr (7, [.ref c0, .ref g0, .ref e0, .ref y3, .ref y4, .ref s0, .ref p0, .int y7, .int y8, .int y9])), (c0, .inr (5, [.ref c1, .int (nI n0)])), (g0, .inr (5, [.ref g1, .int (nI n1)])), (e0, .inr (5, [.ref e1, .int (nI n2)])), (s0, .inr (6, [.ref s1, .ref s2, .ref s3, .int (nI pt), .int (nI nu), .int (nI ma)])), (p0, .inr (4, [.ref p1, .ref p2, .ref p3, .ref p4, .ref p5, .int (nI bl), .int (nI ra)]))]) [0, 1, 2, 3, 4, 5] (by decide) rfl
    exact W.iret (v := (nI n0)) hx hb hr (fun t9 ht9 hW9 => ⟨⟨(nI n0), (), rfl, (Or.inl ⟨ek, rfl⟩), by rw [ht9]; exact hP9, va_K.moved hW9.alike hK, hD9⟩, hS.F ht9⟩) hS.2.2 dX7_count_59
  · refine z_swIn (off := 59) (tgt := 60) hx hb 1 dX7_count_1 ((xh).trans ek) (by decide) (by decide) (by decide) (by decide) ?_
    refine lv_aload_n hx hb dX7_count_60 rfl (lv_at hl 0 rfl) ?_
    refine va_get (D := (dC, dI)) (ci := 7) (v := .ref g0) (C := RX7) (T := TX7) (N := 10) hx hb hts (by decide +kernel) hown hK hP 0 rfl rfl 1 (by decide) (hts (.fieldLink RX7 20 "SequenceFrames" "frames" "LSequenceFrames$Row;") (by decide +kernel)) (fun _ h9 => h9) rfl dX7_count_61 ?_
    refine va_get (D := (dC, dI)) (ci := 5) (v := .int (nI n1)) (C := RX5) (T := TX5) (N := 2) hx hb hts (by decide +kernel) hown hK hP 2 rfl rfl 1 (by decide) (hts (.fieldLink RX7 68 "SequenceFrames$Row" "size" "I") (by decide +kernel)) (fun _ h9 => h9) rfl dX7_count_64 ?_
    have hP9 := hP.sub (ws' := [(t0, .inr (7, [.ref c0, .ref g0, .ref e0, .ref y3, .ref y4, .ref s0, .ref p0, .int y7, .int y8, .int y9])), (c0, .inr (5, [.ref c1, .int (nI n0)])), (g0, .inr (5, [.ref g1, .int (nI n1)])), (e0, .inr (5, [.ref e1, .int (nI n2)])), (s0, .inr (6, [.ref s1, .ref s2, .ref s3, .int (nI pt), .int (nI nu), .int (nI ma)])), (p0, .inr (4, [.ref p1, .ref p2, .ref p3, .ref p4, .ref p5, .int (nI bl), .int (nI ra)]))]) [0, 1, 2, 3, 4, 5] rfl
    have hD9 := hD.sub (ws' := [(t0, .inr (7, [.ref c0, .ref g0, .ref e0, .ref y3, .ref y4, .ref s0, .ref p0, .int y7, .int y8, .int y9])), (c0, .inr (5, [.ref c1, .int (nI n0)])), (g0, .inr (5, [.ref g1, .int (nI n1)])), (e0, .inr (5, [.ref e1, .int (nI n2)])), (s0, .inr (6, [.ref s1, .ref s2, .ref s3, .int (nI pt), .int (nI nu), .int (nI ma)])), (p0, .inr (4, [.ref p1, .ref p2, .ref p3, .ref p4, .ref p5, .int (nI bl), .int (nI ra)]))]) [0, 1, 2, 3, 4, 5] (by decide) rfl
    exact W.iret (v := (nI n1)) hx hb hr (fun t9 ht9 hW9 => ⟨⟨(nI n1), (), rfl, (Or.inr (Or.inl ⟨ek, rfl⟩)), by rw [ht9]; exact hP9, va_K.moved hW9.alike hK, hD9⟩, hS.F ht9⟩) hS.2.2 dX7_count_67
  · refine z_swIn (off := 67) (tgt := 68) hx hb 2 dX7_count_1 ((xh).trans ek) (by decide) (by decide) (by decide) (by decide) ?_
    refine lv_aload_n hx hb dX7_count_68 rfl (lv_at hl 0 rfl) ?_
    refine va_get (D := (dC, dI)) (ci := 7) (v := .ref e0) (C := RX7) (T := TX7) (N := 10) hx hb hts (by decide +kernel) hown hK hP 0 rfl rfl 2 (by decide) (hts (.fieldLink RX7 23 "SequenceFrames" "output" "LSequenceFrames$Row;") (by decide +kernel)) (fun _ h9 => h9) rfl dX7_count_69 ?_
    refine va_get (D := (dC, dI)) (ci := 5) (v := .int (nI n2)) (C := RX5) (T := TX5) (N := 2) hx hb hts (by decide +kernel) hown hK hP 3 rfl rfl 1 (by decide) (hts (.fieldLink RX7 68 "SequenceFrames$Row" "size" "I") (by decide +kernel)) (fun _ h9 => h9) rfl dX7_count_72 ?_
    have hP9 := hP.sub (ws' := [(t0, .inr (7, [.ref c0, .ref g0, .ref e0, .ref y3, .ref y4, .ref s0, .ref p0, .int y7, .int y8, .int y9])), (c0, .inr (5, [.ref c1, .int (nI n0)])), (g0, .inr (5, [.ref g1, .int (nI n1)])), (e0, .inr (5, [.ref e1, .int (nI n2)])), (s0, .inr (6, [.ref s1, .ref s2, .ref s3, .int (nI pt), .int (nI nu), .int (nI ma)])), (p0, .inr (4, [.ref p1, .ref p2, .ref p3, .ref p4, .ref p5, .int (nI bl), .int (nI ra)]))]) [0, 1, 2, 3, 4, 5] rfl
    have hD9 := hD.sub (ws' := [(t0, .inr (7, [.ref c0, .ref g0, .ref e0, .ref y3, .ref y4, .ref s0, .ref p0, .int y7, .int y8, .int y9])), (c0, .inr (5, [.ref c1, .int (nI n0)])), (g0, .inr (5, [.ref g1, .int (nI n1)])), (e0, .inr (5, [.ref e1, .int (nI n2)])), (s0, .inr (6, [.ref s1, .ref s2, .ref s3, .int (nI pt), .int (nI nu), .int (nI ma)])), (p0, .inr (4, [.ref p1, .ref p2, .ref p3, .ref p4, .ref p5, .int (nI bl), .int (nI ra)]))]) [0, 1, 2, 3, 4, 5] (by decide) rfl
    exact W.iret (v := (nI n2)) hx hb hr (fun t9 ht9 hW9 => ⟨⟨(nI n2), (), rfl, (Or.inr (Or.inr (Or.inl ⟨ek, rfl⟩))), by rw [ht9]; exact hP9, va_K.moved hW9.alike hK, hD9⟩, hS.F ht9⟩) hS.2.2 dX7_count_75
  · refine z_swIn (off := 75) (tgt := 76) hx hb 3 dX7_count_1 ((xh).trans ek) (by decide) (by decide) (by decide) (by decide) ?_
    refine lv_aload_n hx hb dX7_count_76 rfl (lv_at hl 0 rfl) ?_
    refine va_get (D := (dC, dI)) (ci := 7) (v := .ref s0) (C := RX7) (T := TX7) (N := 10) hx hb hts (by decide +kernel) hown hK hP 0 rfl rfl 5 (by decide) (hts (.fieldLink RX7 39 "SequenceFrames" "found" "LSequenceFrames$Sequences;") (by decide +kernel)) (fun _ h9 => h9) rfl dX7_count_77 ?_
    refine va_get (D := (dC, dI)) (ci := 6) (v := .int (nI nu)) (C := RX6) (T := TX6) (N := 6) hx hb hts (by decide +kernel) hown hK hP 4 rfl rfl 4 (by decide) (hts (.fieldLink RX7 124 "SequenceFrames$Sequences" "number" "I") (by decide +kernel)) (fun _ h9 => h9) rfl dX7_count_80 ?_
    have hP9 := hP.sub (ws' := [(t0, .inr (7, [.ref c0, .ref g0, .ref e0, .ref y3, .ref y4, .ref s0, .ref p0, .int y7, .int y8, .int y9])), (c0, .inr (5, [.ref c1, .int (nI n0)])), (g0, .inr (5, [.ref g1, .int (nI n1)])), (e0, .inr (5, [.ref e1, .int (nI n2)])), (s0, .inr (6, [.ref s1, .ref s2, .ref s3, .int (nI pt), .int (nI nu), .int (nI ma)])), (p0, .inr (4, [.ref p1, .ref p2, .ref p3, .ref p4, .ref p5, .int (nI bl), .int (nI ra)]))]) [0, 1, 2, 3, 4, 5] rfl
    have hD9 := hD.sub (ws' := [(t0, .inr (7, [.ref c0, .ref g0, .ref e0, .ref y3, .ref y4, .ref s0, .ref p0, .int y7, .int y8, .int y9])), (c0, .inr (5, [.ref c1, .int (nI n0)])), (g0, .inr (5, [.ref g1, .int (nI n1)])), (e0, .inr (5, [.ref e1, .int (nI n2)])), (s0, .inr (6, [.ref s1, .ref s2, .ref s3, .int (nI pt), .int (nI nu), .int (nI ma)])), (p0, .inr (4, [.ref p1, .ref p2, .ref p3, .ref p4, .ref p5, .int (nI bl), .int (nI ra)]))]) [0, 1, 2, 3, 4, 5] (by decide) rfl
    exact W.iret (v := (nI nu)) hx hb hr (fun t9 ht9 hW9 => ⟨⟨(nI nu), (), rfl, (Or.inr (Or.inr (Or.inr (Or.inl ⟨ek, rfl⟩)))), by rw [ht9]; exact hP9, va_K.moved hW9.alike hK, hD9⟩, hS.F ht9⟩) hS.2.2 dX7_count_83
  · refine z_swIn (off := 83) (tgt := 84) hx hb 4 dX7_count_1 ((xh).trans ek) (by decide) (by decide) (by decide) (by decide) ?_
    refine lv_aload_n hx hb dX7_count_84 rfl (lv_at hl 0 rfl) ?_
    refine va_get (D := (dC, dI)) (ci := 7) (v := .ref p0) (C := RX7) (T := TX7) (N := 10) hx hb hts (by decide +kernel) hown hK hP 0 rfl rfl 6 (by decide) (hts (.fieldLink RX7 48 "SequenceFrames" "packer" "LSequenceFrames$Packer;") (by decide +kernel)) (fun _ h9 => h9) rfl dX7_count_85 ?_
    refine va_get (D := (dC, dI)) (ci := 4) (v := .int (nI bl)) (C := RX4) (T := TX4) (N := 7) hx hb hts (by decide +kernel) hown hK hP 5 rfl rfl 5 (by decide) (hts (.fieldLink RX7 125 "SequenceFrames$Packer" "blocks" "I") (by decide +kernel)) (fun _ h9 => h9) rfl dX7_count_88 ?_
    have hP9 := hP.sub (ws' := [(t0, .inr (7, [.ref c0, .ref g0, .ref e0, .ref y3, .ref y4, .ref s0, .ref p0, .int y7, .int y8, .int y9])), (c0, .inr (5, [.ref c1, .int (nI n0)])), (g0, .inr (5, [.ref g1, .int (nI n1)])), (e0, .inr (5, [.ref e1, .int (nI n2)])), (s0, .inr (6, [.ref s1, .ref s2, .ref s3, .int (nI pt), .int (nI nu), .int (nI ma)])), (p0, .inr (4, [.ref p1, .ref p2, .ref p3, .ref p4, .ref p5, .int (nI bl), .int (nI ra)]))]) [0, 1, 2, 3, 4, 5] rfl
    have hD9 := hD.sub (ws' := [(t0, .inr (7, [.ref c0, .ref g0, .ref e0, .ref y3, .ref y4, .ref s0, .ref p0, .int y7, .int y8, .int y9])), (c0, .inr (5, [.ref c1, .int (nI n0)])), (g0, .inr (5, [.ref g1, .int (nI n1)])), (e0, .inr (5, [.ref e1, .int (nI n2)])), (s0, .inr (6, [.ref s1, .ref s2, .ref s3, .int (nI pt), .int (nI nu), .int (nI ma)])), (p0, .inr (4, [.ref p1, .ref p2, .ref p3, .ref p4, .ref p5, .int (nI bl), .int (nI ra)]))]) [0, 1, 2, 3, 4, 5] (by decide) rfl
    exact W.iret (v := (nI bl)) hx hb hr (fun t9 ht9 hW9 => ⟨⟨(nI bl), (), rfl, (Or.inr (Or.inr (Or.inr (Or.inr (Or.inl ⟨ek, rfl⟩))))), by rw [ht9]; exact hP9, va_K.moved hW9.alike hK, hD9⟩, hS.F ht9⟩) hS.2.2 dX7_count_91
  · refine z_swIn (off := 91) (tgt := 92) hx hb 5 dX7_count_1 ((xh).trans ek) (by decide) (by decide) (by decide) (by decide) ?_
    refine lv_aload_n hx hb dX7_count_92 rfl (lv_at hl 0 rfl) ?_
    refine va_get (D := (dC, dI)) (ci := 7) (v := .ref p0) (C := RX7) (T := TX7) (N := 10) hx hb hts (by decide +kernel) hown hK hP 0 rfl rfl 6 (by decide) (hts (.fieldLink RX7 48 "SequenceFrames" "packer" "LSequenceFrames$Packer;") (by decide +kernel)) (fun _ h9 => h9) rfl dX7_count_93 ?_
    refine va_get (D := (dC, dI)) (ci := 4) (v := .int (nI ra)) (C := RX4) (T := TX4) (N := 7) hx hb hts (by decide +kernel) hown hK hP 5 rfl rfl 6 (by decide) (hts (.fieldLink RX7 128 "SequenceFrames$Packer" "rawBlocks" "I") (by decide +kernel)) (fun _ h9 => h9) rfl dX7_count_96 ?_
    have hP9 := hP.sub (ws' := [(t0, .inr (7, [.ref c0, .ref g0, .ref e0, .ref y3, .ref y4, .ref s0, .ref p0, .int y7, .int y8, .int y9])), (c0, .inr (5, [.ref c1, .int (nI n0)])), (g0, .inr (5, [.ref g1, .int (nI n1)])), (e0, .inr (5, [.ref e1, .int (nI n2)])), (s0, .inr (6, [.ref s1, .ref s2, .ref s3, .int (nI pt), .int (nI nu), .int (nI ma)])), (p0, .inr (4, [.ref p1, .ref p2, .ref p3, .ref p4, .ref p5, .int (nI bl), .int (nI ra)]))]) [0, 1, 2, 3, 4, 5] rfl
    have hD9 := hD.sub (ws' := [(t0, .inr (7, [.ref c0, .ref g0, .ref e0, .ref y3, .ref y4, .ref s0, .ref p0, .int y7, .int y8, .int y9])), (c0, .inr (5, [.ref c1, .int (nI n0)])), (g0, .inr (5, [.ref g1, .int (nI n1)])), (e0, .inr (5, [.ref e1, .int (nI n2)])), (s0, .inr (6, [.ref s1, .ref s2, .ref s3, .int (nI pt), .int (nI nu), .int (nI ma)])), (p0, .inr (4, [.ref p1, .ref p2, .ref p3, .ref p4, .ref p5, .int (nI bl), .int (nI ra)]))]) [0, 1, 2, 3, 4, 5] (by decide) rfl
    exact W.iret (v := (nI ra)) hx hb hr (fun t9 ht9 hW9 => ⟨⟨(nI ra), (), rfl, (Or.inr (Or.inr (Or.inr (Or.inr (Or.inr (Or.inl ⟨ek, rfl⟩)))))), by rw [ht9]; exact hP9, va_K.moved hW9.alike hK, hD9⟩, hS.F ht9⟩) hS.2.2 dX7_count_99
  · refine z_swIn (off := 99) (tgt := 100) hx hb 6 dX7_count_1 ((xh).trans ek) (by decide) (by decide) (by decide) (by decide) ?_
    refine lv_aload_n hx hb dX7_count_100 rfl (lv_at hl 0 rfl) ?_
    refine va_get (D := (dC, dI)) (ci := 7) (v := .ref s0) (C := RX7) (T := TX7) (N := 10) hx hb hts (by decide +kernel) hown hK hP 0 rfl rfl 5 (by decide) (hts (.fieldLink RX7 39 "SequenceFrames" "found" "LSequenceFrames$Sequences;") (by decide +kernel)) (fun _ h9 => h9) rfl dX7_count_101 ?_
    refine va_get (D := (dC, dI)) (ci := 6) (v := .int (nI ma)) (C := RX6) (T := TX6) (N := 6) hx hb hts (by decide +kernel) hown hK hP 4 rfl rfl 5 (by decide) (hts (.fieldLink RX7 131 "SequenceFrames$Sequences" "matched" "I") (by decide +kernel)) (fun _ h9 => h9) rfl dX7_count_104 ?_
    have hP9 := hP.sub (ws' := [(t0, .inr (7, [.ref c0, .ref g0, .ref e0, .ref y3, .ref y4, .ref s0, .ref p0, .int y7, .int y8, .int y9])), (c0, .inr (5, [.ref c1, .int (nI n0)])), (g0, .inr (5, [.ref g1, .int (nI n1)])), (e0, .inr (5, [.ref e1, .int (nI n2)])), (s0, .inr (6, [.ref s1, .ref s2, .ref s3, .int (nI pt), .int (nI nu), .int (nI ma)])), (p0, .inr (4, [.ref p1, .ref p2, .ref p3, .ref p4, .ref p5, .int (nI bl), .int (nI ra)]))]) [0, 1, 2, 3, 4, 5] rfl
    have hD9 := hD.sub (ws' := [(t0, .inr (7, [.ref c0, .ref g0, .ref e0, .ref y3, .ref y4, .ref s0, .ref p0, .int y7, .int y8, .int y9])), (c0, .inr (5, [.ref c1, .int (nI n0)])), (g0, .inr (5, [.ref g1, .int (nI n1)])), (e0, .inr (5, [.ref e1, .int (nI n2)])), (s0, .inr (6, [.ref s1, .ref s2, .ref s3, .int (nI pt), .int (nI nu), .int (nI ma)])), (p0, .inr (4, [.ref p1, .ref p2, .ref p3, .ref p4, .ref p5, .int (nI bl), .int (nI ra)]))]) [0, 1, 2, 3, 4, 5] (by decide) rfl
    exact W.iret (v := (nI ma)) hx hb hr (fun t9 ht9 hW9 => ⟨⟨(nI ma), (), rfl, (Or.inr (Or.inr (Or.inr (Or.inr (Or.inr (Or.inr (Or.inl ⟨ek, rfl⟩))))))), by rw [ht9]; exact hP9, va_K.moved hW9.alike hK, hD9⟩, hS.F ht9⟩) hS.2.2 dX7_count_107
  · refine z_swIn (off := 107) (tgt := 108) hx hb 7 dX7_count_1 ((xh).trans ek) (by decide) (by decide) (by decide) (by decide) ?_
    refine lv_aload_n hx hb dX7_count_108 rfl (lv_at hl 0 rfl) ?_
    refine va_get (D := (dC, dI)) (ci := 7) (v := .int y8) (C := RX7) (T := TX7) (N := 10) hx hb hts (by decide +kernel) hown hK hP 0 rfl rfl 8 (by decide) (hts (.fieldLink RX7 119 "SequenceFrames" "framesRead" "I") (by decide +kernel)) (fun _ h9 => h9) rfl dX7_count_109 ?_
    have hP9 := hP.sub (ws' := [(t0, .inr (7, [.ref c0, .ref g0, .ref e0, .ref y3, .ref y4, .ref s0, .ref p0, .int y7, .int y8, .int y9])), (c0, .inr (5, [.ref c1, .int (nI n0)])), (g0, .inr (5, [.ref g1, .int (nI n1)])), (e0, .inr (5, [.ref e1, .int (nI n2)])), (s0, .inr (6, [.ref s1, .ref s2, .ref s3, .int (nI pt), .int (nI nu), .int (nI ma)])), (p0, .inr (4, [.ref p1, .ref p2, .ref p3, .ref p4, .ref p5, .int (nI bl), .int (nI ra)]))]) [0, 1, 2, 3, 4, 5] rfl
    have hD9 := hD.sub (ws' := [(t0, .inr (7, [.ref c0, .ref g0, .ref e0, .ref y3, .ref y4, .ref s0, .ref p0, .int y7, .int y8, .int y9])), (c0, .inr (5, [.ref c1, .int (nI n0)])), (g0, .inr (5, [.ref g1, .int (nI n1)])), (e0, .inr (5, [.ref e1, .int (nI n2)])), (s0, .inr (6, [.ref s1, .ref s2, .ref s3, .int (nI pt), .int (nI nu), .int (nI ma)])), (p0, .inr (4, [.ref p1, .ref p2, .ref p3, .ref p4, .ref p5, .int (nI bl), .int (nI ra)]))]) [0, 1, 2, 3, 4, 5] (by decide) rfl
    exact W.iret (v := y8) hx hb hr (fun t9 ht9 hW9 => ⟨⟨y8, (), rfl, (Or.inr (Or.inr (Or.inr (Or.inr (Or.inr (Or.inr (Or.inr (Or.inl ⟨ek, rfl⟩)))))))), by rw [ht9]; exact hP9, va_K.moved hW9.alike hK, hD9⟩, hS.F ht9⟩) hS.2.2 dX7_count_112
  · refine z_swIn (off := 112) (tgt := 113) hx hb 8 dX7_count_1 ((xh).trans ek) (by decide) (by decide) (by decide) (by decide) ?_
    refine lv_aload_n hx hb dX7_count_113 rfl (lv_at hl 0 rfl) ?_
    refine va_get (D := (dC, dI)) (ci := 7) (v := .int y9) (C := RX7) (T := TX7) (N := 10) hx hb hts (by decide +kernel) hown hK hP 0 rfl rfl 9 (by decide) (hts (.fieldLink RX7 123 "SequenceFrames" "blocksRead" "I") (by decide +kernel)) (fun _ h9 => h9) rfl dX7_count_114 ?_
    have hP9 := hP.sub (ws' := [(t0, .inr (7, [.ref c0, .ref g0, .ref e0, .ref y3, .ref y4, .ref s0, .ref p0, .int y7, .int y8, .int y9])), (c0, .inr (5, [.ref c1, .int (nI n0)])), (g0, .inr (5, [.ref g1, .int (nI n1)])), (e0, .inr (5, [.ref e1, .int (nI n2)])), (s0, .inr (6, [.ref s1, .ref s2, .ref s3, .int (nI pt), .int (nI nu), .int (nI ma)])), (p0, .inr (4, [.ref p1, .ref p2, .ref p3, .ref p4, .ref p5, .int (nI bl), .int (nI ra)]))]) [0, 1, 2, 3, 4, 5] rfl
    have hD9 := hD.sub (ws' := [(t0, .inr (7, [.ref c0, .ref g0, .ref e0, .ref y3, .ref y4, .ref s0, .ref p0, .int y7, .int y8, .int y9])), (c0, .inr (5, [.ref c1, .int (nI n0)])), (g0, .inr (5, [.ref g1, .int (nI n1)])), (e0, .inr (5, [.ref e1, .int (nI n2)])), (s0, .inr (6, [.ref s1, .ref s2, .ref s3, .int (nI pt), .int (nI nu), .int (nI ma)])), (p0, .inr (4, [.ref p1, .ref p2, .ref p3, .ref p4, .ref p5, .int (nI bl), .int (nI ra)]))]) [0, 1, 2, 3, 4, 5] (by decide) rfl
    exact W.iret (v := y9) hx hb hr (fun t9 ht9 hW9 => ⟨⟨y9, (), rfl, (Or.inr (Or.inr (Or.inr (Or.inr (Or.inr (Or.inr (Or.inr (Or.inr (Or.inl ⟨ek, rfl⟩))))))))), by rw [ht9]; exact hP9, va_K.moved hW9.alike hK, hD9⟩, hS.F ht9⟩) hS.2.2 dX7_count_117
  · refine lv_tableOut (tgt := 118) hx hb dX7_count_1 (by have hz := xh; omega) (by decide) ?_
    refine lv_iconst (v := (-1)) hx hb dX7_count_118 (by decide) ?_
    have hP9 := hP.sub (ws' := [(t0, .inr (7, [.ref c0, .ref g0, .ref e0, .ref y3, .ref y4, .ref s0, .ref p0, .int y7, .int y8, .int y9])), (c0, .inr (5, [.ref c1, .int (nI n0)])), (g0, .inr (5, [.ref g1, .int (nI n1)])), (e0, .inr (5, [.ref e1, .int (nI n2)])), (s0, .inr (6, [.ref s1, .ref s2, .ref s3, .int (nI pt), .int (nI nu), .int (nI ma)])), (p0, .inr (4, [.ref p1, .ref p2, .ref p3, .ref p4, .ref p5, .int (nI bl), .int (nI ra)]))]) [0, 1, 2, 3, 4, 5] rfl
    have hD9 := hD.sub (ws' := [(t0, .inr (7, [.ref c0, .ref g0, .ref e0, .ref y3, .ref y4, .ref s0, .ref p0, .int y7, .int y8, .int y9])), (c0, .inr (5, [.ref c1, .int (nI n0)])), (g0, .inr (5, [.ref g1, .int (nI n1)])), (e0, .inr (5, [.ref e1, .int (nI n2)])), (s0, .inr (6, [.ref s1, .ref s2, .ref s3, .int (nI pt), .int (nI nu), .int (nI ma)])), (p0, .inr (4, [.ref p1, .ref p2, .ref p3, .ref p4, .ref p5, .int (nI bl), .int (nI ra)]))]) [0, 1, 2, 3, 4, 5] (by decide) rfl
    exact W.iret (v := (-1)) hx hb hr (fun t9 ht9 hW9 => ⟨⟨(-1), (), rfl, (Or.inr (Or.inr (Or.inr (Or.inr (Or.inr (Or.inr (Or.inr (Or.inr (Or.inr (⟨ek, rfl⟩)))))))))), by rw [ht9]; exact hP9, va_K.moved hW9.alike hK, hD9⟩, hS.F ht9⟩) hS.2.2 dX7_count_119

set_option maxHeartbeats 4000000 in
set_option maxRecDepth 100000 in
theorem c_Top_sequence (l : Launch) (dC : Nat → ClassId) (dI : Nat → Nat → Nat) (kB kI : ClassId) (t0 : Nat) (y0 : Nat) (y1 : Nat) (y2 : Nat) (y3 : Nat) (y4 : Nat) (y6 : Nat) (y7 : Int32) (y8 : Int32) (y9 : Int32) (s0 : Nat) (s1 : Nat) (s2 : Nat) (s3 : Nat) (st : Nat → Int32) (li : Nat → Int32) (of : Nat → Int32) (pt : Nat) (nu : Nat) (ma : Nat) (sn : Nat → Nat) (x : Int32) (xi : Int) (y : Int32) (yi : Int) (hnu : nu ≤ 140000) (hpt : 1 ≤ pt) (hpt2 : pt ≤ 65536) (hs : ∀ j, j < nu → st j = nI (sn j) ∧ sn j ≤ 140000) (xh : x.toInt = xi) (yh : y.toInt = yi) : zMi l yX7_sequence wsX7_sequence ({ frames := 3, cells := 0, slots := 0, locals := 64 }) (dC, dI) kB kI [.ref t0, .int x, .int y] [(t0, .inr (7, [.ref y0, .ref y1, .ref y2, .ref y3, .ref y4, .ref s0, .ref y6, .int y7, .int y8, .int y9])), (s0, .inr (6, [.ref s1, .ref s2, .ref s3, .int (nI pt), .int (nI nu), .int (nI ma)])), (s1, .inl (kI, 140001, .inl st)), (s2, .inl (kI, 140000, .inl li)), (s3, .inl (kI, 140000, .inl of))] 0 0 (fun (r : Int32) => fun _ : Unit => (∃ j : Nat, xi = j ∧ j < nu ∧ ((yi = 0 ∧ r = nI (sn j / pt)) ∨ (yi = 1 ∧ r = st j) ∨ (yi = 2 ∧ r = li j) ∨ (yi = 3 ∧ r = of j) ∨ (yi = 4 ∧ r = (st (j + 1) - st j) - li j) ∨ ((yi < 0 ∨ 4 < yi) ∧ r = -1))) ∨ ((xi < 0 ∨ (nu : Int) ≤ xi) ∧ r = -1)) (fun _ : Unit => [(t0, .inr (7, [.ref y0, .ref y1, .ref y2, .ref y3, .ref y4, .ref s0, .ref y6, .int y7, .int y8, .int y9])), (s0, .inr (6, [.ref s1, .ref s2, .ref s3, .int (nI pt), .int (nI nu), .int (nI ma)])), (s1, .inl (kI, 140001, .inl st)), (s2, .inl (kI, 140000, .inl li)), (s3, .inl (kI, 140000, .inl of))]) := by
  intro sz
  refine Met.ofW (cc := cX7_sequence) (maxL := 3) (ret := (some .int)) (by decide) rfl ?_
  intro p e s m args below meth c s₁ B hml hv
  obtain ⟨rfl, hsz, hP, hK, hD0⟩ := hv
  have hx := B.exec
  have hb := B.bytes
  have hr := B.returns
  have hts := atoms_spec (ws := wsX7_sequence) B.pre
  have hown : s.vm.findClass RX7 = some m.cls := findClass_of_methodNamed B.named
  have hlocks := B.notSynchronized
  subst hsz
  have hD := hD0.self (sz := s.heap.size)
  generalize hAe : va_A [(t0, .inr (7, [.ref y0, .ref y1, .ref y2, .ref y3, .ref y4, .ref s0, .ref y6, .int y7, .int y8, .int y9])), (s0, .inr (6, [.ref s1, .ref s2, .ref s3, .int (nI pt), .int (nI nu), .int (nI ma)])), (s1, .inl (kI, 140001, .inl st)), (s2, .inl (kI, 140000, .inl li)), (s3, .inl (kI, 140000, .inl of))] s.heap.size = A at hD ⊢
  have hA : ∀ q : Nat, s.heap.size ≤ q → A q := fun q h => by rw [← hAe]; exact Or.inr h
  have hS : va_S A s.heap s.heap [] := va_S.rf
  have hP : va_P (dC, dI) vwCl [(t0, .inr (7, [.ref y0, .ref y1, .ref y2, .ref y3, .ref y4, .ref s0, .ref y6, .int y7, .int y8, .int y9])), (s0, .inr (6, [.ref s1, .ref s2, .ref s3, .int (nI pt), .int (nI nu), .int (nI ma)])), (s1, .inl (kI, 140001, .inl st)), (s2, .inl (kI, 140000, .inl li)), (s3, .inl (kI, 140000, .inl of))] s.heap := hP
  have hl := lv_entry ([.ref t0, .int x, .int y]) (n := 3) (Nat.le_of_ble_eq_true rfl)
  rw [lg_entry_eq]
  generalize (lg_sl ([.ref t0, .int x, .int y]) ++ List.replicate (3 - (lg_sl ([.ref t0, .int x, .int y])).length) Slot.unset).toArray = ls at hl ⊢
  have hl : lv_has ls 3 [(0, .ref t0), (1, .int x), (2, .int y)] := hl
  refine zG (fun GG hG1 hG2 => ?_)
  refine lv_aload_n hx hb dX7_sequence_0 rfl (lv_at hl 0 rfl) ?_
  refine va_get (D := (dC, dI)) (ci := 7) (v := .ref s0) (C := RX7) (T := TX7) (N := 10) hx hb hts (by decide +kernel) hown hK hP 0 rfl rfl 5 (by decide) (hts (.fieldLink RX7 39 "SequenceFrames" "found" "LSequenceFrames$Sequences;") (by decide +kernel)) (fun _ h9 => h9) rfl dX7_sequence_1 ?_
  refine lv_iload_n hx hb dX7_sequence_4 rfl (lv_at hl 1 rfl) ?_
  refine lv_iload_n hx hb dX7_sequence_5 rfl (lv_at hl 2 rfl) ?_
  refine z_calli (wr := [(t0, .inr (7, [.ref y0, .ref y1, .ref y2, .ref y3, .ref y4, .ref s0, .ref y6, .int y7, .int y8, .int y9]))]) (va_runV (As := [.int x, .int y]) (rest := []) ⟨hx, hb, hml, hown, hts⟩ (c_Seq_tell l dC dI kB kI s0 s1 s2 s3 st li of pt nu ma sn x xi y yi (by omega) (by omega) (by omega) hs xh yh s.heap.size) (cwV 2 hts gX7_sequence_X6_tell rfl rfl rfl (by decide +kernel) ⟨Nat.le_of_ble_eq_true rfl, Nat.le_of_ble_eq_true rfl⟩) (z_preV hK (hP.sub [1, 2, 3, 4] rfl) (hD.sub [1, 2, 3, 4] (by decide) rfl) (va_recv hK hP (ci := 6) (q0 := 1) rfl rfl)) rfl rfl hl.1 rfl (lv_room (Nat.le_of_ble_eq_true rfl)) dX7_sequence_6 ⟨Nat.le_of_ble_eq_true rfl, Nat.le_of_ble_eq_true rfl⟩) hK hP hD hS hA [1, 2, 3, 4] [0] rfl rfl (by decide) (by decide) (fun r1 uq2 H locs hw hP hD hS => ?_)
  replace hw : (∃ j : Nat, xi = j ∧ j < nu ∧ ((yi = 0 ∧ r1 = nI (sn j / pt)) ∨ (yi = 1 ∧ r1 = st j) ∨ (yi = 2 ∧ r1 = li j) ∨ (yi = 3 ∧ r1 = of j) ∨ (yi = 4 ∧ r1 = (st (j + 1) - st j) - li j) ∨ ((yi < 0 ∨ 4 < yi) ∧ r1 = -1))) ∨ ((xi < 0 ∨ (nu : Int) ≤ xi) ∧ r1 = -1) := hw
  have hP : va_P (dC, dI) vwCl [(t0, .inr (7, [.ref y0, .ref y1, .ref y2, .ref y3, .ref y4, .ref s0, .ref y6, .int y7, .int y8, .int y9])), (s0, .inr (6, [.ref s1, .ref s2, .ref s3, .int (nI pt), .int (nI nu), .int (nI ma)])), (s1, .inl (kI, 140001, .inl st)), (s2, .inl (kI, 140000, .inl li)), (s3, .inl (kI, 140000, .inl of))] H := hP
  have hD : va_D A [(t0, .inr (7, [.ref y0, .ref y1, .ref y2, .ref y3, .ref y4, .ref s0, .ref y6, .int y7, .int y8, .int y9])), (s0, .inr (6, [.ref s1, .ref s2, .ref s3, .int (nI pt), .int (nI nu), .int (nI ma)])), (s1, .inl (kI, 140001, .inl st)), (s2, .inl (kI, 140000, .inl li)), (s3, .inl (kI, 140000, .inl of))] := hD
  have hP9 := hP.sub (ws' := [(t0, .inr (7, [.ref y0, .ref y1, .ref y2, .ref y3, .ref y4, .ref s0, .ref y6, .int y7, .int y8, .int y9])), (s0, .inr (6, [.ref s1, .ref s2, .ref s3, .int (nI pt), .int (nI nu), .int (nI ma)])), (s1, .inl (kI, 140001, .inl st)), (s2, .inl (kI, 140000, .inl li)), (s3, .inl (kI, 140000, .inl of))]) [0, 1, 2, 3, 4] rfl
  have hD9 := hD.sub (ws' := [(t0, .inr (7, [.ref y0, .ref y1, .ref y2, .ref y3, .ref y4, .ref s0, .ref y6, .int y7, .int y8, .int y9])), (s0, .inr (6, [.ref s1, .ref s2, .ref s3, .int (nI pt), .int (nI nu), .int (nI ma)])), (s1, .inl (kI, 140001, .inl st)), (s2, .inl (kI, 140000, .inl li)), (s3, .inl (kI, 140000, .inl of))]) [0, 1, 2, 3, 4] (by decide) rfl
  exact W.iret (v := r1) hx hb hr (fun t9 ht9 hW9 => ⟨⟨r1, (), rfl, hw, by rw [ht9]; exact hP9, va_K.moved hW9.alike hK, hD9⟩, hS.F ht9⟩) hS.2.2 dX7_sequence_9

set_option maxHeartbeats 4000000 in
set_option maxRecDepth 100000 in
theorem c_Top_skip (l : Launch) (dC : Nat → ClassId) (dI : Nat → Nat → Nat) (kB kI : ClassId) (t0 : Nat) (y0 : Nat) (y2 : Nat) (y3 : Nat) (y4 : Nat) (y5 : Nat) (y6 : Nat) (y7 : Int32) (y8 : Int32) (y9 : Int32) (a0 : Nat) (a1 : Nat) (n : Nat) (f : Nat → Int32) (x : Int32) (xi : Int) (y : Int32) (yi : Int) (z : Int32) (hn : n ≤ 150000) (xh : x.toInt = xi) (yh : y.toInt = yi) : zMi l yX7_skip wsX7_skip ({ frames := 2, cells := 0, slots := 0, locals := 45 }) (dC, dI) kB kI [.ref t0, .int x, .int y, .int z] [(t0, .inr (7, [.ref y0, .ref a0, .ref y2, .ref y3, .ref y4, .ref y5, .ref y6, .int y7, .int y8, .int y9])), (a0, .inr (5, [.ref a1, .int (nI n)])), (a1, .inl (kB, 150000, .inl f))] 0 0 (fun (r : Int32) => fun uu : (Nat → Int32) × Nat => (∃ d k : Nat, xi = d ∧ yi = k ∧ d ≤ 15 ∧ k ≤ 1000 ∧ ((n + (8 + k) ≤ 150000 ∧ r = nI (n + (8 + k)) ∧ uu.2 = n + (8 + k) ∧ uu.1 = apL f n (numB (lN (407710288 + d)) 4 ++ (numB (lN k) 4 ++ List.replicate k (i2b z)))) ∨ (150000 < n + (8 + k) ∧ r = -2 ∧ uu.2 = n ∧ uu.1 = f))) ∨ ((xi < 0 ∨ 15 < xi ∨ yi < 0 ∨ 1000 < yi) ∧ r = -1 ∧ uu.2 = n ∧ uu.1 = f)) (fun uu : (Nat → Int32) × Nat => [(t0, .inr (7, [.ref y0, .ref a0, .ref y2, .ref y3, .ref y4, .ref y5, .ref y6, .int y7, .int y8, .int y9])), (a0, .inr (5, [.ref a1, .int (nI uu.2)])), (a1, .inl (kB, 150000, .inl uu.1))]) := by
  intro sz
  refine Met.ofW (cc := cX7_skip) (maxL := 4) (ret := (some .int)) (by decide) rfl ?_
  intro p e s m args below meth c s₁ B hml hv
  obtain ⟨rfl, hsz, hP, hK, hD0⟩ := hv
  have hx := B.exec
  have hb := B.bytes
  have hr := B.returns
  have hts := atoms_spec (ws := wsX7_skip) B.pre
  have hown : s.vm.findClass RX7 = some m.cls := findClass_of_methodNamed B.named
  have hlocks := B.notSynchronized
  subst hsz
  have hD := hD0.self (sz := s.heap.size)
  generalize hAe : va_A [(t0, .inr (7, [.ref y0, .ref a0, .ref y2, .ref y3, .ref y4, .ref y5, .ref y6, .int y7, .int y8, .int y9])), (a0, .inr (5, [.ref a1, .int (nI n)])), (a1, .inl (kB, 150000, .inl f))] s.heap.size = A at hD ⊢
  have hA : ∀ q : Nat, s.heap.size ≤ q → A q := fun q h => by rw [← hAe]; exact Or.inr h
  have hS : va_S A s.heap s.heap [] := va_S.rf
  have hP : va_P (dC, dI) vwCl [(t0, .inr (7, [.ref y0, .ref a0, .ref y2, .ref y3, .ref y4, .ref y5, .ref y6, .int y7, .int y8, .int y9])), (a0, .inr (5, [.ref a1, .int (nI n)])), (a1, .inl (kB, 150000, .inl f))] s.heap := hP
  have hl := lv_entry ([.ref t0, .int x, .int y, .int z]) (n := 4) (Nat.le_of_ble_eq_true rfl)
  rw [lg_entry_eq]
  generalize (lg_sl ([.ref t0, .int x, .int y, .int z]) ++ List.replicate (4 - (lg_sl ([.ref t0, .int x, .int y, .int z])).length) Slot.unset).toArray = ls at hl ⊢
  have hl : lv_has ls 4 [(0, .ref t0), (1, .int x), (2, .int y), (3, .int z)] := hl
  refine zG (fun GG hG1 hG2 => ?_)
  refine lv_iload_n hx hb dX7_skip_0 rfl (lv_at hl 1 rfl) ?_
  refine zb_if_lt (tgt := 21) (a := xi) hx hb dX7_skip_1 (by decide) xh (fun c1 => ?_) (fun c1 => ?_)
  · refine lv_iconst (v := (-1)) hx hb dX7_skip_21 (by decide) ?_
    have hP9 := hP.sub (ws' := [(t0, .inr (7, [.ref y0, .ref a0, .ref y2, .ref y3, .ref y4, .ref y5, .ref y6, .int y7, .int y8, .int y9])), (a0, .inr (5, [.ref a1, .int (nI n)])), (a1, .inl (kB, 150000, .inl f))]) [0, 1, 2] rfl
    have hD9 := hD.sub (ws' := [(t0, .inr (7, [.ref y0, .ref a0, .ref y2, .ref y3, .ref y4, .ref y5, .ref y6, .int y7, .int y8, .int y9])), (a0, .inr (5, [.ref a1, .int (nI n)])), (a1, .inl (kB, 150000, .inl f))]) [0, 1, 2] (by decide) rfl
    exact W.iret (v := (-1)) hx hb hr (fun t9 ht9 hW9 => ⟨⟨(-1), (f, n), rfl, (by right; exact ⟨by omega, rfl, rfl, rfl⟩), by rw [ht9]; exact hP9, va_K.moved hW9.alike hK, hD9⟩, hS.F ht9⟩) hS.2.2 dX7_skip_22
  · refine lv_iload_n hx hb dX7_skip_4 rfl (lv_at hl 1 rfl) ?_
    refine lv_bipush (v := 15) hx hb dX7_skip_5 (by decide) ?_
    refine zb_icmp_gt (tgt := 21) (a := xi) (b := 15) hx hb dX7_skip_7 (by decide) xh (by decide) (fun c7 => ?_) (fun c7 => ?_)
    · refine lv_iconst (v := (-1)) hx hb dX7_skip_21 (by decide) ?_
      have hP9 := hP.sub (ws' := [(t0, .inr (7, [.ref y0, .ref a0, .ref y2, .ref y3, .ref y4, .ref y5, .ref y6, .int y7, .int y8, .int y9])), (a0, .inr (5, [.ref a1, .int (nI n)])), (a1, .inl (kB, 150000, .inl f))]) [0, 1, 2] rfl
      have hD9 := hD.sub (ws' := [(t0, .inr (7, [.ref y0, .ref a0, .ref y2, .ref y3, .ref y4, .ref y5, .ref y6, .int y7, .int y8, .int y9])), (a0, .inr (5, [.ref a1, .int (nI n)])), (a1, .inl (kB, 150000, .inl f))]) [0, 1, 2] (by decide) rfl
      exact W.iret (v := (-1)) hx hb hr (fun t9 ht9 hW9 => ⟨⟨(-1), (f, n), rfl, (by right; exact ⟨by omega, rfl, rfl, rfl⟩), by rw [ht9]; exact hP9, va_K.moved hW9.alike hK, hD9⟩, hS.F ht9⟩) hS.2.2 dX7_skip_22
    · refine lv_iload_n hx hb dX7_skip_10 rfl (lv_at hl 2 rfl) ?_
      refine zb_if_lt (tgt := 21) (a := yi) hx hb dX7_skip_11 (by decide) yh (fun c11 => ?_) (fun c11 => ?_)
      · refine lv_iconst (v := (-1)) hx hb dX7_skip_21 (by decide) ?_
        have hP9 := hP.sub (ws' := [(t0, .inr (7, [.ref y0, .ref a0, .ref y2, .ref y3, .ref y4, .ref y5, .ref y6, .int y7, .int y8, .int y9])), (a0, .inr (5, [.ref a1, .int (nI n)])), (a1, .inl (kB, 150000, .inl f))]) [0, 1, 2] rfl
        have hD9 := hD.sub (ws' := [(t0, .inr (7, [.ref y0, .ref a0, .ref y2, .ref y3, .ref y4, .ref y5, .ref y6, .int y7, .int y8, .int y9])), (a0, .inr (5, [.ref a1, .int (nI n)])), (a1, .inl (kB, 150000, .inl f))]) [0, 1, 2] (by decide) rfl
        exact W.iret (v := (-1)) hx hb hr (fun t9 ht9 hW9 => ⟨⟨(-1), (f, n), rfl, (by right; exact ⟨by omega, rfl, rfl, rfl⟩), by rw [ht9]; exact hP9, va_K.moved hW9.alike hK, hD9⟩, hS.F ht9⟩) hS.2.2 dX7_skip_22
      · refine lv_iload_n hx hb dX7_skip_14 rfl (lv_at hl 2 rfl) ?_
        refine lv_sipush (v := 1000) hx hb dX7_skip_15 (by decide) ?_
        refine zb_icmp_le (tgt := 23) (a := yi) (b := 1000) hx hb dX7_skip_18 (by decide) yh (by decide) (fun c18 => ?_) (fun c18 => ?_)
        · obtain ⟨d, db, xe⟩ := z_nat (x := x) (by omega)
          subst xe
          rw [nI_toInt db] at xh
          subst xh
          obtain ⟨k, kb, ye⟩ := z_nat (x := y) (by omega)
          subst ye
          rw [nI_toInt kb] at yh
          subst yh
          refine lv_bipush (v := 8) hx hb dX7_skip_23 (by decide) ?_
          refine lv_iload_n hx hb dX7_skip_25 rfl (lv_at hl 2 rfl) ?_
          refine lv_iadd hx hb dX7_skip_26 ?_
          refine lv_is (y := (nI (8 + k))) ((zn_add (show (8 : Int32) = nI 8 from rfl) rfl)) ?_
          refine lv_aload_n hx hb dX7_skip_27 rfl (lv_at hl 0 rfl) ?_
          refine va_get (D := (dC, dI)) (ci := 7) (v := .ref a0) (C := RX7) (T := TX7) (N := 10) hx hb hts (by decide +kernel) hown hK hP 0 rfl rfl 1 (by decide) (hts (.fieldLink RX7 20 "SequenceFrames" "frames" "LSequenceFrames$Row;") (by decide +kernel)) (fun _ h9 => h9) rfl dX7_skip_28 ?_
          refine z_calli (wr := [(t0, .inr (7, [.ref y0, .ref a0, .ref y2, .ref y3, .ref y4, .ref y5, .ref y6, .int y7, .int y8, .int y9]))]) (va_runV (As := []) (rest := [.int (nI (8 + k))]) ⟨hx, hb, hml, hown, hts⟩ (c_Row_room l dC dI kB kI a0 a1 150000 n f (by omega) (by omega) s.heap.size) (cwV 0 hts gX7_skip_X5_room rfl rfl rfl (by decide +kernel) ⟨Nat.le_of_ble_eq_true rfl, Nat.le_of_ble_eq_true rfl⟩) (z_preV hK (hP.sub [1, 2] rfl) (hD.sub [1, 2] (by decide) rfl) (va_recv hK hP (ci := 5) (q0 := 1) rfl rfl)) rfl rfl hl.1 rfl (lv_room (Nat.le_of_ble_eq_true rfl)) dX7_skip_31 ⟨Nat.le_of_ble_eq_true rfl, Nat.le_of_ble_eq_true rfl⟩) hK hP hD hS hA [1, 2] [0] rfl rfl (by decide) (by decide) (fun r1 uq2 H locs hw hP hD hS => ?_)
          replace hw : r1 = nI (150000 - n) := hw
          have hP : va_P (dC, dI) vwCl [(t0, .inr (7, [.ref y0, .ref a0, .ref y2, .ref y3, .ref y4, .ref y5, .ref y6, .int y7, .int y8, .int y9])), (a0, .inr (5, [.ref a1, .int (nI n)])), (a1, .inl (kB, 150000, .inl f))] H := hP
          have hD : va_D A [(t0, .inr (7, [.ref y0, .ref a0, .ref y2, .ref y3, .ref y4, .ref y5, .ref y6, .int y7, .int y8, .int y9])), (a0, .inr (5, [.ref a1, .int (nI n)])), (a1, .inl (kB, 150000, .inl f))] := hD
          subst hw
          refine zb_icmp_le (tgt := 40) (a := ((8 + k : Nat) : Int)) (b := ((150000 - n : Nat) : Int)) hx hb dX7_skip_34 (by decide) (nI_toInt (by omega)) (nI_toInt (by omega)) (fun c34 => ?_) (fun c34 => ?_)
          · refine lv_aload_n hx hb dX7_skip_40 rfl (lv_at hl 0 rfl) ?_
            refine va_get (D := (dC, dI)) (ci := 7) (v := .ref a0) (C := RX7) (T := TX7) (N := 10) hx hb hts (by decide +kernel) hown hK hP 0 rfl rfl 1 (by decide) (hts (.fieldLink RX7 20 "SequenceFrames" "frames" "LSequenceFrames$Row;") (by decide +kernel)) (fun _ h9 => h9) rfl dX7_skip_41 ?_
            refine lv_ldc (v := 407710288) hx hb hown (hts (.constant RX7 93 407710288) (by decide +kernel)) dX7_skip_44 ?_
            refine lv_iload_n hx hb dX7_skip_46 rfl (lv_at hl 1 rfl) ?_
            refine lv_iadd hx hb dX7_skip_47 ?_
            refine lv_is (y := (nI (407710288 + d))) ((zn_add (show (407710288 : Int32) = nI 407710288 from rfl) rfl)) ?_
            refine lv_i2l (v := (lN (407710288 + d))) hx hb dX7_skip_48 (zln_i2l rfl (by omega)) ?_
            refine lv_iconst (v := 4) hx hb dX7_skip_49 (by decide) ?_
            refine z_callv (wr := [(t0, .inr (7, [.ref y0, .ref a0, .ref y2, .ref y3, .ref y4, .ref y5, .ref y6, .int y7, .int y8, .int y9]))]) (va_runV (As := [.long (lN (407710288 + d)), .int 4]) (rest := []) ⟨hx, hb, hml, hown, hts⟩ (c_Row_addNumber l dC dI kB kI a0 a1 150000 n f (lN (407710288 + d)) 4 (by omega) (by omega) (by omega) H.size) (cwV 2 hts gX7_skip_X5_addNumber rfl rfl rfl (by decide +kernel) ⟨Nat.le_of_ble_eq_true rfl, Nat.le_of_ble_eq_true rfl⟩) (z_preV hK (hP.sub [1, 2] rfl) (hD.sub [1, 2] (by decide) rfl) (va_recv hK hP (ci := 5) (q0 := 1) rfl rfl)) rfl rfl hl.1 rfl (lv_room (Nat.le_of_ble_eq_true rfl)) dX7_skip_50 ⟨Nat.le_of_ble_eq_true rfl, Nat.le_of_ble_eq_true rfl⟩) hK hP hD hS hA [1, 2] [0] rfl rfl (by decide) (by decide) (fun uq4 H locs hw hP hD hS => ?_)
            replace hw : True := hw
            have hP : va_P (dC, dI) vwCl [(t0, .inr (7, [.ref y0, .ref a0, .ref y2, .ref y3, .ref y4, .ref y5, .ref y6, .int y7, .int y8, .int y9])), (a0, .inr (5, [.ref a1, .int (nI (n + 4))])), (a1, .inl (kB, 150000, .inl (apF f n 4 (loB (lN (407710288 + d))))))] H := hP
            have hD : va_D A [(t0, .inr (7, [.ref y0, .ref a0, .ref y2, .ref y3, .ref y4, .ref y5, .ref y6, .int y7, .int y8, .int y9])), (a0, .inr (5, [.ref a1, .int (nI (n + 4))])), (a1, .inl (kB, 150000, .inl (apF f n 4 (loB (lN (407710288 + d))))))] := hD
            have eq9 : (apF f n 4 (loB (lN (407710288 + d)))) = (apL f n (numB (lN (407710288 + d)) 4)) := apL_of _ _ _ _
            have hP : va_P (dC, dI) vwCl [(t0, .inr (7, [.ref y0, .ref a0, .ref y2, .ref y3, .ref y4, .ref y5, .ref y6, .int y7, .int y8, .int y9])), (a0, .inr (5, [.ref a1, .int (nI (n + 4))])), (a1, .inl (kB, 150000, .inl (apL f n (numB (lN (407710288 + d)) 4))))] H := by rw [← eq9]; exact hP
            have hD : va_D A [(t0, .inr (7, [.ref y0, .ref a0, .ref y2, .ref y3, .ref y4, .ref y5, .ref y6, .int y7, .int y8, .int y9])), (a0, .inr (5, [.ref a1, .int (nI (n + 4))])), (a1, .inl (kB, 150000, .inl (apL f n (numB (lN (407710288 + d)) 4))))] := by rw [← eq9]; exact hD
            refine lv_aload_n hx hb dX7_skip_53 rfl (lv_at hl 0 rfl) ?_
            refine va_get (D := (dC, dI)) (ci := 7) (v := .ref a0) (C := RX7) (T := TX7) (N := 10) hx hb hts (by decide +kernel) hown hK hP 0 rfl rfl 1 (by decide) (hts (.fieldLink RX7 20 "SequenceFrames" "frames" "LSequenceFrames$Row;") (by decide +kernel)) (fun _ h9 => h9) rfl dX7_skip_54 ?_
            refine lv_iload_n hx hb dX7_skip_57 rfl (lv_at hl 2 rfl) ?_
            refine lv_i2l (v := (lN k)) hx hb dX7_skip_58 (zln_i2l rfl (by omega)) ?_
            refine lv_iconst (v := 4) hx hb dX7_skip_59 (by decide) ?_
            refine z_callv (wr := [(t0, .inr (7, [.ref y0, .ref a0, .ref y2, .ref y3, .ref y4, .ref y5, .ref y6, .int y7, .int y8, .int y9]))]) (va_runV (As := [.long (lN k), .int 4]) (rest := []) ⟨hx, hb, hml, hown, hts⟩ (c_Row_addNumber l dC dI kB kI a0 a1 150000 (n + 4) (apL f n (numB (lN (407710288 + d)) 4)) (lN k) 4 (by omega) (by omega) (by omega) H.size) (cwV 2 hts gX7_skip_X5_addNumber rfl rfl rfl (by decide +kernel) ⟨Nat.le_of_ble_eq_true rfl, Nat.le_of_ble_eq_true rfl⟩) (z_preV hK (hP.sub [1, 2] rfl) (hD.sub [1, 2] (by decide) rfl) (va_recv hK hP (ci := 5) (q0 := 1) rfl rfl)) rfl rfl hl.1 rfl (lv_room (Nat.le_of_ble_eq_true rfl)) dX7_skip_60 ⟨Nat.le_of_ble_eq_true rfl, Nat.le_of_ble_eq_true rfl⟩) hK hP hD hS hA [1, 2] [0] rfl rfl (by decide) (by decide) (fun uq6 H locs hw hP hD hS => ?_)
            replace hw : True := hw
            have hP : va_P (dC, dI) vwCl [(t0, .inr (7, [.ref y0, .ref a0, .ref y2, .ref y3, .ref y4, .ref y5, .ref y6, .int y7, .int y8, .int y9])), (a0, .inr (5, [.ref a1, .int (nI ((n + 4) + 4))])), (a1, .inl (kB, 150000, .inl (apF (apL f n (numB (lN (407710288 + d)) 4)) (n + 4) 4 (loB (lN k)))))] H := hP
            have hD : va_D A [(t0, .inr (7, [.ref y0, .ref a0, .ref y2, .ref y3, .ref y4, .ref y5, .ref y6, .int y7, .int y8, .int y9])), (a0, .inr (5, [.ref a1, .int (nI ((n + 4) + 4))])), (a1, .inl (kB, 150000, .inl (apF (apL f n (numB (lN (407710288 + d)) 4)) (n + 4) 4 (loB (lN k)))))] := hD
            have eq9 : (apF (apL f n (numB (lN (407710288 + d)) 4)) (n + 4) 4 (loB (lN k))) = (apL f n (numB (lN (407710288 + d)) 4 ++ numB (lN k) 4)) := by rw [apL_of]; exact apL_app' _ (by rw [numB_len])
            have hP : va_P (dC, dI) vwCl [(t0, .inr (7, [.ref y0, .ref a0, .ref y2, .ref y3, .ref y4, .ref y5, .ref y6, .int y7, .int y8, .int y9])), (a0, .inr (5, [.ref a1, .int (nI ((n + 4) + 4))])), (a1, .inl (kB, 150000, .inl (apL f n (numB (lN (407710288 + d)) 4 ++ numB (lN k) 4))))] H := by rw [← eq9]; exact hP
            have hD : va_D A [(t0, .inr (7, [.ref y0, .ref a0, .ref y2, .ref y3, .ref y4, .ref y5, .ref y6, .int y7, .int y8, .int y9])), (a0, .inr (5, [.ref a1, .int (nI ((n + 4) + 4))])), (a1, .inl (kB, 150000, .inl (apL f n (numB (lN (407710288 + d)) 4 ++ numB (lN k) 4))))] := by rw [← eq9]; exact hD
            refine lv_aload_n hx hb dX7_skip_63 rfl (lv_at hl 0 rfl) ?_
            refine va_get (D := (dC, dI)) (ci := 7) (v := .ref a0) (C := RX7) (T := TX7) (N := 10) hx hb hts (by decide +kernel) hown hK hP 0 rfl rfl 1 (by decide) (hts (.fieldLink RX7 20 "SequenceFrames" "frames" "LSequenceFrames$Row;") (by decide +kernel)) (fun _ h9 => h9) rfl dX7_skip_64 ?_
            refine lv_iload_n hx hb dX7_skip_67 rfl (lv_at hl 3 rfl) ?_
            refine lv_iload_n hx hb dX7_skip_68 rfl (lv_at hl 2 rfl) ?_
            refine z_callv (wr := [(t0, .inr (7, [.ref y0, .ref a0, .ref y2, .ref y3, .ref y4, .ref y5, .ref y6, .int y7, .int y8, .int y9]))]) (va_runV (As := [.int z, .int (nI k)]) (rest := []) ⟨hx, hb, hml, hown, hts⟩ (c_Row_addRun l dC dI kB kI a0 a1 150000 ((n + 4) + 4) (apL f n (numB (lN (407710288 + d)) 4 ++ numB (lN k) 4)) z k (by omega) (by omega) H.size) (cwV 2 hts gX7_skip_X5_addRun rfl rfl rfl (by decide +kernel) ⟨Nat.le_of_ble_eq_true rfl, Nat.le_of_ble_eq_true rfl⟩) (z_preV hK (hP.sub [1, 2] rfl) (hD.sub [1, 2] (by decide) rfl) (va_recv hK hP (ci := 5) (q0 := 1) rfl rfl)) rfl rfl hl.1 rfl (lv_room (Nat.le_of_ble_eq_true rfl)) dX7_skip_69 ⟨Nat.le_of_ble_eq_true rfl, Nat.le_of_ble_eq_true rfl⟩) hK hP hD hS hA [1, 2] [0] rfl rfl (by decide) (by decide) (fun uq8 H locs hw hP hD hS => ?_)
            replace hw : True := hw
            have hP : va_P (dC, dI) vwCl [(t0, .inr (7, [.ref y0, .ref a0, .ref y2, .ref y3, .ref y4, .ref y5, .ref y6, .int y7, .int y8, .int y9])), (a0, .inr (5, [.ref a1, .int (nI (((n + 4) + 4) + k))])), (a1, .inl (kB, 150000, .inl (apF (apL f n (numB (lN (407710288 + d)) 4 ++ numB (lN k) 4)) ((n + 4) + 4) k (fun _ => i2b z))))] H := hP
            have hD : va_D A [(t0, .inr (7, [.ref y0, .ref a0, .ref y2, .ref y3, .ref y4, .ref y5, .ref y6, .int y7, .int y8, .int y9])), (a0, .inr (5, [.ref a1, .int (nI (((n + 4) + 4) + k))])), (a1, .inl (kB, 150000, .inl (apF (apL f n (numB (lN (407710288 + d)) 4 ++ numB (lN k) 4)) ((n + 4) + 4) k (fun _ => i2b z))))] := hD
            have eq9 : (apF (apL f n (numB (lN (407710288 + d)) 4 ++ numB (lN k) 4)) ((n + 4) + 4) k (fun _ => i2b z)) = (apL f n (numB (lN (407710288 + d)) 4 ++ (numB (lN k) 4 ++ List.replicate k (i2b z)))) := by rw [apL_of, map_rep, apL_app' _ (by simp [numB_len]), List.append_assoc]
            have hP : va_P (dC, dI) vwCl [(t0, .inr (7, [.ref y0, .ref a0, .ref y2, .ref y3, .ref y4, .ref y5, .ref y6, .int y7, .int y8, .int y9])), (a0, .inr (5, [.ref a1, .int (nI (((n + 4) + 4) + k))])), (a1, .inl (kB, 150000, .inl (apL f n (numB (lN (407710288 + d)) 4 ++ (numB (lN k) 4 ++ List.replicate k (i2b z))))))] H := by rw [← eq9]; exact hP
            have hD : va_D A [(t0, .inr (7, [.ref y0, .ref a0, .ref y2, .ref y3, .ref y4, .ref y5, .ref y6, .int y7, .int y8, .int y9])), (a0, .inr (5, [.ref a1, .int (nI (((n + 4) + 4) + k))])), (a1, .inl (kB, 150000, .inl (apL f n (numB (lN (407710288 + d)) 4 ++ (numB (lN k) 4 ++ List.replicate k (i2b z))))))] := by rw [← eq9]; exact hD
            refine lv_aload_n hx hb dX7_skip_72 rfl (lv_at hl 0 rfl) ?_
            refine va_get (D := (dC, dI)) (ci := 7) (v := .ref a0) (C := RX7) (T := TX7) (N := 10) hx hb hts (by decide +kernel) hown hK hP 0 rfl rfl 1 (by decide) (hts (.fieldLink RX7 20 "SequenceFrames" "frames" "LSequenceFrames$Row;") (by decide +kernel)) (fun _ h9 => h9) rfl dX7_skip_73 ?_
            refine va_get (D := (dC, dI)) (ci := 5) (v := .int (nI (((n + 4) + 4) + k))) (C := RX5) (T := TX5) (N := 2) hx hb hts (by decide +kernel) hown hK hP 1 rfl rfl 1 (by decide) (hts (.fieldLink RX7 68 "SequenceFrames$Row" "size" "I") (by decide +kernel)) (fun _ h9 => h9) rfl dX7_skip_76 ?_
            have eq9 : ((nI (((n + 4) + 4) + k)) : Int32) = (nI (n + (8 + k))) := congrArg nI (by omega)
            have hP : va_P (dC, dI) vwCl [(t0, .inr (7, [.ref y0, .ref a0, .ref y2, .ref y3, .ref y4, .ref y5, .ref y6, .int y7, .int y8, .int y9])), (a0, .inr (5, [.ref a1, .int (nI (n + (8 + k)))])), (a1, .inl (kB, 150000, .inl (apL f n (numB (lN (407710288 + d)) 4 ++ (numB (lN k) 4 ++ List.replicate k (i2b z))))))] H := by rw [← eq9]; exact hP
            have hD : va_D A [(t0, .inr (7, [.ref y0, .ref a0, .ref y2, .ref y3, .ref y4, .ref y5, .ref y6, .int y7, .int y8, .int y9])), (a0, .inr (5, [.ref a1, .int (nI (n + (8 + k)))])), (a1, .inl (kB, 150000, .inl (apL f n (numB (lN (407710288 + d)) 4 ++ (numB (lN k) 4 ++ List.replicate k (i2b z))))))] := by rw [← eq9]; exact hD
            refine lv_is (y := (nI (n + (8 + k)))) (congrArg nI (by omega)) ?_
            have hP9 := hP.sub (ws' := [(t0, .inr (7, [.ref y0, .ref a0, .ref y2, .ref y3, .ref y4, .ref y5, .ref y6, .int y7, .int y8, .int y9])), (a0, .inr (5, [.ref a1, .int (nI (n + (8 + k)))])), (a1, .inl (kB, 150000, .inl (apL f n (numB (lN (407710288 + d)) 4 ++ (numB (lN k) 4 ++ List.replicate k (i2b z))))))]) [0, 1, 2] rfl
            have hD9 := hD.sub (ws' := [(t0, .inr (7, [.ref y0, .ref a0, .ref y2, .ref y3, .ref y4, .ref y5, .ref y6, .int y7, .int y8, .int y9])), (a0, .inr (5, [.ref a1, .int (nI (n + (8 + k)))])), (a1, .inl (kB, 150000, .inl (apL f n (numB (lN (407710288 + d)) 4 ++ (numB (lN k) 4 ++ List.replicate k (i2b z))))))]) [0, 1, 2] (by decide) rfl
            exact W.iret (v := (nI (n + (8 + k)))) hx hb hr (fun t9 ht9 hW9 => ⟨⟨(nI (n + (8 + k))), ((apL f n (numB (lN (407710288 + d)) 4 ++ (numB (lN k) 4 ++ List.replicate k (i2b z)))), (n + (8 + k))), rfl, (by left; exact ⟨d, k, rfl, rfl, by omega, by omega, Or.inl ⟨by omega, rfl, rfl, rfl⟩⟩), by rw [ht9]; exact hP9, va_K.moved hW9.alike hK, hD9⟩, hS.F ht9⟩) hS.2.2 dX7_skip_79
          · refine lv_bipush (v := (-2)) hx hb dX7_skip_37 (by decide) ?_
            have hP9 := hP.sub (ws' := [(t0, .inr (7, [.ref y0, .ref a0, .ref y2, .ref y3, .ref y4, .ref y5, .ref y6, .int y7, .int y8, .int y9])), (a0, .inr (5, [.ref a1, .int (nI n)])), (a1, .inl (kB, 150000, .inl f))]) [0, 1, 2] rfl
            have hD9 := hD.sub (ws' := [(t0, .inr (7, [.ref y0, .ref a0, .ref y2, .ref y3, .ref y4, .ref y5, .ref y6, .int y7, .int y8, .int y9])), (a0, .inr (5, [.ref a1, .int (nI n)])), (a1, .inl (kB, 150000, .inl f))]) [0, 1, 2] (by decide) rfl
            exact W.iret (v := (-2)) hx hb hr (fun t9 ht9 hW9 => ⟨⟨(-2), (f, n), rfl, (by left; exact ⟨d, k, rfl, rfl, by omega, by omega, Or.inr ⟨by omega, rfl, rfl, rfl⟩⟩), by rw [ht9]; exact hP9, va_K.moved hW9.alike hK, hD9⟩, hS.F ht9⟩) hS.2.2 dX7_skip_39
        · refine lv_iconst (v := (-1)) hx hb dX7_skip_21 (by decide) ?_
          have hP9 := hP.sub (ws' := [(t0, .inr (7, [.ref y0, .ref a0, .ref y2, .ref y3, .ref y4, .ref y5, .ref y6, .int y7, .int y8, .int y9])), (a0, .inr (5, [.ref a1, .int (nI n)])), (a1, .inl (kB, 150000, .inl f))]) [0, 1, 2] rfl
          have hD9 := hD.sub (ws' := [(t0, .inr (7, [.ref y0, .ref a0, .ref y2, .ref y3, .ref y4, .ref y5, .ref y6, .int y7, .int y8, .int y9])), (a0, .inr (5, [.ref a1, .int (nI n)])), (a1, .inl (kB, 150000, .inl f))]) [0, 1, 2] (by decide) rfl
          exact W.iret (v := (-1)) hx hb hr (fun t9 ht9 hW9 => ⟨⟨(-1), (f, n), rfl, (by right; exact ⟨by omega, rfl, rfl, rfl⟩), by rw [ht9]; exact hP9, va_K.moved hW9.alike hK, hD9⟩, hS.F ht9⟩) hS.2.2 dX7_skip_22
