set_option maxHeartbeats 4000000 in
set_option maxRecDepth 100000 in
theorem c_Mod_mayCome (l : Launch) (dC : Nat → ClassId) (dI : Nat → Nat → Nat) (kB kI : ClassId) (m0 : Nat) (z0 : Int32) (z1 : Nat) (z3 : Nat) (z4 : Int32) (z5 : Nat) (z6 : Int32) (z7 : Nat) (z8 : Int64) (z9 : Nat) (z10 : Nat) (z11 : Nat) (z12 : Nat) (z13 : Nat) (z14 : Int32) (z15 : Int32) (z16 : Int32) (z17 : Int32) (z18 : Nat) (z19 : Nat) (z20 : Nat) (z21 : Int32) (z22 : Int32) (z23 : Int32) (z24 : Int32) (z25 : Int32) (z26 : Int32) (z27 : Int32) (z28 : Int32) (z29 : Int32) (z30 : Int32) (z31 : Int32) (z32 : Int32) (z33 : Int32) (z34 : Int32) (z35 : Int32) (z36 : Int64) (z37 : Int64) (z38 : Int32) (n : Nat) (y : Int32) (yi : Int) (hn : n ≤ 140000) (yh : y.toInt = yi) : zMi l yX8_mayCome wsX8_mayCome ({ frames := 0, cells := 0, slots := 0, locals := 0 }) (dC, dI) kB kI [.ref m0, .int y] [(m0, .inr (8, [.int z0, .ref z1, .int (nI n), .ref z3, .int z4, .ref z5, .int z6, .ref z7, .long z8, .ref z9, .ref z10, .ref z11, .ref z12, .ref z13, .int z14, .int z15, .int z16, .int z17, .ref z18, .ref z19, .ref z20, .int z21, .int z22, .int z23, .int z24, .int z25, .int z26, .int z27, .int z28, .int z29, .int z30, .int z31, .int z32, .int z33, .int z34, .int z35, .long z36, .long z37, .int z38]))] 0 0 (fun (r : Int32) => fun _ : Unit => (r = 0 ∧ 1 ≤ yi ∧ yi ≤ 70000 ∧ n + yi ≤ 140000) ∨ (r = -1 ∧ (yi < 1 ∨ 70000 < yi)) ∨ (r = -2 ∧ 1 ≤ yi ∧ yi ≤ 70000 ∧ 140000 < n + yi)) (fun _ : Unit => [(m0, .inr (8, [.int z0, .ref z1, .int (nI n), .ref z3, .int z4, .ref z5, .int z6, .ref z7, .long z8, .ref z9, .ref z10, .ref z11, .ref z12, .ref z13, .int z14, .int z15, .int z16, .int z17, .ref z18, .ref z19, .ref z20, .int z21, .int z22, .int z23, .int z24, .int z25, .int z26, .int z27, .int z28, .int z29, .int z30, .int z31, .int z32, .int z33, .int z34, .int z35, .long z36, .long z37, .int z38]))]) := by
  intro sz
  refine Met.ofW (cc := cX8_mayCome) (maxL := 2) (ret := (some .int)) (by decide) rfl ?_
  intro p e s m args below meth c s₁ B hml hv
  obtain ⟨rfl, hsz, hP, hK, hD0⟩ := hv
  have hx := B.exec
  have hb := B.bytes
  have hr := B.returns
  have hts := atoms_spec (ws := wsX8_mayCome) B.pre
  have hown : s.vm.findClass RX8 = some m.cls := findClass_of_methodNamed B.named
  have hlocks := B.notSynchronized
  subst hsz
  have hD := hD0.self (sz := s.heap.size)
  generalize hAe : va_A [(m0, .inr (8, [.int z0, .ref z1, .int (nI n), .ref z3, .int z4, .ref z5, .int z6, .ref z7, .long z8, .ref z9, .ref z10, .ref z11, .ref z12, .ref z13, .int z14, .int z15, .int z16, .int z17, .ref z18, .ref z19, .ref z20, .int z21, .int z22, .int z23, .int z24, .int z25, .int z26, .int z27, .int z28, .int z29, .int z30, .int z31, .int z32, .int z33, .int z34, .int z35, .long z36, .long z37, .int z38]))] s.heap.size = A at hD ⊢
  have hA : ∀ q : Nat, s.heap.size ≤ q → A q := fun q h => by rw [← hAe]; exact Or.inr h
  have hS : va_S A s.heap s.heap [] := va_S.rf
  have hP : va_P (dC, dI) vwCl [(m0, .inr (8, [.int z0, .ref z1, .int (nI n), .ref z3, .int z4, .ref z5, .int z6, .ref z7, .long z8, .ref z9, .ref z10, .ref z11, .ref z12, .ref z13, .int z14, .int z15, .int z16, .int z17, .ref z18, .ref z19, .ref z20, .int z21, .int z22, .int z23, .int z24, .int z25, .int z26, .int z27, .int z28, .int z29, .int z30, .int z31, .int z32, .int z33, .int z34, .int z35, .long z36, .long z37, .int z38]))] s.heap := hP
  have hl := lv_entry ([.ref m0, .int y]) (n := 2) (Nat.le_of_ble_eq_true rfl)
  rw [lg_entry_eq]
  generalize (lg_sl ([.ref m0, .int y]) ++ List.replicate (2 - (lg_sl ([.ref m0, .int y])).length) Slot.unset).toArray = ls at hl ⊢
  have hl : lv_has ls 2 [(0, .ref m0), (1, .int y)] := hl
  refine zG (fun GG hG1 hG2 => ?_)
  refine lv_iload_n hx hb dX8_mayCome_0 rfl (lv_at hl 1 rfl) ?_
  refine lv_iconst (v := 1) hx hb dX8_mayCome_1 (by decide) ?_
  refine zb_icmp_lt (tgt := 11) (a := yi) (b := 1) hx hb dX8_mayCome_2 (by decide) yh (by decide) (fun c2 => ?_) (fun c2 => ?_)
  · refine lv_iconst (v := (-1)) hx hb dX8_mayCome_11 (by decide) ?_
    refine lv_goto (tgt := 32) hx hb dX8_mayCome_12 (by decide) ?_
    have hP9 := hP.sub (ws' := [(m0, .inr (8, [.int z0, .ref z1, .int (nI n), .ref z3, .int z4, .ref z5, .int z6, .ref z7, .long z8, .ref z9, .ref z10, .ref z11, .ref z12, .ref z13, .int z14, .int z15, .int z16, .int z17, .ref z18, .ref z19, .ref z20, .int z21, .int z22, .int z23, .int z24, .int z25, .int z26, .int z27, .int z28, .int z29, .int z30, .int z31, .int z32, .int z33, .int z34, .int z35, .long z36, .long z37, .int z38]))]) [0] rfl
    have hD9 := hD.sub (ws' := [(m0, .inr (8, [.int z0, .ref z1, .int (nI n), .ref z3, .int z4, .ref z5, .int z6, .ref z7, .long z8, .ref z9, .ref z10, .ref z11, .ref z12, .ref z13, .int z14, .int z15, .int z16, .int z17, .ref z18, .ref z19, .ref z20, .int z21, .int z22, .int z23, .int z24, .int z25, .int z26, .int z27, .int z28, .int z29, .int z30, .int z31, .int z32, .int z33, .int z34, .int z35, .long z36, .long z37, .int z38]))]) [0] (by decide) rfl
    exact W.iret (v := (-1)) hx hb hr (fun t9 ht9 hW9 => ⟨⟨(-1), (), rfl, (by right; left; exact ⟨rfl, by omega⟩), by rw [ht9]; exact hP9, va_K.moved hW9.alike hK, hD9⟩, hS.F ht9⟩) hS.2.2 dX8_mayCome_32
  · refine lv_iload_n hx hb dX8_mayCome_5 rfl (lv_at hl 1 rfl) ?_
    refine lv_ldc (v := 70000) hx hb hown (hts (.constant RX8 77 70000) (by decide +kernel)) dX8_mayCome_6 ?_
    refine zb_icmp_le (tgt := 15) (a := yi) (b := 70000) hx hb dX8_mayCome_8 (by decide) yh (by decide) (fun c8 => ?_) (fun c8 => ?_)
    · refine lv_aload_n hx hb dX8_mayCome_15 rfl (lv_at hl 0 rfl) ?_
      refine va_get (D := (dC, dI)) (ci := 8) (v := .int (nI n)) (C := RX8) (T := TX8) (N := 39) hx hb hts (by decide +kernel) hown hK hP 0 rfl rfl 2 (by decide) (hts (.fieldLink RX8 74 "SequenceFramesModel" "size" "I") (by decide +kernel)) (fun _ h9 => h9) rfl dX8_mayCome_16 ?_
      refine lv_iload_n hx hb dX8_mayCome_19 rfl (lv_at hl 1 rfl) ?_
      refine lv_iadd hx hb dX8_mayCome_20 ?_
      refine lv_ldc (v := 140000) hx hb hown (hts (.constant RX8 9 140000) (by decide +kernel)) dX8_mayCome_21 ?_
      refine zb_icmp_le (tgt := 31) (a := (((n : Nat) : Int) + yi)) (b := 140000) hx hb dX8_mayCome_23 (by decide) (zi_add (nI_toInt (by omega)) yh (by omega) (by omega)) (by decide) (fun c23 => ?_) (fun c23 => ?_)
      · refine lv_iconst (v := 0) hx hb dX8_mayCome_31 (by decide) ?_
        have hP9 := hP.sub (ws' := [(m0, .inr (8, [.int z0, .ref z1, .int (nI n), .ref z3, .int z4, .ref z5, .int z6, .ref z7, .long z8, .ref z9, .ref z10, .ref z11, .ref z12, .ref z13, .int z14, .int z15, .int z16, .int z17, .ref z18, .ref z19, .ref z20, .int z21, .int z22, .int z23, .int z24, .int z25, .int z26, .int z27, .int z28, .int z29, .int z30, .int z31, .int z32, .int z33, .int z34, .int z35, .long z36, .long z37, .int z38]))]) [0] rfl
        have hD9 := hD.sub (ws' := [(m0, .inr (8, [.int z0, .ref z1, .int (nI n), .ref z3, .int z4, .ref z5, .int z6, .ref z7, .long z8, .ref z9, .ref z10, .ref z11, .ref z12, .ref z13, .int z14, .int z15, .int z16, .int z17, .ref z18, .ref z19, .ref z20, .int z21, .int z22, .int z23, .int z24, .int z25, .int z26, .int z27, .int z28, .int z29, .int z30, .int z31, .int z32, .int z33, .int z34, .int z35, .long z36, .long z37, .int z38]))]) [0] (by decide) rfl
        exact W.iret (v := 0) hx hb hr (fun t9 ht9 hW9 => ⟨⟨0, (), rfl, (by left; exact ⟨rfl, by omega, by omega, by omega⟩), by rw [ht9]; exact hP9, va_K.moved hW9.alike hK, hD9⟩, hS.F ht9⟩) hS.2.2 dX8_mayCome_32
      · refine lv_bipush (v := (-2)) hx hb dX8_mayCome_26 (by decide) ?_
        refine lv_goto (tgt := 32) hx hb dX8_mayCome_28 (by decide) ?_
        have hP9 := hP.sub (ws' := [(m0, .inr (8, [.int z0, .ref z1, .int (nI n), .ref z3, .int z4, .ref z5, .int z6, .ref z7, .long z8, .ref z9, .ref z10, .ref z11, .ref z12, .ref z13, .int z14, .int z15, .int z16, .int z17, .ref z18, .ref z19, .ref z20, .int z21, .int z22, .int z23, .int z24, .int z25, .int z26, .int z27, .int z28, .int z29, .int z30, .int z31, .int z32, .int z33, .int z34, .int z35, .long z36, .long z37, .int z38]))]) [0] rfl
        have hD9 := hD.sub (ws' := [(m0, .inr (8, [.int z0, .ref z1, .int (nI n), .ref z3, .int z4, .ref z5, .int z6, .ref z7, .long z8, .ref z9, .ref z10, .ref z11, .ref z12, .ref z13, .int z14, .int z15, .int z16, .int z17, .ref z18, .ref z19, .ref z20, .int z21, .int z22, .int z23, .int z24, .int z25, .int z26, .int z27, .int z28, .int z29, .int z30, .int z31, .int z32, .int z33, .int z34, .int z35, .long z36, .long z37, .int z38]))]) [0] (by decide) rfl
        exact W.iret (v := (-2)) hx hb hr (fun t9 ht9 hW9 => ⟨⟨(-2), (), rfl, (by right; right; exact ⟨rfl, by omega, by omega, by omega⟩), by rw [ht9]; exact hP9, va_K.moved hW9.alike hK, hD9⟩, hS.F ht9⟩) hS.2.2 dX8_mayCome_32
    · refine lv_iconst (v := (-1)) hx hb dX8_mayCome_11 (by decide) ?_
      refine lv_goto (tgt := 32) hx hb dX8_mayCome_12 (by decide) ?_
      have hP9 := hP.sub (ws' := [(m0, .inr (8, [.int z0, .ref z1, .int (nI n), .ref z3, .int z4, .ref z5, .int z6, .ref z7, .long z8, .ref z9, .ref z10, .ref z11, .ref z12, .ref z13, .int z14, .int z15, .int z16, .int z17, .ref z18, .ref z19, .ref z20, .int z21, .int z22, .int z23, .int z24, .int z25, .int z26, .int z27, .int z28, .int z29, .int z30, .int z31, .int z32, .int z33, .int z34, .int z35, .long z36, .long z37, .int z38]))]) [0] rfl
      have hD9 := hD.sub (ws' := [(m0, .inr (8, [.int z0, .ref z1, .int (nI n), .ref z3, .int z4, .ref z5, .int z6, .ref z7, .long z8, .ref z9, .ref z10, .ref z11, .ref z12, .ref z13, .int z14, .int z15, .int z16, .int z17, .ref z18, .ref z19, .ref z20, .int z21, .int z22, .int z23, .int z24, .int z25, .int z26, .int z27, .int z28, .int z29, .int z30, .int z31, .int z32, .int z33, .int z34, .int z35, .long z36, .long z37, .int z38]))]) [0] (by decide) rfl
      exact W.iret (v := (-1)) hx hb hr (fun t9 ht9 hW9 => ⟨⟨(-1), (), rfl, (by right; left; exact ⟨rfl, by omega⟩), by rw [ht9]; exact hP9, va_K.moved hW9.alike hK, hD9⟩, hS.F ht9⟩) hS.2.2 dX8_mayCome_32

set_option maxHeartbeats 4000000 in
set_option maxRecDepth 100000 in
theorem c_Mod_feed (l : Launch) (dC : Nat → ClassId) (dI : Nat → Nat → Nat) (kB kI : ClassId) (m0 : Nat) (z0 : Int32) (z3 : Nat) (z4 : Int32) (z5 : Nat) (z6 : Int32) (z7 : Nat) (z8 : Int64) (z9 : Nat) (z10 : Nat) (z11 : Nat) (z12 : Nat) (z13 : Nat) (z14 : Int32) (z15 : Int32) (z16 : Int32) (z17 : Int32) (z18 : Nat) (z19 : Nat) (z20 : Nat) (z21 : Int32) (z22 : Int32) (z23 : Int32) (z24 : Int32) (z25 : Int32) (z26 : Int32) (z27 : Int32) (z28 : Int32) (z29 : Int32) (z30 : Int32) (z31 : Int32) (z32 : Int32) (z33 : Int32) (z34 : Int32) (z35 : Int32) (z36 : Int64) (z37 : Int64) (z38 : Int32) (mC : Nat) (n : Nat) (f : Nat → Int32) (v : Int64) (x : Int32) (xi : Int) (hn : n ≤ 140000) (xh : x.toInt = xi) : zMi l yX8_feed wsX8_feed ({ frames := 0, cells := 0, slots := 0, locals := 0 }) (dC, dI) kB kI [.ref m0, .long v, .int x] [(m0, .inr (8, [.int z0, .ref mC, .int (nI n), .ref z3, .int z4, .ref z5, .int z6, .ref z7, .long z8, .ref z9, .ref z10, .ref z11, .ref z12, .ref z13, .int z14, .int z15, .int z16, .int z17, .ref z18, .ref z19, .ref z20, .int z21, .int z22, .int z23, .int z24, .int z25, .int z26, .int z27, .int z28, .int z29, .int z30, .int z31, .int z32, .int z33, .int z34, .int z35, .long z36, .long z37, .int z38])), (mC, .inl (kB, 140000, .inl f))] 0 0 (fun (r : Int32) => fun uu : (Nat → Int32) × Nat => (∃ k : Nat, xi = k ∧ 1 ≤ k ∧ k ≤ 8 ∧ ((n + k ≤ 140000 ∧ r = nI (n + k) ∧ uu.2 = n + k ∧ uu.1 = apF f n k (hiB v k)) ∨ (140000 < n + k ∧ r = -2 ∧ uu.2 = n ∧ uu.1 = f))) ∨ ((xi < 1 ∨ 8 < xi) ∧ r = -1 ∧ uu.2 = n ∧ uu.1 = f)) (fun uu : (Nat → Int32) × Nat => [(m0, .inr (8, [.int 0, .ref mC, .int (nI uu.2), .ref z3, .int z4, .ref z5, .int z6, .ref z7, .long z8, .ref z9, .ref z10, .ref z11, .ref z12, .ref z13, .int z14, .int z15, .int z16, .int z17, .ref z18, .ref z19, .ref z20, .int z21, .int z22, .int z23, .int z24, .int z25, .int z26, .int z27, .int z28, .int z29, .int z30, .int z31, .int z32, .int z33, .int z34, .int z35, .long z36, .long z37, .int z38])), (mC, .inl (kB, 140000, .inl uu.1))]) := by
  intro sz
  refine Met.ofW (cc := cX8_feed) (maxL := 5) (ret := (some .int)) (by decide) rfl ?_
  intro p e s m args below meth c s₁ B hml hv
  obtain ⟨rfl, hsz, hP, hK, hD0⟩ := hv
  have hx := B.exec
  have hb := B.bytes
  have hr := B.returns
  have hts := atoms_spec (ws := wsX8_feed) B.pre
  have hown : s.vm.findClass RX8 = some m.cls := findClass_of_methodNamed B.named
  have hlocks := B.notSynchronized
  subst hsz
  have hD := hD0.self (sz := s.heap.size)
  generalize hAe : va_A [(m0, .inr (8, [.int z0, .ref mC, .int (nI n), .ref z3, .int z4, .ref z5, .int z6, .ref z7, .long z8, .ref z9, .ref z10, .ref z11, .ref z12, .ref z13, .int z14, .int z15, .int z16, .int z17, .ref z18, .ref z19, .ref z20, .int z21, .int z22, .int z23, .int z24, .int z25, .int z26, .int z27, .int z28, .int z29, .int z30, .int z31, .int z32, .int z33, .int z34, .int z35, .long z36, .long z37, .int z38])), (mC, .inl (kB, 140000, .inl f))] s.heap.size = A at hD ⊢
  have hA : ∀ q : Nat, s.heap.size ≤ q → A q := fun q h => by rw [← hAe]; exact Or.inr h
  have hS : va_S A s.heap s.heap [] := va_S.rf
  have hP : va_P (dC, dI) vwCl [(m0, .inr (8, [.int z0, .ref mC, .int (nI n), .ref z3, .int z4, .ref z5, .int z6, .ref z7, .long z8, .ref z9, .ref z10, .ref z11, .ref z12, .ref z13, .int z14, .int z15, .int z16, .int z17, .ref z18, .ref z19, .ref z20, .int z21, .int z22, .int z23, .int z24, .int z25, .int z26, .int z27, .int z28, .int z29, .int z30, .int z31, .int z32, .int z33, .int z34, .int z35, .long z36, .long z37, .int z38])), (mC, .inl (kB, 140000, .inl f))] s.heap := hP
  have hl := lv_entry ([.ref m0, .long v, .int x]) (n := 5) (Nat.le_of_ble_eq_true rfl)
  rw [lg_entry_eq]
  generalize (lg_sl ([.ref m0, .long v, .int x]) ++ List.replicate (5 - (lg_sl ([.ref m0, .long v, .int x])).length) Slot.unset).toArray = ls at hl ⊢
  have hl : lv_has ls 5 [(0, .ref m0), (1, .long v), (3, .int x)] := hl
  refine zG (fun GG hG1 hG2 => ?_)
  refine lv_aload_n hx hb dX8_feed_0 rfl (lv_at hl 0 rfl) ?_
  refine lv_iconst (v := 0) hx hb dX8_feed_1 (by decide) ?_
  refine va_put (D := (dC, dI)) (ci := 8) (v := .int 0) (ty := .int) (C := RX8) (T := TX8) (N := 39) hx hb hts (by decide +kernel) tyX8 tyX8_ok nmX8 hown hK hP hD hS 0 rfl rfl 0 (by decide) (hts (.fieldLink RX8 55 "SequenceFramesModel" "code" "I") (by decide +kernel)) (fun _ h9 => h9) rfl (by decide +kernel) rfl rfl (Nat.le_of_ble_eq_true rfl) dX8_feed_2 (fun H locs hP hD hS => ?_)
  have hP : va_P (dC, dI) vwCl [(m0, .inr (8, [.int 0, .ref mC, .int (nI n), .ref z3, .int z4, .ref z5, .int z6, .ref z7, .long z8, .ref z9, .ref z10, .ref z11, .ref z12, .ref z13, .int z14, .int z15, .int z16, .int z17, .ref z18, .ref z19, .ref z20, .int z21, .int z22, .int z23, .int z24, .int z25, .int z26, .int z27, .int z28, .int z29, .int z30, .int z31, .int z32, .int z33, .int z34, .int z35, .long z36, .long z37, .int z38])), (mC, .inl (kB, 140000, .inl f))] H := hP
  have hD : va_D A [(m0, .inr (8, [.int 0, .ref mC, .int (nI n), .ref z3, .int z4, .ref z5, .int z6, .ref z7, .long z8, .ref z9, .ref z10, .ref z11, .ref z12, .ref z13, .int z14, .int z15, .int z16, .int z17, .ref z18, .ref z19, .ref z20, .int z21, .int z22, .int z23, .int z24, .int z25, .int z26, .int z27, .int z28, .int z29, .int z30, .int z31, .int z32, .int z33, .int z34, .int z35, .long z36, .long z37, .int z38])), (mC, .inl (kB, 140000, .inl f))] := hD
  refine lv_iload_n hx hb dX8_feed_5 rfl (lv_at hl 2 rfl) ?_
  refine lv_iconst (v := 1) hx hb dX8_feed_6 (by decide) ?_
  refine zb_icmp_lt (tgt := 16) (a := xi) (b := 1) hx hb dX8_feed_7 (by decide) xh (by decide) (fun c7 => ?_) (fun c7 => ?_)
  · refine lv_iconst (v := (-1)) hx hb dX8_feed_16 (by decide) ?_
    have hP9 := hP.sub (ws' := [(m0, .inr (8, [.int 0, .ref mC, .int (nI n), .ref z3, .int z4, .ref z5, .int z6, .ref z7, .long z8, .ref z9, .ref z10, .ref z11, .ref z12, .ref z13, .int z14, .int z15, .int z16, .int z17, .ref z18, .ref z19, .ref z20, .int z21, .int z22, .int z23, .int z24, .int z25, .int z26, .int z27, .int z28, .int z29, .int z30, .int z31, .int z32, .int z33, .int z34, .int z35, .long z36, .long z37, .int z38])), (mC, .inl (kB, 140000, .inl f))]) [0, 1] rfl
    have hD9 := hD.sub (ws' := [(m0, .inr (8, [.int 0, .ref mC, .int (nI n), .ref z3, .int z4, .ref z5, .int z6, .ref z7, .long z8, .ref z9, .ref z10, .ref z11, .ref z12, .ref z13, .int z14, .int z15, .int z16, .int z17, .ref z18, .ref z19, .ref z20, .int z21, .int z22, .int z23, .int z24, .int z25, .int z26, .int z27, .int z28, .int z29, .int z30, .int z31, .int z32, .int z33, .int z34, .int z35, .long z36, .long z37, .int z38])), (mC, .inl (kB, 140000, .inl f))]) [0, 1] (by decide) rfl
    exact W.iret (v := (-1)) hx hb hr (fun t9 ht9 hW9 => ⟨⟨(-1), (f, n), rfl, (by right; exact ⟨by omega, rfl, rfl, rfl⟩), by rw [ht9]; exact hP9, va_K.moved hW9.alike hK, hD9⟩, hS.F ht9⟩) hS.2.2 dX8_feed_17
  · refine lv_iload_n hx hb dX8_feed_10 rfl (lv_at hl 2 rfl) ?_
    refine lv_bipush (v := 8) hx hb dX8_feed_11 (by decide) ?_
    refine zb_icmp_le (tgt := 18) (a := xi) (b := 8) hx hb dX8_feed_13 (by decide) xh (by decide) (fun c13 => ?_) (fun c13 => ?_)
    · obtain ⟨k, kb, xe⟩ := z_nat (x := x) (by omega)
      subst xe
      rw [nI_toInt kb] at xh
      subst xh
      refine lv_aload_n hx hb dX8_feed_18 rfl (lv_at hl 0 rfl) ?_
      refine va_get (D := (dC, dI)) (ci := 8) (v := .int (nI n)) (C := RX8) (T := TX8) (N := 39) hx hb hts (by decide +kernel) hown hK hP 0 rfl rfl 2 (by decide) (hts (.fieldLink RX8 74 "SequenceFramesModel" "size" "I") (by decide +kernel)) (fun _ h9 => h9) rfl dX8_feed_19 ?_
      refine lv_iload_n hx hb dX8_feed_22 rfl (lv_at hl 2 rfl) ?_
      refine lv_iadd hx hb dX8_feed_23 ?_
      refine lv_is (y := (nI (n + k))) ((zn_add rfl rfl)) ?_
      refine lv_ldc (v := 140000) hx hb hown (hts (.constant RX8 9 140000) (by decide +kernel)) dX8_feed_24 ?_
      refine zb_icmp_le (tgt := 32) (a := ((n + k : Nat) : Int)) (b := 140000) hx hb dX8_feed_26 (by decide) (nI_toInt (by omega)) (by decide) (fun c26 => ?_) (fun c26 => ?_)
      · refine lv_iload_n hx hb dX8_feed_32 rfl (lv_at hl 2 rfl) ?_
        refine lv_iconst (v := 1) hx hb dX8_feed_33 (by decide) ?_
        refine lv_isub hx hb dX8_feed_34 ?_
        refine lv_istore (lv' := [(4, .int ((nI k) - 1)), (0, .ref m0), (1, .long v), (3, .int (nI k))]) hx hb dX8_feed_35 hl (by decide) rfl (fun ls hl => ?_)
        have eq9 : f = (apF f n 0 (hiB v k)) := (apF_0 f n (hiB v k)).symm
        have hP : va_P (dC, dI) vwCl [(m0, .inr (8, [.int 0, .ref mC, .int (nI n), .ref z3, .int z4, .ref z5, .int z6, .ref z7, .long z8, .ref z9, .ref z10, .ref z11, .ref z12, .ref z13, .int z14, .int z15, .int z16, .int z17, .ref z18, .ref z19, .ref z20, .int z21, .int z22, .int z23, .int z24, .int z25, .int z26, .int z27, .int z28, .int z29, .int z30, .int z31, .int z32, .int z33, .int z34, .int z35, .long z36, .long z37, .int z38])), (mC, .inl (kB, 140000, .inl (apF f n 0 (hiB v k))))] H := by rw [← eq9]; exact hP
        have hD : va_D A [(m0, .inr (8, [.int 0, .ref mC, .int (nI n), .ref z3, .int z4, .ref z5, .int z6, .ref z7, .long z8, .ref z9, .ref z10, .ref z11, .ref z12, .ref z13, .int z14, .int z15, .int z16, .int z17, .ref z18, .ref z19, .ref z20, .int z21, .int z22, .int z23, .int z24, .int z25, .int z26, .int z27, .int z28, .int z29, .int z30, .int z31, .int z32, .int z33, .int z34, .int z35, .long z36, .long z37, .int z38])), (mC, .inl (kB, 140000, .inl (apF f n 0 (hiB v k))))] := by rw [← eq9]; exact hD
        have lp : ∀ (kf : Nat) (u : Nat) (t : Nat) (hu : u + t = k) (hnk : n + k ≤ 140000), u < kf → ∀ (H : Heap) (locs : List Loc), va_P (dC, dI) vwCl [(m0, .inr (8, [.int 0, .ref mC, .int (nI (n + t)), .ref z3, .int z4, .ref z5, .int z6, .ref z7, .long z8, .ref z9, .ref z10, .ref z11, .ref z12, .ref z13, .int z14, .int z15, .int z16, .int z17, .ref z18, .ref z19, .ref z20, .int z21, .int z22, .int z23, .int z24, .int z25, .int z26, .int z27, .int z28, .int z29, .int z30, .int z31, .int z32, .int z33, .int z34, .int z35, .long z36, .long z37, .int z38])), (mC, .inl (kB, 140000, .inl (apF f n t (hiB v k))))] H → va_D A [(m0, .inr (8, [.int 0, .ref mC, .int (nI (n + t)), .ref z3, .int z4, .ref z5, .int z6, .ref z7, .long z8, .ref z9, .ref z10, .ref z11, .ref z12, .ref z13, .int z14, .int z15, .int z16, .int z17, .ref z18, .ref z19, .ref z20, .int z21, .int z22, .int z23, .int z24, .int z25, .int z26, .int z27, .int z28, .int z29, .int z30, .int z31, .int z32, .int z33, .int z34, .int z35, .long z36, .long z37, .int z38])), (mC, .inl (kB, 140000, .inl (apF f n t (hiB v k))))] → va_S A s.heap H locs → ∀ (ls : Array Slot), lv_has ls 5 [(0, .ref m0), (1, .long v), (3, .int (nI k)), (4, .int ((nI u) - 1))] → GG H locs (F0 m 37 ls []) := by
          intro kf
          induction kf with
          | zero => intro u t hu hnk hm; exact absurd hm (Nat.not_lt_zero _)
          | succ kf ih =>
            intro u t hu hnk hm H locs hP hD hS ls hl
            apply hG1
            refine lv_iload hx hb dX8_feed_37 (lv_at hl 3 rfl) ?_
            refine zb_if_lt (tgt := 76) (a := (((u : Nat) : Int) - 1)) hx hb dX8_feed_39 (by decide) (zi_sub (nI_toInt (by omega)) (by decide) (by omega) (by omega)) (fun c39 => ?_) (fun c39 => ?_)
            · have et9 : k = t := by omega
              subst et9
              refine lv_aload_n hx hb dX8_feed_76 rfl (lv_at hl 0 rfl) ?_
              refine va_get (D := (dC, dI)) (ci := 8) (v := .int (nI (n + k))) (C := RX8) (T := TX8) (N := 39) hx hb hts (by decide +kernel) hown hK hP 0 rfl rfl 2 (by decide) (hts (.fieldLink RX8 74 "SequenceFramesModel" "size" "I") (by decide +kernel)) (fun _ h9 => h9) rfl dX8_feed_77 ?_
              have hP9 := hP.sub (ws' := [(m0, .inr (8, [.int 0, .ref mC, .int (nI (n + k)), .ref z3, .int z4, .ref z5, .int z6, .ref z7, .long z8, .ref z9, .ref z10, .ref z11, .ref z12, .ref z13, .int z14, .int z15, .int z16, .int z17, .ref z18, .ref z19, .ref z20, .int z21, .int z22, .int z23, .int z24, .int z25, .int z26, .int z27, .int z28, .int z29, .int z30, .int z31, .int z32, .int z33, .int z34, .int z35, .long z36, .long z37, .int z38])), (mC, .inl (kB, 140000, .inl (apF f n k (hiB v k))))]) [0, 1] rfl
              have hD9 := hD.sub (ws' := [(m0, .inr (8, [.int 0, .ref mC, .int (nI (n + k)), .ref z3, .int z4, .ref z5, .int z6, .ref z7, .long z8, .ref z9, .ref z10, .ref z11, .ref z12, .ref z13, .int z14, .int z15, .int z16, .int z17, .ref z18, .ref z19, .ref z20, .int z21, .int z22, .int z23, .int z24, .int z25, .int z26, .int z27, .int z28, .int z29, .int z30, .int z31, .int z32, .int z33, .int z34, .int z35, .long z36, .long z37, .int z38])), (mC, .inl (kB, 140000, .inl (apF f n k (hiB v k))))]) [0, 1] (by decide) rfl
              exact W.iret (v := (nI (n + k))) hx hb hr (fun t9 ht9 hW9 => ⟨⟨(nI (n + k)), ((apF f n k (hiB v k)), (n + k)), rfl, (by left; exact ⟨k, rfl, by omega, by omega, Or.inl ⟨by omega, rfl, rfl, rfl⟩⟩), by rw [ht9]; exact hP9, va_K.moved hW9.alike hK, hD9⟩, hS.F ht9⟩) hS.2.2 dX8_feed_80
            · obtain ⟨z, ez⟩ : ∃ z, u = z + 1 := ⟨u - 1, by omega⟩
              subst ez
              have eq9 : (((nI (z + 1)) - 1) : Int32) = (nI z) := nI_pred z
              have hl : lv_has ls 5 [(0, .ref m0), (1, .long v), (3, .int (nI k)), (4, .int (nI z))] := by rw [← eq9]; exact hl
              refine lv_aload_n hx hb dX8_feed_42 rfl (lv_at hl 0 rfl) ?_
              refine va_get (D := (dC, dI)) (ci := 8) (v := .ref mC) (C := RX8) (T := TX8) (N := 39) hx hb hts (by decide +kernel) hown hK hP 0 rfl rfl 1 (by decide) (hts (.fieldLink RX8 10 "SequenceFramesModel" "content" "[B") (by decide +kernel)) (fun _ h9 => h9) rfl dX8_feed_43 ?_
              refine lv_aload_n hx hb dX8_feed_46 rfl (lv_at hl 0 rfl) ?_
              refine va_get (D := (dC, dI)) (ci := 8) (v := .int (nI (n + t))) (C := RX8) (T := TX8) (N := 39) hx hb hts (by decide +kernel) hown hK hP 0 rfl rfl 2 (by decide) (hts (.fieldLink RX8 74 "SequenceFramesModel" "size" "I") (by decide +kernel)) (fun _ h9 => h9) rfl dX8_feed_47 ?_
              refine lv_lload_n hx hb dX8_feed_50 rfl (lv_at hl 1 rfl) ?_
              refine lv_bipush (v := 8) hx hb dX8_feed_51 (by decide) ?_
              refine lv_iload hx hb dX8_feed_53 (lv_at hl 3 rfl) ?_
              refine lv_imul hx hb dX8_feed_55 ?_
              refine lv_is (y := (nI (8 * z))) ((zn_mul (show (8 : Int32) = nI 8 from rfl) rfl)) ?_
              refine lv_lshr (v := (lsar v (nI (8 * z)))) hx hb dX8_feed_56 rfl ?_
              refine lv_l2i (v := ((lsar v (nI (8 * z))).toInt32)) hx hb dX8_feed_57 rfl ?_
              refine lv_i2b (v := (i2b ((lsar v (nI (8 * z))).toInt32))) hx hb dX8_feed_58 rfl ?_
              refine va_bast hx hb hK hP hD hS 1 0 rfl rfl (zin rfl (by omega) (by omega)) dX8_feed_59 (fun H locs hP hD hS => ?_)
              have ez := (congrArg (upd (apF f n t (hiB v k)) ((nI (n + t)) : Int32).toNatClampNeg) (show vp_nar .byte (i2b ((lsar v (nI (8 * z))).toInt32)) = (i2b ((lsar v (nI (8 * z))).toInt32)) from pk_vb _)).trans (zst (apF f n t (hiB v k)) (i2b ((lsar v (nI (8 * z))).toInt32)) (i := (nI (n + t))) (j := (n + t)) rfl (by omega))
              have hP : va_P (dC, dI) vwCl [(m0, .inr (8, [.int 0, .ref mC, .int (nI (n + t)), .ref z3, .int z4, .ref z5, .int z6, .ref z7, .long z8, .ref z9, .ref z10, .ref z11, .ref z12, .ref z13, .int z14, .int z15, .int z16, .int z17, .ref z18, .ref z19, .ref z20, .int z21, .int z22, .int z23, .int z24, .int z25, .int z26, .int z27, .int z28, .int z29, .int z30, .int z31, .int z32, .int z33, .int z34, .int z35, .long z36, .long z37, .int z38])), (mC, .inl (kB, 140000, .inl (upd (apF f n t (hiB v k)) (n + t) (i2b ((lsar v (nI (8 * z))).toInt32)))))] H := by rw [← ez]; exact hP
              have hD : va_D A [(m0, .inr (8, [.int 0, .ref mC, .int (nI (n + t)), .ref z3, .int z4, .ref z5, .int z6, .ref z7, .long z8, .ref z9, .ref z10, .ref z11, .ref z12, .ref z13, .int z14, .int z15, .int z16, .int z17, .ref z18, .ref z19, .ref z20, .int z21, .int z22, .int z23, .int z24, .int z25, .int z26, .int z27, .int z28, .int z29, .int z30, .int z31, .int z32, .int z33, .int z34, .int z35, .long z36, .long z37, .int z38])), (mC, .inl (kB, 140000, .inl (upd (apF f n t (hiB v k)) (n + t) (i2b ((lsar v (nI (8 * z))).toInt32)))))] := by rw [← ez]; exact hD
              have eq9 : (upd (apF f n t (hiB v k)) (n + t) (i2b ((lsar v (nI (8 * z))).toInt32))) = (apF f n (t + 1) (hiB v k)) := by rw [← apF_s f n t (hiB v k)]; unfold hiB; rw [lo_sar v (by omega), show k - 1 - t = z by omega]
              have hP : va_P (dC, dI) vwCl [(m0, .inr (8, [.int 0, .ref mC, .int (nI (n + t)), .ref z3, .int z4, .ref z5, .int z6, .ref z7, .long z8, .ref z9, .ref z10, .ref z11, .ref z12, .ref z13, .int z14, .int z15, .int z16, .int z17, .ref z18, .ref z19, .ref z20, .int z21, .int z22, .int z23, .int z24, .int z25, .int z26, .int z27, .int z28, .int z29, .int z30, .int z31, .int z32, .int z33, .int z34, .int z35, .long z36, .long z37, .int z38])), (mC, .inl (kB, 140000, .inl (apF f n (t + 1) (hiB v k))))] H := by rw [← eq9]; exact hP
              have hD : va_D A [(m0, .inr (8, [.int 0, .ref mC, .int (nI (n + t)), .ref z3, .int z4, .ref z5, .int z6, .ref z7, .long z8, .ref z9, .ref z10, .ref z11, .ref z12, .ref z13, .int z14, .int z15, .int z16, .int z17, .ref z18, .ref z19, .ref z20, .int z21, .int z22, .int z23, .int z24, .int z25, .int z26, .int z27, .int z28, .int z29, .int z30, .int z31, .int z32, .int z33, .int z34, .int z35, .long z36, .long z37, .int z38])), (mC, .inl (kB, 140000, .inl (apF f n (t + 1) (hiB v k))))] := by rw [← eq9]; exact hD
              refine lv_aload_n hx hb dX8_feed_60 rfl (lv_at hl 0 rfl) ?_
              refine lv_dup hx hb dX8_feed_61 rfl ?_
              refine va_get (D := (dC, dI)) (ci := 8) (v := .int (nI (n + t))) (C := RX8) (T := TX8) (N := 39) hx hb hts (by decide +kernel) hown hK hP 0 rfl rfl 2 (by decide) (hts (.fieldLink RX8 74 "SequenceFramesModel" "size" "I") (by decide +kernel)) (fun _ h9 => h9) rfl dX8_feed_62 ?_
              refine lv_iconst (v := 1) hx hb dX8_feed_65 (by decide) ?_
              refine lv_iadd hx hb dX8_feed_66 ?_
              refine lv_is (y := (nI ((n + t) + 1))) ((zn_add rfl (show (1 : Int32) = nI 1 from rfl))) ?_
              refine va_put (D := (dC, dI)) (ci := 8) (v := .int (nI ((n + t) + 1))) (ty := .int) (C := RX8) (T := TX8) (N := 39) hx hb hts (by decide +kernel) tyX8 tyX8_ok nmX8 hown hK hP hD hS 0 rfl rfl 2 (by decide) (hts (.fieldLink RX8 74 "SequenceFramesModel" "size" "I") (by decide +kernel)) (fun _ h9 => h9) rfl (by decide +kernel) rfl rfl (Nat.le_of_ble_eq_true rfl) dX8_feed_67 (fun H locs hP hD hS => ?_)
              have hP : va_P (dC, dI) vwCl [(m0, .inr (8, [.int 0, .ref mC, .int (nI ((n + t) + 1)), .ref z3, .int z4, .ref z5, .int z6, .ref z7, .long z8, .ref z9, .ref z10, .ref z11, .ref z12, .ref z13, .int z14, .int z15, .int z16, .int z17, .ref z18, .ref z19, .ref z20, .int z21, .int z22, .int z23, .int z24, .int z25, .int z26, .int z27, .int z28, .int z29, .int z30, .int z31, .int z32, .int z33, .int z34, .int z35, .long z36, .long z37, .int z38])), (mC, .inl (kB, 140000, .inl (apF f n (t + 1) (hiB v k))))] H := hP
              have hD : va_D A [(m0, .inr (8, [.int 0, .ref mC, .int (nI ((n + t) + 1)), .ref z3, .int z4, .ref z5, .int z6, .ref z7, .long z8, .ref z9, .ref z10, .ref z11, .ref z12, .ref z13, .int z14, .int z15, .int z16, .int z17, .ref z18, .ref z19, .ref z20, .int z21, .int z22, .int z23, .int z24, .int z25, .int z26, .int z27, .int z28, .int z29, .int z30, .int z31, .int z32, .int z33, .int z34, .int z35, .long z36, .long z37, .int z38])), (mC, .inl (kB, 140000, .inl (apF f n (t + 1) (hiB v k))))] := hD
              refine lv_iinc (v := ((nI z) - 1)) (lv' := [(4, .int ((nI z) - 1)), (0, .ref m0), (1, .long v), (3, .int (nI k))]) hx hb dX8_feed_70 hl (k := 3) rfl (zn_dec _) (by decide) rfl (fun ls hl => ?_)
              refine lv_goto (tgt := 37) hx hb dX8_feed_73 (by decide) ?_
              exact hG2 _ _ _ (ih z (t + 1) (by omega) (by omega) (by omega) _ _ (hP.sub [0, 1] rfl) (hD.sub [0, 1] (by decide) rfl) hS ls (lv_sub hl [1, 2, 3, 0] rfl))
        exact hG2 _ _ _ (lp (k + 1) k 0 (by omega) (by omega) (Nat.lt_succ_self _) _ _ (hP.sub [0, 1] rfl) (hD.sub [0, 1] (by decide) rfl) hS ls (lv_sub hl [1, 2, 3, 0] rfl))
      · refine lv_bipush (v := (-2)) hx hb dX8_feed_29 (by decide) ?_
        have hP9 := hP.sub (ws' := [(m0, .inr (8, [.int 0, .ref mC, .int (nI n), .ref z3, .int z4, .ref z5, .int z6, .ref z7, .long z8, .ref z9, .ref z10, .ref z11, .ref z12, .ref z13, .int z14, .int z15, .int z16, .int z17, .ref z18, .ref z19, .ref z20, .int z21, .int z22, .int z23, .int z24, .int z25, .int z26, .int z27, .int z28, .int z29, .int z30, .int z31, .int z32, .int z33, .int z34, .int z35, .long z36, .long z37, .int z38])), (mC, .inl (kB, 140000, .inl f))]) [0, 1] rfl
        have hD9 := hD.sub (ws' := [(m0, .inr (8, [.int 0, .ref mC, .int (nI n), .ref z3, .int z4, .ref z5, .int z6, .ref z7, .long z8, .ref z9, .ref z10, .ref z11, .ref z12, .ref z13, .int z14, .int z15, .int z16, .int z17, .ref z18, .ref z19, .ref z20, .int z21, .int z22, .int z23, .int z24, .int z25, .int z26, .int z27, .int z28, .int z29, .int z30, .int z31, .int z32, .int z33, .int z34, .int z35, .long z36, .long z37, .int z38])), (mC, .inl (kB, 140000, .inl f))]) [0, 1] (by decide) rfl
        exact W.iret (v := (-2)) hx hb hr (fun t9 ht9 hW9 => ⟨⟨(-2), (f, n), rfl, (by left; exact ⟨k, rfl, by omega, by omega, Or.inr ⟨by omega, rfl, rfl, rfl⟩⟩), by rw [ht9]; exact hP9, va_K.moved hW9.alike hK, hD9⟩, hS.F ht9⟩) hS.2.2 dX8_feed_31
    · refine lv_iconst (v := (-1)) hx hb dX8_feed_16 (by decide) ?_
      have hP9 := hP.sub (ws' := [(m0, .inr (8, [.int 0, .ref mC, .int (nI n), .ref z3, .int z4, .ref z5, .int z6, .ref z7, .long z8, .ref z9, .ref z10, .ref z11, .ref z12, .ref z13, .int z14, .int z15, .int z16, .int z17, .ref z18, .ref z19, .ref z20, .int z21, .int z22, .int z23, .int z24, .int z25, .int z26, .int z27, .int z28, .int z29, .int z30, .int z31, .int z32, .int z33, .int z34, .int z35, .long z36, .long z37, .int z38])), (mC, .inl (kB, 140000, .inl f))]) [0, 1] rfl
      have hD9 := hD.sub (ws' := [(m0, .inr (8, [.int 0, .ref mC, .int (nI n), .ref z3, .int z4, .ref z5, .int z6, .ref z7, .long z8, .ref z9, .ref z10, .ref z11, .ref z12, .ref z13, .int z14, .int z15, .int z16, .int z17, .ref z18, .ref z19, .ref z20, .int z21, .int z22, .int z23, .int z24, .int z25, .int z26, .int z27, .int z28, .int z29, .int z30, .int z31, .int z32, .int z33, .int z34, .int z35, .long z36, .long z37, .int z38])), (mC, .inl (kB, 140000, .inl f))]) [0, 1] (by decide) rfl
      exact W.iret (v := (-1)) hx hb hr (fun t9 ht9 hW9 => ⟨⟨(-1), (f, n), rfl, (by right; exact ⟨by omega, rfl, rfl, rfl⟩), by rw [ht9]; exact hP9, va_K.moved hW9.alike hK, hD9⟩, hS.F ht9⟩) hS.2.2 dX8_feed_17

set_option maxHeartbeats 4000000 in
set_option maxRecDepth 100000 in
theorem c_Mod_give (l : Launch) (dC : Nat → ClassId) (dI : Nat → Nat → Nat) (kB kI : ClassId) (m0 : Nat) (z0 : Int32) (z1 : Nat) (z2 : Int32) (z5 : Nat) (z6 : Int32) (z7 : Nat) (z8 : Int64) (z9 : Nat) (z10 : Nat) (z11 : Nat) (z12 : Nat) (z13 : Nat) (z14 : Int32) (z15 : Int32) (z16 : Int32) (z17 : Int32) (z18 : Nat) (z19 : Nat) (z20 : Nat) (z21 : Int32) (z22 : Int32) (z23 : Int32) (z24 : Int32) (z25 : Int32) (z26 : Int32) (z27 : Int32) (z28 : Int32) (z29 : Int32) (z30 : Int32) (z31 : Int32) (z32 : Int32) (z33 : Int32) (z34 : Int32) (z35 : Int32) (z36 : Int64) (z37 : Int64) (z38 : Int32) (mF : Nat) (n : Nat) (f : Nat → Int32) (v : Int64) (x : Int32) (xi : Int) (hn : n ≤ 150000) (xh : x.toInt = xi) : zMi l yX8_give wsX8_give ({ frames := 0, cells := 0, slots := 0, locals := 0 }) (dC, dI) kB kI [.ref m0, .long v, .int x] [(m0, .inr (8, [.int z0, .ref z1, .int z2, .ref mF, .int (nI n), .ref z5, .int z6, .ref z7, .long z8, .ref z9, .ref z10, .ref z11, .ref z12, .ref z13, .int z14, .int z15, .int z16, .int z17, .ref z18, .ref z19, .ref z20, .int z21, .int z22, .int z23, .int z24, .int z25, .int z26, .int z27, .int z28, .int z29, .int z30, .int z31, .int z32, .int z33, .int z34, .int z35, .long z36, .long z37, .int z38])), (mF, .inl (kB, 150000, .inl f))] 0 0 (fun (r : Int32) => fun uu : (Nat → Int32) × Nat => (∃ k : Nat, xi = k ∧ 1 ≤ k ∧ k ≤ 8 ∧ ((n + k ≤ 150000 ∧ r = nI (n + k) ∧ uu.2 = n + k ∧ uu.1 = apF f n k (hiB v k)) ∨ (150000 < n + k ∧ r = -2 ∧ uu.2 = n ∧ uu.1 = f))) ∨ ((xi < 1 ∨ 8 < xi) ∧ r = -1 ∧ uu.2 = n ∧ uu.1 = f)) (fun uu : (Nat → Int32) × Nat => [(m0, .inr (8, [.int 0, .ref z1, .int z2, .ref mF, .int (nI uu.2), .ref z5, .int z6, .ref z7, .long z8, .ref z9, .ref z10, .ref z11, .ref z12, .ref z13, .int z14, .int z15, .int z16, .int z17, .ref z18, .ref z19, .ref z20, .int z21, .int z22, .int z23, .int z24, .int z25, .int z26, .int z27, .int z28, .int z29, .int z30, .int z31, .int z32, .int z33, .int z34, .int z35, .long z36, .long z37, .int z38])), (mF, .inl (kB, 150000, .inl uu.1))]) := by
  intro sz
  refine Met.ofW (cc := cX8_give) (maxL := 5) (ret := (some .int)) (by decide) rfl ?_
  intro p e s m args below meth c s₁ B hml hv
  obtain ⟨rfl, hsz, hP, hK, hD0⟩ := hv
  have hx := B.exec
  have hb := B.bytes
  have hr := B.returns
  have hts := atoms_spec (ws := wsX8_give) B.pre
  have hown : s.vm.findClass RX8 = some m.cls := findClass_of_methodNamed B.named
  have hlocks := B.notSynchronized
  subst hsz
  have hD := hD0.self (sz := s.heap.size)
  generalize hAe : va_A [(m0, .inr (8, [.int z0, .ref z1, .int z2, .ref mF, .int (nI n), .ref z5, .int z6, .ref z7, .long z8, .ref z9, .ref z10, .ref z11, .ref z12, .ref z13, .int z14, .int z15, .int z16, .int z17, .ref z18, .ref z19, .ref z20, .int z21, .int z22, .int z23, .int z24, .int z25, .int z26, .int z27, .int z28, .int z29, .int z30, .int z31, .int z32, .int z33, .int z34, .int z35, .long z36, .long z37, .int z38])), (mF, .inl (kB, 150000, .inl f))] s.heap.size = A at hD ⊢
  have hA : ∀ q : Nat, s.heap.size ≤ q → A q := fun q h => by rw [← hAe]; exact Or.inr h
  have hS : va_S A s.heap s.heap [] := va_S.rf
  have hP : va_P (dC, dI) vwCl [(m0, .inr (8, [.int z0, .ref z1, .int z2, .ref mF, .int (nI n), .ref z5, .int z6, .ref z7, .long z8, .ref z9, .ref z10, .ref z11, .ref z12, .ref z13, .int z14, .int z15, .int z16, .int z17, .ref z18, .ref z19, .ref z20, .int z21, .int z22, .int z23, .int z24, .int z25, .int z26, .int z27, .int z28, .int z29, .int z30, .int z31, .int z32, .int z33, .int z34, .int z35, .long z36, .long z37, .int z38])), (mF, .inl (kB, 150000, .inl f))] s.heap := hP
  have hl := lv_entry ([.ref m0, .long v, .int x]) (n := 5) (Nat.le_of_ble_eq_true rfl)
  rw [lg_entry_eq]
  generalize (lg_sl ([.ref m0, .long v, .int x]) ++ List.replicate (5 - (lg_sl ([.ref m0, .long v, .int x])).length) Slot.unset).toArray = ls at hl ⊢
  have hl : lv_has ls 5 [(0, .ref m0), (1, .long v), (3, .int x)] := hl
  refine zG (fun GG hG1 hG2 => ?_)
  refine lv_aload_n hx hb dX8_give_0 rfl (lv_at hl 0 rfl) ?_
  refine lv_iconst (v := 0) hx hb dX8_give_1 (by decide) ?_
  refine va_put (D := (dC, dI)) (ci := 8) (v := .int 0) (ty := .int) (C := RX8) (T := TX8) (N := 39) hx hb hts (by decide +kernel) tyX8 tyX8_ok nmX8 hown hK hP hD hS 0 rfl rfl 0 (by decide) (hts (.fieldLink RX8 55 "SequenceFramesModel" "code" "I") (by decide +kernel)) (fun _ h9 => h9) rfl (by decide +kernel) rfl rfl (Nat.le_of_ble_eq_true rfl) dX8_give_2 (fun H locs hP hD hS => ?_)
  have hP : va_P (dC, dI) vwCl [(m0, .inr (8, [.int 0, .ref z1, .int z2, .ref mF, .int (nI n), .ref z5, .int z6, .ref z7, .long z8, .ref z9, .ref z10, .ref z11, .ref z12, .ref z13, .int z14, .int z15, .int z16, .int z17, .ref z18, .ref z19, .ref z20, .int z21, .int z22, .int z23, .int z24, .int z25, .int z26, .int z27, .int z28, .int z29, .int z30, .int z31, .int z32, .int z33, .int z34, .int z35, .long z36, .long z37, .int z38])), (mF, .inl (kB, 150000, .inl f))] H := hP
  have hD : va_D A [(m0, .inr (8, [.int 0, .ref z1, .int z2, .ref mF, .int (nI n), .ref z5, .int z6, .ref z7, .long z8, .ref z9, .ref z10, .ref z11, .ref z12, .ref z13, .int z14, .int z15, .int z16, .int z17, .ref z18, .ref z19, .ref z20, .int z21, .int z22, .int z23, .int z24, .int z25, .int z26, .int z27, .int z28, .int z29, .int z30, .int z31, .int z32, .int z33, .int z34, .int z35, .long z36, .long z37, .int z38])), (mF, .inl (kB, 150000, .inl f))] := hD
  refine lv_iload_n hx hb dX8_give_5 rfl (lv_at hl 2 rfl) ?_
  refine lv_iconst (v := 1) hx hb dX8_give_6 (by decide) ?_
  refine zb_icmp_lt (tgt := 16) (a := xi) (b := 1) hx hb dX8_give_7 (by decide) xh (by decide) (fun c7 => ?_) (fun c7 => ?_)
  · refine lv_iconst (v := (-1)) hx hb dX8_give_16 (by decide) ?_
    have hP9 := hP.sub (ws' := [(m0, .inr (8, [.int 0, .ref z1, .int z2, .ref mF, .int (nI n), .ref z5, .int z6, .ref z7, .long z8, .ref z9, .ref z10, .ref z11, .ref z12, .ref z13, .int z14, .int z15, .int z16, .int z17, .ref z18, .ref z19, .ref z20, .int z21, .int z22, .int z23, .int z24, .int z25, .int z26, .int z27, .int z28, .int z29, .int z30, .int z31, .int z32, .int z33, .int z34, .int z35, .long z36, .long z37, .int z38])), (mF, .inl (kB, 150000, .inl f))]) [0, 1] rfl
    have hD9 := hD.sub (ws' := [(m0, .inr (8, [.int 0, .ref z1, .int z2, .ref mF, .int (nI n), .ref z5, .int z6, .ref z7, .long z8, .ref z9, .ref z10, .ref z11, .ref z12, .ref z13, .int z14, .int z15, .int z16, .int z17, .ref z18, .ref z19, .ref z20, .int z21, .int z22, .int z23, .int z24, .int z25, .int z26, .int z27, .int z28, .int z29, .int z30, .int z31, .int z32, .int z33, .int z34, .int z35, .long z36, .long z37, .int z38])), (mF, .inl (kB, 150000, .inl f))]) [0, 1] (by decide) rfl
    exact W.iret (v := (-1)) hx hb hr (fun t9 ht9 hW9 => ⟨⟨(-1), (f, n), rfl, (by right; exact ⟨by omega, rfl, rfl, rfl⟩), by rw [ht9]; exact hP9, va_K.moved hW9.alike hK, hD9⟩, hS.F ht9⟩) hS.2.2 dX8_give_17
  · refine lv_iload_n hx hb dX8_give_10 rfl (lv_at hl 2 rfl) ?_
    refine lv_bipush (v := 8) hx hb dX8_give_11 (by decide) ?_
    refine zb_icmp_le (tgt := 18) (a := xi) (b := 8) hx hb dX8_give_13 (by decide) xh (by decide) (fun c13 => ?_) (fun c13 => ?_)
    · obtain ⟨k, kb, xe⟩ := z_nat (x := x) (by omega)
      subst xe
      rw [nI_toInt kb] at xh
      subst xh
      refine lv_aload_n hx hb dX8_give_18 rfl (lv_at hl 0 rfl) ?_
      refine va_get (D := (dC, dI)) (ci := 8) (v := .int (nI n)) (C := RX8) (T := TX8) (N := 39) hx hb hts (by decide +kernel) hown hK hP 0 rfl rfl 4 (by decide) (hts (.fieldLink RX8 141 "SequenceFramesModel" "framed" "I") (by decide +kernel)) (fun _ h9 => h9) rfl dX8_give_19 ?_
      refine lv_iload_n hx hb dX8_give_22 rfl (lv_at hl 2 rfl) ?_
      refine lv_iadd hx hb dX8_give_23 ?_
      refine lv_is (y := (nI (n + k))) ((zn_add rfl rfl)) ?_
      refine lv_ldc (v := 150000) hx hb hown (hts (.constant RX8 14 150000) (by decide +kernel)) dX8_give_24 ?_
      refine zb_icmp_le (tgt := 32) (a := ((n + k : Nat) : Int)) (b := 150000) hx hb dX8_give_26 (by decide) (nI_toInt (by omega)) (by decide) (fun c26 => ?_) (fun c26 => ?_)
      · refine lv_iload_n hx hb dX8_give_32 rfl (lv_at hl 2 rfl) ?_
        refine lv_iconst (v := 1) hx hb dX8_give_33 (by decide) ?_
        refine lv_isub hx hb dX8_give_34 ?_
        refine lv_istore (lv' := [(4, .int ((nI k) - 1)), (0, .ref m0), (1, .long v), (3, .int (nI k))]) hx hb dX8_give_35 hl (by decide) rfl (fun ls hl => ?_)
        have eq9 : f = (apF f n 0 (hiB v k)) := (apF_0 f n (hiB v k)).symm
        have hP : va_P (dC, dI) vwCl [(m0, .inr (8, [.int 0, .ref z1, .int z2, .ref mF, .int (nI n), .ref z5, .int z6, .ref z7, .long z8, .ref z9, .ref z10, .ref z11, .ref z12, .ref z13, .int z14, .int z15, .int z16, .int z17, .ref z18, .ref z19, .ref z20, .int z21, .int z22, .int z23, .int z24, .int z25, .int z26, .int z27, .int z28, .int z29, .int z30, .int z31, .int z32, .int z33, .int z34, .int z35, .long z36, .long z37, .int z38])), (mF, .inl (kB, 150000, .inl (apF f n 0 (hiB v k))))] H := by rw [← eq9]; exact hP
        have hD : va_D A [(m0, .inr (8, [.int 0, .ref z1, .int z2, .ref mF, .int (nI n), .ref z5, .int z6, .ref z7, .long z8, .ref z9, .ref z10, .ref z11, .ref z12, .ref z13, .int z14, .int z15, .int z16, .int z17, .ref z18, .ref z19, .ref z20, .int z21, .int z22, .int z23, .int z24, .int z25, .int z26, .int z27, .int z28, .int z29, .int z30, .int z31, .int z32, .int z33, .int z34, .int z35, .long z36, .long z37, .int z38])), (mF, .inl (kB, 150000, .inl (apF f n 0 (hiB v k))))] := by rw [← eq9]; exact hD
        have lp : ∀ (kf : Nat) (u : Nat) (t : Nat) (hu : u + t = k) (hnk : n + k ≤ 150000), u < kf → ∀ (H : Heap) (locs : List Loc), va_P (dC, dI) vwCl [(m0, .inr (8, [.int 0, .ref z1, .int z2, .ref mF, .int (nI (n + t)), .ref z5, .int z6, .ref z7, .long z8, .ref z9, .ref z10, .ref z11, .ref z12, .ref z13, .int z14, .int z15, .int z16, .int z17, .ref z18, .ref z19, .ref z20, .int z21, .int z22, .int z23, .int z24, .int z25, .int z26, .int z27, .int z28, .int z29, .int z30, .int z31, .int z32, .int z33, .int z34, .int z35, .long z36, .long z37, .int z38])), (mF, .inl (kB, 150000, .inl (apF f n t (hiB v k))))] H → va_D A [(m0, .inr (8, [.int 0, .ref z1, .int z2, .ref mF, .int (nI (n + t)), .ref z5, .int z6, .ref z7, .long z8, .ref z9, .ref z10, .ref z11, .ref z12, .ref z13, .int z14, .int z15, .int z16, .int z17, .ref z18, .ref z19, .ref z20, .int z21, .int z22, .int z23, .int z24, .int z25, .int z26, .int z27, .int z28, .int z29, .int z30, .int z31, .int z32, .int z33, .int z34, .int z35, .long z36, .long z37, .int z38])), (mF, .inl (kB, 150000, .inl (apF f n t (hiB v k))))] → va_S A s.heap H locs → ∀ (ls : Array Slot), lv_has ls 5 [(0, .ref m0), (1, .long v), (3, .int (nI k)), (4, .int ((nI u) - 1))] → GG H locs (F0 m 37 ls []) := by
          intro kf
          induction kf with
          | zero => intro u t hu hnk hm; exact absurd hm (Nat.not_lt_zero _)
          | succ kf ih =>
            intro u t hu hnk hm H locs hP hD hS ls hl
            apply hG1
            refine lv_iload hx hb dX8_give_37 (lv_at hl 3 rfl) ?_
            refine zb_if_lt (tgt := 76) (a := (((u : Nat) : Int) - 1)) hx hb dX8_give_39 (by decide) (zi_sub (nI_toInt (by omega)) (by decide) (by omega) (by omega)) (fun c39 => ?_) (fun c39 => ?_)
            · have et9 : k = t := by omega
              subst et9
              refine lv_aload_n hx hb dX8_give_76 rfl (lv_at hl 0 rfl) ?_
              refine va_get (D := (dC, dI)) (ci := 8) (v := .int (nI (n + k))) (C := RX8) (T := TX8) (N := 39) hx hb hts (by decide +kernel) hown hK hP 0 rfl rfl 4 (by decide) (hts (.fieldLink RX8 141 "SequenceFramesModel" "framed" "I") (by decide +kernel)) (fun _ h9 => h9) rfl dX8_give_77 ?_
              have hP9 := hP.sub (ws' := [(m0, .inr (8, [.int 0, .ref z1, .int z2, .ref mF, .int (nI (n + k)), .ref z5, .int z6, .ref z7, .long z8, .ref z9, .ref z10, .ref z11, .ref z12, .ref z13, .int z14, .int z15, .int z16, .int z17, .ref z18, .ref z19, .ref z20, .int z21, .int z22, .int z23, .int z24, .int z25, .int z26, .int z27, .int z28, .int z29, .int z30, .int z31, .int z32, .int z33, .int z34, .int z35, .long z36, .long z37, .int z38])), (mF, .inl (kB, 150000, .inl (apF f n k (hiB v k))))]) [0, 1] rfl
              have hD9 := hD.sub (ws' := [(m0, .inr (8, [.int 0, .ref z1, .int z2, .ref mF, .int (nI (n + k)), .ref z5, .int z6, .ref z7, .long z8, .ref z9, .ref z10, .ref z11, .ref z12, .ref z13, .int z14, .int z15, .int z16, .int z17, .ref z18, .ref z19, .ref z20, .int z21, .int z22, .int z23, .int z24, .int z25, .int z26, .int z27, .int z28, .int z29, .int z30, .int z31, .int z32, .int z33, .int z34, .int z35, .long z36, .long z37, .int z38])), (mF, .inl (kB, 150000, .inl (apF f n k (hiB v k))))]) [0, 1] (by decide) rfl
              exact W.iret (v := (nI (n + k))) hx hb hr (fun t9 ht9 hW9 => ⟨⟨(nI (n + k)), ((apF f n k (hiB v k)), (n + k)), rfl, (by left; exact ⟨k, rfl, by omega, by omega, Or.inl ⟨by omega, rfl, rfl, rfl⟩⟩), by rw [ht9]; exact hP9, va_K.moved hW9.alike hK, hD9⟩, hS.F ht9⟩) hS.2.2 dX8_give_80
            · obtain ⟨z, ez⟩ : ∃ z, u = z + 1 := ⟨u - 1, by omega⟩
              subst ez
              have eq9 : (((nI (z + 1)) - 1) : Int32) = (nI z) := nI_pred z
              have hl : lv_has ls 5 [(0, .ref m0), (1, .long v), (3, .int (nI k)), (4, .int (nI z))] := by rw [← eq9]; exact hl
              refine lv_aload_n hx hb dX8_give_42 rfl (lv_at hl 0 rfl) ?_
              refine va_get (D := (dC, dI)) (ci := 8) (v := .ref mF) (C := RX8) (T := TX8) (N := 39) hx hb hts (by decide +kernel) hown hK hP 0 rfl rfl 3 (by decide) (hts (.fieldLink RX8 15 "SequenceFramesModel" "frames" "[B") (by decide +kernel)) (fun _ h9 => h9) rfl dX8_give_43 ?_
              refine lv_aload_n hx hb dX8_give_46 rfl (lv_at hl 0 rfl) ?_
              refine va_get (D := (dC, dI)) (ci := 8) (v := .int (nI (n + t))) (C := RX8) (T := TX8) (N := 39) hx hb hts (by decide +kernel) hown hK hP 0 rfl rfl 4 (by decide) (hts (.fieldLink RX8 141 "SequenceFramesModel" "framed" "I") (by decide +kernel)) (fun _ h9 => h9) rfl dX8_give_47 ?_
              refine lv_lload_n hx hb dX8_give_50 rfl (lv_at hl 1 rfl) ?_
              refine lv_bipush (v := 8) hx hb dX8_give_51 (by decide) ?_
              refine lv_iload hx hb dX8_give_53 (lv_at hl 3 rfl) ?_
              refine lv_imul hx hb dX8_give_55 ?_
              refine lv_is (y := (nI (8 * z))) ((zn_mul (show (8 : Int32) = nI 8 from rfl) rfl)) ?_
              refine lv_lshr (v := (lsar v (nI (8 * z)))) hx hb dX8_give_56 rfl ?_
              refine lv_l2i (v := ((lsar v (nI (8 * z))).toInt32)) hx hb dX8_give_57 rfl ?_
              refine lv_i2b (v := (i2b ((lsar v (nI (8 * z))).toInt32))) hx hb dX8_give_58 rfl ?_
              refine va_bast hx hb hK hP hD hS 1 0 rfl rfl (zin rfl (by omega) (by omega)) dX8_give_59 (fun H locs hP hD hS => ?_)
              have ez := (congrArg (upd (apF f n t (hiB v k)) ((nI (n + t)) : Int32).toNatClampNeg) (show vp_nar .byte (i2b ((lsar v (nI (8 * z))).toInt32)) = (i2b ((lsar v (nI (8 * z))).toInt32)) from pk_vb _)).trans (zst (apF f n t (hiB v k)) (i2b ((lsar v (nI (8 * z))).toInt32)) (i := (nI (n + t))) (j := (n + t)) rfl (by omega))
              have hP : va_P (dC, dI) vwCl [(m0, .inr (8, [.int 0, .ref z1, .int z2, .ref mF, .int (nI (n + t)), .ref z5, .int z6, .ref z7, .long z8, .ref z9, .ref z10, .ref z11, .ref z12, .ref z13, .int z14, .int z15, .int z16, .int z17, .ref z18, .ref z19, .ref z20, .int z21, .int z22, .int z23, .int z24, .int z25, .int z26, .int z27, .int z28, .int z29, .int z30, .int z31, .int z32, .int z33, .int z34, .int z35, .long z36, .long z37, .int z38])), (mF, .inl (kB, 150000, .inl (upd (apF f n t (hiB v k)) (n + t) (i2b ((lsar v (nI (8 * z))).toInt32)))))] H := by rw [← ez]; exact hP
              have hD : va_D A [(m0, .inr (8, [.int 0, .ref z1, .int z2, .ref mF, .int (nI (n + t)), .ref z5, .int z6, .ref z7, .long z8, .ref z9, .ref z10, .ref z11, .ref z12, .ref z13, .int z14, .int z15, .int z16, .int z17, .ref z18, .ref z19, .ref z20, .int z21, .int z22, .int z23, .int z24, .int z25, .int z26, .int z27, .int z28, .int z29, .int z30, .int z31, .int z32, .int z33, .int z34, .int z35, .long z36, .long z37, .int z38])), (mF, .inl (kB, 150000, .inl (upd (apF f n t (hiB v k)) (n + t) (i2b ((lsar v (nI (8 * z))).toInt32)))))] := by rw [← ez]; exact hD
              have eq9 : (upd (apF f n t (hiB v k)) (n + t) (i2b ((lsar v (nI (8 * z))).toInt32))) = (apF f n (t + 1) (hiB v k)) := by rw [← apF_s f n t (hiB v k)]; unfold hiB; rw [lo_sar v (by omega), show k - 1 - t = z by omega]
              have hP : va_P (dC, dI) vwCl [(m0, .inr (8, [.int 0, .ref z1, .int z2, .ref mF, .int (nI (n + t)), .ref z5, .int z6, .ref z7, .long z8, .ref z9, .ref z10, .ref z11, .ref z12, .ref z13, .int z14, .int z15, .int z16, .int z17, .ref z18, .ref z19, .ref z20, .int z21, .int z22, .int z23, .int z24, .int z25, .int z26, .int z27, .int z28, .int z29, .int z30, .int z31, .int z32, .int z33, .int z34, .int z35, .long z36, .long z37, .int z38])), (mF, .inl (kB, 150000, .inl (apF f n (t + 1) (hiB v k))))] H := by rw [← eq9]; exact hP
              have hD : va_D A [(m0, .inr (8, [.int 0, .ref z1, .int z2, .ref mF, .int (nI (n + t)), .ref z5, .int z6, .ref z7, .long z8, .ref z9, .ref z10, .ref z11, .ref z12, .ref z13, .int z14, .int z15, .int z16, .int z17, .ref z18, .ref z19, .ref z20, .int z21, .int z22, .int z23, .int z24, .int z25, .int z26, .int z27, .int z28, .int z29, .int z30, .int z31, .int z32, .int z33, .int z34, .int z35, .long z36, .long z37, .int z38])), (mF, .inl (kB, 150000, .inl (apF f n (t + 1) (hiB v k))))] := by rw [← eq9]; exact hD
              refine lv_aload_n hx hb dX8_give_60 rfl (lv_at hl 0 rfl) ?_
              refine lv_dup hx hb dX8_give_61 rfl ?_
              refine va_get (D := (dC, dI)) (ci := 8) (v := .int (nI (n + t))) (C := RX8) (T := TX8) (N := 39) hx hb hts (by decide +kernel) hown hK hP 0 rfl rfl 4 (by decide) (hts (.fieldLink RX8 141 "SequenceFramesModel" "framed" "I") (by decide +kernel)) (fun _ h9 => h9) rfl dX8_give_62 ?_
              refine lv_iconst (v := 1) hx hb dX8_give_65 (by decide) ?_
              refine lv_iadd hx hb dX8_give_66 ?_
              refine lv_is (y := (nI ((n + t) + 1))) ((zn_add rfl (show (1 : Int32) = nI 1 from rfl))) ?_
              refine va_put (D := (dC, dI)) (ci := 8) (v := .int (nI ((n + t) + 1))) (ty := .int) (C := RX8) (T := TX8) (N := 39) hx hb hts (by decide +kernel) tyX8 tyX8_ok nmX8 hown hK hP hD hS 0 rfl rfl 4 (by decide) (hts (.fieldLink RX8 141 "SequenceFramesModel" "framed" "I") (by decide +kernel)) (fun _ h9 => h9) rfl (by decide +kernel) rfl rfl (Nat.le_of_ble_eq_true rfl) dX8_give_67 (fun H locs hP hD hS => ?_)
              have hP : va_P (dC, dI) vwCl [(m0, .inr (8, [.int 0, .ref z1, .int z2, .ref mF, .int (nI ((n + t) + 1)), .ref z5, .int z6, .ref z7, .long z8, .ref z9, .ref z10, .ref z11, .ref z12, .ref z13, .int z14, .int z15, .int z16, .int z17, .ref z18, .ref z19, .ref z20, .int z21, .int z22, .int z23, .int z24, .int z25, .int z26, .int z27, .int z28, .int z29, .int z30, .int z31, .int z32, .int z33, .int z34, .int z35, .long z36, .long z37, .int z38])), (mF, .inl (kB, 150000, .inl (apF f n (t + 1) (hiB v k))))] H := hP
              have hD : va_D A [(m0, .inr (8, [.int 0, .ref z1, .int z2, .ref mF, .int (nI ((n + t) + 1)), .ref z5, .int z6, .ref z7, .long z8, .ref z9, .ref z10, .ref z11, .ref z12, .ref z13, .int z14, .int z15, .int z16, .int z17, .ref z18, .ref z19, .ref z20, .int z21, .int z22, .int z23, .int z24, .int z25, .int z26, .int z27, .int z28, .int z29, .int z30, .int z31, .int z32, .int z33, .int z34, .int z35, .long z36, .long z37, .int z38])), (mF, .inl (kB, 150000, .inl (apF f n (t + 1) (hiB v k))))] := hD
              refine lv_iinc (v := ((nI z) - 1)) (lv' := [(4, .int ((nI z) - 1)), (0, .ref m0), (1, .long v), (3, .int (nI k))]) hx hb dX8_give_70 hl (k := 3) rfl (zn_dec _) (by decide) rfl (fun ls hl => ?_)
              refine lv_goto (tgt := 37) hx hb dX8_give_73 (by decide) ?_
              exact hG2 _ _ _ (ih z (t + 1) (by omega) (by omega) (by omega) _ _ (hP.sub [0, 1] rfl) (hD.sub [0, 1] (by decide) rfl) hS ls (lv_sub hl [1, 2, 3, 0] rfl))
        exact hG2 _ _ _ (lp (k + 1) k 0 (by omega) (by omega) (Nat.lt_succ_self _) _ _ (hP.sub [0, 1] rfl) (hD.sub [0, 1] (by decide) rfl) hS ls (lv_sub hl [1, 2, 3, 0] rfl))
      · refine lv_bipush (v := (-2)) hx hb dX8_give_29 (by decide) ?_
        have hP9 := hP.sub (ws' := [(m0, .inr (8, [.int 0, .ref z1, .int z2, .ref mF, .int (nI n), .ref z5, .int z6, .ref z7, .long z8, .ref z9, .ref z10, .ref z11, .ref z12, .ref z13, .int z14, .int z15, .int z16, .int z17, .ref z18, .ref z19, .ref z20, .int z21, .int z22, .int z23, .int z24, .int z25, .int z26, .int z27, .int z28, .int z29, .int z30, .int z31, .int z32, .int z33, .int z34, .int z35, .long z36, .long z37, .int z38])), (mF, .inl (kB, 150000, .inl f))]) [0, 1] rfl
        have hD9 := hD.sub (ws' := [(m0, .inr (8, [.int 0, .ref z1, .int z2, .ref mF, .int (nI n), .ref z5, .int z6, .ref z7, .long z8, .ref z9, .ref z10, .ref z11, .ref z12, .ref z13, .int z14, .int z15, .int z16, .int z17, .ref z18, .ref z19, .ref z20, .int z21, .int z22, .int z23, .int z24, .int z25, .int z26, .int z27, .int z28, .int z29, .int z30, .int z31, .int z32, .int z33, .int z34, .int z35, .long z36, .long z37, .int z38])), (mF, .inl (kB, 150000, .inl f))]) [0, 1] (by decide) rfl
        exact W.iret (v := (-2)) hx hb hr (fun t9 ht9 hW9 => ⟨⟨(-2), (f, n), rfl, (by left; exact ⟨k, rfl, by omega, by omega, Or.inr ⟨by omega, rfl, rfl, rfl⟩⟩), by rw [ht9]; exact hP9, va_K.moved hW9.alike hK, hD9⟩, hS.F ht9⟩) hS.2.2 dX8_give_31
    · refine lv_iconst (v := (-1)) hx hb dX8_give_16 (by decide) ?_
      have hP9 := hP.sub (ws' := [(m0, .inr (8, [.int 0, .ref z1, .int z2, .ref mF, .int (nI n), .ref z5, .int z6, .ref z7, .long z8, .ref z9, .ref z10, .ref z11, .ref z12, .ref z13, .int z14, .int z15, .int z16, .int z17, .ref z18, .ref z19, .ref z20, .int z21, .int z22, .int z23, .int z24, .int z25, .int z26, .int z27, .int z28, .int z29, .int z30, .int z31, .int z32, .int z33, .int z34, .int z35, .long z36, .long z37, .int z38])), (mF, .inl (kB, 150000, .inl f))]) [0, 1] rfl
      have hD9 := hD.sub (ws' := [(m0, .inr (8, [.int 0, .ref z1, .int z2, .ref mF, .int (nI n), .ref z5, .int z6, .ref z7, .long z8, .ref z9, .ref z10, .ref z11, .ref z12, .ref z13, .int z14, .int z15, .int z16, .int z17, .ref z18, .ref z19, .ref z20, .int z21, .int z22, .int z23, .int z24, .int z25, .int z26, .int z27, .int z28, .int z29, .int z30, .int z31, .int z32, .int z33, .int z34, .int z35, .long z36, .long z37, .int z38])), (mF, .inl (kB, 150000, .inl f))]) [0, 1] (by decide) rfl
      exact W.iret (v := (-1)) hx hb hr (fun t9 ht9 hW9 => ⟨⟨(-1), (f, n), rfl, (by right; exact ⟨by omega, rfl, rfl, rfl⟩), by rw [ht9]; exact hP9, va_K.moved hW9.alike hK, hD9⟩, hS.F ht9⟩) hS.2.2 dX8_give_17

set_option maxHeartbeats 4000000 in
set_option maxRecDepth 100000 in
theorem c_Mod_fill (l : Launch) (dC : Nat → ClassId) (dI : Nat → Nat → Nat) (kB kI : ClassId) (m0 : Nat) (z0 : Int32) (z3 : Nat) (z4 : Int32) (z5 : Nat) (z6 : Int32) (z7 : Nat) (z8 : Int64) (z9 : Nat) (z10 : Nat) (z11 : Nat) (z12 : Nat) (z13 : Nat) (z14 : Int32) (z15 : Int32) (z16 : Int32) (z17 : Int32) (z18 : Nat) (z19 : Nat) (z20 : Nat) (z21 : Int32) (z22 : Int32) (z23 : Int32) (z24 : Int32) (z25 : Int32) (z26 : Int32) (z27 : Int32) (z28 : Int32) (z29 : Int32) (z30 : Int32) (z31 : Int32) (z32 : Int32) (z33 : Int32) (z34 : Int32) (z35 : Int32) (z36 : Int64) (z37 : Int64) (z38 : Int32) (mC : Nat) (n : Nat) (f : Nat → Int32) (x : Int32) (y : Int32) (yi : Int) (hn : n ≤ 140000) (yh : y.toInt = yi) : zMi l yX8_fill wsX8_fill ({ frames := 1, cells := 0, slots := 0, locals := 21 }) (dC, dI) kB kI [.ref m0, .int x, .int y] [(m0, .inr (8, [.int z0, .ref mC, .int (nI n), .ref z3, .int z4, .ref z5, .int z6, .ref z7, .long z8, .ref z9, .ref z10, .ref z11, .ref z12, .ref z13, .int z14, .int z15, .int z16, .int z17, .ref z18, .ref z19, .ref z20, .int z21, .int z22, .int z23, .int z24, .int z25, .int z26, .int z27, .int z28, .int z29, .int z30, .int z31, .int z32, .int z33, .int z34, .int z35, .long z36, .long z37, .int z38])), (mC, .inl (kB, 140000, .inl f))] 0 0 (fun (r : Int32) => fun uu : (Nat → Int32) × Nat => (∃ k : Nat, yi = k ∧ 1 ≤ k ∧ k ≤ 70000 ∧ ((n + k ≤ 140000 ∧ r = nI (n + k) ∧ uu.2 = n + k ∧ uu.1 = apF f n k (fun _ => i2b x)) ∨ (140000 < n + k ∧ r = -2 ∧ uu.2 = n ∧ uu.1 = f))) ∨ ((yi < 1 ∨ 70000 < yi) ∧ r = -1 ∧ uu.2 = n ∧ uu.1 = f)) (fun uu : (Nat → Int32) × Nat => [(m0, .inr (8, [.int 0, .ref mC, .int (nI uu.2), .ref z3, .int z4, .ref z5, .int z6, .ref z7, .long z8, .ref z9, .ref z10, .ref z11, .ref z12, .ref z13, .int z14, .int z15, .int z16, .int z17, .ref z18, .ref z19, .ref z20, .int z21, .int z22, .int z23, .int z24, .int z25, .int z26, .int z27, .int z28, .int z29, .int z30, .int z31, .int z32, .int z33, .int z34, .int z35, .long z36, .long z37, .int z38])), (mC, .inl (kB, 140000, .inl uu.1))]) := by
  intro sz
  refine Met.ofW (cc := cX8_fill) (maxL := 5) (ret := (some .int)) (by decide) rfl ?_
  intro p e s m args below meth c s₁ B hml hv
  obtain ⟨rfl, hsz, hP, hK, hD0⟩ := hv
  have hx := B.exec
  have hb := B.bytes
  have hr := B.returns
  have hts := atoms_spec (ws := wsX8_fill) B.pre
  have hown : s.vm.findClass RX8 = some m.cls := findClass_of_methodNamed B.named
  have hlocks := B.notSynchronized
  subst hsz
  have hD := hD0.self (sz := s.heap.size)
  generalize hAe : va_A [(m0, .inr (8, [.int z0, .ref mC, .int (nI n), .ref z3, .int z4, .ref z5, .int z6, .ref z7, .long z8, .ref z9, .ref z10, .ref z11, .ref z12, .ref z13, .int z14, .int z15, .int z16, .int z17, .ref z18, .ref z19, .ref z20, .int z21, .int z22, .int z23, .int z24, .int z25, .int z26, .int z27, .int z28, .int z29, .int z30, .int z31, .int z32, .int z33, .int z34, .int z35, .long z36, .long z37, .int z38])), (mC, .inl (kB, 140000, .inl f))] s.heap.size = A at hD ⊢
  have hA : ∀ q : Nat, s.heap.size ≤ q → A q := fun q h => by rw [← hAe]; exact Or.inr h
  have hS : va_S A s.heap s.heap [] := va_S.rf
  have hP : va_P (dC, dI) vwCl [(m0, .inr (8, [.int z0, .ref mC, .int (nI n), .ref z3, .int z4, .ref z5, .int z6, .ref z7, .long z8, .ref z9, .ref z10, .ref z11, .ref z12, .ref z13, .int z14, .int z15, .int z16, .int z17, .ref z18, .ref z19, .ref z20, .int z21, .int z22, .int z23, .int z24, .int z25, .int z26, .int z27, .int z28, .int z29, .int z30, .int z31, .int z32, .int z33, .int z34, .int z35, .long z36, .long z37, .int z38])), (mC, .inl (kB, 140000, .inl f))] s.heap := hP
  have hl := lv_entry ([.ref m0, .int x, .int y]) (n := 5) (Nat.le_of_ble_eq_true rfl)
  rw [lg_entry_eq]
  generalize (lg_sl ([.ref m0, .int x, .int y]) ++ List.replicate (5 - (lg_sl ([.ref m0, .int x, .int y])).length) Slot.unset).toArray = ls at hl ⊢
  have hl : lv_has ls 5 [(0, .ref m0), (1, .int x), (2, .int y)] := hl
  refine zG (fun GG hG1 hG2 => ?_)
  refine lv_aload_n hx hb dX8_fill_0 rfl (lv_at hl 0 rfl) ?_
  refine lv_iconst (v := 0) hx hb dX8_fill_1 (by decide) ?_
  refine va_put (D := (dC, dI)) (ci := 8) (v := .int 0) (ty := .int) (C := RX8) (T := TX8) (N := 39) hx hb hts (by decide +kernel) tyX8 tyX8_ok nmX8 hown hK hP hD hS 0 rfl rfl 0 (by decide) (hts (.fieldLink RX8 55 "SequenceFramesModel" "code" "I") (by decide +kernel)) (fun _ h9 => h9) rfl (by decide +kernel) rfl rfl (Nat.le_of_ble_eq_true rfl) dX8_fill_2 (fun H locs hP hD hS => ?_)
  have hP : va_P (dC, dI) vwCl [(m0, .inr (8, [.int 0, .ref mC, .int (nI n), .ref z3, .int z4, .ref z5, .int z6, .ref z7, .long z8, .ref z9, .ref z10, .ref z11, .ref z12, .ref z13, .int z14, .int z15, .int z16, .int z17, .ref z18, .ref z19, .ref z20, .int z21, .int z22, .int z23, .int z24, .int z25, .int z26, .int z27, .int z28, .int z29, .int z30, .int z31, .int z32, .int z33, .int z34, .int z35, .long z36, .long z37, .int z38])), (mC, .inl (kB, 140000, .inl f))] H := hP
  have hD : va_D A [(m0, .inr (8, [.int 0, .ref mC, .int (nI n), .ref z3, .int z4, .ref z5, .int z6, .ref z7, .long z8, .ref z9, .ref z10, .ref z11, .ref z12, .ref z13, .int z14, .int z15, .int z16, .int z17, .ref z18, .ref z19, .ref z20, .int z21, .int z22, .int z23, .int z24, .int z25, .int z26, .int z27, .int z28, .int z29, .int z30, .int z31, .int z32, .int z33, .int z34, .int z35, .long z36, .long z37, .int z38])), (mC, .inl (kB, 140000, .inl f))] := hD
  refine lv_aload_n hx hb dX8_fill_5 rfl (lv_at hl 0 rfl) ?_
  refine lv_iload_n hx hb dX8_fill_6 rfl (lv_at hl 2 rfl) ?_
  refine z_calli (wr := [(mC, .inl (kB, 140000, .inl f))]) (va_runV (As := [.int y]) (rest := []) ⟨hx, hb, hml, hown, hts⟩ (c_Mod_mayCome l dC dI kB kI m0 0 mC z3 z4 z5 z6 z7 z8 z9 z10 z11 z12 z13 z14 z15 z16 z17 z18 z19 z20 z21 z22 z23 z24 z25 z26 z27 z28 z29 z30 z31 z32 z33 z34 z35 z36 z37 z38 n y yi (by omega) yh H.size) (cwV 1 hts gX8_fill_X8_mayCome rfl rfl rfl (by decide +kernel) ⟨Nat.le_of_ble_eq_true rfl, Nat.le_of_ble_eq_true rfl⟩) (z_preV hK (hP.sub [0] rfl) (hD.sub [0] (by decide) rfl) (va_recv hK hP (ci := 8) (q0 := 0) rfl rfl)) rfl rfl hl.1 rfl (lv_room (Nat.le_of_ble_eq_true rfl)) dX8_fill_7 ⟨Nat.le_of_ble_eq_true rfl, Nat.le_of_ble_eq_true rfl⟩) hK hP hD hS hA [0] [1] rfl rfl (by decide) (by decide) (fun r1 uq2 H locs hw hP hD hS => ?_)
  replace hw : (r1 = 0 ∧ 1 ≤ yi ∧ yi ≤ 70000 ∧ n + yi ≤ 140000) ∨ (r1 = -1 ∧ (yi < 1 ∨ 70000 < yi)) ∨ (r1 = -2 ∧ 1 ≤ yi ∧ yi ≤ 70000 ∧ 140000 < n + yi) := hw
  have hP : va_P (dC, dI) vwCl [(mC, .inl (kB, 140000, .inl f)), (m0, .inr (8, [.int 0, .ref mC, .int (nI n), .ref z3, .int z4, .ref z5, .int z6, .ref z7, .long z8, .ref z9, .ref z10, .ref z11, .ref z12, .ref z13, .int z14, .int z15, .int z16, .int z17, .ref z18, .ref z19, .ref z20, .int z21, .int z22, .int z23, .int z24, .int z25, .int z26, .int z27, .int z28, .int z29, .int z30, .int z31, .int z32, .int z33, .int z34, .int z35, .long z36, .long z37, .int z38]))] H := hP
  have hD : va_D A [(mC, .inl (kB, 140000, .inl f)), (m0, .inr (8, [.int 0, .ref mC, .int (nI n), .ref z3, .int z4, .ref z5, .int z6, .ref z7, .long z8, .ref z9, .ref z10, .ref z11, .ref z12, .ref z13, .int z14, .int z15, .int z16, .int z17, .ref z18, .ref z19, .ref z20, .int z21, .int z22, .int z23, .int z24, .int z25, .int z26, .int z27, .int z28, .int z29, .int z30, .int z31, .int z32, .int z33, .int z34, .int z35, .long z36, .long z37, .int z38]))] := hD
  rcases hw with ⟨er, h1, h2, h3⟩ | ⟨er, hw⟩ | ⟨er, h1, h2, h3⟩
  · subst er
    obtain ⟨k, kb, ye⟩ := z_nat (x := y) (by omega)
    subst ye
    rw [nI_toInt kb] at yh
    subst yh
    refine lv_istore_n (lv' := [(3, .int 0), (0, .ref m0), (1, .int x), (2, .int (nI k))]) hx hb dX8_fill_10 rfl hl (by decide) rfl (fun ls hl => ?_)
    refine lv_iload_n hx hb dX8_fill_11 rfl (lv_at hl 0 rfl) ?_
    refine lv_if_ge (tgt := 17) hx hb dX8_fill_12 (by decide) (fun _ => ?_) (fun c => absurd c (by decide))
    refine lv_iconst (v := 0) hx hb dX8_fill_17 (by decide) ?_
    refine lv_istore (lv' := [(4, .int 0), (3, .int 0), (0, .ref m0), (1, .int x), (2, .int (nI k))]) hx hb dX8_fill_18 hl (by decide) rfl (fun ls hl => ?_)
    have eq9 : f = (apF f n 0 (fun _ => i2b x)) := (apF_0 f n (fun _ => i2b x)).symm
    have hP : va_P (dC, dI) vwCl [(mC, .inl (kB, 140000, .inl (apF f n 0 (fun _ => i2b x)))), (m0, .inr (8, [.int 0, .ref mC, .int (nI n), .ref z3, .int z4, .ref z5, .int z6, .ref z7, .long z8, .ref z9, .ref z10, .ref z11, .ref z12, .ref z13, .int z14, .int z15, .int z16, .int z17, .ref z18, .ref z19, .ref z20, .int z21, .int z22, .int z23, .int z24, .int z25, .int z26, .int z27, .int z28, .int z29, .int z30, .int z31, .int z32, .int z33, .int z34, .int z35, .long z36, .long z37, .int z38]))] H := by rw [← eq9]; exact hP
    have hD : va_D A [(mC, .inl (kB, 140000, .inl (apF f n 0 (fun _ => i2b x)))), (m0, .inr (8, [.int 0, .ref mC, .int (nI n), .ref z3, .int z4, .ref z5, .int z6, .ref z7, .long z8, .ref z9, .ref z10, .ref z11, .ref z12, .ref z13, .int z14, .int z15, .int z16, .int z17, .ref z18, .ref z19, .ref z20, .int z21, .int z22, .int z23, .int z24, .int z25, .int z26, .int z27, .int z28, .int z29, .int z30, .int z31, .int z32, .int z33, .int z34, .int z35, .long z36, .long z37, .int z38]))] := by rw [← eq9]; exact hD
    have lp : ∀ (kf : Nat) (t : Nat) (ht : t ≤ k), k - t < kf → ∀ (H : Heap) (locs : List Loc), va_P (dC, dI) vwCl [(m0, .inr (8, [.int 0, .ref mC, .int (nI n), .ref z3, .int z4, .ref z5, .int z6, .ref z7, .long z8, .ref z9, .ref z10, .ref z11, .ref z12, .ref z13, .int z14, .int z15, .int z16, .int z17, .ref z18, .ref z19, .ref z20, .int z21, .int z22, .int z23, .int z24, .int z25, .int z26, .int z27, .int z28, .int z29, .int z30, .int z31, .int z32, .int z33, .int z34, .int z35, .long z36, .long z37, .int z38])), (mC, .inl (kB, 140000, .inl (apF f n t (fun _ => i2b x))))] H → va_D A [(m0, .inr (8, [.int 0, .ref mC, .int (nI n), .ref z3, .int z4, .ref z5, .int z6, .ref z7, .long z8, .ref z9, .ref z10, .ref z11, .ref z12, .ref z13, .int z14, .int z15, .int z16, .int z17, .ref z18, .ref z19, .ref z20, .int z21, .int z22, .int z23, .int z24, .int z25, .int z26, .int z27, .int z28, .int z29, .int z30, .int z31, .int z32, .int z33, .int z34, .int z35, .long z36, .long z37, .int z38])), (mC, .inl (kB, 140000, .inl (apF f n t (fun _ => i2b x))))] → va_S A s.heap H locs → ∀ (ls : Array Slot), lv_has ls 5 [(0, .ref m0), (1, .int x), (2, .int (nI k)), (4, .int (nI t))] → GG H locs (F0 m 20 ls []) := by
      intro kf
      induction kf with
      | zero => intro t ht hm; exact absurd hm (Nat.not_lt_zero _)
      | succ kf ih =>
        intro t ht hm H locs hP hD hS ls hl
        apply hG1
        refine lv_iload hx hb dX8_fill_20 (lv_at hl 3 rfl) ?_
        refine lv_iload_n hx hb dX8_fill_22 rfl (lv_at hl 2 rfl) ?_
        refine zb_icmp_ge (tgt := 46) (a := ((t : Nat) : Int)) (b := ((k : Nat) : Int)) hx hb dX8_fill_23 (by decide) (nI_toInt (by omega)) (nI_toInt (by omega)) (fun c23 => ?_) (fun c23 => ?_)
        · have et9 : k = t := by omega
          subst et9
          refine lv_aload_n hx hb dX8_fill_46 rfl (lv_at hl 0 rfl) ?_
          refine lv_dup hx hb dX8_fill_47 rfl ?_
          refine va_get (D := (dC, dI)) (ci := 8) (v := .int (nI n)) (C := RX8) (T := TX8) (N := 39) hx hb hts (by decide +kernel) hown hK hP 0 rfl rfl 2 (by decide) (hts (.fieldLink RX8 74 "SequenceFramesModel" "size" "I") (by decide +kernel)) (fun _ h9 => h9) rfl dX8_fill_48 ?_
          refine lv_iload_n hx hb dX8_fill_51 rfl (lv_at hl 2 rfl) ?_
          refine lv_iadd hx hb dX8_fill_52 ?_
          refine lv_is (y := (nI (n + k))) ((zn_add rfl rfl)) ?_
          refine va_put (D := (dC, dI)) (ci := 8) (v := .int (nI (n + k))) (ty := .int) (C := RX8) (T := TX8) (N := 39) hx hb hts (by decide +kernel) tyX8 tyX8_ok nmX8 hown hK hP hD hS 0 rfl rfl 2 (by decide) (hts (.fieldLink RX8 74 "SequenceFramesModel" "size" "I") (by decide +kernel)) (fun _ h9 => h9) rfl (by decide +kernel) rfl rfl (Nat.le_of_ble_eq_true rfl) dX8_fill_53 (fun H locs hP hD hS => ?_)
          have hP : va_P (dC, dI) vwCl [(m0, .inr (8, [.int 0, .ref mC, .int (nI (n + k)), .ref z3, .int z4, .ref z5, .int z6, .ref z7, .long z8, .ref z9, .ref z10, .ref z11, .ref z12, .ref z13, .int z14, .int z15, .int z16, .int z17, .ref z18, .ref z19, .ref z20, .int z21, .int z22, .int z23, .int z24, .int z25, .int z26, .int z27, .int z28, .int z29, .int z30, .int z31, .int z32, .int z33, .int z34, .int z35, .long z36, .long z37, .int z38])), (mC, .inl (kB, 140000, .inl (apF f n k (fun _ => i2b x))))] H := hP
          have hD : va_D A [(m0, .inr (8, [.int 0, .ref mC, .int (nI (n + k)), .ref z3, .int z4, .ref z5, .int z6, .ref z7, .long z8, .ref z9, .ref z10, .ref z11, .ref z12, .ref z13, .int z14, .int z15, .int z16, .int z17, .ref z18, .ref z19, .ref z20, .int z21, .int z22, .int z23, .int z24, .int z25, .int z26, .int z27, .int z28, .int z29, .int z30, .int z31, .int z32, .int z33, .int z34, .int z35, .long z36, .long z37, .int z38])), (mC, .inl (kB, 140000, .inl (apF f n k (fun _ => i2b x))))] := hD
          refine lv_aload_n hx hb dX8_fill_56 rfl (lv_at hl 0 rfl) ?_
          refine va_get (D := (dC, dI)) (ci := 8) (v := .int (nI (n + k))) (C := RX8) (T := TX8) (N := 39) hx hb hts (by decide +kernel) hown hK hP 0 rfl rfl 2 (by decide) (hts (.fieldLink RX8 74 "SequenceFramesModel" "size" "I") (by decide +kernel)) (fun _ h9 => h9) rfl dX8_fill_57 ?_
          have hP9 := hP.sub (ws' := [(m0, .inr (8, [.int 0, .ref mC, .int (nI (n + k)), .ref z3, .int z4, .ref z5, .int z6, .ref z7, .long z8, .ref z9, .ref z10, .ref z11, .ref z12, .ref z13, .int z14, .int z15, .int z16, .int z17, .ref z18, .ref z19, .ref z20, .int z21, .int z22, .int z23, .int z24, .int z25, .int z26, .int z27, .int z28, .int z29, .int z30, .int z31, .int z32, .int z33, .int z34, .int z35, .long z36, .long z37, .int z38])), (mC, .inl (kB, 140000, .inl (apF f n k (fun _ => i2b x))))]) [0, 1] rfl
          have hD9 := hD.sub (ws' := [(m0, .inr (8, [.int 0, .ref mC, .int (nI (n + k)), .ref z3, .int z4, .ref z5, .int z6, .ref z7, .long z8, .ref z9, .ref z10, .ref z11, .ref z12, .ref z13, .int z14, .int z15, .int z16, .int z17, .ref z18, .ref z19, .ref z20, .int z21, .int z22, .int z23, .int z24, .int z25, .int z26, .int z27, .int z28, .int z29, .int z30, .int z31, .int z32, .int z33, .int z34, .int z35, .long z36, .long z37, .int z38])), (mC, .inl (kB, 140000, .inl (apF f n k (fun _ => i2b x))))]) [0, 1] (by decide) rfl
          exact W.iret (v := (nI (n + k))) hx hb hr (fun t9 ht9 hW9 => ⟨⟨(nI (n + k)), ((apF f n k (fun _ => i2b x)), (n + k)), rfl, (by left; exact ⟨k, rfl, by omega, by omega, Or.inl ⟨by omega, rfl, rfl, rfl⟩⟩), by rw [ht9]; exact hP9, va_K.moved hW9.alike hK, hD9⟩, hS.F ht9⟩) hS.2.2 dX8_fill_60
        · refine lv_aload_n hx hb dX8_fill_26 rfl (lv_at hl 0 rfl) ?_
          refine va_get (D := (dC, dI)) (ci := 8) (v := .ref mC) (C := RX8) (T := TX8) (N := 39) hx hb hts (by decide +kernel) hown hK hP 0 rfl rfl 1 (by decide) (hts (.fieldLink RX8 10 "SequenceFramesModel" "content" "[B") (by decide +kernel)) (fun _ h9 => h9) rfl dX8_fill_27 ?_
          refine lv_aload_n hx hb dX8_fill_30 rfl (lv_at hl 0 rfl) ?_
          refine va_get (D := (dC, dI)) (ci := 8) (v := .int (nI n)) (C := RX8) (T := TX8) (N := 39) hx hb hts (by decide +kernel) hown hK hP 0 rfl rfl 2 (by decide) (hts (.fieldLink RX8 74 "SequenceFramesModel" "size" "I") (by decide +kernel)) (fun _ h9 => h9) rfl dX8_fill_31 ?_
          refine lv_iload hx hb dX8_fill_34 (lv_at hl 3 rfl) ?_
          refine lv_iadd hx hb dX8_fill_36 ?_
          refine lv_is (y := (nI (n + t))) ((zn_add rfl rfl)) ?_
          refine lv_iload_n hx hb dX8_fill_37 rfl (lv_at hl 1 rfl) ?_
          refine lv_i2b (v := (i2b x)) hx hb dX8_fill_38 rfl ?_
          refine va_bast hx hb hK hP hD hS 1 0 rfl rfl (zin rfl (by omega) (by omega)) dX8_fill_39 (fun H locs hP hD hS => ?_)
          have ez := (congrArg (upd (apF f n t (fun _ => i2b x)) ((nI (n + t)) : Int32).toNatClampNeg) (show vp_nar .byte (i2b x) = (i2b x) from pk_vb _)).trans (zst (apF f n t (fun _ => i2b x)) (i2b x) (i := (nI (n + t))) (j := (n + t)) rfl (by omega))
          have hP : va_P (dC, dI) vwCl [(m0, .inr (8, [.int 0, .ref mC, .int (nI n), .ref z3, .int z4, .ref z5, .int z6, .ref z7, .long z8, .ref z9, .ref z10, .ref z11, .ref z12, .ref z13, .int z14, .int z15, .int z16, .int z17, .ref z18, .ref z19, .ref z20, .int z21, .int z22, .int z23, .int z24, .int z25, .int z26, .int z27, .int z28, .int z29, .int z30, .int z31, .int z32, .int z33, .int z34, .int z35, .long z36, .long z37, .int z38])), (mC, .inl (kB, 140000, .inl (upd (apF f n t (fun _ => i2b x)) (n + t) (i2b x))))] H := by rw [← ez]; exact hP
          have hD : va_D A [(m0, .inr (8, [.int 0, .ref mC, .int (nI n), .ref z3, .int z4, .ref z5, .int z6, .ref z7, .long z8, .ref z9, .ref z10, .ref z11, .ref z12, .ref z13, .int z14, .int z15, .int z16, .int z17, .ref z18, .ref z19, .ref z20, .int z21, .int z22, .int z23, .int z24, .int z25, .int z26, .int z27, .int z28, .int z29, .int z30, .int z31, .int z32, .int z33, .int z34, .int z35, .long z36, .long z37, .int z38])), (mC, .inl (kB, 140000, .inl (upd (apF f n t (fun _ => i2b x)) (n + t) (i2b x))))] := by rw [← ez]; exact hD
          have eq9 : (upd (apF f n t (fun _ => i2b x)) (n + t) (i2b x)) = (apF f n (t + 1) (fun _ => i2b x)) := apF_s f n t (fun _ => i2b x)
          have hP : va_P (dC, dI) vwCl [(m0, .inr (8, [.int 0, .ref mC, .int (nI n), .ref z3, .int z4, .ref z5, .int z6, .ref z7, .long z8, .ref z9, .ref z10, .ref z11, .ref z12, .ref z13, .int z14, .int z15, .int z16, .int z17, .ref z18, .ref z19, .ref z20, .int z21, .int z22, .int z23, .int z24, .int z25, .int z26, .int z27, .int z28, .int z29, .int z30, .int z31, .int z32, .int z33, .int z34, .int z35, .long z36, .long z37, .int z38])), (mC, .inl (kB, 140000, .inl (apF f n (t + 1) (fun _ => i2b x))))] H := by rw [← eq9]; exact hP
          have hD : va_D A [(m0, .inr (8, [.int 0, .ref mC, .int (nI n), .ref z3, .int z4, .ref z5, .int z6, .ref z7, .long z8, .ref z9, .ref z10, .ref z11, .ref z12, .ref z13, .int z14, .int z15, .int z16, .int z17, .ref z18, .ref z19, .ref z20, .int z21, .int z22, .int z23, .int z24, .int z25, .int z26, .int z27, .int z28, .int z29, .int z30, .int z31, .int z32, .int z33, .int z34, .int z35, .long z36, .long z37, .int z38])), (mC, .inl (kB, 140000, .inl (apF f n (t + 1) (fun _ => i2b x))))] := by rw [← eq9]; exact hD
          refine lv_iinc (v := (nI (t + 1))) (lv' := [(4, .int (nI (t + 1))), (0, .ref m0), (1, .int x), (2, .int (nI k))]) hx hb dX8_fill_40 hl (k := 3) rfl (zn_inc t 1 (by decide)) (by decide) rfl (fun ls hl => ?_)
          refine lv_goto (tgt := 20) hx hb dX8_fill_43 (by decide) ?_
          exact hG2 _ _ _ (ih (t + 1) (by omega) (by omega) _ _ (hP.sub [0, 1] rfl) (hD.sub [0, 1] (by decide) rfl) hS ls (lv_sub hl [1, 2, 3, 0] rfl))
    exact hG2 _ _ _ (lp (k - 0 + 1) 0 (by omega) (Nat.lt_succ_self _) _ _ (hP.sub [1, 0] rfl) (hD.sub [1, 0] (by decide) rfl) hS ls (lv_sub hl [2, 3, 4, 0] rfl))
  · subst er
    refine lv_istore_n (lv' := [(3, .int (-1)), (0, .ref m0), (1, .int x), (2, .int y)]) hx hb dX8_fill_10 rfl hl (by decide) rfl (fun ls hl => ?_)
    refine lv_iload_n hx hb dX8_fill_11 rfl (lv_at hl 0 rfl) ?_
    refine lv_if_ge (tgt := 17) hx hb dX8_fill_12 (by decide) (fun c => absurd c (by decide)) (fun _ => ?_)
    refine lv_iload_n hx hb dX8_fill_15 rfl (lv_at hl 0 rfl) ?_
    have hP9 := hP.sub (ws' := [(m0, .inr (8, [.int 0, .ref mC, .int (nI n), .ref z3, .int z4, .ref z5, .int z6, .ref z7, .long z8, .ref z9, .ref z10, .ref z11, .ref z12, .ref z13, .int z14, .int z15, .int z16, .int z17, .ref z18, .ref z19, .ref z20, .int z21, .int z22, .int z23, .int z24, .int z25, .int z26, .int z27, .int z28, .int z29, .int z30, .int z31, .int z32, .int z33, .int z34, .int z35, .long z36, .long z37, .int z38])), (mC, .inl (kB, 140000, .inl f))]) [1, 0] rfl
    have hD9 := hD.sub (ws' := [(m0, .inr (8, [.int 0, .ref mC, .int (nI n), .ref z3, .int z4, .ref z5, .int z6, .ref z7, .long z8, .ref z9, .ref z10, .ref z11, .ref z12, .ref z13, .int z14, .int z15, .int z16, .int z17, .ref z18, .ref z19, .ref z20, .int z21, .int z22, .int z23, .int z24, .int z25, .int z26, .int z27, .int z28, .int z29, .int z30, .int z31, .int z32, .int z33, .int z34, .int z35, .long z36, .long z37, .int z38])), (mC, .inl (kB, 140000, .inl f))]) [1, 0] (by decide) rfl
    exact W.iret (v := (-1)) hx hb hr (fun t9 ht9 hW9 => ⟨⟨(-1), (f, n), rfl, (by right; exact ⟨hw, rfl, rfl, rfl⟩), by rw [ht9]; exact hP9, va_K.moved hW9.alike hK, hD9⟩, hS.F ht9⟩) hS.2.2 dX8_fill_16
  · subst er
    obtain ⟨k, kb, ye⟩ := z_nat (x := y) (by omega)
    subst ye
    rw [nI_toInt kb] at yh
    subst yh
    refine lv_istore_n (lv' := [(3, .int (-2)), (0, .ref m0), (1, .int x), (2, .int (nI k))]) hx hb dX8_fill_10 rfl hl (by decide) rfl (fun ls hl => ?_)
    refine lv_iload_n hx hb dX8_fill_11 rfl (lv_at hl 0 rfl) ?_
    refine lv_if_ge (tgt := 17) hx hb dX8_fill_12 (by decide) (fun c => absurd c (by decide)) (fun _ => ?_)
    refine lv_iload_n hx hb dX8_fill_15 rfl (lv_at hl 0 rfl) ?_
    have hP9 := hP.sub (ws' := [(m0, .inr (8, [.int 0, .ref mC, .int (nI n), .ref z3, .int z4, .ref z5, .int z6, .ref z7, .long z8, .ref z9, .ref z10, .ref z11, .ref z12, .ref z13, .int z14, .int z15, .int z16, .int z17, .ref z18, .ref z19, .ref z20, .int z21, .int z22, .int z23, .int z24, .int z25, .int z26, .int z27, .int z28, .int z29, .int z30, .int z31, .int z32, .int z33, .int z34, .int z35, .long z36, .long z37, .int z38])), (mC, .inl (kB, 140000, .inl f))]) [1, 0] rfl
    have hD9 := hD.sub (ws' := [(m0, .inr (8, [.int 0, .ref mC, .int (nI n), .ref z3, .int z4, .ref z5, .int z6, .ref z7, .long z8, .ref z9, .ref z10, .ref z11, .ref z12, .ref z13, .int z14, .int z15, .int z16, .int z17, .ref z18, .ref z19, .ref z20, .int z21, .int z22, .int z23, .int z24, .int z25, .int z26, .int z27, .int z28, .int z29, .int z30, .int z31, .int z32, .int z33, .int z34, .int z35, .long z36, .long z37, .int z38])), (mC, .inl (kB, 140000, .inl f))]) [1, 0] (by decide) rfl
    exact W.iret (v := (-2)) hx hb hr (fun t9 ht9 hW9 => ⟨⟨(-2), (f, n), rfl, (by left; exact ⟨k, rfl, by omega, by omega, Or.inr ⟨by omega, rfl, rfl, rfl⟩⟩), by rw [ht9]; exact hP9, va_K.moved hW9.alike hK, hD9⟩, hS.F ht9⟩) hS.2.2 dX8_fill_16

set_option maxHeartbeats 4000000 in
set_option maxRecDepth 100000 in
theorem c_Mod_mix (l : Launch) (dC : Nat → ClassId) (dI : Nat → Nat → Nat) (kB kI : ClassId) (m0 : Nat) (z0 : Int32) (z3 : Nat) (z4 : Int32) (z5 : Nat) (z6 : Int32) (z7 : Nat) (z8 : Int64) (z9 : Nat) (z10 : Nat) (z11 : Nat) (z12 : Nat) (z13 : Nat) (z14 : Int32) (z15 : Int32) (z16 : Int32) (z17 : Int32) (z18 : Nat) (z19 : Nat) (z20 : Nat) (z21 : Int32) (z22 : Int32) (z23 : Int32) (z24 : Int32) (z25 : Int32) (z26 : Int32) (z27 : Int32) (z28 : Int32) (z29 : Int32) (z30 : Int32) (z31 : Int32) (z32 : Int32) (z33 : Int32) (z34 : Int32) (z35 : Int32) (z36 : Int64) (z37 : Int64) (z38 : Int32) (mC : Nat) (n : Nat) (f : Nat → Int32) (x : Int32) (y : Int32) (yi : Int) (hn : n ≤ 140000) (yh : y.toInt = yi) : zMi l yX8_mix wsX8_mix ({ frames := 1, cells := 0, slots := 0, locals := 21 }) (dC, dI) kB kI [.ref m0, .int x, .int y] [(m0, .inr (8, [.int z0, .ref mC, .int (nI n), .ref z3, .int z4, .ref z5, .int z6, .ref z7, .long z8, .ref z9, .ref z10, .ref z11, .ref z12, .ref z13, .int z14, .int z15, .int z16, .int z17, .ref z18, .ref z19, .ref z20, .int z21, .int z22, .int z23, .int z24, .int z25, .int z26, .int z27, .int z28, .int z29, .int z30, .int z31, .int z32, .int z33, .int z34, .int z35, .long z36, .long z37, .int z38])), (mC, .inl (kB, 140000, .inl f))] 0 0 (fun (r : Int32) => fun uu : (Nat → Int32) × Nat => (∃ k : Nat, yi = k ∧ 1 ≤ k ∧ k ≤ 70000 ∧ ((n + k ≤ 140000 ∧ r = nI (n + k) ∧ uu.2 = n + k ∧ uu.1 = apF f n k (mixB x)) ∨ (140000 < n + k ∧ r = -2 ∧ uu.2 = n ∧ uu.1 = f))) ∨ ((yi < 1 ∨ 70000 < yi) ∧ r = -1 ∧ uu.2 = n ∧ uu.1 = f)) (fun uu : (Nat → Int32) × Nat => [(m0, .inr (8, [.int 0, .ref mC, .int (nI uu.2), .ref z3, .int z4, .ref z5, .int z6, .ref z7, .long z8, .ref z9, .ref z10, .ref z11, .ref z12, .ref z13, .int z14, .int z15, .int z16, .int z17, .ref z18, .ref z19, .ref z20, .int z21, .int z22, .int z23, .int z24, .int z25, .int z26, .int z27, .int z28, .int z29, .int z30, .int z31, .int z32, .int z33, .int z34, .int z35, .long z36, .long z37, .int z38])), (mC, .inl (kB, 140000, .inl uu.1))]) := by
  intro sz
  refine Met.ofW (cc := cX8_mix) (maxL := 6) (ret := (some .int)) (by decide) rfl ?_
  intro p e s m args below meth c s₁ B hml hv
  obtain ⟨rfl, hsz, hP, hK, hD0⟩ := hv
  have hx := B.exec
  have hb := B.bytes
  have hr := B.returns
  have hts := atoms_spec (ws := wsX8_mix) B.pre
  have hown : s.vm.findClass RX8 = some m.cls := findClass_of_methodNamed B.named
  have hlocks := B.notSynchronized
  subst hsz
  have hD := hD0.self (sz := s.heap.size)
  generalize hAe : va_A [(m0, .inr (8, [.int z0, .ref mC, .int (nI n), .ref z3, .int z4, .ref z5, .int z6, .ref z7, .long z8, .ref z9, .ref z10, .ref z11, .ref z12, .ref z13, .int z14, .int z15, .int z16, .int z17, .ref z18, .ref z19, .ref z20, .int z21, .int z22, .int z23, .int z24, .int z25, .int z26, .int z27, .int z28, .int z29, .int z30, .int z31, .int z32, .int z33, .int z34, .int z35, .long z36, .long z37, .int z38])), (mC, .inl (kB, 140000, .inl f))] s.heap.size = A at hD ⊢
  have hA : ∀ q : Nat, s.heap.size ≤ q → A q := fun q h => by rw [← hAe]; exact Or.inr h
  have hS : va_S A s.heap s.heap [] := va_S.rf
  have hP : va_P (dC, dI) vwCl [(m0, .inr (8, [.int z0, .ref mC, .int (nI n), .ref z3, .int z4, .ref z5, .int z6, .ref z7, .long z8, .ref z9, .ref z10, .ref z11, .ref z12, .ref z13, .int z14, .int z15, .int z16, .int z17, .ref z18, .ref z19, .ref z20, .int z21, .int z22, .int z23, .int z24, .int z25, .int z26, .int z27, .int z28, .int z29, .int z30, .int z31, .int z32, .int z33, .int z34, .int z35, .long z36, .long z37, .int z38])), (mC, .inl (kB, 140000, .inl f))] s.heap := hP
  have hl := lv_entry ([.ref m0, .int x, .int y]) (n := 6) (Nat.le_of_ble_eq_true rfl)
  rw [lg_entry_eq]
  generalize (lg_sl ([.ref m0, .int x, .int y]) ++ List.replicate (6 - (lg_sl ([.ref m0, .int x, .int y])).length) Slot.unset).toArray = ls at hl ⊢
  have hl : lv_has ls 6 [(0, .ref m0), (1, .int x), (2, .int y)] := hl
  refine zG (fun GG hG1 hG2 => ?_)
  refine lv_aload_n hx hb dX8_mix_0 rfl (lv_at hl 0 rfl) ?_
  refine lv_iconst (v := 0) hx hb dX8_mix_1 (by decide) ?_
  refine va_put (D := (dC, dI)) (ci := 8) (v := .int 0) (ty := .int) (C := RX8) (T := TX8) (N := 39) hx hb hts (by decide +kernel) tyX8 tyX8_ok nmX8 hown hK hP hD hS 0 rfl rfl 0 (by decide) (hts (.fieldLink RX8 55 "SequenceFramesModel" "code" "I") (by decide +kernel)) (fun _ h9 => h9) rfl (by decide +kernel) rfl rfl (Nat.le_of_ble_eq_true rfl) dX8_mix_2 (fun H locs hP hD hS => ?_)
  have hP : va_P (dC, dI) vwCl [(m0, .inr (8, [.int 0, .ref mC, .int (nI n), .ref z3, .int z4, .ref z5, .int z6, .ref z7, .long z8, .ref z9, .ref z10, .ref z11, .ref z12, .ref z13, .int z14, .int z15, .int z16, .int z17, .ref z18, .ref z19, .ref z20, .int z21, .int z22, .int z23, .int z24, .int z25, .int z26, .int z27, .int z28, .int z29, .int z30, .int z31, .int z32, .int z33, .int z34, .int z35, .long z36, .long z37, .int z38])), (mC, .inl (kB, 140000, .inl f))] H := hP
  have hD : va_D A [(m0, .inr (8, [.int 0, .ref mC, .int (nI n), .ref z3, .int z4, .ref z5, .int z6, .ref z7, .long z8, .ref z9, .ref z10, .ref z11, .ref z12, .ref z13, .int z14, .int z15, .int z16, .int z17, .ref z18, .ref z19, .ref z20, .int z21, .int z22, .int z23, .int z24, .int z25, .int z26, .int z27, .int z28, .int z29, .int z30, .int z31, .int z32, .int z33, .int z34, .int z35, .long z36, .long z37, .int z38])), (mC, .inl (kB, 140000, .inl f))] := hD
  refine lv_aload_n hx hb dX8_mix_5 rfl (lv_at hl 0 rfl) ?_
  refine lv_iload_n hx hb dX8_mix_6 rfl (lv_at hl 2 rfl) ?_
  refine z_calli (wr := [(mC, .inl (kB, 140000, .inl f))]) (va_runV (As := [.int y]) (rest := []) ⟨hx, hb, hml, hown, hts⟩ (c_Mod_mayCome l dC dI kB kI m0 0 mC z3 z4 z5 z6 z7 z8 z9 z10 z11 z12 z13 z14 z15 z16 z17 z18 z19 z20 z21 z22 z23 z24 z25 z26 z27 z28 z29 z30 z31 z32 z33 z34 z35 z36 z37 z38 n y yi (by omega) yh H.size) (cwV 1 hts gX8_mix_X8_mayCome rfl rfl rfl (by decide +kernel) ⟨Nat.le_of_ble_eq_true rfl, Nat.le_of_ble_eq_true rfl⟩) (z_preV hK (hP.sub [0] rfl) (hD.sub [0] (by decide) rfl) (va_recv hK hP (ci := 8) (q0 := 0) rfl rfl)) rfl rfl hl.1 rfl (lv_room (Nat.le_of_ble_eq_true rfl)) dX8_mix_7 ⟨Nat.le_of_ble_eq_true rfl, Nat.le_of_ble_eq_true rfl⟩) hK hP hD hS hA [0] [1] rfl rfl (by decide) (by decide) (fun r1 uq2 H locs hw hP hD hS => ?_)
  replace hw : (r1 = 0 ∧ 1 ≤ yi ∧ yi ≤ 70000 ∧ n + yi ≤ 140000) ∨ (r1 = -1 ∧ (yi < 1 ∨ 70000 < yi)) ∨ (r1 = -2 ∧ 1 ≤ yi ∧ yi ≤ 70000 ∧ 140000 < n + yi) := hw
  have hP : va_P (dC, dI) vwCl [(mC, .inl (kB, 140000, .inl f)), (m0, .inr (8, [.int 0, .ref mC, .int (nI n), .ref z3, .int z4, .ref z5, .int z6, .ref z7, .long z8, .ref z9, .ref z10, .ref z11, .ref z12, .ref z13, .int z14, .int z15, .int z16, .int z17, .ref z18, .ref z19, .ref z20, .int z21, .int z22, .int z23, .int z24, .int z25, .int z26, .int z27, .int z28, .int z29, .int z30, .int z31, .int z32, .int z33, .int z34, .int z35, .long z36, .long z37, .int z38]))] H := hP
  have hD : va_D A [(mC, .inl (kB, 140000, .inl f)), (m0, .inr (8, [.int 0, .ref mC, .int (nI n), .ref z3, .int z4, .ref z5, .int z6, .ref z7, .long z8, .ref z9, .ref z10, .ref z11, .ref z12, .ref z13, .int z14, .int z15, .int z16, .int z17, .ref z18, .ref z19, .ref z20, .int z21, .int z22, .int z23, .int z24, .int z25, .int z26, .int z27, .int z28, .int z29, .int z30, .int z31, .int z32, .int z33, .int z34, .int z35, .long z36, .long z37, .int z38]))] := hD
  rcases hw with ⟨er, h1, h2, h3⟩ | ⟨er, hw⟩ | ⟨er, h1, h2, h3⟩
  · subst er
    obtain ⟨k, kb, ye⟩ := z_nat (x := y) (by omega)
    subst ye
    rw [nI_toInt kb] at yh
    subst yh
    refine lv_istore_n (lv' := [(3, .int 0), (0, .ref m0), (1, .int x), (2, .int (nI k))]) hx hb dX8_mix_10 rfl hl (by decide) rfl (fun ls hl => ?_)
    refine lv_iload_n hx hb dX8_mix_11 rfl (lv_at hl 0 rfl) ?_
    refine lv_if_ge (tgt := 17) hx hb dX8_mix_12 (by decide) (fun _ => ?_) (fun c => absurd c (by decide))
    refine lv_iload_n hx hb dX8_mix_17 rfl (lv_at hl 2 rfl) ?_
    refine lv_istore (lv' := [(4, .int x), (3, .int 0), (0, .ref m0), (1, .int x), (2, .int (nI k))]) hx hb dX8_mix_18 hl (by decide) rfl (fun ls hl => ?_)
    refine lv_iconst (v := 0) hx hb dX8_mix_20 (by decide) ?_
    refine lv_istore (lv' := [(5, .int 0), (4, .int x), (3, .int 0), (0, .ref m0), (1, .int x), (2, .int (nI k))]) hx hb dX8_mix_21 hl (by decide) rfl (fun ls hl => ?_)
    have eq9 : f = (apF f n 0 (mixB x)) := (apF_0 f n (mixB x)).symm
    have hP : va_P (dC, dI) vwCl [(mC, .inl (kB, 140000, .inl (apF f n 0 (mixB x)))), (m0, .inr (8, [.int 0, .ref mC, .int (nI n), .ref z3, .int z4, .ref z5, .int z6, .ref z7, .long z8, .ref z9, .ref z10, .ref z11, .ref z12, .ref z13, .int z14, .int z15, .int z16, .int z17, .ref z18, .ref z19, .ref z20, .int z21, .int z22, .int z23, .int z24, .int z25, .int z26, .int z27, .int z28, .int z29, .int z30, .int z31, .int z32, .int z33, .int z34, .int z35, .long z36, .long z37, .int z38]))] H := by rw [← eq9]; exact hP
    have hD : va_D A [(mC, .inl (kB, 140000, .inl (apF f n 0 (mixB x)))), (m0, .inr (8, [.int 0, .ref mC, .int (nI n), .ref z3, .int z4, .ref z5, .int z6, .ref z7, .long z8, .ref z9, .ref z10, .ref z11, .ref z12, .ref z13, .int z14, .int z15, .int z16, .int z17, .ref z18, .ref z19, .ref z20, .int z21, .int z22, .int z23, .int z24, .int z25, .int z26, .int z27, .int z28, .int z29, .int z30, .int z31, .int z32, .int z33, .int z34, .int z35, .long z36, .long z37, .int z38]))] := by rw [← eq9]; exact hD
    have lp : ∀ (kf : Nat) (t : Nat) (ht : t ≤ k), k - t < kf → ∀ (H : Heap) (locs : List Loc), va_P (dC, dI) vwCl [(m0, .inr (8, [.int 0, .ref mC, .int (nI (n + t)), .ref z3, .int z4, .ref z5, .int z6, .ref z7, .long z8, .ref z9, .ref z10, .ref z11, .ref z12, .ref z13, .int z14, .int z15, .int z16, .int z17, .ref z18, .ref z19, .ref z20, .int z21, .int z22, .int z23, .int z24, .int z25, .int z26, .int z27, .int z28, .int z29, .int z30, .int z31, .int z32, .int z33, .int z34, .int z35, .long z36, .long z37, .int z38])), (mC, .inl (kB, 140000, .inl (apF f n t (mixB x))))] H → va_D A [(m0, .inr (8, [.int 0, .ref mC, .int (nI (n + t)), .ref z3, .int z4, .ref z5, .int z6, .ref z7, .long z8, .ref z9, .ref z10, .ref z11, .ref z12, .ref z13, .int z14, .int z15, .int z16, .int z17, .ref z18, .ref z19, .ref z20, .int z21, .int z22, .int z23, .int z24, .int z25, .int z26, .int z27, .int z28, .int z29, .int z30, .int z31, .int z32, .int z33, .int z34, .int z35, .long z36, .long z37, .int z38])), (mC, .inl (kB, 140000, .inl (apF f n t (mixB x))))] → va_S A s.heap H locs → ∀ (ls : Array Slot), lv_has ls 6 [(0, .ref m0), (2, .int (nI k)), (4, .int (mixX x t)), (5, .int (nI t))] → GG H locs (F0 m 23 ls []) := by
      intro kf
      induction kf with
      | zero => intro t ht hm; exact absurd hm (Nat.not_lt_zero _)
      | succ kf ih =>
        intro t ht hm H locs hP hD hS ls hl
        apply hG1
        refine lv_iload hx hb dX8_mix_23 (lv_at hl 3 rfl) ?_
        refine lv_iload_n hx hb dX8_mix_25 rfl (lv_at hl 1 rfl) ?_
        refine zb_icmp_ge (tgt := 71) (a := ((t : Nat) : Int)) (b := ((k : Nat) : Int)) hx hb dX8_mix_26 (by decide) (nI_toInt (by omega)) (nI_toInt (by omega)) (fun c26 => ?_) (fun c26 => ?_)
        · have et9 : k = t := by omega
          subst et9
          refine lv_aload_n hx hb dX8_mix_71 rfl (lv_at hl 0 rfl) ?_
          refine va_get (D := (dC, dI)) (ci := 8) (v := .int (nI (n + k))) (C := RX8) (T := TX8) (N := 39) hx hb hts (by decide +kernel) hown hK hP 0 rfl rfl 2 (by decide) (hts (.fieldLink RX8 74 "SequenceFramesModel" "size" "I") (by decide +kernel)) (fun _ h9 => h9) rfl dX8_mix_72 ?_
          have hP9 := hP.sub (ws' := [(m0, .inr (8, [.int 0, .ref mC, .int (nI (n + k)), .ref z3, .int z4, .ref z5, .int z6, .ref z7, .long z8, .ref z9, .ref z10, .ref z11, .ref z12, .ref z13, .int z14, .int z15, .int z16, .int z17, .ref z18, .ref z19, .ref z20, .int z21, .int z22, .int z23, .int z24, .int z25, .int z26, .int z27, .int z28, .int z29, .int z30, .int z31, .int z32, .int z33, .int z34, .int z35, .long z36, .long z37, .int z38])), (mC, .inl (kB, 140000, .inl (apF f n k (mixB x))))]) [0, 1] rfl
          have hD9 := hD.sub (ws' := [(m0, .inr (8, [.int 0, .ref mC, .int (nI (n + k)), .ref z3, .int z4, .ref z5, .int z6, .ref z7, .long z8, .ref z9, .ref z10, .ref z11, .ref z12, .ref z13, .int z14, .int z15, .int z16, .int z17, .ref z18, .ref z19, .ref z20, .int z21, .int z22, .int z23, .int z24, .int z25, .int z26, .int z27, .int z28, .int z29, .int z30, .int z31, .int z32, .int z33, .int z34, .int z35, .long z36, .long z37, .int z38])), (mC, .inl (kB, 140000, .inl (apF f n k (mixB x))))]) [0, 1] (by decide) rfl
          exact W.iret (v := (nI (n + k))) hx hb hr (fun t9 ht9 hW9 => ⟨⟨(nI (n + k)), ((apF f n k (mixB x)), (n + k)), rfl, (by left; exact ⟨k, rfl, by omega, by omega, Or.inl ⟨by omega, rfl, rfl, rfl⟩⟩), by rw [ht9]; exact hP9, va_K.moved hW9.alike hK, hD9⟩, hS.F ht9⟩) hS.2.2 dX8_mix_75
        · refine lv_iload hx hb dX8_mix_29 (lv_at hl 2 rfl) ?_
          refine lv_ldc (v := 1103515245) hx hb hown (hts (.constant RX8 82 1103515245) (by decide +kernel)) dX8_mix_31 ?_
          refine lv_imul hx hb dX8_mix_33 ?_
          refine lv_sipush (v := 12345) hx hb dX8_mix_34 (by decide) ?_
          refine lv_iadd hx hb dX8_mix_37 ?_
          refine lv_is (y := (mixX x (t + 1))) (rfl) ?_
          refine lv_istore (lv' := [(4, .int (mixX x (t + 1))), (0, .ref m0), (2, .int (nI k)), (5, .int (nI t))]) hx hb dX8_mix_38 hl (by decide) rfl (fun ls hl => ?_)
          refine lv_aload_n hx hb dX8_mix_40 rfl (lv_at hl 1 rfl) ?_
          refine va_get (D := (dC, dI)) (ci := 8) (v := .ref mC) (C := RX8) (T := TX8) (N := 39) hx hb hts (by decide +kernel) hown hK hP 0 rfl rfl 1 (by decide) (hts (.fieldLink RX8 10 "SequenceFramesModel" "content" "[B") (by decide +kernel)) (fun _ h9 => h9) rfl dX8_mix_41 ?_
          refine lv_aload_n hx hb dX8_mix_44 rfl (lv_at hl 1 rfl) ?_
          refine va_get (D := (dC, dI)) (ci := 8) (v := .int (nI (n + t))) (C := RX8) (T := TX8) (N := 39) hx hb hts (by decide +kernel) hown hK hP 0 rfl rfl 2 (by decide) (hts (.fieldLink RX8 74 "SequenceFramesModel" "size" "I") (by decide +kernel)) (fun _ h9 => h9) rfl dX8_mix_45 ?_
          refine lv_iload hx hb dX8_mix_48 (lv_at hl 0 rfl) ?_
          refine lv_bipush (v := 16) hx hb dX8_mix_50 (by decide) ?_
          refine z_ishr hx hb dX8_mix_52 ?_
          refine lv_i2b (v := (i2b (sar (mixX x (t + 1)) 16))) hx hb dX8_mix_53 rfl ?_
          refine va_bast hx hb hK hP hD hS 1 0 rfl rfl (zin rfl (by omega) (by omega)) dX8_mix_54 (fun H locs hP hD hS => ?_)
          have ez := (congrArg (upd (apF f n t (mixB x)) ((nI (n + t)) : Int32).toNatClampNeg) (show vp_nar .byte (i2b (sar (mixX x (t + 1)) 16)) = (i2b (sar (mixX x (t + 1)) 16)) from pk_vb _)).trans (zst (apF f n t (mixB x)) (i2b (sar (mixX x (t + 1)) 16)) (i := (nI (n + t))) (j := (n + t)) rfl (by omega))
          have hP : va_P (dC, dI) vwCl [(m0, .inr (8, [.int 0, .ref mC, .int (nI (n + t)), .ref z3, .int z4, .ref z5, .int z6, .ref z7, .long z8, .ref z9, .ref z10, .ref z11, .ref z12, .ref z13, .int z14, .int z15, .int z16, .int z17, .ref z18, .ref z19, .ref z20, .int z21, .int z22, .int z23, .int z24, .int z25, .int z26, .int z27, .int z28, .int z29, .int z30, .int z31, .int z32, .int z33, .int z34, .int z35, .long z36, .long z37, .int z38])), (mC, .inl (kB, 140000, .inl (upd (apF f n t (mixB x)) (n + t) (i2b (sar (mixX x (t + 1)) 16)))))] H := by rw [← ez]; exact hP
          have hD : va_D A [(m0, .inr (8, [.int 0, .ref mC, .int (nI (n + t)), .ref z3, .int z4, .ref z5, .int z6, .ref z7, .long z8, .ref z9, .ref z10, .ref z11, .ref z12, .ref z13, .int z14, .int z15, .int z16, .int z17, .ref z18, .ref z19, .ref z20, .int z21, .int z22, .int z23, .int z24, .int z25, .int z26, .int z27, .int z28, .int z29, .int z30, .int z31, .int z32, .int z33, .int z34, .int z35, .long z36, .long z37, .int z38])), (mC, .inl (kB, 140000, .inl (upd (apF f n t (mixB x)) (n + t) (i2b (sar (mixX x (t + 1)) 16)))))] := by rw [← ez]; exact hD
          have eq9 : (upd (apF f n t (mixB x)) (n + t) (i2b (sar (mixX x (t + 1)) 16))) = (apF f n (t + 1) (mixB x)) := by rw [← apF_s f n t (mixB x)]; unfold mixB; rw [← mix_sar]
          have hP : va_P (dC, dI) vwCl [(m0, .inr (8, [.int 0, .ref mC, .int (nI (n + t)), .ref z3, .int z4, .ref z5, .int z6, .ref z7, .long z8, .ref z9, .ref z10, .ref z11, .ref z12, .ref z13, .int z14, .int z15, .int z16, .int z17, .ref z18, .ref z19, .ref z20, .int z21, .int z22, .int z23, .int z24, .int z25, .int z26, .int z27, .int z28, .int z29, .int z30, .int z31, .int z32, .int z33, .int z34, .int z35, .long z36, .long z37, .int z38])), (mC, .inl (kB, 140000, .inl (apF f n (t + 1) (mixB x))))] H := by rw [← eq9]; exact hP
          have hD : va_D A [(m0, .inr (8, [.int 0, .ref mC, .int (nI (n + t)), .ref z3, .int z4, .ref z5, .int z6, .ref z7, .long z8, .ref z9, .ref z10, .ref z11, .ref z12, .ref z13, .int z14, .int z15, .int z16, .int z17, .ref z18, .ref z19, .ref z20, .int z21, .int z22, .int z23, .int z24, .int z25, .int z26, .int z27, .int z28, .int z29, .int z30, .int z31, .int z32, .int z33, .int z34, .int z35, .long z36, .long z37, .int z38])), (mC, .inl (kB, 140000, .inl (apF f n (t + 1) (mixB x))))] := by rw [← eq9]; exact hD
          refine lv_aload_n hx hb dX8_mix_55 rfl (lv_at hl 1 rfl) ?_
          refine lv_dup hx hb dX8_mix_56 rfl ?_
          refine va_get (D := (dC, dI)) (ci := 8) (v := .int (nI (n + t))) (C := RX8) (T := TX8) (N := 39) hx hb hts (by decide +kernel) hown hK hP 0 rfl rfl 2 (by decide) (hts (.fieldLink RX8 74 "SequenceFramesModel" "size" "I") (by decide +kernel)) (fun _ h9 => h9) rfl dX8_mix_57 ?_
          refine lv_iconst (v := 1) hx hb dX8_mix_60 (by decide) ?_
          refine lv_iadd hx hb dX8_mix_61 ?_
          refine lv_is (y := (nI ((n + t) + 1))) ((zn_add rfl (show (1 : Int32) = nI 1 from rfl))) ?_
          refine va_put (D := (dC, dI)) (ci := 8) (v := .int (nI ((n + t) + 1))) (ty := .int) (C := RX8) (T := TX8) (N := 39) hx hb hts (by decide +kernel) tyX8 tyX8_ok nmX8 hown hK hP hD hS 0 rfl rfl 2 (by decide) (hts (.fieldLink RX8 74 "SequenceFramesModel" "size" "I") (by decide +kernel)) (fun _ h9 => h9) rfl (by decide +kernel) rfl rfl (Nat.le_of_ble_eq_true rfl) dX8_mix_62 (fun H locs hP hD hS => ?_)
          have hP : va_P (dC, dI) vwCl [(m0, .inr (8, [.int 0, .ref mC, .int (nI ((n + t) + 1)), .ref z3, .int z4, .ref z5, .int z6, .ref z7, .long z8, .ref z9, .ref z10, .ref z11, .ref z12, .ref z13, .int z14, .int z15, .int z16, .int z17, .ref z18, .ref z19, .ref z20, .int z21, .int z22, .int z23, .int z24, .int z25, .int z26, .int z27, .int z28, .int z29, .int z30, .int z31, .int z32, .int z33, .int z34, .int z35, .long z36, .long z37, .int z38])), (mC, .inl (kB, 140000, .inl (apF f n (t + 1) (mixB x))))] H := hP
          have hD : va_D A [(m0, .inr (8, [.int 0, .ref mC, .int (nI ((n + t) + 1)), .ref z3, .int z4, .ref z5, .int z6, .ref z7, .long z8, .ref z9, .ref z10, .ref z11, .ref z12, .ref z13, .int z14, .int z15, .int z16, .int z17, .ref z18, .ref z19, .ref z20, .int z21, .int z22, .int z23, .int z24, .int z25, .int z26, .int z27, .int z28, .int z29, .int z30, .int z31, .int z32, .int z33, .int z34, .int z35, .long z36, .long z37, .int z38])), (mC, .inl (kB, 140000, .inl (apF f n (t + 1) (mixB x))))] := hD
          refine lv_iinc (v := (nI (t + 1))) (lv' := [(5, .int (nI (t + 1))), (4, .int (mixX x (t + 1))), (0, .ref m0), (2, .int (nI k))]) hx hb dX8_mix_65 hl (k := 3) rfl (zn_inc t 1 (by decide)) (by decide) rfl (fun ls hl => ?_)
          refine lv_goto (tgt := 23) hx hb dX8_mix_68 (by decide) ?_
          exact hG2 _ _ _ (ih (t + 1) (by omega) (by omega) _ _ (hP.sub [0, 1] rfl) (hD.sub [0, 1] (by decide) rfl) hS ls (lv_sub hl [2, 3, 1, 0] rfl))
    exact hG2 _ _ _ (lp (k - 0 + 1) 0 (by omega) (Nat.lt_succ_self _) _ _ (hP.sub [1, 0] rfl) (hD.sub [1, 0] (by decide) rfl) hS ls (lv_sub hl [3, 5, 1, 0] rfl))
  · subst er
    refine lv_istore_n (lv' := [(3, .int (-1)), (0, .ref m0), (1, .int x), (2, .int y)]) hx hb dX8_mix_10 rfl hl (by decide) rfl (fun ls hl => ?_)
    refine lv_iload_n hx hb dX8_mix_11 rfl (lv_at hl 0 rfl) ?_
    refine lv_if_ge (tgt := 17) hx hb dX8_mix_12 (by decide) (fun c => absurd c (by decide)) (fun _ => ?_)
    refine lv_iload_n hx hb dX8_mix_15 rfl (lv_at hl 0 rfl) ?_
    have hP9 := hP.sub (ws' := [(m0, .inr (8, [.int 0, .ref mC, .int (nI n), .ref z3, .int z4, .ref z5, .int z6, .ref z7, .long z8, .ref z9, .ref z10, .ref z11, .ref z12, .ref z13, .int z14, .int z15, .int z16, .int z17, .ref z18, .ref z19, .ref z20, .int z21, .int z22, .int z23, .int z24, .int z25, .int z26, .int z27, .int z28, .int z29, .int z30, .int z31, .int z32, .int z33, .int z34, .int z35, .long z36, .long z37, .int z38])), (mC, .inl (kB, 140000, .inl f))]) [1, 0] rfl
    have hD9 := hD.sub (ws' := [(m0, .inr (8, [.int 0, .ref mC, .int (nI n), .ref z3, .int z4, .ref z5, .int z6, .ref z7, .long z8, .ref z9, .ref z10, .ref z11, .ref z12, .ref z13, .int z14, .int z15, .int z16, .int z17, .ref z18, .ref z19, .ref z20, .int z21, .int z22, .int z23, .int z24, .int z25, .int z26, .int z27, .int z28, .int z29, .int z30, .int z31, .int z32, .int z33, .int z34, .int z35, .long z36, .long z37, .int z38])), (mC, .inl (kB, 140000, .inl f))]) [1, 0] (by decide) rfl
    exact W.iret (v := (-1)) hx hb hr (fun t9 ht9 hW9 => ⟨⟨(-1), (f, n), rfl, (by right; exact ⟨hw, rfl, rfl, rfl⟩), by rw [ht9]; exact hP9, va_K.moved hW9.alike hK, hD9⟩, hS.F ht9⟩) hS.2.2 dX8_mix_16
  · subst er
    obtain ⟨k, kb, ye⟩ := z_nat (x := y) (by omega)
    subst ye
    rw [nI_toInt kb] at yh
    subst yh
    refine lv_istore_n (lv' := [(3, .int (-2)), (0, .ref m0), (1, .int x), (2, .int (nI k))]) hx hb dX8_mix_10 rfl hl (by decide) rfl (fun ls hl => ?_)
    refine lv_iload_n hx hb dX8_mix_11 rfl (lv_at hl 0 rfl) ?_
    refine lv_if_ge (tgt := 17) hx hb dX8_mix_12 (by decide) (fun c => absurd c (by decide)) (fun _ => ?_)
    refine lv_iload_n hx hb dX8_mix_15 rfl (lv_at hl 0 rfl) ?_
    have hP9 := hP.sub (ws' := [(m0, .inr (8, [.int 0, .ref mC, .int (nI n), .ref z3, .int z4, .ref z5, .int z6, .ref z7, .long z8, .ref z9, .ref z10, .ref z11, .ref z12, .ref z13, .int z14, .int z15, .int z16, .int z17, .ref z18, .ref z19, .ref z20, .int z21, .int z22, .int z23, .int z24, .int z25, .int z26, .int z27, .int z28, .int z29, .int z30, .int z31, .int z32, .int z33, .int z34, .int z35, .long z36, .long z37, .int z38])), (mC, .inl (kB, 140000, .inl f))]) [1, 0] rfl
    have hD9 := hD.sub (ws' := [(m0, .inr (8, [.int 0, .ref mC, .int (nI n), .ref z3, .int z4, .ref z5, .int z6, .ref z7, .long z8, .ref z9, .ref z10, .ref z11, .ref z12, .ref z13, .int z14, .int z15, .int z16, .int z17, .ref z18, .ref z19, .ref z20, .int z21, .int z22, .int z23, .int z24, .int z25, .int z26, .int z27, .int z28, .int z29, .int z30, .int z31, .int z32, .int z33, .int z34, .int z35, .long z36, .long z37, .int z38])), (mC, .inl (kB, 140000, .inl f))]) [1, 0] (by decide) rfl
    exact W.iret (v := (-2)) hx hb hr (fun t9 ht9 hW9 => ⟨⟨(-2), (f, n), rfl, (by left; exact ⟨k, rfl, by omega, by omega, Or.inr ⟨by omega, rfl, rfl, rfl⟩⟩), by rw [ht9]; exact hP9, va_K.moved hW9.alike hK, hD9⟩, hS.F ht9⟩) hS.2.2 dX8_mix_16

set_option maxHeartbeats 4000000 in
set_option maxRecDepth 100000 in
theorem c_Mod_again (l : Launch) (dC : Nat → ClassId) (dI : Nat → Nat → Nat) (kB kI : ClassId) (m0 : Nat) (z0 : Int32) (z3 : Nat) (z4 : Int32) (z5 : Nat) (z6 : Int32) (z7 : Nat) (z8 : Int64) (z9 : Nat) (z10 : Nat) (z11 : Nat) (z12 : Nat) (z13 : Nat) (z14 : Int32) (z15 : Int32) (z16 : Int32) (z17 : Int32) (z18 : Nat) (z19 : Nat) (z20 : Nat) (z21 : Int32) (z22 : Int32) (z23 : Int32) (z24 : Int32) (z25 : Int32) (z26 : Int32) (z27 : Int32) (z28 : Int32) (z29 : Int32) (z30 : Int32) (z31 : Int32) (z32 : Int32) (z33 : Int32) (z34 : Int32) (z35 : Int32) (z36 : Int64) (z37 : Int64) (z38 : Int32) (mC : Nat) (n : Nat) (f : Nat → Int32) (x : Int32) (xi : Int) (y : Int32) (yi : Int) (hn : n ≤ 140000) (xh : x.toInt = xi) (yh : y.toInt = yi) (hf : bytF f) : zMi l yX8_again wsX8_again ({ frames := 1, cells := 0, slots := 0, locals := 21 }) (dC, dI) kB kI [.ref m0, .int x, .int y] [(m0, .inr (8, [.int z0, .ref mC, .int (nI n), .ref z3, .int z4, .ref z5, .int z6, .ref z7, .long z8, .ref z9, .ref z10, .ref z11, .ref z12, .ref z13, .int z14, .int z15, .int z16, .int z17, .ref z18, .ref z19, .ref z20, .int z21, .int z22, .int z23, .int z24, .int z25, .int z26, .int z27, .int z28, .int z29, .int z30, .int z31, .int z32, .int z33, .int z34, .int z35, .long z36, .long z37, .int z38])), (mC, .inl (kB, 140000, .inl f))] 0 0 (fun (r : Int32) => fun uu : (Nat → Int32) × Nat => (∃ d k : Nat, xi = d ∧ yi = k ∧ 1 ≤ d ∧ d ≤ n ∧ 1 ≤ k ∧ k ≤ 70000 ∧ ((n + k ≤ 140000 ∧ r = nI (n + k) ∧ uu.2 = n + k ∧ uu.1 = agF f n d k) ∨ (140000 < n + k ∧ r = -2 ∧ uu.2 = n ∧ uu.1 = f))) ∨ ((xi < 1 ∨ (n : Int) < xi ∨ yi < 1 ∨ 70000 < yi) ∧ r = -1 ∧ uu.2 = n ∧ uu.1 = f)) (fun uu : (Nat → Int32) × Nat => [(m0, .inr (8, [.int 0, .ref mC, .int (nI uu.2), .ref z3, .int z4, .ref z5, .int z6, .ref z7, .long z8, .ref z9, .ref z10, .ref z11, .ref z12, .ref z13, .int z14, .int z15, .int z16, .int z17, .ref z18, .ref z19, .ref z20, .int z21, .int z22, .int z23, .int z24, .int z25, .int z26, .int z27, .int z28, .int z29, .int z30, .int z31, .int z32, .int z33, .int z34, .int z35, .long z36, .long z37, .int z38])), (mC, .inl (kB, 140000, .inl uu.1))]) := by
  intro sz
  refine Met.ofW (cc := cX8_again) (maxL := 5) (ret := (some .int)) (by decide) rfl ?_
  intro p e s m args below meth c s₁ B hml hv
  obtain ⟨rfl, hsz, hP, hK, hD0⟩ := hv
  have hx := B.exec
  have hb := B.bytes
  have hr := B.returns
  have hts := atoms_spec (ws := wsX8_again) B.pre
  have hown : s.vm.findClass RX8 = some m.cls := findClass_of_methodNamed B.named
  have hlocks := B.notSynchronized
  subst hsz
  have hD := hD0.self (sz := s.heap.size)
  generalize hAe : va_A [(m0, .inr (8, [.int z0, .ref mC, .int (nI n), .ref z3, .int z4, .ref z5, .int z6, .ref z7, .long z8, .ref z9, .ref z10, .ref z11, .ref z12, .ref z13, .int z14, .int z15, .int z16, .int z17, .ref z18, .ref z19, .ref z20, .int z21, .int z22, .int z23, .int z24, .int z25, .int z26, .int z27, .int z28, .int z29, .int z30, .int z31, .int z32, .int z33, .int z34, .int z35, .long z36, .long z37, .int z38])), (mC, .inl (kB, 140000, .inl f))] s.heap.size = A at hD ⊢
  have hA : ∀ q : Nat, s.heap.size ≤ q → A q := fun q h => by rw [← hAe]; exact Or.inr h
  have hS : va_S A s.heap s.heap [] := va_S.rf
  have hP : va_P (dC, dI) vwCl [(m0, .inr (8, [.int z0, .ref mC, .int (nI n), .ref z3, .int z4, .ref z5, .int z6, .ref z7, .long z8, .ref z9, .ref z10, .ref z11, .ref z12, .ref z13, .int z14, .int z15, .int z16, .int z17, .ref z18, .ref z19, .ref z20, .int z21, .int z22, .int z23, .int z24, .int z25, .int z26, .int z27, .int z28, .int z29, .int z30, .int z31, .int z32, .int z33, .int z34, .int z35, .long z36, .long z37, .int z38])), (mC, .inl (kB, 140000, .inl f))] s.heap := hP
  have hl := lv_entry ([.ref m0, .int x, .int y]) (n := 5) (Nat.le_of_ble_eq_true rfl)
  rw [lg_entry_eq]
  generalize (lg_sl ([.ref m0, .int x, .int y]) ++ List.replicate (5 - (lg_sl ([.ref m0, .int x, .int y])).length) Slot.unset).toArray = ls at hl ⊢
  have hl : lv_has ls 5 [(0, .ref m0), (1, .int x), (2, .int y)] := hl
  refine zG (fun GG hG1 hG2 => ?_)
  refine lv_aload_n hx hb dX8_again_0 rfl (lv_at hl 0 rfl) ?_
  refine lv_iconst (v := 0) hx hb dX8_again_1 (by decide) ?_
  refine va_put (D := (dC, dI)) (ci := 8) (v := .int 0) (ty := .int) (C := RX8) (T := TX8) (N := 39) hx hb hts (by decide +kernel) tyX8 tyX8_ok nmX8 hown hK hP hD hS 0 rfl rfl 0 (by decide) (hts (.fieldLink RX8 55 "SequenceFramesModel" "code" "I") (by decide +kernel)) (fun _ h9 => h9) rfl (by decide +kernel) rfl rfl (Nat.le_of_ble_eq_true rfl) dX8_again_2 (fun H locs hP hD hS => ?_)
  have hP : va_P (dC, dI) vwCl [(m0, .inr (8, [.int 0, .ref mC, .int (nI n), .ref z3, .int z4, .ref z5, .int z6, .ref z7, .long z8, .ref z9, .ref z10, .ref z11, .ref z12, .ref z13, .int z14, .int z15, .int z16, .int z17, .ref z18, .ref z19, .ref z20, .int z21, .int z22, .int z23, .int z24, .int z25, .int z26, .int z27, .int z28, .int z29, .int z30, .int z31, .int z32, .int z33, .int z34, .int z35, .long z36, .long z37, .int z38])), (mC, .inl (kB, 140000, .inl f))] H := hP
  have hD : va_D A [(m0, .inr (8, [.int 0, .ref mC, .int (nI n), .ref z3, .int z4, .ref z5, .int z6, .ref z7, .long z8, .ref z9, .ref z10, .ref z11, .ref z12, .ref z13, .int z14, .int z15, .int z16, .int z17, .ref z18, .ref z19, .ref z20, .int z21, .int z22, .int z23, .int z24, .int z25, .int z26, .int z27, .int z28, .int z29, .int z30, .int z31, .int z32, .int z33, .int z34, .int z35, .long z36, .long z37, .int z38])), (mC, .inl (kB, 140000, .inl f))] := hD
  refine lv_aload_n hx hb dX8_again_5 rfl (lv_at hl 0 rfl) ?_
  refine lv_iload_n hx hb dX8_again_6 rfl (lv_at hl 2 rfl) ?_
  refine z_calli (wr := [(mC, .inl (kB, 140000, .inl f))]) (va_runV (As := [.int y]) (rest := []) ⟨hx, hb, hml, hown, hts⟩ (c_Mod_mayCome l dC dI kB kI m0 0 mC z3 z4 z5 z6 z7 z8 z9 z10 z11 z12 z13 z14 z15 z16 z17 z18 z19 z20 z21 z22 z23 z24 z25 z26 z27 z28 z29 z30 z31 z32 z33 z34 z35 z36 z37 z38 n y yi (by omega) yh H.size) (cwV 1 hts gX8_again_X8_mayCome rfl rfl rfl (by decide +kernel) ⟨Nat.le_of_ble_eq_true rfl, Nat.le_of_ble_eq_true rfl⟩) (z_preV hK (hP.sub [0] rfl) (hD.sub [0] (by decide) rfl) (va_recv hK hP (ci := 8) (q0 := 0) rfl rfl)) rfl rfl hl.1 rfl (lv_room (Nat.le_of_ble_eq_true rfl)) dX8_again_7 ⟨Nat.le_of_ble_eq_true rfl, Nat.le_of_ble_eq_true rfl⟩) hK hP hD hS hA [0] [1] rfl rfl (by decide) (by decide) (fun r1 uq2 H locs hw hP hD hS => ?_)
  replace hw : (r1 = 0 ∧ 1 ≤ yi ∧ yi ≤ 70000 ∧ n + yi ≤ 140000) ∨ (r1 = -1 ∧ (yi < 1 ∨ 70000 < yi)) ∨ (r1 = -2 ∧ 1 ≤ yi ∧ yi ≤ 70000 ∧ 140000 < n + yi) := hw
  have hP : va_P (dC, dI) vwCl [(mC, .inl (kB, 140000, .inl f)), (m0, .inr (8, [.int 0, .ref mC, .int (nI n), .ref z3, .int z4, .ref z5, .int z6, .ref z7, .long z8, .ref z9, .ref z10, .ref z11, .ref z12, .ref z13, .int z14, .int z15, .int z16, .int z17, .ref z18, .ref z19, .ref z20, .int z21, .int z22, .int z23, .int z24, .int z25, .int z26, .int z27, .int z28, .int z29, .int z30, .int z31, .int z32, .int z33, .int z34, .int z35, .long z36, .long z37, .int z38]))] H := hP
  have hD : va_D A [(mC, .inl (kB, 140000, .inl f)), (m0, .inr (8, [.int 0, .ref mC, .int (nI n), .ref z3, .int z4, .ref z5, .int z6, .ref z7, .long z8, .ref z9, .ref z10, .ref z11, .ref z12, .ref z13, .int z14, .int z15, .int z16, .int z17, .ref z18, .ref z19, .ref z20, .int z21, .int z22, .int z23, .int z24, .int z25, .int z26, .int z27, .int z28, .int z29, .int z30, .int z31, .int z32, .int z33, .int z34, .int z35, .long z36, .long z37, .int z38]))] := hD
  rcases hw with ⟨er, h1, h2, h3⟩ | ⟨er, hw⟩ | ⟨er, h1, h2, h3⟩
  · subst er
    refine lv_istore_n (lv' := [(3, .int 0), (0, .ref m0), (1, .int x), (2, .int y)]) hx hb dX8_again_10 rfl hl (by decide) rfl (fun ls hl => ?_)
    refine lv_iload_n hx hb dX8_again_11 rfl (lv_at hl 2 rfl) ?_
    refine lv_iconst (v := 1) hx hb dX8_again_12 (by decide) ?_
    refine zb_icmp_lt (tgt := 29) (a := xi) (b := 1) hx hb dX8_again_13 (by decide) xh (by decide) (fun c13 => ?_) (fun c13 => ?_)
    · refine lv_iconst (v := (-1)) hx hb dX8_again_29 (by decide) ?_
      have hP9 := hP.sub (ws' := [(m0, .inr (8, [.int 0, .ref mC, .int (nI n), .ref z3, .int z4, .ref z5, .int z6, .ref z7, .long z8, .ref z9, .ref z10, .ref z11, .ref z12, .ref z13, .int z14, .int z15, .int z16, .int z17, .ref z18, .ref z19, .ref z20, .int z21, .int z22, .int z23, .int z24, .int z25, .int z26, .int z27, .int z28, .int z29, .int z30, .int z31, .int z32, .int z33, .int z34, .int z35, .long z36, .long z37, .int z38])), (mC, .inl (kB, 140000, .inl f))]) [1, 0] rfl
      have hD9 := hD.sub (ws' := [(m0, .inr (8, [.int 0, .ref mC, .int (nI n), .ref z3, .int z4, .ref z5, .int z6, .ref z7, .long z8, .ref z9, .ref z10, .ref z11, .ref z12, .ref z13, .int z14, .int z15, .int z16, .int z17, .ref z18, .ref z19, .ref z20, .int z21, .int z22, .int z23, .int z24, .int z25, .int z26, .int z27, .int z28, .int z29, .int z30, .int z31, .int z32, .int z33, .int z34, .int z35, .long z36, .long z37, .int z38])), (mC, .inl (kB, 140000, .inl f))]) [1, 0] (by decide) rfl
      exact W.iret (v := (-1)) hx hb hr (fun t9 ht9 hW9 => ⟨⟨(-1), (f, n), rfl, (by right; exact ⟨by omega, rfl, rfl, rfl⟩), by rw [ht9]; exact hP9, va_K.moved hW9.alike hK, hD9⟩, hS.F ht9⟩) hS.2.2 dX8_again_30
    · refine lv_iload_n hx hb dX8_again_16 rfl (lv_at hl 2 rfl) ?_
      refine lv_aload_n hx hb dX8_again_17 rfl (lv_at hl 1 rfl) ?_
      refine va_get (D := (dC, dI)) (ci := 8) (v := .int (nI n)) (C := RX8) (T := TX8) (N := 39) hx hb hts (by decide +kernel) hown hK hP 1 rfl rfl 2 (by decide) (hts (.fieldLink RX8 74 "SequenceFramesModel" "size" "I") (by decide +kernel)) (fun _ h9 => h9) rfl dX8_again_18 ?_
      refine zb_icmp_gt (tgt := 29) (a := xi) (b := ((n : Nat) : Int)) hx hb dX8_again_21 (by decide) xh (nI_toInt (by omega)) (fun c21 => ?_) (fun c21 => ?_)
      · refine lv_iconst (v := (-1)) hx hb dX8_again_29 (by decide) ?_
        have hP9 := hP.sub (ws' := [(m0, .inr (8, [.int 0, .ref mC, .int (nI n), .ref z3, .int z4, .ref z5, .int z6, .ref z7, .long z8, .ref z9, .ref z10, .ref z11, .ref z12, .ref z13, .int z14, .int z15, .int z16, .int z17, .ref z18, .ref z19, .ref z20, .int z21, .int z22, .int z23, .int z24, .int z25, .int z26, .int z27, .int z28, .int z29, .int z30, .int z31, .int z32, .int z33, .int z34, .int z35, .long z36, .long z37, .int z38])), (mC, .inl (kB, 140000, .inl f))]) [1, 0] rfl
        have hD9 := hD.sub (ws' := [(m0, .inr (8, [.int 0, .ref mC, .int (nI n), .ref z3, .int z4, .ref z5, .int z6, .ref z7, .long z8, .ref z9, .ref z10, .ref z11, .ref z12, .ref z13, .int z14, .int z15, .int z16, .int z17, .ref z18, .ref z19, .ref z20, .int z21, .int z22, .int z23, .int z24, .int z25, .int z26, .int z27, .int z28, .int z29, .int z30, .int z31, .int z32, .int z33, .int z34, .int z35, .long z36, .long z37, .int z38])), (mC, .inl (kB, 140000, .inl f))]) [1, 0] (by decide) rfl
        exact W.iret (v := (-1)) hx hb hr (fun t9 ht9 hW9 => ⟨⟨(-1), (f, n), rfl, (by right; exact ⟨by omega, rfl, rfl, rfl⟩), by rw [ht9]; exact hP9, va_K.moved hW9.alike hK, hD9⟩, hS.F ht9⟩) hS.2.2 dX8_again_30
      · obtain ⟨d, db, xe⟩ := z_nat (x := x) (by omega)
        subst xe
        rw [nI_toInt db] at xh
        subst xh
        obtain ⟨k, kb, ye⟩ := z_nat (x := y) (by omega)
        subst ye
        rw [nI_toInt kb] at yh
        subst yh
        refine lv_iload_n hx hb dX8_again_24 rfl (lv_at hl 0 rfl) ?_
        refine lv_iconst (v := (-1)) hx hb dX8_again_25 (by decide) ?_
        refine lv_icmp_ne (tgt := 31) hx hb dX8_again_26 (by decide) (fun _ => ?_) (fun c => absurd c (by decide))
        refine lv_iload_n hx hb dX8_again_31 rfl (lv_at hl 0 rfl) ?_
        refine lv_bipush (v := (-2)) hx hb dX8_again_32 (by decide) ?_
        refine lv_icmp_ne (tgt := 40) hx hb dX8_again_34 (by decide) (fun _ => ?_) (fun c => absurd c (by decide))
        refine lv_iconst (v := 0) hx hb dX8_again_40 (by decide) ?_
        refine lv_istore (lv' := [(4, .int 0), (3, .int 0), (0, .ref m0), (1, .int (nI d)), (2, .int (nI k))]) hx hb dX8_again_41 hl (by decide) rfl (fun ls hl => ?_)
        have lp : ∀ (kf : Nat) (t : Nat) (ht : t ≤ k), k - t < kf → ∀ (H : Heap) (locs : List Loc), va_P (dC, dI) vwCl [(m0, .inr (8, [.int 0, .ref mC, .int (nI (n + t)), .ref z3, .int z4, .ref z5, .int z6, .ref z7, .long z8, .ref z9, .ref z10, .ref z11, .ref z12, .ref z13, .int z14, .int z15, .int z16, .int z17, .ref z18, .ref z19, .ref z20, .int z21, .int z22, .int z23, .int z24, .int z25, .int z26, .int z27, .int z28, .int z29, .int z30, .int z31, .int z32, .int z33, .int z34, .int z35, .long z36, .long z37, .int z38])), (mC, .inl (kB, 140000, .inl (agF f n d t)))] H → va_D A [(m0, .inr (8, [.int 0, .ref mC, .int (nI (n + t)), .ref z3, .int z4, .ref z5, .int z6, .ref z7, .long z8, .ref z9, .ref z10, .ref z11, .ref z12, .ref z13, .int z14, .int z15, .int z16, .int z17, .ref z18, .ref z19, .ref z20, .int z21, .int z22, .int z23, .int z24, .int z25, .int z26, .int z27, .int z28, .int z29, .int z30, .int z31, .int z32, .int z33, .int z34, .int z35, .long z36, .long z37, .int z38])), (mC, .inl (kB, 140000, .inl (agF f n d t)))] → va_S A s.heap H locs → ∀ (ls : Array Slot), lv_has ls 5 [(0, .ref m0), (1, .int (nI d)), (2, .int (nI k)), (4, .int (nI t))] → GG H locs (F0 m 43 ls []) := by
          intro kf
          induction kf with
          | zero => intro t ht hm; exact absurd hm (Nat.not_lt_zero _)
          | succ kf ih =>
            intro t ht hm H locs hP hD hS ls hl
            apply hG1
            refine lv_iload hx hb dX8_again_43 (lv_at hl 3 rfl) ?_
            refine lv_iload_n hx hb dX8_again_45 rfl (lv_at hl 2 rfl) ?_
            refine zb_icmp_ge (tgt := 85) (a := ((t : Nat) : Int)) (b := ((k : Nat) : Int)) hx hb dX8_again_46 (by decide) (nI_toInt (by omega)) (nI_toInt (by omega)) (fun c46 => ?_) (fun c46 => ?_)
            · have et9 : k = t := by omega
              subst et9
              refine lv_aload_n hx hb dX8_again_85 rfl (lv_at hl 0 rfl) ?_
              refine va_get (D := (dC, dI)) (ci := 8) (v := .int (nI (n + k))) (C := RX8) (T := TX8) (N := 39) hx hb hts (by decide +kernel) hown hK hP 0 rfl rfl 2 (by decide) (hts (.fieldLink RX8 74 "SequenceFramesModel" "size" "I") (by decide +kernel)) (fun _ h9 => h9) rfl dX8_again_86 ?_
              have hP9 := hP.sub (ws' := [(m0, .inr (8, [.int 0, .ref mC, .int (nI (n + k)), .ref z3, .int z4, .ref z5, .int z6, .ref z7, .long z8, .ref z9, .ref z10, .ref z11, .ref z12, .ref z13, .int z14, .int z15, .int z16, .int z17, .ref z18, .ref z19, .ref z20, .int z21, .int z22, .int z23, .int z24, .int z25, .int z26, .int z27, .int z28, .int z29, .int z30, .int z31, .int z32, .int z33, .int z34, .int z35, .long z36, .long z37, .int z38])), (mC, .inl (kB, 140000, .inl (agF f n d k)))]) [0, 1] rfl
              have hD9 := hD.sub (ws' := [(m0, .inr (8, [.int 0, .ref mC, .int (nI (n + k)), .ref z3, .int z4, .ref z5, .int z6, .ref z7, .long z8, .ref z9, .ref z10, .ref z11, .ref z12, .ref z13, .int z14, .int z15, .int z16, .int z17, .ref z18, .ref z19, .ref z20, .int z21, .int z22, .int z23, .int z24, .int z25, .int z26, .int z27, .int z28, .int z29, .int z30, .int z31, .int z32, .int z33, .int z34, .int z35, .long z36, .long z37, .int z38])), (mC, .inl (kB, 140000, .inl (agF f n d k)))]) [0, 1] (by decide) rfl
              exact W.iret (v := (nI (n + k))) hx hb hr (fun t9 ht9 hW9 => ⟨⟨(nI (n + k)), ((agF f n d k), (n + k)), rfl, (by left; exact ⟨d, k, rfl, rfl, by omega, by omega, by omega, by omega, Or.inl ⟨by omega, rfl, rfl, rfl⟩⟩), by rw [ht9]; exact hP9, va_K.moved hW9.alike hK, hD9⟩, hS.F ht9⟩) hS.2.2 dX8_again_89
            · refine lv_aload_n hx hb dX8_again_49 rfl (lv_at hl 0 rfl) ?_
              refine va_get (D := (dC, dI)) (ci := 8) (v := .ref mC) (C := RX8) (T := TX8) (N := 39) hx hb hts (by decide +kernel) hown hK hP 0 rfl rfl 1 (by decide) (hts (.fieldLink RX8 10 "SequenceFramesModel" "content" "[B") (by decide +kernel)) (fun _ h9 => h9) rfl dX8_again_50 ?_
              refine lv_aload_n hx hb dX8_again_53 rfl (lv_at hl 0 rfl) ?_
              refine va_get (D := (dC, dI)) (ci := 8) (v := .int (nI (n + t))) (C := RX8) (T := TX8) (N := 39) hx hb hts (by decide +kernel) hown hK hP 0 rfl rfl 2 (by decide) (hts (.fieldLink RX8 74 "SequenceFramesModel" "size" "I") (by decide +kernel)) (fun _ h9 => h9) rfl dX8_again_54 ?_
              refine lv_aload_n hx hb dX8_again_57 rfl (lv_at hl 0 rfl) ?_
              refine va_get (D := (dC, dI)) (ci := 8) (v := .ref mC) (C := RX8) (T := TX8) (N := 39) hx hb hts (by decide +kernel) hown hK hP 0 rfl rfl 1 (by decide) (hts (.fieldLink RX8 10 "SequenceFramesModel" "content" "[B") (by decide +kernel)) (fun _ h9 => h9) rfl dX8_again_58 ?_
              refine lv_aload_n hx hb dX8_again_61 rfl (lv_at hl 0 rfl) ?_
              refine va_get (D := (dC, dI)) (ci := 8) (v := .int (nI (n + t))) (C := RX8) (T := TX8) (N := 39) hx hb hts (by decide +kernel) hown hK hP 0 rfl rfl 2 (by decide) (hts (.fieldLink RX8 74 "SequenceFramesModel" "size" "I") (by decide +kernel)) (fun _ h9 => h9) rfl dX8_again_62 ?_
              refine lv_iload_n hx hb dX8_again_65 rfl (lv_at hl 1 rfl) ?_
              refine lv_isub hx hb dX8_again_66 ?_
              refine va_bald hx hb hK hP 1 0 rfl rfl (zin (zn_sub rfl rfl (by omega)) (by omega) (by omega)) dX8_again_67 ?_
              refine lv_is (y := ((agF f n d t) ((n + t) - d))) (zld (agF f n d t) (zn_sub rfl rfl (by omega)) (by omega)) ?_
              refine va_bast hx hb hK hP hD hS 1 0 rfl rfl (zin rfl (by omega) (by omega)) dX8_again_68 (fun H locs hP hD hS => ?_)
              have ez := (congrArg (upd (agF f n d t) ((nI (n + t)) : Int32).toNatClampNeg) (show vp_nar .byte ((agF f n d t) ((n + t) - d)) = ((agF f n d t) ((n + t) - d)) from byt_nar (bytF_agF hf n d t _))).trans (zst (agF f n d t) ((agF f n d t) ((n + t) - d)) (i := (nI (n + t))) (j := (n + t)) rfl (by omega))
              have hP : va_P (dC, dI) vwCl [(m0, .inr (8, [.int 0, .ref mC, .int (nI (n + t)), .ref z3, .int z4, .ref z5, .int z6, .ref z7, .long z8, .ref z9, .ref z10, .ref z11, .ref z12, .ref z13, .int z14, .int z15, .int z16, .int z17, .ref z18, .ref z19, .ref z20, .int z21, .int z22, .int z23, .int z24, .int z25, .int z26, .int z27, .int z28, .int z29, .int z30, .int z31, .int z32, .int z33, .int z34, .int z35, .long z36, .long z37, .int z38])), (mC, .inl (kB, 140000, .inl (upd (agF f n d t) (n + t) ((agF f n d t) ((n + t) - d)))))] H := by rw [← ez]; exact hP
              have hD : va_D A [(m0, .inr (8, [.int 0, .ref mC, .int (nI (n + t)), .ref z3, .int z4, .ref z5, .int z6, .ref z7, .long z8, .ref z9, .ref z10, .ref z11, .ref z12, .ref z13, .int z14, .int z15, .int z16, .int z17, .ref z18, .ref z19, .ref z20, .int z21, .int z22, .int z23, .int z24, .int z25, .int z26, .int z27, .int z28, .int z29, .int z30, .int z31, .int z32, .int z33, .int z34, .int z35, .long z36, .long z37, .int z38])), (mC, .inl (kB, 140000, .inl (upd (agF f n d t) (n + t) ((agF f n d t) ((n + t) - d)))))] := by rw [← ez]; exact hD
              refine lv_aload_n hx hb dX8_again_69 rfl (lv_at hl 0 rfl) ?_
              refine lv_dup hx hb dX8_again_70 rfl ?_
              refine va_get (D := (dC, dI)) (ci := 8) (v := .int (nI (n + t))) (C := RX8) (T := TX8) (N := 39) hx hb hts (by decide +kernel) hown hK hP 0 rfl rfl 2 (by decide) (hts (.fieldLink RX8 74 "SequenceFramesModel" "size" "I") (by decide +kernel)) (fun _ h9 => h9) rfl dX8_again_71 ?_
              refine lv_iconst (v := 1) hx hb dX8_again_74 (by decide) ?_
              refine lv_iadd hx hb dX8_again_75 ?_
              refine lv_is (y := (nI ((n + t) + 1))) ((zn_add rfl (show (1 : Int32) = nI 1 from rfl))) ?_
              refine va_put (D := (dC, dI)) (ci := 8) (v := .int (nI ((n + t) + 1))) (ty := .int) (C := RX8) (T := TX8) (N := 39) hx hb hts (by decide +kernel) tyX8 tyX8_ok nmX8 hown hK hP hD hS 0 rfl rfl 2 (by decide) (hts (.fieldLink RX8 74 "SequenceFramesModel" "size" "I") (by decide +kernel)) (fun _ h9 => h9) rfl (by decide +kernel) rfl rfl (Nat.le_of_ble_eq_true rfl) dX8_again_76 (fun H locs hP hD hS => ?_)
              have hP : va_P (dC, dI) vwCl [(m0, .inr (8, [.int 0, .ref mC, .int (nI ((n + t) + 1)), .ref z3, .int z4, .ref z5, .int z6, .ref z7, .long z8, .ref z9, .ref z10, .ref z11, .ref z12, .ref z13, .int z14, .int z15, .int z16, .int z17, .ref z18, .ref z19, .ref z20, .int z21, .int z22, .int z23, .int z24, .int z25, .int z26, .int z27, .int z28, .int z29, .int z30, .int z31, .int z32, .int z33, .int z34, .int z35, .long z36, .long z37, .int z38])), (mC, .inl (kB, 140000, .inl (upd (agF f n d t) (n + t) ((agF f n d t) ((n + t) - d)))))] H := hP
              have hD : va_D A [(m0, .inr (8, [.int 0, .ref mC, .int (nI ((n + t) + 1)), .ref z3, .int z4, .ref z5, .int z6, .ref z7, .long z8, .ref z9, .ref z10, .ref z11, .ref z12, .ref z13, .int z14, .int z15, .int z16, .int z17, .ref z18, .ref z19, .ref z20, .int z21, .int z22, .int z23, .int z24, .int z25, .int z26, .int z27, .int z28, .int z29, .int z30, .int z31, .int z32, .int z33, .int z34, .int z35, .long z36, .long z37, .int z38])), (mC, .inl (kB, 140000, .inl (upd (agF f n d t) (n + t) ((agF f n d t) ((n + t) - d)))))] := hD
              refine lv_iinc (v := (nI (t + 1))) (lv' := [(4, .int (nI (t + 1))), (0, .ref m0), (1, .int (nI d)), (2, .int (nI k))]) hx hb dX8_again_79 hl (k := 3) rfl (zn_inc t 1 (by decide)) (by decide) rfl (fun ls hl => ?_)
              refine lv_goto (tgt := 43) hx hb dX8_again_82 (by decide) ?_
              exact hG2 _ _ _ (ih (t + 1) (by omega) (by omega) _ _ (hP.sub [0, 1] rfl) (hD.sub [0, 1] (by decide) rfl) hS ls (lv_sub hl [1, 2, 3, 0] rfl))
        exact hG2 _ _ _ (lp (k - 0 + 1) 0 (by omega) (Nat.lt_succ_self _) _ _ (hP.sub [1, 0] rfl) (hD.sub [1, 0] (by decide) rfl) hS ls (lv_sub hl [2, 3, 4, 0] rfl))
  · subst er
    refine lv_istore_n (lv' := [(3, .int (-1)), (0, .ref m0), (1, .int x), (2, .int y)]) hx hb dX8_again_10 rfl hl (by decide) rfl (fun ls hl => ?_)
    refine lv_iload_n hx hb dX8_again_11 rfl (lv_at hl 2 rfl) ?_
    refine lv_iconst (v := 1) hx hb dX8_again_12 (by decide) ?_
    refine zb_icmp_lt (tgt := 29) (a := xi) (b := 1) hx hb dX8_again_13 (by decide) xh (by decide) (fun c13 => ?_) (fun c13 => ?_)
    · refine lv_iconst (v := (-1)) hx hb dX8_again_29 (by decide) ?_
      have hP9 := hP.sub (ws' := [(m0, .inr (8, [.int 0, .ref mC, .int (nI n), .ref z3, .int z4, .ref z5, .int z6, .ref z7, .long z8, .ref z9, .ref z10, .ref z11, .ref z12, .ref z13, .int z14, .int z15, .int z16, .int z17, .ref z18, .ref z19, .ref z20, .int z21, .int z22, .int z23, .int z24, .int z25, .int z26, .int z27, .int z28, .int z29, .int z30, .int z31, .int z32, .int z33, .int z34, .int z35, .long z36, .long z37, .int z38])), (mC, .inl (kB, 140000, .inl f))]) [1, 0] rfl
      have hD9 := hD.sub (ws' := [(m0, .inr (8, [.int 0, .ref mC, .int (nI n), .ref z3, .int z4, .ref z5, .int z6, .ref z7, .long z8, .ref z9, .ref z10, .ref z11, .ref z12, .ref z13, .int z14, .int z15, .int z16, .int z17, .ref z18, .ref z19, .ref z20, .int z21, .int z22, .int z23, .int z24, .int z25, .int z26, .int z27, .int z28, .int z29, .int z30, .int z31, .int z32, .int z33, .int z34, .int z35, .long z36, .long z37, .int z38])), (mC, .inl (kB, 140000, .inl f))]) [1, 0] (by decide) rfl
      exact W.iret (v := (-1)) hx hb hr (fun t9 ht9 hW9 => ⟨⟨(-1), (f, n), rfl, (by right; exact ⟨by omega, rfl, rfl, rfl⟩), by rw [ht9]; exact hP9, va_K.moved hW9.alike hK, hD9⟩, hS.F ht9⟩) hS.2.2 dX8_again_30
    · refine lv_iload_n hx hb dX8_again_16 rfl (lv_at hl 2 rfl) ?_
      refine lv_aload_n hx hb dX8_again_17 rfl (lv_at hl 1 rfl) ?_
      refine va_get (D := (dC, dI)) (ci := 8) (v := .int (nI n)) (C := RX8) (T := TX8) (N := 39) hx hb hts (by decide +kernel) hown hK hP 1 rfl rfl 2 (by decide) (hts (.fieldLink RX8 74 "SequenceFramesModel" "size" "I") (by decide +kernel)) (fun _ h9 => h9) rfl dX8_again_18 ?_
      refine zb_icmp_gt (tgt := 29) (a := xi) (b := ((n : Nat) : Int)) hx hb dX8_again_21 (by decide) xh (nI_toInt (by omega)) (fun c21 => ?_) (fun c21 => ?_)
      · refine lv_iconst (v := (-1)) hx hb dX8_again_29 (by decide) ?_
        have hP9 := hP.sub (ws' := [(m0, .inr (8, [.int 0, .ref mC, .int (nI n), .ref z3, .int z4, .ref z5, .int z6, .ref z7, .long z8, .ref z9, .ref z10, .ref z11, .ref z12, .ref z13, .int z14, .int z15, .int z16, .int z17, .ref z18, .ref z19, .ref z20, .int z21, .int z22, .int z23, .int z24, .int z25, .int z26, .int z27, .int z28, .int z29, .int z30, .int z31, .int z32, .int z33, .int z34, .int z35, .long z36, .long z37, .int z38])), (mC, .inl (kB, 140000, .inl f))]) [1, 0] rfl
        have hD9 := hD.sub (ws' := [(m0, .inr (8, [.int 0, .ref mC, .int (nI n), .ref z3, .int z4, .ref z5, .int z6, .ref z7, .long z8, .ref z9, .ref z10, .ref z11, .ref z12, .ref z13, .int z14, .int z15, .int z16, .int z17, .ref z18, .ref z19, .ref z20, .int z21, .int z22, .int z23, .int z24, .int z25, .int z26, .int z27, .int z28, .int z29, .int z30, .int z31, .int z32, .int z33, .int z34, .int z35, .long z36, .long z37, .int z38])), (mC, .inl (kB, 140000, .inl f))]) [1, 0] (by decide) rfl
        exact W.iret (v := (-1)) hx hb hr (fun t9 ht9 hW9 => ⟨⟨(-1), (f, n), rfl, (by right; exact ⟨by omega, rfl, rfl, rfl⟩), by rw [ht9]; exact hP9, va_K.moved hW9.alike hK, hD9⟩, hS.F ht9⟩) hS.2.2 dX8_again_30
      · refine lv_iload_n hx hb dX8_again_24 rfl (lv_at hl 0 rfl) ?_
        refine lv_iconst (v := (-1)) hx hb dX8_again_25 (by decide) ?_
        refine lv_icmp_ne (tgt := 31) hx hb dX8_again_26 (by decide) (fun c => absurd c (by decide)) (fun _ => ?_)
        refine lv_iconst (v := (-1)) hx hb dX8_again_29 (by decide) ?_
        have hP9 := hP.sub (ws' := [(m0, .inr (8, [.int 0, .ref mC, .int (nI n), .ref z3, .int z4, .ref z5, .int z6, .ref z7, .long z8, .ref z9, .ref z10, .ref z11, .ref z12, .ref z13, .int z14, .int z15, .int z16, .int z17, .ref z18, .ref z19, .ref z20, .int z21, .int z22, .int z23, .int z24, .int z25, .int z26, .int z27, .int z28, .int z29, .int z30, .int z31, .int z32, .int z33, .int z34, .int z35, .long z36, .long z37, .int z38])), (mC, .inl (kB, 140000, .inl f))]) [1, 0] rfl
        have hD9 := hD.sub (ws' := [(m0, .inr (8, [.int 0, .ref mC, .int (nI n), .ref z3, .int z4, .ref z5, .int z6, .ref z7, .long z8, .ref z9, .ref z10, .ref z11, .ref z12, .ref z13, .int z14, .int z15, .int z16, .int z17, .ref z18, .ref z19, .ref z20, .int z21, .int z22, .int z23, .int z24, .int z25, .int z26, .int z27, .int z28, .int z29, .int z30, .int z31, .int z32, .int z33, .int z34, .int z35, .long z36, .long z37, .int z38])), (mC, .inl (kB, 140000, .inl f))]) [1, 0] (by decide) rfl
        exact W.iret (v := (-1)) hx hb hr (fun t9 ht9 hW9 => ⟨⟨(-1), (f, n), rfl, (by right; exact ⟨by omega, rfl, rfl, rfl⟩), by rw [ht9]; exact hP9, va_K.moved hW9.alike hK, hD9⟩, hS.F ht9⟩) hS.2.2 dX8_again_30
  · subst er
    refine lv_istore_n (lv' := [(3, .int (-2)), (0, .ref m0), (1, .int x), (2, .int y)]) hx hb dX8_again_10 rfl hl (by decide) rfl (fun ls hl => ?_)
    refine lv_iload_n hx hb dX8_again_11 rfl (lv_at hl 2 rfl) ?_
    refine lv_iconst (v := 1) hx hb dX8_again_12 (by decide) ?_
    refine zb_icmp_lt (tgt := 29) (a := xi) (b := 1) hx hb dX8_again_13 (by decide) xh (by decide) (fun c13 => ?_) (fun c13 => ?_)
    · refine lv_iconst (v := (-1)) hx hb dX8_again_29 (by decide) ?_
      have hP9 := hP.sub (ws' := [(m0, .inr (8, [.int 0, .ref mC, .int (nI n), .ref z3, .int z4, .ref z5, .int z6, .ref z7, .long z8, .ref z9, .ref z10, .ref z11, .ref z12, .ref z13, .int z14, .int z15, .int z16, .int z17, .ref z18, .ref z19, .ref z20, .int z21, .int z22, .int z23, .int z24, .int z25, .int z26, .int z27, .int z28, .int z29, .int z30, .int z31, .int z32, .int z33, .int z34, .int z35, .long z36, .long z37, .int z38])), (mC, .inl (kB, 140000, .inl f))]) [1, 0] rfl
      have hD9 := hD.sub (ws' := [(m0, .inr (8, [.int 0, .ref mC, .int (nI n), .ref z3, .int z4, .ref z5, .int z6, .ref z7, .long z8, .ref z9, .ref z10, .ref z11, .ref z12, .ref z13, .int z14, .int z15, .int z16, .int z17, .ref z18, .ref z19, .ref z20, .int z21, .int z22, .int z23, .int z24, .int z25, .int z26, .int z27, .int z28, .int z29, .int z30, .int z31, .int z32, .int z33, .int z34, .int z35, .long z36, .long z37, .int z38])), (mC, .inl (kB, 140000, .inl f))]) [1, 0] (by decide) rfl
      exact W.iret (v := (-1)) hx hb hr (fun t9 ht9 hW9 => ⟨⟨(-1), (f, n), rfl, (by right; exact ⟨by omega, rfl, rfl, rfl⟩), by rw [ht9]; exact hP9, va_K.moved hW9.alike hK, hD9⟩, hS.F ht9⟩) hS.2.2 dX8_again_30
    · refine lv_iload_n hx hb dX8_again_16 rfl (lv_at hl 2 rfl) ?_
      refine lv_aload_n hx hb dX8_again_17 rfl (lv_at hl 1 rfl) ?_
      refine va_get (D := (dC, dI)) (ci := 8) (v := .int (nI n)) (C := RX8) (T := TX8) (N := 39) hx hb hts (by decide +kernel) hown hK hP 1 rfl rfl 2 (by decide) (hts (.fieldLink RX8 74 "SequenceFramesModel" "size" "I") (by decide +kernel)) (fun _ h9 => h9) rfl dX8_again_18 ?_
      refine zb_icmp_gt (tgt := 29) (a := xi) (b := ((n : Nat) : Int)) hx hb dX8_again_21 (by decide) xh (nI_toInt (by omega)) (fun c21 => ?_) (fun c21 => ?_)
      · refine lv_iconst (v := (-1)) hx hb dX8_again_29 (by decide) ?_
        have hP9 := hP.sub (ws' := [(m0, .inr (8, [.int 0, .ref mC, .int (nI n), .ref z3, .int z4, .ref z5, .int z6, .ref z7, .long z8, .ref z9, .ref z10, .ref z11, .ref z12, .ref z13, .int z14, .int z15, .int z16, .int z17, .ref z18, .ref z19, .ref z20, .int z21, .int z22, .int z23, .int z24, .int z25, .int z26, .int z27, .int z28, .int z29, .int z30, .int z31, .int z32, .int z33, .int z34, .int z35, .long z36, .long z37, .int z38])), (mC, .inl (kB, 140000, .inl f))]) [1, 0] rfl
        have hD9 := hD.sub (ws' := [(m0, .inr (8, [.int 0, .ref mC, .int (nI n), .ref z3, .int z4, .ref z5, .int z6, .ref z7, .long z8, .ref z9, .ref z10, .ref z11, .ref z12, .ref z13, .int z14, .int z15, .int z16, .int z17, .ref z18, .ref z19, .ref z20, .int z21, .int z22, .int z23, .int z24, .int z25, .int z26, .int z27, .int z28, .int z29, .int z30, .int z31, .int z32, .int z33, .int z34, .int z35, .long z36, .long z37, .int z38])), (mC, .inl (kB, 140000, .inl f))]) [1, 0] (by decide) rfl
        exact W.iret (v := (-1)) hx hb hr (fun t9 ht9 hW9 => ⟨⟨(-1), (f, n), rfl, (by right; exact ⟨by omega, rfl, rfl, rfl⟩), by rw [ht9]; exact hP9, va_K.moved hW9.alike hK, hD9⟩, hS.F ht9⟩) hS.2.2 dX8_again_30
      · obtain ⟨d, db, xe⟩ := z_nat (x := x) (by omega)
        subst xe
        rw [nI_toInt db] at xh
        subst xh
        obtain ⟨k, kb, ye⟩ := z_nat (x := y) (by omega)
        subst ye
        rw [nI_toInt kb] at yh
        subst yh
        refine lv_iload_n hx hb dX8_again_24 rfl (lv_at hl 0 rfl) ?_
        refine lv_iconst (v := (-1)) hx hb dX8_again_25 (by decide) ?_
        refine lv_icmp_ne (tgt := 31) hx hb dX8_again_26 (by decide) (fun _ => ?_) (fun c => absurd c (by decide))
        refine lv_iload_n hx hb dX8_again_31 rfl (lv_at hl 0 rfl) ?_
        refine lv_bipush (v := (-2)) hx hb dX8_again_32 (by decide) ?_
        refine lv_icmp_ne (tgt := 40) hx hb dX8_again_34 (by decide) (fun c => absurd c (by decide)) (fun _ => ?_)
        refine lv_bipush (v := (-2)) hx hb dX8_again_37 (by decide) ?_
        have hP9 := hP.sub (ws' := [(m0, .inr (8, [.int 0, .ref mC, .int (nI n), .ref z3, .int z4, .ref z5, .int z6, .ref z7, .long z8, .ref z9, .ref z10, .ref z11, .ref z12, .ref z13, .int z14, .int z15, .int z16, .int z17, .ref z18, .ref z19, .ref z20, .int z21, .int z22, .int z23, .int z24, .int z25, .int z26, .int z27, .int z28, .int z29, .int z30, .int z31, .int z32, .int z33, .int z34, .int z35, .long z36, .long z37, .int z38])), (mC, .inl (kB, 140000, .inl f))]) [1, 0] rfl
        have hD9 := hD.sub (ws' := [(m0, .inr (8, [.int 0, .ref mC, .int (nI n), .ref z3, .int z4, .ref z5, .int z6, .ref z7, .long z8, .ref z9, .ref z10, .ref z11, .ref z12, .ref z13, .int z14, .int z15, .int z16, .int z17, .ref z18, .ref z19, .ref z20, .int z21, .int z22, .int z23, .int z24, .int z25, .int z26, .int z27, .int z28, .int z29, .int z30, .int z31, .int z32, .int z33, .int z34, .int z35, .long z36, .long z37, .int z38])), (mC, .inl (kB, 140000, .inl f))]) [1, 0] (by decide) rfl
        exact W.iret (v := (-2)) hx hb hr (fun t9 ht9 hW9 => ⟨⟨(-2), (f, n), rfl, (by left; exact ⟨d, k, rfl, rfl, by omega, by omega, by omega, by omega, Or.inr ⟨by omega, rfl, rfl, rfl⟩⟩), by rw [ht9]; exact hP9, va_K.moved hW9.alike hK, hD9⟩, hS.F ht9⟩) hS.2.2 dX8_again_39

set_option maxHeartbeats 4000000 in
set_option maxRecDepth 100000 in
theorem c_Mod_change (l : Launch) (dC : Nat → ClassId) (dI : Nat → Nat → Nat) (kB kI : ClassId) (m0 : Nat) (z0 : Int32) (z3 : Nat) (z4 : Int32) (z5 : Nat) (z6 : Int32) (z7 : Nat) (z8 : Int64) (z9 : Nat) (z10 : Nat) (z11 : Nat) (z12 : Nat) (z13 : Nat) (z14 : Int32) (z15 : Int32) (z16 : Int32) (z17 : Int32) (z18 : Nat) (z19 : Nat) (z20 : Nat) (z21 : Int32) (z22 : Int32) (z23 : Int32) (z24 : Int32) (z25 : Int32) (z26 : Int32) (z27 : Int32) (z28 : Int32) (z29 : Int32) (z30 : Int32) (z31 : Int32) (z32 : Int32) (z33 : Int32) (z34 : Int32) (z35 : Int32) (z36 : Int64) (z37 : Int64) (z38 : Int32) (mC : Nat) (n : Nat) (f : Nat → Int32) (x : Int32) (xi : Int) (y : Int32) (hn : n ≤ 140000) (xh : x.toInt = xi) : zMi l yX8_change wsX8_change ({ frames := 0, cells := 0, slots := 0, locals := 0 }) (dC, dI) kB kI [.ref m0, .int x, .int y] [(m0, .inr (8, [.int z0, .ref mC, .int (nI n), .ref z3, .int z4, .ref z5, .int z6, .ref z7, .long z8, .ref z9, .ref z10, .ref z11, .ref z12, .ref z13, .int z14, .int z15, .int z16, .int z17, .ref z18, .ref z19, .ref z20, .int z21, .int z22, .int z23, .int z24, .int z25, .int z26, .int z27, .int z28, .int z29, .int z30, .int z31, .int z32, .int z33, .int z34, .int z35, .long z36, .long z37, .int z38])), (mC, .inl (kB, 140000, .inl f))] 0 0 (fun (r : Int32) => fun f2 : Nat → Int32 => (∃ j : Nat, xi = j ∧ j < n ∧ r = f j &&& 255 ∧ f2 = upd f j (i2b y)) ∨ ((xi < 0 ∨ (n : Int) ≤ xi) ∧ r = -1 ∧ f2 = f)) (fun f2 : Nat → Int32 => [(m0, .inr (8, [.int 0, .ref mC, .int (nI n), .ref z3, .int z4, .ref z5, .int z6, .ref z7, .long z8, .ref z9, .ref z10, .ref z11, .ref z12, .ref z13, .int z14, .int z15, .int z16, .int z17, .ref z18, .ref z19, .ref z20, .int z21, .int z22, .int z23, .int z24, .int z25, .int z26, .int z27, .int z28, .int z29, .int z30, .int z31, .int z32, .int z33, .int z34, .int z35, .long z36, .long z37, .int z38])), (mC, .inl (kB, 140000, .inl f2))]) := by
  intro sz
  refine Met.ofW (cc := cX8_change) (maxL := 4) (ret := (some .int)) (by decide) rfl ?_
  intro p e s m args below meth c s₁ B hml hv
  obtain ⟨rfl, hsz, hP, hK, hD0⟩ := hv
  have hx := B.exec
  have hb := B.bytes
  have hr := B.returns
  have hts := atoms_spec (ws := wsX8_change) B.pre
  have hown : s.vm.findClass RX8 = some m.cls := findClass_of_methodNamed B.named
  have hlocks := B.notSynchronized
  subst hsz
  have hD := hD0.self (sz := s.heap.size)
  generalize hAe : va_A [(m0, .inr (8, [.int z0, .ref mC, .int (nI n), .ref z3, .int z4, .ref z5, .int z6, .ref z7, .long z8, .ref z9, .ref z10, .ref z11, .ref z12, .ref z13, .int z14, .int z15, .int z16, .int z17, .ref z18, .ref z19, .ref z20, .int z21, .int z22, .int z23, .int z24, .int z25, .int z26, .int z27, .int z28, .int z29, .int z30, .int z31, .int z32, .int z33, .int z34, .int z35, .long z36, .long z37, .int z38])), (mC, .inl (kB, 140000, .inl f))] s.heap.size = A at hD ⊢
  have hA : ∀ q : Nat, s.heap.size ≤ q → A q := fun q h => by rw [← hAe]; exact Or.inr h
  have hS : va_S A s.heap s.heap [] := va_S.rf
  have hP : va_P (dC, dI) vwCl [(m0, .inr (8, [.int z0, .ref mC, .int (nI n), .ref z3, .int z4, .ref z5, .int z6, .ref z7, .long z8, .ref z9, .ref z10, .ref z11, .ref z12, .ref z13, .int z14, .int z15, .int z16, .int z17, .ref z18, .ref z19, .ref z20, .int z21, .int z22, .int z23, .int z24, .int z25, .int z26, .int z27, .int z28, .int z29, .int z30, .int z31, .int z32, .int z33, .int z34, .int z35, .long z36, .long z37, .int z38])), (mC, .inl (kB, 140000, .inl f))] s.heap := hP
  have hl := lv_entry ([.ref m0, .int x, .int y]) (n := 4) (Nat.le_of_ble_eq_true rfl)
  rw [lg_entry_eq]
  generalize (lg_sl ([.ref m0, .int x, .int y]) ++ List.replicate (4 - (lg_sl ([.ref m0, .int x, .int y])).length) Slot.unset).toArray = ls at hl ⊢
  have hl : lv_has ls 4 [(0, .ref m0), (1, .int x), (2, .int y)] := hl
  refine zG (fun GG hG1 hG2 => ?_)
  refine lv_aload_n hx hb dX8_change_0 rfl (lv_at hl 0 rfl) ?_
  refine lv_iconst (v := 0) hx hb dX8_change_1 (by decide) ?_
  refine va_put (D := (dC, dI)) (ci := 8) (v := .int 0) (ty := .int) (C := RX8) (T := TX8) (N := 39) hx hb hts (by decide +kernel) tyX8 tyX8_ok nmX8 hown hK hP hD hS 0 rfl rfl 0 (by decide) (hts (.fieldLink RX8 55 "SequenceFramesModel" "code" "I") (by decide +kernel)) (fun _ h9 => h9) rfl (by decide +kernel) rfl rfl (Nat.le_of_ble_eq_true rfl) dX8_change_2 (fun H locs hP hD hS => ?_)
  have hP : va_P (dC, dI) vwCl [(m0, .inr (8, [.int 0, .ref mC, .int (nI n), .ref z3, .int z4, .ref z5, .int z6, .ref z7, .long z8, .ref z9, .ref z10, .ref z11, .ref z12, .ref z13, .int z14, .int z15, .int z16, .int z17, .ref z18, .ref z19, .ref z20, .int z21, .int z22, .int z23, .int z24, .int z25, .int z26, .int z27, .int z28, .int z29, .int z30, .int z31, .int z32, .int z33, .int z34, .int z35, .long z36, .long z37, .int z38])), (mC, .inl (kB, 140000, .inl f))] H := hP
  have hD : va_D A [(m0, .inr (8, [.int 0, .ref mC, .int (nI n), .ref z3, .int z4, .ref z5, .int z6, .ref z7, .long z8, .ref z9, .ref z10, .ref z11, .ref z12, .ref z13, .int z14, .int z15, .int z16, .int z17, .ref z18, .ref z19, .ref z20, .int z21, .int z22, .int z23, .int z24, .int z25, .int z26, .int z27, .int z28, .int z29, .int z30, .int z31, .int z32, .int z33, .int z34, .int z35, .long z36, .long z37, .int z38])), (mC, .inl (kB, 140000, .inl f))] := hD
  refine lv_iload_n hx hb dX8_change_5 rfl (lv_at hl 1 rfl) ?_
  refine zb_if_lt (tgt := 17) (a := xi) hx hb dX8_change_6 (by decide) xh (fun c6 => ?_) (fun c6 => ?_)
  · refine lv_iconst (v := (-1)) hx hb dX8_change_17 (by decide) ?_
    have hP9 := hP.sub (ws' := [(m0, .inr (8, [.int 0, .ref mC, .int (nI n), .ref z3, .int z4, .ref z5, .int z6, .ref z7, .long z8, .ref z9, .ref z10, .ref z11, .ref z12, .ref z13, .int z14, .int z15, .int z16, .int z17, .ref z18, .ref z19, .ref z20, .int z21, .int z22, .int z23, .int z24, .int z25, .int z26, .int z27, .int z28, .int z29, .int z30, .int z31, .int z32, .int z33, .int z34, .int z35, .long z36, .long z37, .int z38])), (mC, .inl (kB, 140000, .inl f))]) [0, 1] rfl
    have hD9 := hD.sub (ws' := [(m0, .inr (8, [.int 0, .ref mC, .int (nI n), .ref z3, .int z4, .ref z5, .int z6, .ref z7, .long z8, .ref z9, .ref z10, .ref z11, .ref z12, .ref z13, .int z14, .int z15, .int z16, .int z17, .ref z18, .ref z19, .ref z20, .int z21, .int z22, .int z23, .int z24, .int z25, .int z26, .int z27, .int z28, .int z29, .int z30, .int z31, .int z32, .int z33, .int z34, .int z35, .long z36, .long z37, .int z38])), (mC, .inl (kB, 140000, .inl f))]) [0, 1] (by decide) rfl
    exact W.iret (v := (-1)) hx hb hr (fun t9 ht9 hW9 => ⟨⟨(-1), f, rfl, (by right; exact ⟨by omega, rfl, rfl⟩), by rw [ht9]; exact hP9, va_K.moved hW9.alike hK, hD9⟩, hS.F ht9⟩) hS.2.2 dX8_change_18
  · refine lv_iload_n hx hb dX8_change_9 rfl (lv_at hl 1 rfl) ?_
    refine lv_aload_n hx hb dX8_change_10 rfl (lv_at hl 0 rfl) ?_
    refine va_get (D := (dC, dI)) (ci := 8) (v := .int (nI n)) (C := RX8) (T := TX8) (N := 39) hx hb hts (by decide +kernel) hown hK hP 0 rfl rfl 2 (by decide) (hts (.fieldLink RX8 74 "SequenceFramesModel" "size" "I") (by decide +kernel)) (fun _ h9 => h9) rfl dX8_change_11 ?_
    refine zb_icmp_lt (tgt := 19) (a := xi) (b := ((n : Nat) : Int)) hx hb dX8_change_14 (by decide) xh (nI_toInt (by omega)) (fun c14 => ?_) (fun c14 => ?_)
    · obtain ⟨j, jb, xe⟩ := z_nat (x := x) (by omega)
      subst xe
      rw [nI_toInt jb] at xh
      subst xh
      refine lv_aload_n hx hb dX8_change_19 rfl (lv_at hl 0 rfl) ?_
      refine va_get (D := (dC, dI)) (ci := 8) (v := .ref mC) (C := RX8) (T := TX8) (N := 39) hx hb hts (by decide +kernel) hown hK hP 0 rfl rfl 1 (by decide) (hts (.fieldLink RX8 10 "SequenceFramesModel" "content" "[B") (by decide +kernel)) (fun _ h9 => h9) rfl dX8_change_20 ?_
      refine lv_iload_n hx hb dX8_change_23 rfl (lv_at hl 1 rfl) ?_
      refine va_bald hx hb hK hP 1 0 rfl rfl (zin rfl (by omega) (by omega)) dX8_change_24 ?_
      refine lv_is (y := (f j)) (zld f rfl (by omega)) ?_
      refine lv_sipush (v := 255) hx hb dX8_change_25 (by decide) ?_
      refine lv_iand hx hb dX8_change_28 ?_
      refine lv_istore_n (lv' := [(3, .int ((f j) &&& 255)), (0, .ref m0), (1, .int (nI j)), (2, .int y)]) hx hb dX8_change_29 rfl hl (by decide) rfl (fun ls hl => ?_)
      refine lv_aload_n hx hb dX8_change_30 rfl (lv_at hl 1 rfl) ?_
      refine va_get (D := (dC, dI)) (ci := 8) (v := .ref mC) (C := RX8) (T := TX8) (N := 39) hx hb hts (by decide +kernel) hown hK hP 0 rfl rfl 1 (by decide) (hts (.fieldLink RX8 10 "SequenceFramesModel" "content" "[B") (by decide +kernel)) (fun _ h9 => h9) rfl dX8_change_31 ?_
      refine lv_iload_n hx hb dX8_change_34 rfl (lv_at hl 2 rfl) ?_
      refine lv_iload_n hx hb dX8_change_35 rfl (lv_at hl 3 rfl) ?_
      refine lv_i2b (v := (i2b y)) hx hb dX8_change_36 rfl ?_
      refine va_bast hx hb hK hP hD hS 1 0 rfl rfl (zin rfl (by omega) (by omega)) dX8_change_37 (fun H locs hP hD hS => ?_)
      have ez := (congrArg (upd f ((nI j) : Int32).toNatClampNeg) (show vp_nar .byte (i2b y) = (i2b y) from pk_vb _)).trans (zst f (i2b y) (i := (nI j)) (j := j) rfl (by omega))
      have hP : va_P (dC, dI) vwCl [(m0, .inr (8, [.int 0, .ref mC, .int (nI n), .ref z3, .int z4, .ref z5, .int z6, .ref z7, .long z8, .ref z9, .ref z10, .ref z11, .ref z12, .ref z13, .int z14, .int z15, .int z16, .int z17, .ref z18, .ref z19, .ref z20, .int z21, .int z22, .int z23, .int z24, .int z25, .int z26, .int z27, .int z28, .int z29, .int z30, .int z31, .int z32, .int z33, .int z34, .int z35, .long z36, .long z37, .int z38])), (mC, .inl (kB, 140000, .inl (upd f j (i2b y))))] H := by rw [← ez]; exact hP
      have hD : va_D A [(m0, .inr (8, [.int 0, .ref mC, .int (nI n), .ref z3, .int z4, .ref z5, .int z6, .ref z7, .long z8, .ref z9, .ref z10, .ref z11, .ref z12, .ref z13, .int z14, .int z15, .int z16, .int z17, .ref z18, .ref z19, .ref z20, .int z21, .int z22, .int z23, .int z24, .int z25, .int z26, .int z27, .int z28, .int z29, .int z30, .int z31, .int z32, .int z33, .int z34, .int z35, .long z36, .long z37, .int z38])), (mC, .inl (kB, 140000, .inl (upd f j (i2b y))))] := by rw [← ez]; exact hD
      refine lv_iload_n hx hb dX8_change_38 rfl (lv_at hl 0 rfl) ?_
      have hP9 := hP.sub (ws' := [(m0, .inr (8, [.int 0, .ref mC, .int (nI n), .ref z3, .int z4, .ref z5, .int z6, .ref z7, .long z8, .ref z9, .ref z10, .ref z11, .ref z12, .ref z13, .int z14, .int z15, .int z16, .int z17, .ref z18, .ref z19, .ref z20, .int z21, .int z22, .int z23, .int z24, .int z25, .int z26, .int z27, .int z28, .int z29, .int z30, .int z31, .int z32, .int z33, .int z34, .int z35, .long z36, .long z37, .int z38])), (mC, .inl (kB, 140000, .inl (upd f j (i2b y))))]) [0, 1] rfl
      have hD9 := hD.sub (ws' := [(m0, .inr (8, [.int 0, .ref mC, .int (nI n), .ref z3, .int z4, .ref z5, .int z6, .ref z7, .long z8, .ref z9, .ref z10, .ref z11, .ref z12, .ref z13, .int z14, .int z15, .int z16, .int z17, .ref z18, .ref z19, .ref z20, .int z21, .int z22, .int z23, .int z24, .int z25, .int z26, .int z27, .int z28, .int z29, .int z30, .int z31, .int z32, .int z33, .int z34, .int z35, .long z36, .long z37, .int z38])), (mC, .inl (kB, 140000, .inl (upd f j (i2b y))))]) [0, 1] (by decide) rfl
      exact W.iret (v := ((f j) &&& 255)) hx hb hr (fun t9 ht9 hW9 => ⟨⟨((f j) &&& 255), (upd f j (i2b y)), rfl, (by left; exact ⟨j, rfl, by omega, rfl, rfl⟩), by rw [ht9]; exact hP9, va_K.moved hW9.alike hK, hD9⟩, hS.F ht9⟩) hS.2.2 dX8_change_39
    · refine lv_iconst (v := (-1)) hx hb dX8_change_17 (by decide) ?_
      have hP9 := hP.sub (ws' := [(m0, .inr (8, [.int 0, .ref mC, .int (nI n), .ref z3, .int z4, .ref z5, .int z6, .ref z7, .long z8, .ref z9, .ref z10, .ref z11, .ref z12, .ref z13, .int z14, .int z15, .int z16, .int z17, .ref z18, .ref z19, .ref z20, .int z21, .int z22, .int z23, .int z24, .int z25, .int z26, .int z27, .int z28, .int z29, .int z30, .int z31, .int z32, .int z33, .int z34, .int z35, .long z36, .long z37, .int z38])), (mC, .inl (kB, 140000, .inl f))]) [0, 1] rfl
      have hD9 := hD.sub (ws' := [(m0, .inr (8, [.int 0, .ref mC, .int (nI n), .ref z3, .int z4, .ref z5, .int z6, .ref z7, .long z8, .ref z9, .ref z10, .ref z11, .ref z12, .ref z13, .int z14, .int z15, .int z16, .int z17, .ref z18, .ref z19, .ref z20, .int z21, .int z22, .int z23, .int z24, .int z25, .int z26, .int z27, .int z28, .int z29, .int z30, .int z31, .int z32, .int z33, .int z34, .int z35, .long z36, .long z37, .int z38])), (mC, .inl (kB, 140000, .inl f))]) [0, 1] (by decide) rfl
      exact W.iret (v := (-1)) hx hb hr (fun t9 ht9 hW9 => ⟨⟨(-1), f, rfl, (by right; exact ⟨by omega, rfl, rfl⟩), by rw [ht9]; exact hP9, va_K.moved hW9.alike hK, hD9⟩, hS.F ht9⟩) hS.2.2 dX8_change_18

set_option maxHeartbeats 4000000 in
set_option maxRecDepth 100000 in
theorem c_Mod_alter (l : Launch) (dC : Nat → ClassId) (dI : Nat → Nat → Nat) (kB kI : ClassId) (m0 : Nat) (z0 : Int32) (z1 : Nat) (z2 : Int32) (z5 : Nat) (z6 : Int32) (z7 : Nat) (z8 : Int64) (z9 : Nat) (z10 : Nat) (z11 : Nat) (z12 : Nat) (z13 : Nat) (z14 : Int32) (z15 : Int32) (z16 : Int32) (z17 : Int32) (z18 : Nat) (z19 : Nat) (z20 : Nat) (z21 : Int32) (z22 : Int32) (z23 : Int32) (z24 : Int32) (z25 : Int32) (z26 : Int32) (z27 : Int32) (z28 : Int32) (z29 : Int32) (z30 : Int32) (z31 : Int32) (z32 : Int32) (z33 : Int32) (z34 : Int32) (z35 : Int32) (z36 : Int64) (z37 : Int64) (z38 : Int32) (mF : Nat) (n : Nat) (f : Nat → Int32) (x : Int32) (xi : Int) (y : Int32) (hn : n ≤ 150000) (xh : x.toInt = xi) : zMi l yX8_alter wsX8_alter ({ frames := 0, cells := 0, slots := 0, locals := 0 }) (dC, dI) kB kI [.ref m0, .int x, .int y] [(m0, .inr (8, [.int z0, .ref z1, .int z2, .ref mF, .int (nI n), .ref z5, .int z6, .ref z7, .long z8, .ref z9, .ref z10, .ref z11, .ref z12, .ref z13, .int z14, .int z15, .int z16, .int z17, .ref z18, .ref z19, .ref z20, .int z21, .int z22, .int z23, .int z24, .int z25, .int z26, .int z27, .int z28, .int z29, .int z30, .int z31, .int z32, .int z33, .int z34, .int z35, .long z36, .long z37, .int z38])), (mF, .inl (kB, 150000, .inl f))] 0 0 (fun (r : Int32) => fun f2 : Nat → Int32 => (∃ j : Nat, xi = j ∧ j < n ∧ r = f j &&& 255 ∧ f2 = upd f j (i2b y)) ∨ ((xi < 0 ∨ (n : Int) ≤ xi) ∧ r = -1 ∧ f2 = f)) (fun f2 : Nat → Int32 => [(m0, .inr (8, [.int 0, .ref z1, .int z2, .ref mF, .int (nI n), .ref z5, .int z6, .ref z7, .long z8, .ref z9, .ref z10, .ref z11, .ref z12, .ref z13, .int z14, .int z15, .int z16, .int z17, .ref z18, .ref z19, .ref z20, .int z21, .int z22, .int z23, .int z24, .int z25, .int z26, .int z27, .int z28, .int z29, .int z30, .int z31, .int z32, .int z33, .int z34, .int z35, .long z36, .long z37, .int z38])), (mF, .inl (kB, 150000, .inl f2))]) := by
  intro sz
  refine Met.ofW (cc := cX8_alter) (maxL := 4) (ret := (some .int)) (by decide) rfl ?_
  intro p e s m args below meth c s₁ B hml hv
  obtain ⟨rfl, hsz, hP, hK, hD0⟩ := hv
  have hx := B.exec
  have hb := B.bytes
  have hr := B.returns
  have hts := atoms_spec (ws := wsX8_alter) B.pre
  have hown : s.vm.findClass RX8 = some m.cls := findClass_of_methodNamed B.named
  have hlocks := B.notSynchronized
  subst hsz
  have hD := hD0.self (sz := s.heap.size)
  generalize hAe : va_A [(m0, .inr (8, [.int z0, .ref z1, .int z2, .ref mF, .int (nI n), .ref z5, .int z6, .ref z7, .long z8, .ref z9, .ref z10, .ref z11, .ref z12, .ref z13, .int z14, .int z15, .int z16, .int z17, .ref z18, .ref z19, .ref z20, .int z21, .int z22, .int z23, .int z24, .int z25, .int z26, .int z27, .int z28, .int z29, .int z30, .int z31, .int z32, .int z33, .int z34, .int z35, .long z36, .long z37, .int z38])), (mF, .inl (kB, 150000, .inl f))] s.heap.size = A at hD ⊢
  have hA : ∀ q : Nat, s.heap.size ≤ q → A q := fun q h => by rw [← hAe]; exact Or.inr h
  have hS : va_S A s.heap s.heap [] := va_S.rf
  have hP : va_P (dC, dI) vwCl [(m0, .inr (8, [.int z0, .ref z1, .int z2, .ref mF, .int (nI n), .ref z5, .int z6, .ref z7, .long z8, .ref z9, .ref z10, .ref z11, .ref z12, .ref z13, .int z14, .int z15, .int z16, .int z17, .ref z18, .ref z19, .ref z20, .int z21, .int z22, .int z23, .int z24, .int z25, .int z26, .int z27, .int z28, .int z29, .int z30, .int z31, .int z32, .int z33, .int z34, .int z35, .long z36, .long z37, .int z38])), (mF, .inl (kB, 150000, .inl f))] s.heap := hP
  have hl := lv_entry ([.ref m0, .int x, .int y]) (n := 4) (Nat.le_of_ble_eq_true rfl)
  rw [lg_entry_eq]
  generalize (lg_sl ([.ref m0, .int x, .int y]) ++ List.replicate (4 - (lg_sl ([.ref m0, .int x, .int y])).length) Slot.unset).toArray = ls at hl ⊢
  have hl : lv_has ls 4 [(0, .ref m0), (1, .int x), (2, .int y)] := hl
  refine zG (fun GG hG1 hG2 => ?_)
  refine lv_aload_n hx hb dX8_alter_0 rfl (lv_at hl 0 rfl) ?_
  refine lv_iconst (v := 0) hx hb dX8_alter_1 (by decide) ?_
  refine va_put (D := (dC, dI)) (ci := 8) (v := .int 0) (ty := .int) (C := RX8) (T := TX8) (N := 39) hx hb hts (by decide +kernel) tyX8 tyX8_ok nmX8 hown hK hP hD hS 0 rfl rfl 0 (by decide) (hts (.fieldLink RX8 55 "SequenceFramesModel" "code" "I") (by decide +kernel)) (fun _ h9 => h9) rfl (by decide +kernel) rfl rfl (Nat.le_of_ble_eq_true rfl) dX8_alter_2 (fun H locs hP hD hS => ?_)
  have hP : va_P (dC, dI) vwCl [(m0, .inr (8, [.int 0, .ref z1, .int z2, .ref mF, .int (nI n), .ref z5, .int z6, .ref z7, .long z8, .ref z9, .ref z10, .ref z11, .ref z12, .ref z13, .int z14, .int z15, .int z16, .int z17, .ref z18, .ref z19, .ref z20, .int z21, .int z22, .int z23, .int z24, .int z25, .int z26, .int z27, .int z28, .int z29, .int z30, .int z31, .int z32, .int z33, .int z34, .int z35, .long z36, .long z37, .int z38])), (mF, .inl (kB, 150000, .inl f))] H := hP
  have hD : va_D A [(m0, .inr (8, [.int 0, .ref z1, .int z2, .ref mF, .int (nI n), .ref z5, .int z6, .ref z7, .long z8, .ref z9, .ref z10, .ref z11, .ref z12, .ref z13, .int z14, .int z15, .int z16, .int z17, .ref z18, .ref z19, .ref z20, .int z21, .int z22, .int z23, .int z24, .int z25, .int z26, .int z27, .int z28, .int z29, .int z30, .int z31, .int z32, .int z33, .int z34, .int z35, .long z36, .long z37, .int z38])), (mF, .inl (kB, 150000, .inl f))] := hD
  refine lv_iload_n hx hb dX8_alter_5 rfl (lv_at hl 1 rfl) ?_
  refine zb_if_lt (tgt := 17) (a := xi) hx hb dX8_alter_6 (by decide) xh (fun c6 => ?_) (fun c6 => ?_)
  · refine lv_iconst (v := (-1)) hx hb dX8_alter_17 (by decide) ?_
    have hP9 := hP.sub (ws' := [(m0, .inr (8, [.int 0, .ref z1, .int z2, .ref mF, .int (nI n), .ref z5, .int z6, .ref z7, .long z8, .ref z9, .ref z10, .ref z11, .ref z12, .ref z13, .int z14, .int z15, .int z16, .int z17, .ref z18, .ref z19, .ref z20, .int z21, .int z22, .int z23, .int z24, .int z25, .int z26, .int z27, .int z28, .int z29, .int z30, .int z31, .int z32, .int z33, .int z34, .int z35, .long z36, .long z37, .int z38])), (mF, .inl (kB, 150000, .inl f))]) [0, 1] rfl
    have hD9 := hD.sub (ws' := [(m0, .inr (8, [.int 0, .ref z1, .int z2, .ref mF, .int (nI n), .ref z5, .int z6, .ref z7, .long z8, .ref z9, .ref z10, .ref z11, .ref z12, .ref z13, .int z14, .int z15, .int z16, .int z17, .ref z18, .ref z19, .ref z20, .int z21, .int z22, .int z23, .int z24, .int z25, .int z26, .int z27, .int z28, .int z29, .int z30, .int z31, .int z32, .int z33, .int z34, .int z35, .long z36, .long z37, .int z38])), (mF, .inl (kB, 150000, .inl f))]) [0, 1] (by decide) rfl
    exact W.iret (v := (-1)) hx hb hr (fun t9 ht9 hW9 => ⟨⟨(-1), f, rfl, (by right; exact ⟨by omega, rfl, rfl⟩), by rw [ht9]; exact hP9, va_K.moved hW9.alike hK, hD9⟩, hS.F ht9⟩) hS.2.2 dX8_alter_18
  · refine lv_iload_n hx hb dX8_alter_9 rfl (lv_at hl 1 rfl) ?_
    refine lv_aload_n hx hb dX8_alter_10 rfl (lv_at hl 0 rfl) ?_
    refine va_get (D := (dC, dI)) (ci := 8) (v := .int (nI n)) (C := RX8) (T := TX8) (N := 39) hx hb hts (by decide +kernel) hown hK hP 0 rfl rfl 4 (by decide) (hts (.fieldLink RX8 141 "SequenceFramesModel" "framed" "I") (by decide +kernel)) (fun _ h9 => h9) rfl dX8_alter_11 ?_
    refine zb_icmp_lt (tgt := 19) (a := xi) (b := ((n : Nat) : Int)) hx hb dX8_alter_14 (by decide) xh (nI_toInt (by omega)) (fun c14 => ?_) (fun c14 => ?_)
    · obtain ⟨j, jb, xe⟩ := z_nat (x := x) (by omega)
      subst xe
      rw [nI_toInt jb] at xh
      subst xh
      refine lv_aload_n hx hb dX8_alter_19 rfl (lv_at hl 0 rfl) ?_
      refine va_get (D := (dC, dI)) (ci := 8) (v := .ref mF) (C := RX8) (T := TX8) (N := 39) hx hb hts (by decide +kernel) hown hK hP 0 rfl rfl 3 (by decide) (hts (.fieldLink RX8 15 "SequenceFramesModel" "frames" "[B") (by decide +kernel)) (fun _ h9 => h9) rfl dX8_alter_20 ?_
      refine lv_iload_n hx hb dX8_alter_23 rfl (lv_at hl 1 rfl) ?_
      refine va_bald hx hb hK hP 1 0 rfl rfl (zin rfl (by omega) (by omega)) dX8_alter_24 ?_
      refine lv_is (y := (f j)) (zld f rfl (by omega)) ?_
      refine lv_sipush (v := 255) hx hb dX8_alter_25 (by decide) ?_
      refine lv_iand hx hb dX8_alter_28 ?_
      refine lv_istore_n (lv' := [(3, .int ((f j) &&& 255)), (0, .ref m0), (1, .int (nI j)), (2, .int y)]) hx hb dX8_alter_29 rfl hl (by decide) rfl (fun ls hl => ?_)
      refine lv_aload_n hx hb dX8_alter_30 rfl (lv_at hl 1 rfl) ?_
      refine va_get (D := (dC, dI)) (ci := 8) (v := .ref mF) (C := RX8) (T := TX8) (N := 39) hx hb hts (by decide +kernel) hown hK hP 0 rfl rfl 3 (by decide) (hts (.fieldLink RX8 15 "SequenceFramesModel" "frames" "[B") (by decide +kernel)) (fun _ h9 => h9) rfl dX8_alter_31 ?_
      refine lv_iload_n hx hb dX8_alter_34 rfl (lv_at hl 2 rfl) ?_
      refine lv_iload_n hx hb dX8_alter_35 rfl (lv_at hl 3 rfl) ?_
      refine lv_i2b (v := (i2b y)) hx hb dX8_alter_36 rfl ?_
      refine va_bast hx hb hK hP hD hS 1 0 rfl rfl (zin rfl (by omega) (by omega)) dX8_alter_37 (fun H locs hP hD hS => ?_)
      have ez := (congrArg (upd f ((nI j) : Int32).toNatClampNeg) (show vp_nar .byte (i2b y) = (i2b y) from pk_vb _)).trans (zst f (i2b y) (i := (nI j)) (j := j) rfl (by omega))
      have hP : va_P (dC, dI) vwCl [(m0, .inr (8, [.int 0, .ref z1, .int z2, .ref mF, .int (nI n), .ref z5, .int z6, .ref z7, .long z8, .ref z9, .ref z10, .ref z11, .ref z12, .ref z13, .int z14, .int z15, .int z16, .int z17, .ref z18, .ref z19, .ref z20, .int z21, .int z22, .int z23, .int z24, .int z25, .int z26, .int z27, .int z28, .int z29, .int z30, .int z31, .int z32, .int z33, .int z34, .int z35, .long z36, .long z37, .int z38])), (mF, .inl (kB, 150000, .inl (upd f j (i2b y))))] H := by rw [← ez]; exact hP
      have hD : va_D A [(m0, .inr (8, [.int 0, .ref z1, .int z2, .ref mF, .int (nI n), .ref z5, .int z6, .ref z7, .long z8, .ref z9, .ref z10, .ref z11, .ref z12, .ref z13, .int z14, .int z15, .int z16, .int z17, .ref z18, .ref z19, .ref z20, .int z21, .int z22, .int z23, .int z24, .int z25, .int z26, .int z27, .int z28, .int z29, .int z30, .int z31, .int z32, .int z33, .int z34, .int z35, .long z36, .long z37, .int z38])), (mF, .inl (kB, 150000, .inl (upd f j (i2b y))))] := by rw [← ez]; exact hD
      refine lv_iload_n hx hb dX8_alter_38 rfl (lv_at hl 0 rfl) ?_
      have hP9 := hP.sub (ws' := [(m0, .inr (8, [.int 0, .ref z1, .int z2, .ref mF, .int (nI n), .ref z5, .int z6, .ref z7, .long z8, .ref z9, .ref z10, .ref z11, .ref z12, .ref z13, .int z14, .int z15, .int z16, .int z17, .ref z18, .ref z19, .ref z20, .int z21, .int z22, .int z23, .int z24, .int z25, .int z26, .int z27, .int z28, .int z29, .int z30, .int z31, .int z32, .int z33, .int z34, .int z35, .long z36, .long z37, .int z38])), (mF, .inl (kB, 150000, .inl (upd f j (i2b y))))]) [0, 1] rfl
      have hD9 := hD.sub (ws' := [(m0, .inr (8, [.int 0, .ref z1, .int z2, .ref mF, .int (nI n), .ref z5, .int z6, .ref z7, .long z8, .ref z9, .ref z10, .ref z11, .ref z12, .ref z13, .int z14, .int z15, .int z16, .int z17, .ref z18, .ref z19, .ref z20, .int z21, .int z22, .int z23, .int z24, .int z25, .int z26, .int z27, .int z28, .int z29, .int z30, .int z31, .int z32, .int z33, .int z34, .int z35, .long z36, .long z37, .int z38])), (mF, .inl (kB, 150000, .inl (upd f j (i2b y))))]) [0, 1] (by decide) rfl
      exact W.iret (v := ((f j) &&& 255)) hx hb hr (fun t9 ht9 hW9 => ⟨⟨((f j) &&& 255), (upd f j (i2b y)), rfl, (by left; exact ⟨j, rfl, by omega, rfl, rfl⟩), by rw [ht9]; exact hP9, va_K.moved hW9.alike hK, hD9⟩, hS.F ht9⟩) hS.2.2 dX8_alter_39
    · refine lv_iconst (v := (-1)) hx hb dX8_alter_17 (by decide) ?_
      have hP9 := hP.sub (ws' := [(m0, .inr (8, [.int 0, .ref z1, .int z2, .ref mF, .int (nI n), .ref z5, .int z6, .ref z7, .long z8, .ref z9, .ref z10, .ref z11, .ref z12, .ref z13, .int z14, .int z15, .int z16, .int z17, .ref z18, .ref z19, .ref z20, .int z21, .int z22, .int z23, .int z24, .int z25, .int z26, .int z27, .int z28, .int z29, .int z30, .int z31, .int z32, .int z33, .int z34, .int z35, .long z36, .long z37, .int z38])), (mF, .inl (kB, 150000, .inl f))]) [0, 1] rfl
      have hD9 := hD.sub (ws' := [(m0, .inr (8, [.int 0, .ref z1, .int z2, .ref mF, .int (nI n), .ref z5, .int z6, .ref z7, .long z8, .ref z9, .ref z10, .ref z11, .ref z12, .ref z13, .int z14, .int z15, .int z16, .int z17, .ref z18, .ref z19, .ref z20, .int z21, .int z22, .int z23, .int z24, .int z25, .int z26, .int z27, .int z28, .int z29, .int z30, .int z31, .int z32, .int z33, .int z34, .int z35, .long z36, .long z37, .int z38])), (mF, .inl (kB, 150000, .inl f))]) [0, 1] (by decide) rfl
      exact W.iret (v := (-1)) hx hb hr (fun t9 ht9 hW9 => ⟨⟨(-1), f, rfl, (by right; exact ⟨by omega, rfl, rfl⟩), by rw [ht9]; exact hP9, va_K.moved hW9.alike hK, hD9⟩, hS.F ht9⟩) hS.2.2 dX8_alter_18

set_option maxHeartbeats 4000000 in
set_option maxRecDepth 100000 in
theorem c_Mod_keep (l : Launch) (dC : Nat → ClassId) (dI : Nat → Nat → Nat) (kB kI : ClassId) (m0 : Nat) (z0 : Int32) (z1 : Nat) (z3 : Nat) (z4 : Int32) (z5 : Nat) (z6 : Int32) (z7 : Nat) (z8 : Int64) (z9 : Nat) (z10 : Nat) (z11 : Nat) (z12 : Nat) (z13 : Nat) (z14 : Int32) (z15 : Int32) (z16 : Int32) (z17 : Int32) (z18 : Nat) (z19 : Nat) (z20 : Nat) (z21 : Int32) (z22 : Int32) (z23 : Int32) (z24 : Int32) (z25 : Int32) (z26 : Int32) (z27 : Int32) (z28 : Int32) (z29 : Int32) (z30 : Int32) (z31 : Int32) (z32 : Int32) (z33 : Int32) (z34 : Int32) (z35 : Int32) (z36 : Int64) (z37 : Int64) (z38 : Int32) (n : Nat) (x : Int32) (xi : Int) (hn : n ≤ 140000) (xh : x.toInt = xi) : zMi l yX8_keep wsX8_keep ({ frames := 0, cells := 0, slots := 0, locals := 0 }) (dC, dI) kB kI [.ref m0, .int x] [(m0, .inr (8, [.int z0, .ref z1, .int (nI n), .ref z3, .int z4, .ref z5, .int z6, .ref z7, .long z8, .ref z9, .ref z10, .ref z11, .ref z12, .ref z13, .int z14, .int z15, .int z16, .int z17, .ref z18, .ref z19, .ref z20, .int z21, .int z22, .int z23, .int z24, .int z25, .int z26, .int z27, .int z28, .int z29, .int z30, .int z31, .int z32, .int z33, .int z34, .int z35, .long z36, .long z37, .int z38]))] 0 0 (fun (r : Int32) => fun n2 : Nat => (∃ j : Nat, xi = j ∧ j ≤ n ∧ r = nI n ∧ n2 = j) ∨ ((xi < 0 ∨ (n : Int) < xi) ∧ r = -1 ∧ n2 = n)) (fun n2 : Nat => [(m0, .inr (8, [.int 0, .ref z1, .int (nI n2), .ref z3, .int z4, .ref z5, .int z6, .ref z7, .long z8, .ref z9, .ref z10, .ref z11, .ref z12, .ref z13, .int z14, .int z15, .int z16, .int z17, .ref z18, .ref z19, .ref z20, .int z21, .int z22, .int z23, .int z24, .int z25, .int z26, .int z27, .int z28, .int z29, .int z30, .int z31, .int z32, .int z33, .int z34, .int z35, .long z36, .long z37, .int z38]))]) := by
  intro sz
  refine Met.ofW (cc := cX8_keep) (maxL := 3) (ret := (some .int)) (by decide) rfl ?_
  intro p e s m args below meth c s₁ B hml hv
  obtain ⟨rfl, hsz, hP, hK, hD0⟩ := hv
  have hx := B.exec
  have hb := B.bytes
  have hr := B.returns
  have hts := atoms_spec (ws := wsX8_keep) B.pre
  have hown : s.vm.findClass RX8 = some m.cls := findClass_of_methodNamed B.named
  have hlocks := B.notSynchronized
  subst hsz
  have hD := hD0.self (sz := s.heap.size)
  generalize hAe : va_A [(m0, .inr (8, [.int z0, .ref z1, .int (nI n), .ref z3, .int z4, .ref z5, .int z6, .ref z7, .long z8, .ref z9, .ref z10, .ref z11, .ref z12, .ref z13, .int z14, .int z15, .int z16, .int z17, .ref z18, .ref z19, .ref z20, .int z21, .int z22, .int z23, .int z24, .int z25, .int z26, .int z27, .int z28, .int z29, .int z30, .int z31, .int z32, .int z33, .int z34, .int z35, .long z36, .long z37, .int z38]))] s.heap.size = A at hD ⊢
  have hA : ∀ q : Nat, s.heap.size ≤ q → A q := fun q h => by rw [← hAe]; exact Or.inr h
  have hS : va_S A s.heap s.heap [] := va_S.rf
  have hP : va_P (dC, dI) vwCl [(m0, .inr (8, [.int z0, .ref z1, .int (nI n), .ref z3, .int z4, .ref z5, .int z6, .ref z7, .long z8, .ref z9, .ref z10, .ref z11, .ref z12, .ref z13, .int z14, .int z15, .int z16, .int z17, .ref z18, .ref z19, .ref z20, .int z21, .int z22, .int z23, .int z24, .int z25, .int z26, .int z27, .int z28, .int z29, .int z30, .int z31, .int z32, .int z33, .int z34, .int z35, .long z36, .long z37, .int z38]))] s.heap := hP
  have hl := lv_entry ([.ref m0, .int x]) (n := 3) (Nat.le_of_ble_eq_true rfl)
  rw [lg_entry_eq]
  generalize (lg_sl ([.ref m0, .int x]) ++ List.replicate (3 - (lg_sl ([.ref m0, .int x])).length) Slot.unset).toArray = ls at hl ⊢
  have hl : lv_has ls 3 [(0, .ref m0), (1, .int x)] := hl
  refine zG (fun GG hG1 hG2 => ?_)
  refine lv_aload_n hx hb dX8_keep_0 rfl (lv_at hl 0 rfl) ?_
  refine lv_iconst (v := 0) hx hb dX8_keep_1 (by decide) ?_
  refine va_put (D := (dC, dI)) (ci := 8) (v := .int 0) (ty := .int) (C := RX8) (T := TX8) (N := 39) hx hb hts (by decide +kernel) tyX8 tyX8_ok nmX8 hown hK hP hD hS 0 rfl rfl 0 (by decide) (hts (.fieldLink RX8 55 "SequenceFramesModel" "code" "I") (by decide +kernel)) (fun _ h9 => h9) rfl (by decide +kernel) rfl rfl (Nat.le_of_ble_eq_true rfl) dX8_keep_2 (fun H locs hP hD hS => ?_)
  have hP : va_P (dC, dI) vwCl [(m0, .inr (8, [.int 0, .ref z1, .int (nI n), .ref z3, .int z4, .ref z5, .int z6, .ref z7, .long z8, .ref z9, .ref z10, .ref z11, .ref z12, .ref z13, .int z14, .int z15, .int z16, .int z17, .ref z18, .ref z19, .ref z20, .int z21, .int z22, .int z23, .int z24, .int z25, .int z26, .int z27, .int z28, .int z29, .int z30, .int z31, .int z32, .int z33, .int z34, .int z35, .long z36, .long z37, .int z38]))] H := hP
  have hD : va_D A [(m0, .inr (8, [.int 0, .ref z1, .int (nI n), .ref z3, .int z4, .ref z5, .int z6, .ref z7, .long z8, .ref z9, .ref z10, .ref z11, .ref z12, .ref z13, .int z14, .int z15, .int z16, .int z17, .ref z18, .ref z19, .ref z20, .int z21, .int z22, .int z23, .int z24, .int z25, .int z26, .int z27, .int z28, .int z29, .int z30, .int z31, .int z32, .int z33, .int z34, .int z35, .long z36, .long z37, .int z38]))] := hD
  refine lv_iload_n hx hb dX8_keep_5 rfl (lv_at hl 1 rfl) ?_
  refine zb_if_lt (tgt := 17) (a := xi) hx hb dX8_keep_6 (by decide) xh (fun c6 => ?_) (fun c6 => ?_)
  · refine lv_iconst (v := (-1)) hx hb dX8_keep_17 (by decide) ?_
    have hP9 := hP.sub (ws' := [(m0, .inr (8, [.int 0, .ref z1, .int (nI n), .ref z3, .int z4, .ref z5, .int z6, .ref z7, .long z8, .ref z9, .ref z10, .ref z11, .ref z12, .ref z13, .int z14, .int z15, .int z16, .int z17, .ref z18, .ref z19, .ref z20, .int z21, .int z22, .int z23, .int z24, .int z25, .int z26, .int z27, .int z28, .int z29, .int z30, .int z31, .int z32, .int z33, .int z34, .int z35, .long z36, .long z37, .int z38]))]) [0] rfl
    have hD9 := hD.sub (ws' := [(m0, .inr (8, [.int 0, .ref z1, .int (nI n), .ref z3, .int z4, .ref z5, .int z6, .ref z7, .long z8, .ref z9, .ref z10, .ref z11, .ref z12, .ref z13, .int z14, .int z15, .int z16, .int z17, .ref z18, .ref z19, .ref z20, .int z21, .int z22, .int z23, .int z24, .int z25, .int z26, .int z27, .int z28, .int z29, .int z30, .int z31, .int z32, .int z33, .int z34, .int z35, .long z36, .long z37, .int z38]))]) [0] (by decide) rfl
    exact W.iret (v := (-1)) hx hb hr (fun t9 ht9 hW9 => ⟨⟨(-1), n, rfl, (by right; exact ⟨by omega, rfl, rfl⟩), by rw [ht9]; exact hP9, va_K.moved hW9.alike hK, hD9⟩, hS.F ht9⟩) hS.2.2 dX8_keep_18
  · refine lv_iload_n hx hb dX8_keep_9 rfl (lv_at hl 1 rfl) ?_
    refine lv_aload_n hx hb dX8_keep_10 rfl (lv_at hl 0 rfl) ?_
    refine va_get (D := (dC, dI)) (ci := 8) (v := .int (nI n)) (C := RX8) (T := TX8) (N := 39) hx hb hts (by decide +kernel) hown hK hP 0 rfl rfl 2 (by decide) (hts (.fieldLink RX8 74 "SequenceFramesModel" "size" "I") (by decide +kernel)) (fun _ h9 => h9) rfl dX8_keep_11 ?_
    refine zb_icmp_le (tgt := 19) (a := xi) (b := ((n : Nat) : Int)) hx hb dX8_keep_14 (by decide) xh (nI_toInt (by omega)) (fun c14 => ?_) (fun c14 => ?_)
    · obtain ⟨j, jb, xe⟩ := z_nat (x := x) (by omega)
      subst xe
      rw [nI_toInt jb] at xh
      subst xh
      refine lv_aload_n hx hb dX8_keep_19 rfl (lv_at hl 0 rfl) ?_
      refine va_get (D := (dC, dI)) (ci := 8) (v := .int (nI n)) (C := RX8) (T := TX8) (N := 39) hx hb hts (by decide +kernel) hown hK hP 0 rfl rfl 2 (by decide) (hts (.fieldLink RX8 74 "SequenceFramesModel" "size" "I") (by decide +kernel)) (fun _ h9 => h9) rfl dX8_keep_20 ?_
      refine lv_istore_n (lv' := [(2, .int (nI n)), (0, .ref m0), (1, .int (nI j))]) hx hb dX8_keep_23 rfl hl (by decide) rfl (fun ls hl => ?_)
      refine lv_aload_n hx hb dX8_keep_24 rfl (lv_at hl 1 rfl) ?_
      refine lv_iload_n hx hb dX8_keep_25 rfl (lv_at hl 2 rfl) ?_
      refine va_put (D := (dC, dI)) (ci := 8) (v := .int (nI j)) (ty := .int) (C := RX8) (T := TX8) (N := 39) hx hb hts (by decide +kernel) tyX8 tyX8_ok nmX8 hown hK hP hD hS 0 rfl rfl 2 (by decide) (hts (.fieldLink RX8 74 "SequenceFramesModel" "size" "I") (by decide +kernel)) (fun _ h9 => h9) rfl (by decide +kernel) rfl rfl (Nat.le_of_ble_eq_true rfl) dX8_keep_26 (fun H locs hP hD hS => ?_)
      have hP : va_P (dC, dI) vwCl [(m0, .inr (8, [.int 0, .ref z1, .int (nI j), .ref z3, .int z4, .ref z5, .int z6, .ref z7, .long z8, .ref z9, .ref z10, .ref z11, .ref z12, .ref z13, .int z14, .int z15, .int z16, .int z17, .ref z18, .ref z19, .ref z20, .int z21, .int z22, .int z23, .int z24, .int z25, .int z26, .int z27, .int z28, .int z29, .int z30, .int z31, .int z32, .int z33, .int z34, .int z35, .long z36, .long z37, .int z38]))] H := hP
      have hD : va_D A [(m0, .inr (8, [.int 0, .ref z1, .int (nI j), .ref z3, .int z4, .ref z5, .int z6, .ref z7, .long z8, .ref z9, .ref z10, .ref z11, .ref z12, .ref z13, .int z14, .int z15, .int z16, .int z17, .ref z18, .ref z19, .ref z20, .int z21, .int z22, .int z23, .int z24, .int z25, .int z26, .int z27, .int z28, .int z29, .int z30, .int z31, .int z32, .int z33, .int z34, .int z35, .long z36, .long z37, .int z38]))] := hD
      refine lv_iload_n hx hb dX8_keep_29 rfl (lv_at hl 0 rfl) ?_
      have hP9 := hP.sub (ws' := [(m0, .inr (8, [.int 0, .ref z1, .int (nI j), .ref z3, .int z4, .ref z5, .int z6, .ref z7, .long z8, .ref z9, .ref z10, .ref z11, .ref z12, .ref z13, .int z14, .int z15, .int z16, .int z17, .ref z18, .ref z19, .ref z20, .int z21, .int z22, .int z23, .int z24, .int z25, .int z26, .int z27, .int z28, .int z29, .int z30, .int z31, .int z32, .int z33, .int z34, .int z35, .long z36, .long z37, .int z38]))]) [0] rfl
      have hD9 := hD.sub (ws' := [(m0, .inr (8, [.int 0, .ref z1, .int (nI j), .ref z3, .int z4, .ref z5, .int z6, .ref z7, .long z8, .ref z9, .ref z10, .ref z11, .ref z12, .ref z13, .int z14, .int z15, .int z16, .int z17, .ref z18, .ref z19, .ref z20, .int z21, .int z22, .int z23, .int z24, .int z25, .int z26, .int z27, .int z28, .int z29, .int z30, .int z31, .int z32, .int z33, .int z34, .int z35, .long z36, .long z37, .int z38]))]) [0] (by decide) rfl
      exact W.iret (v := (nI n)) hx hb hr (fun t9 ht9 hW9 => ⟨⟨(nI n), j, rfl, (by left; exact ⟨j, rfl, by omega, rfl, rfl⟩), by rw [ht9]; exact hP9, va_K.moved hW9.alike hK, hD9⟩, hS.F ht9⟩) hS.2.2 dX8_keep_30
    · refine lv_iconst (v := (-1)) hx hb dX8_keep_17 (by decide) ?_
      have hP9 := hP.sub (ws' := [(m0, .inr (8, [.int 0, .ref z1, .int (nI n), .ref z3, .int z4, .ref z5, .int z6, .ref z7, .long z8, .ref z9, .ref z10, .ref z11, .ref z12, .ref z13, .int z14, .int z15, .int z16, .int z17, .ref z18, .ref z19, .ref z20, .int z21, .int z22, .int z23, .int z24, .int z25, .int z26, .int z27, .int z28, .int z29, .int z30, .int z31, .int z32, .int z33, .int z34, .int z35, .long z36, .long z37, .int z38]))]) [0] rfl
      have hD9 := hD.sub (ws' := [(m0, .inr (8, [.int 0, .ref z1, .int (nI n), .ref z3, .int z4, .ref z5, .int z6, .ref z7, .long z8, .ref z9, .ref z10, .ref z11, .ref z12, .ref z13, .int z14, .int z15, .int z16, .int z17, .ref z18, .ref z19, .ref z20, .int z21, .int z22, .int z23, .int z24, .int z25, .int z26, .int z27, .int z28, .int z29, .int z30, .int z31, .int z32, .int z33, .int z34, .int z35, .long z36, .long z37, .int z38]))]) [0] (by decide) rfl
      exact W.iret (v := (-1)) hx hb hr (fun t9 ht9 hW9 => ⟨⟨(-1), n, rfl, (by right; exact ⟨by omega, rfl, rfl⟩), by rw [ht9]; exact hP9, va_K.moved hW9.alike hK, hD9⟩, hS.F ht9⟩) hS.2.2 dX8_keep_18

set_option maxHeartbeats 4000000 in
set_option maxRecDepth 100000 in
theorem c_Mod_cut (l : Launch) (dC : Nat → ClassId) (dI : Nat → Nat → Nat) (kB kI : ClassId) (m0 : Nat) (z0 : Int32) (z1 : Nat) (z2 : Int32) (z3 : Nat) (z5 : Nat) (z6 : Int32) (z7 : Nat) (z8 : Int64) (z9 : Nat) (z10 : Nat) (z11 : Nat) (z12 : Nat) (z13 : Nat) (z14 : Int32) (z15 : Int32) (z16 : Int32) (z17 : Int32) (z18 : Nat) (z19 : Nat) (z20 : Nat) (z21 : Int32) (z22 : Int32) (z23 : Int32) (z24 : Int32) (z25 : Int32) (z26 : Int32) (z27 : Int32) (z28 : Int32) (z29 : Int32) (z30 : Int32) (z31 : Int32) (z32 : Int32) (z33 : Int32) (z34 : Int32) (z35 : Int32) (z36 : Int64) (z37 : Int64) (z38 : Int32) (n : Nat) (x : Int32) (xi : Int) (hn : n ≤ 150000) (xh : x.toInt = xi) : zMi l yX8_cut wsX8_cut ({ frames := 0, cells := 0, slots := 0, locals := 0 }) (dC, dI) kB kI [.ref m0, .int x] [(m0, .inr (8, [.int z0, .ref z1, .int z2, .ref z3, .int (nI n), .ref z5, .int z6, .ref z7, .long z8, .ref z9, .ref z10, .ref z11, .ref z12, .ref z13, .int z14, .int z15, .int z16, .int z17, .ref z18, .ref z19, .ref z20, .int z21, .int z22, .int z23, .int z24, .int z25, .int z26, .int z27, .int z28, .int z29, .int z30, .int z31, .int z32, .int z33, .int z34, .int z35, .long z36, .long z37, .int z38]))] 0 0 (fun (r : Int32) => fun n2 : Nat => (∃ j : Nat, xi = j ∧ j ≤ n ∧ r = nI n ∧ n2 = j) ∨ ((xi < 0 ∨ (n : Int) < xi) ∧ r = -1 ∧ n2 = n)) (fun n2 : Nat => [(m0, .inr (8, [.int 0, .ref z1, .int z2, .ref z3, .int (nI n2), .ref z5, .int z6, .ref z7, .long z8, .ref z9, .ref z10, .ref z11, .ref z12, .ref z13, .int z14, .int z15, .int z16, .int z17, .ref z18, .ref z19, .ref z20, .int z21, .int z22, .int z23, .int z24, .int z25, .int z26, .int z27, .int z28, .int z29, .int z30, .int z31, .int z32, .int z33, .int z34, .int z35, .long z36, .long z37, .int z38]))]) := by
  intro sz
  refine Met.ofW (cc := cX8_cut) (maxL := 3) (ret := (some .int)) (by decide) rfl ?_
  intro p e s m args below meth c s₁ B hml hv
  obtain ⟨rfl, hsz, hP, hK, hD0⟩ := hv
  have hx := B.exec
  have hb := B.bytes
  have hr := B.returns
  have hts := atoms_spec (ws := wsX8_cut) B.pre
  have hown : s.vm.findClass RX8 = some m.cls := findClass_of_methodNamed B.named
  have hlocks := B.notSynchronized
  subst hsz
  have hD := hD0.self (sz := s.heap.size)
  generalize hAe : va_A [(m0, .inr (8, [.int z0, .ref z1, .int z2, .ref z3, .int (nI n), .ref z5, .int z6, .ref z7, .long z8, .ref z9, .ref z10, .ref z11, .ref z12, .ref z13, .int z14, .int z15, .int z16, .int z17, .ref z18, .ref z19, .ref z20, .int z21, .int z22, .int z23, .int z24, .int z25, .int z26, .int z27, .int z28, .int z29, .int z30, .int z31, .int z32, .int z33, .int z34, .int z35, .long z36, .long z37, .int z38]))] s.heap.size = A at hD ⊢
  have hA : ∀ q : Nat, s.heap.size ≤ q → A q := fun q h => by rw [← hAe]; exact Or.inr h
  have hS : va_S A s.heap s.heap [] := va_S.rf
  have hP : va_P (dC, dI) vwCl [(m0, .inr (8, [.int z0, .ref z1, .int z2, .ref z3, .int (nI n), .ref z5, .int z6, .ref z7, .long z8, .ref z9, .ref z10, .ref z11, .ref z12, .ref z13, .int z14, .int z15, .int z16, .int z17, .ref z18, .ref z19, .ref z20, .int z21, .int z22, .int z23, .int z24, .int z25, .int z26, .int z27, .int z28, .int z29, .int z30, .int z31, .int z32, .int z33, .int z34, .int z35, .long z36, .long z37, .int z38]))] s.heap := hP
  have hl := lv_entry ([.ref m0, .int x]) (n := 3) (Nat.le_of_ble_eq_true rfl)
  rw [lg_entry_eq]
  generalize (lg_sl ([.ref m0, .int x]) ++ List.replicate (3 - (lg_sl ([.ref m0, .int x])).length) Slot.unset).toArray = ls at hl ⊢
  have hl : lv_has ls 3 [(0, .ref m0), (1, .int x)] := hl
  refine zG (fun GG hG1 hG2 => ?_)
  refine lv_aload_n hx hb dX8_cut_0 rfl (lv_at hl 0 rfl) ?_
  refine lv_iconst (v := 0) hx hb dX8_cut_1 (by decide) ?_
  refine va_put (D := (dC, dI)) (ci := 8) (v := .int 0) (ty := .int) (C := RX8) (T := TX8) (N := 39) hx hb hts (by decide +kernel) tyX8 tyX8_ok nmX8 hown hK hP hD hS 0 rfl rfl 0 (by decide) (hts (.fieldLink RX8 55 "SequenceFramesModel" "code" "I") (by decide +kernel)) (fun _ h9 => h9) rfl (by decide +kernel) rfl rfl (Nat.le_of_ble_eq_true rfl) dX8_cut_2 (fun H locs hP hD hS => ?_)
  have hP : va_P (dC, dI) vwCl [(m0, .inr (8, [.int 0, .ref z1, .int z2, .ref z3, .int (nI n), .ref z5, .int z6, .ref z7, .long z8, .ref z9, .ref z10, .ref z11, .ref z12, .ref z13, .int z14, .int z15, .int z16, .int z17, .ref z18, .ref z19, .ref z20, .int z21, .int z22, .int z23, .int z24, .int z25, .int z26, .int z27, .int z28, .int z29, .int z30, .int z31, .int z32, .int z33, .int z34, .int z35, .long z36, .long z37, .int z38]))] H := hP
  have hD : va_D A [(m0, .inr (8, [.int 0, .ref z1, .int z2, .ref z3, .int (nI n), .ref z5, .int z6, .ref z7, .long z8, .ref z9, .ref z10, .ref z11, .ref z12, .ref z13, .int z14, .int z15, .int z16, .int z17, .ref z18, .ref z19, .ref z20, .int z21, .int z22, .int z23, .int z24, .int z25, .int z26, .int z27, .int z28, .int z29, .int z30, .int z31, .int z32, .int z33, .int z34, .int z35, .long z36, .long z37, .int z38]))] := hD
  refine lv_iload_n hx hb dX8_cut_5 rfl (lv_at hl 1 rfl) ?_
  refine zb_if_lt (tgt := 17) (a := xi) hx hb dX8_cut_6 (by decide) xh (fun c6 => ?_) (fun c6 => ?_)
  · refine lv_iconst (v := (-1)) hx hb dX8_cut_17 (by decide) ?_
    have hP9 := hP.sub (ws' := [(m0, .inr (8, [.int 0, .ref z1, .int z2, .ref z3, .int (nI n), .ref z5, .int z6, .ref z7, .long z8, .ref z9, .ref z10, .ref z11, .ref z12, .ref z13, .int z14, .int z15, .int z16, .int z17, .ref z18, .ref z19, .ref z20, .int z21, .int z22, .int z23, .int z24, .int z25, .int z26, .int z27, .int z28, .int z29, .int z30, .int z31, .int z32, .int z33, .int z34, .int z35, .long z36, .long z37, .int z38]))]) [0] rfl
    have hD9 := hD.sub (ws' := [(m0, .inr (8, [.int 0, .ref z1, .int z2, .ref z3, .int (nI n), .ref z5, .int z6, .ref z7, .long z8, .ref z9, .ref z10, .ref z11, .ref z12, .ref z13, .int z14, .int z15, .int z16, .int z17, .ref z18, .ref z19, .ref z20, .int z21, .int z22, .int z23, .int z24, .int z25, .int z26, .int z27, .int z28, .int z29, .int z30, .int z31, .int z32, .int z33, .int z34, .int z35, .long z36, .long z37, .int z38]))]) [0] (by decide) rfl
    exact W.iret (v := (-1)) hx hb hr (fun t9 ht9 hW9 => ⟨⟨(-1), n, rfl, (by right; exact ⟨by omega, rfl, rfl⟩), by rw [ht9]; exact hP9, va_K.moved hW9.alike hK, hD9⟩, hS.F ht9⟩) hS.2.2 dX8_cut_18
  · refine lv_iload_n hx hb dX8_cut_9 rfl (lv_at hl 1 rfl) ?_
    refine lv_aload_n hx hb dX8_cut_10 rfl (lv_at hl 0 rfl) ?_
    refine va_get (D := (dC, dI)) (ci := 8) (v := .int (nI n)) (C := RX8) (T := TX8) (N := 39) hx hb hts (by decide +kernel) hown hK hP 0 rfl rfl 4 (by decide) (hts (.fieldLink RX8 141 "SequenceFramesModel" "framed" "I") (by decide +kernel)) (fun _ h9 => h9) rfl dX8_cut_11 ?_
    refine zb_icmp_le (tgt := 19) (a := xi) (b := ((n : Nat) : Int)) hx hb dX8_cut_14 (by decide) xh (nI_toInt (by omega)) (fun c14 => ?_) (fun c14 => ?_)
    · obtain ⟨j, jb, xe⟩ := z_nat (x := x) (by omega)
      subst xe
      rw [nI_toInt jb] at xh
      subst xh
      refine lv_aload_n hx hb dX8_cut_19 rfl (lv_at hl 0 rfl) ?_
      refine va_get (D := (dC, dI)) (ci := 8) (v := .int (nI n)) (C := RX8) (T := TX8) (N := 39) hx hb hts (by decide +kernel) hown hK hP 0 rfl rfl 4 (by decide) (hts (.fieldLink RX8 141 "SequenceFramesModel" "framed" "I") (by decide +kernel)) (fun _ h9 => h9) rfl dX8_cut_20 ?_
      refine lv_istore_n (lv' := [(2, .int (nI n)), (0, .ref m0), (1, .int (nI j))]) hx hb dX8_cut_23 rfl hl (by decide) rfl (fun ls hl => ?_)
      refine lv_aload_n hx hb dX8_cut_24 rfl (lv_at hl 1 rfl) ?_
      refine lv_iload_n hx hb dX8_cut_25 rfl (lv_at hl 2 rfl) ?_
      refine va_put (D := (dC, dI)) (ci := 8) (v := .int (nI j)) (ty := .int) (C := RX8) (T := TX8) (N := 39) hx hb hts (by decide +kernel) tyX8 tyX8_ok nmX8 hown hK hP hD hS 0 rfl rfl 4 (by decide) (hts (.fieldLink RX8 141 "SequenceFramesModel" "framed" "I") (by decide +kernel)) (fun _ h9 => h9) rfl (by decide +kernel) rfl rfl (Nat.le_of_ble_eq_true rfl) dX8_cut_26 (fun H locs hP hD hS => ?_)
      have hP : va_P (dC, dI) vwCl [(m0, .inr (8, [.int 0, .ref z1, .int z2, .ref z3, .int (nI j), .ref z5, .int z6, .ref z7, .long z8, .ref z9, .ref z10, .ref z11, .ref z12, .ref z13, .int z14, .int z15, .int z16, .int z17, .ref z18, .ref z19, .ref z20, .int z21, .int z22, .int z23, .int z24, .int z25, .int z26, .int z27, .int z28, .int z29, .int z30, .int z31, .int z32, .int z33, .int z34, .int z35, .long z36, .long z37, .int z38]))] H := hP
      have hD : va_D A [(m0, .inr (8, [.int 0, .ref z1, .int z2, .ref z3, .int (nI j), .ref z5, .int z6, .ref z7, .long z8, .ref z9, .ref z10, .ref z11, .ref z12, .ref z13, .int z14, .int z15, .int z16, .int z17, .ref z18, .ref z19, .ref z20, .int z21, .int z22, .int z23, .int z24, .int z25, .int z26, .int z27, .int z28, .int z29, .int z30, .int z31, .int z32, .int z33, .int z34, .int z35, .long z36, .long z37, .int z38]))] := hD
      refine lv_iload_n hx hb dX8_cut_29 rfl (lv_at hl 0 rfl) ?_
      have hP9 := hP.sub (ws' := [(m0, .inr (8, [.int 0, .ref z1, .int z2, .ref z3, .int (nI j), .ref z5, .int z6, .ref z7, .long z8, .ref z9, .ref z10, .ref z11, .ref z12, .ref z13, .int z14, .int z15, .int z16, .int z17, .ref z18, .ref z19, .ref z20, .int z21, .int z22, .int z23, .int z24, .int z25, .int z26, .int z27, .int z28, .int z29, .int z30, .int z31, .int z32, .int z33, .int z34, .int z35, .long z36, .long z37, .int z38]))]) [0] rfl
      have hD9 := hD.sub (ws' := [(m0, .inr (8, [.int 0, .ref z1, .int z2, .ref z3, .int (nI j), .ref z5, .int z6, .ref z7, .long z8, .ref z9, .ref z10, .ref z11, .ref z12, .ref z13, .int z14, .int z15, .int z16, .int z17, .ref z18, .ref z19, .ref z20, .int z21, .int z22, .int z23, .int z24, .int z25, .int z26, .int z27, .int z28, .int z29, .int z30, .int z31, .int z32, .int z33, .int z34, .int z35, .long z36, .long z37, .int z38]))]) [0] (by decide) rfl
      exact W.iret (v := (nI n)) hx hb hr (fun t9 ht9 hW9 => ⟨⟨(nI n), j, rfl, (by left; exact ⟨j, rfl, by omega, rfl, rfl⟩), by rw [ht9]; exact hP9, va_K.moved hW9.alike hK, hD9⟩, hS.F ht9⟩) hS.2.2 dX8_cut_30
    · refine lv_iconst (v := (-1)) hx hb dX8_cut_17 (by decide) ?_
      have hP9 := hP.sub (ws' := [(m0, .inr (8, [.int 0, .ref z1, .int z2, .ref z3, .int (nI n), .ref z5, .int z6, .ref z7, .long z8, .ref z9, .ref z10, .ref z11, .ref z12, .ref z13, .int z14, .int z15, .int z16, .int z17, .ref z18, .ref z19, .ref z20, .int z21, .int z22, .int z23, .int z24, .int z25, .int z26, .int z27, .int z28, .int z29, .int z30, .int z31, .int z32, .int z33, .int z34, .int z35, .long z36, .long z37, .int z38]))]) [0] rfl
      have hD9 := hD.sub (ws' := [(m0, .inr (8, [.int 0, .ref z1, .int z2, .ref z3, .int (nI n), .ref z5, .int z6, .ref z7, .long z8, .ref z9, .ref z10, .ref z11, .ref z12, .ref z13, .int z14, .int z15, .int z16, .int z17, .ref z18, .ref z19, .ref z20, .int z21, .int z22, .int z23, .int z24, .int z25, .int z26, .int z27, .int z28, .int z29, .int z30, .int z31, .int z32, .int z33, .int z34, .int z35, .long z36, .long z37, .int z38]))]) [0] (by decide) rfl
      exact W.iret (v := (-1)) hx hb hr (fun t9 ht9 hW9 => ⟨⟨(-1), n, rfl, (by right; exact ⟨by omega, rfl, rfl⟩), by rw [ht9]; exact hP9, va_K.moved hW9.alike hK, hD9⟩, hS.F ht9⟩) hS.2.2 dX8_cut_18
