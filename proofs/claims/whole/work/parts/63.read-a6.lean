set_option maxHeartbeats 4000000 in
set_option maxRecDepth 100000 in
theorem c_Mod_isLast (l : Launch) (dC : Nat → ClassId) (dI : Nat → Nat → Nat) (kB kI : ClassId) (m0 : Nat) (z0 : Int32) (z1 : Nat) (z2 : Int32) (z3 : Nat) (z4 : Int32) (z5 : Nat) (z6 : Int32) (z7 : Nat) (z8 : Int64) (z9 : Nat) (z10 : Nat) (z11 : Nat) (z12 : Nat) (z13 : Nat) (z14 : Int32) (z15 : Int32) (z16 : Int32) (z17 : Int32) (z18 : Nat) (z19 : Nat) (z20 : Nat) (z21 : Int32) (z23 : Int32) (z24 : Int32) (z25 : Int32) (z26 : Int32) (z27 : Int32) (z28 : Int32) (z29 : Int32) (z30 : Int32) (z31 : Int32) (z32 : Int32) (z33 : Int32) (z34 : Int32) (z36 : Int64) (z37 : Int64) (zz : Nat) (lm : Nat) (ll : Nat) (tk : Nat) (hz : zz ≤ 140000) (hlm : lm ≤ zz + 1) (hll : ll ≤ 140000) (htk : tk < 256) : zMi l yX8_isLast wsX8_isLast ({ frames := 0, cells := 0, slots := 0, locals := 0 }) (dC, dI) kB kI [.ref m0, .int (nI tk)] [(m0, .inr (8, [.int z0, .ref z1, .int z2, .ref z3, .int z4, .ref z5, .int z6, .ref z7, .long z8, .ref z9, .ref z10, .ref z11, .ref z12, .ref z13, .int z14, .int z15, .int z16, .int z17, .ref z18, .ref z19, .ref z20, .int z21, .int (nI zz), .int z23, .int z24, .int z25, .int z26, .int z27, .int z28, .int z29, .int z30, .int z31, .int z32, .int z33, .int z34, .int (lmV lm), .long z36, .long z37, .int (nI ll)]))] 0 0 (fun (r : Int32) => fun _ : Unit => (r = 1 ∧ lastOK tk ll zz lm) ∨ (r = 0 ∧ ¬ lastOK tk ll zz lm)) (fun _ : Unit => [(m0, .inr (8, [.int z0, .ref z1, .int z2, .ref z3, .int z4, .ref z5, .int z6, .ref z7, .long z8, .ref z9, .ref z10, .ref z11, .ref z12, .ref z13, .int z14, .int z15, .int z16, .int z17, .ref z18, .ref z19, .ref z20, .int z21, .int (nI zz), .int z23, .int z24, .int z25, .int z26, .int z27, .int z28, .int z29, .int z30, .int z31, .int z32, .int z33, .int z34, .int (lmV lm), .long z36, .long z37, .int (nI ll)]))]) := by
  intro sz
  refine Met.ofW (cc := cX8_isLast) (maxL := 2) (ret := (some .boolean)) (by decide) rfl ?_
  intro p e s m args below meth c s₁ B hml hv
  obtain ⟨rfl, hsz, hP, hK, hD0⟩ := hv
  have hx := B.exec
  have hb := B.bytes
  have hr := B.returns
  have hts := atoms_spec (ws := wsX8_isLast) B.pre
  have hown : s.vm.findClass RX8 = some m.cls := findClass_of_methodNamed B.named
  have hlocks := B.notSynchronized
  subst hsz
  have hD := hD0.self (sz := s.heap.size)
  generalize hAe : va_A [(m0, .inr (8, [.int z0, .ref z1, .int z2, .ref z3, .int z4, .ref z5, .int z6, .ref z7, .long z8, .ref z9, .ref z10, .ref z11, .ref z12, .ref z13, .int z14, .int z15, .int z16, .int z17, .ref z18, .ref z19, .ref z20, .int z21, .int (nI zz), .int z23, .int z24, .int z25, .int z26, .int z27, .int z28, .int z29, .int z30, .int z31, .int z32, .int z33, .int z34, .int (lmV lm), .long z36, .long z37, .int (nI ll)]))] s.heap.size = A at hD ⊢
  have hA : ∀ q : Nat, s.heap.size ≤ q → A q := fun q h => by rw [← hAe]; exact Or.inr h
  have hS : va_S A s.heap s.heap [] := va_S.rf
  have hP : va_P (dC, dI) vwCl [(m0, .inr (8, [.int z0, .ref z1, .int z2, .ref z3, .int z4, .ref z5, .int z6, .ref z7, .long z8, .ref z9, .ref z10, .ref z11, .ref z12, .ref z13, .int z14, .int z15, .int z16, .int z17, .ref z18, .ref z19, .ref z20, .int z21, .int (nI zz), .int z23, .int z24, .int z25, .int z26, .int z27, .int z28, .int z29, .int z30, .int z31, .int z32, .int z33, .int z34, .int (lmV lm), .long z36, .long z37, .int (nI ll)]))] s.heap := hP
  have hl := lv_entry ([.ref m0, .int (nI tk)]) (n := 2) (Nat.le_of_ble_eq_true rfl)
  rw [lg_entry_eq]
  generalize (lg_sl ([.ref m0, .int (nI tk)]) ++ List.replicate (2 - (lg_sl ([.ref m0, .int (nI tk)])).length) Slot.unset).toArray = ls at hl ⊢
  have hl : lv_has ls 2 [(0, .ref m0), (1, .int (nI tk))] := hl
  refine zG (fun GG hG1 hG2 => ?_)
  refine lv_iload_n hx hb dX8_isLast_0 rfl (lv_at hl 1 rfl) ?_
  refine lv_bipush (v := 15) hx hb dX8_isLast_1 (by decide) ?_
  refine lv_iand hx hb dX8_isLast_3 ?_
  refine lv_is (y := (nI (tk % 16))) (and15 (by omega)) ?_
  refine zb_if_ne (tgt := 41) (a := ((tk % 16 : Nat) : Int)) hx hb dX8_isLast_4 (by decide) (nI_toInt (by omega)) (fun c4 => ?_) (fun c4 => ?_)
  · refine lv_iconst (v := 0) hx hb dX8_isLast_41 (by decide) ?_
    have hP9 := hP.sub (ws' := [(m0, .inr (8, [.int z0, .ref z1, .int z2, .ref z3, .int z4, .ref z5, .int z6, .ref z7, .long z8, .ref z9, .ref z10, .ref z11, .ref z12, .ref z13, .int z14, .int z15, .int z16, .int z17, .ref z18, .ref z19, .ref z20, .int z21, .int (nI zz), .int z23, .int z24, .int z25, .int z26, .int z27, .int z28, .int z29, .int z30, .int z31, .int z32, .int z33, .int z34, .int (lmV lm), .long z36, .long z37, .int (nI ll)]))]) [0] rfl
    have hD9 := hD.sub (ws' := [(m0, .inr (8, [.int z0, .ref z1, .int z2, .ref z3, .int z4, .ref z5, .int z6, .ref z7, .long z8, .ref z9, .ref z10, .ref z11, .ref z12, .ref z13, .int z14, .int z15, .int z16, .int z17, .ref z18, .ref z19, .ref z20, .int z21, .int (nI zz), .int z23, .int z24, .int z25, .int z26, .int z27, .int z28, .int z29, .int z30, .int z31, .int z32, .int z33, .int z34, .int (lmV lm), .long z36, .long z37, .int (nI ll)]))]) [0] (by decide) rfl
    exact W.zret (v := 0) hx hb hr (by decide) (fun t9 ht9 hW9 => ⟨⟨0, (), rfl, (Or.inr ⟨rfl, fun h => by have := h.1; omega⟩), by rw [ht9]; exact hP9, va_K.moved hW9.alike hK, hD9⟩, hS.F ht9⟩) hS.2.2 dX8_isLast_42
  · refine lv_aload_n hx hb dX8_isLast_7 rfl (lv_at hl 0 rfl) ?_
    refine va_get (D := (dC, dI)) (ci := 8) (v := .int (lmV lm)) (C := RX8) (T := TX8) (N := 39) hx hb hts (by decide +kernel) hown hK hP 0 rfl rfl 35 (by decide) (hts (.fieldLink RX8 235 "SequenceFramesModel" "lastMatch" "I") (by decide +kernel)) (fun _ h9 => h9) rfl dX8_isLast_8 ?_
    rcases (show lm = 0 ∨ ¬ lm = 0 by omega) with h0 | h0
    · refine lv_is (y := (-1)) (by rw [h0]; rfl) ?_
      refine lv_iconst (v := (-1)) hx hb dX8_isLast_11 (by decide) ?_
      refine lv_icmp_eq (tgt := 37) hx hb dX8_isLast_12 (by decide) (fun _ => ?_) (fun c => absurd c (by decide))
      refine lv_iconst (v := 1) hx hb dX8_isLast_37 (by decide) ?_
      refine lv_goto (tgt := 42) hx hb dX8_isLast_38 (by decide) ?_
      have hP9 := hP.sub (ws' := [(m0, .inr (8, [.int z0, .ref z1, .int z2, .ref z3, .int z4, .ref z5, .int z6, .ref z7, .long z8, .ref z9, .ref z10, .ref z11, .ref z12, .ref z13, .int z14, .int z15, .int z16, .int z17, .ref z18, .ref z19, .ref z20, .int z21, .int (nI zz), .int z23, .int z24, .int z25, .int z26, .int z27, .int z28, .int z29, .int z30, .int z31, .int z32, .int z33, .int z34, .int (lmV lm), .long z36, .long z37, .int (nI ll)]))]) [0] rfl
      have hD9 := hD.sub (ws' := [(m0, .inr (8, [.int z0, .ref z1, .int z2, .ref z3, .int z4, .ref z5, .int z6, .ref z7, .long z8, .ref z9, .ref z10, .ref z11, .ref z12, .ref z13, .int z14, .int z15, .int z16, .int z17, .ref z18, .ref z19, .ref z20, .int z21, .int (nI zz), .int z23, .int z24, .int z25, .int z26, .int z27, .int z28, .int z29, .int z30, .int z31, .int z32, .int z33, .int z34, .int (lmV lm), .long z36, .long z37, .int (nI ll)]))]) [0] (by decide) rfl
      exact W.zret (v := 1) hx hb hr (by decide) (fun t9 ht9 hW9 => ⟨⟨1, (), rfl, (Or.inl ⟨rfl, by omega, Or.inl h0⟩), by rw [ht9]; exact hP9, va_K.moved hW9.alike hK, hD9⟩, hS.F ht9⟩) hS.2.2 dX8_isLast_42
    · refine lv_is (y := (nI (lm - 1))) (lmV_s h0) ?_
      refine lv_iconst (v := (-1)) hx hb dX8_isLast_11 (by decide) ?_
      refine zb_icmp_eq (tgt := 37) (a := ((lm - 1 : Nat) : Int)) (b := (-1)) hx hb dX8_isLast_12 (by decide) (nI_toInt (by omega)) (by decide) (fun c12 => ?_) (fun c12 => ?_)
      · omega
      · refine lv_aload_n hx hb dX8_isLast_15 rfl (lv_at hl 0 rfl) ?_
        refine va_get (D := (dC, dI)) (ci := 8) (v := .int (nI ll)) (C := RX8) (T := TX8) (N := 39) hx hb hts (by decide +kernel) hown hK hP 0 rfl rfl 38 (by decide) (hts (.fieldLink RX8 259 "SequenceFramesModel" "lastLiterals" "I") (by decide +kernel)) (fun _ h9 => h9) rfl dX8_isLast_16 ?_
        refine lv_iconst (v := 5) hx hb dX8_isLast_19 (by decide) ?_
        refine zb_icmp_lt (tgt := 41) (a := ((ll : Nat) : Int)) (b := 5) hx hb dX8_isLast_20 (by decide) (nI_toInt (by omega)) (by decide) (fun c20 => ?_) (fun c20 => ?_)
        · refine lv_iconst (v := 0) hx hb dX8_isLast_41 (by decide) ?_
          have hP9 := hP.sub (ws' := [(m0, .inr (8, [.int z0, .ref z1, .int z2, .ref z3, .int z4, .ref z5, .int z6, .ref z7, .long z8, .ref z9, .ref z10, .ref z11, .ref z12, .ref z13, .int z14, .int z15, .int z16, .int z17, .ref z18, .ref z19, .ref z20, .int z21, .int (nI zz), .int z23, .int z24, .int z25, .int z26, .int z27, .int z28, .int z29, .int z30, .int z31, .int z32, .int z33, .int z34, .int (lmV lm), .long z36, .long z37, .int (nI ll)]))]) [0] rfl
          have hD9 := hD.sub (ws' := [(m0, .inr (8, [.int z0, .ref z1, .int z2, .ref z3, .int z4, .ref z5, .int z6, .ref z7, .long z8, .ref z9, .ref z10, .ref z11, .ref z12, .ref z13, .int z14, .int z15, .int z16, .int z17, .ref z18, .ref z19, .ref z20, .int z21, .int (nI zz), .int z23, .int z24, .int z25, .int z26, .int z27, .int z28, .int z29, .int z30, .int z31, .int z32, .int z33, .int z34, .int (lmV lm), .long z36, .long z37, .int (nI ll)]))]) [0] (by decide) rfl
          exact W.zret (v := 0) hx hb hr (by decide) (fun t9 ht9 hW9 => ⟨⟨0, (), rfl, (Or.inr ⟨rfl, fun h => by rcases h.2 with h1 | h1 <;> omega⟩), by rw [ht9]; exact hP9, va_K.moved hW9.alike hK, hD9⟩, hS.F ht9⟩) hS.2.2 dX8_isLast_42
        · refine lv_aload_n hx hb dX8_isLast_23 rfl (lv_at hl 0 rfl) ?_
          refine va_get (D := (dC, dI)) (ci := 8) (v := .int (nI zz)) (C := RX8) (T := TX8) (N := 39) hx hb hts (by decide +kernel) hown hK hP 0 rfl rfl 22 (by decide) (hts (.fieldLink RX8 205 "SequenceFramesModel" "size2" "I") (by decide +kernel)) (fun _ h9 => h9) rfl dX8_isLast_24 ?_
          refine lv_aload_n hx hb dX8_isLast_27 rfl (lv_at hl 0 rfl) ?_
          refine va_get (D := (dC, dI)) (ci := 8) (v := .int (lmV lm)) (C := RX8) (T := TX8) (N := 39) hx hb hts (by decide +kernel) hown hK hP 0 rfl rfl 35 (by decide) (hts (.fieldLink RX8 235 "SequenceFramesModel" "lastMatch" "I") (by decide +kernel)) (fun _ h9 => h9) rfl dX8_isLast_28 ?_
          refine lv_is (y := (nI (lm - 1))) (lmV_s h0) ?_
          refine lv_isub hx hb dX8_isLast_31 ?_
          refine lv_bipush (v := 12) hx hb dX8_isLast_32 (by decide) ?_
          refine zb_icmp_lt (tgt := 41) (a := (((zz : Nat) : Int) - ((lm - 1 : Nat) : Int))) (b := 12) hx hb dX8_isLast_34 (by decide) (zi_sub (nI_toInt (by omega)) (nI_toInt (by omega)) (by omega) (by omega)) (by decide) (fun c34 => ?_) (fun c34 => ?_)
          · refine lv_iconst (v := 0) hx hb dX8_isLast_41 (by decide) ?_
            have hP9 := hP.sub (ws' := [(m0, .inr (8, [.int z0, .ref z1, .int z2, .ref z3, .int z4, .ref z5, .int z6, .ref z7, .long z8, .ref z9, .ref z10, .ref z11, .ref z12, .ref z13, .int z14, .int z15, .int z16, .int z17, .ref z18, .ref z19, .ref z20, .int z21, .int (nI zz), .int z23, .int z24, .int z25, .int z26, .int z27, .int z28, .int z29, .int z30, .int z31, .int z32, .int z33, .int z34, .int (lmV lm), .long z36, .long z37, .int (nI ll)]))]) [0] rfl
            have hD9 := hD.sub (ws' := [(m0, .inr (8, [.int z0, .ref z1, .int z2, .ref z3, .int z4, .ref z5, .int z6, .ref z7, .long z8, .ref z9, .ref z10, .ref z11, .ref z12, .ref z13, .int z14, .int z15, .int z16, .int z17, .ref z18, .ref z19, .ref z20, .int z21, .int (nI zz), .int z23, .int z24, .int z25, .int z26, .int z27, .int z28, .int z29, .int z30, .int z31, .int z32, .int z33, .int z34, .int (lmV lm), .long z36, .long z37, .int (nI ll)]))]) [0] (by decide) rfl
            exact W.zret (v := 0) hx hb hr (by decide) (fun t9 ht9 hW9 => ⟨⟨0, (), rfl, (Or.inr ⟨rfl, fun h => by rcases h.2 with h1 | h1 <;> omega⟩), by rw [ht9]; exact hP9, va_K.moved hW9.alike hK, hD9⟩, hS.F ht9⟩) hS.2.2 dX8_isLast_42
          · refine lv_iconst (v := 1) hx hb dX8_isLast_37 (by decide) ?_
            refine lv_goto (tgt := 42) hx hb dX8_isLast_38 (by decide) ?_
            have hP9 := hP.sub (ws' := [(m0, .inr (8, [.int z0, .ref z1, .int z2, .ref z3, .int z4, .ref z5, .int z6, .ref z7, .long z8, .ref z9, .ref z10, .ref z11, .ref z12, .ref z13, .int z14, .int z15, .int z16, .int z17, .ref z18, .ref z19, .ref z20, .int z21, .int (nI zz), .int z23, .int z24, .int z25, .int z26, .int z27, .int z28, .int z29, .int z30, .int z31, .int z32, .int z33, .int z34, .int (lmV lm), .long z36, .long z37, .int (nI ll)]))]) [0] rfl
            have hD9 := hD.sub (ws' := [(m0, .inr (8, [.int z0, .ref z1, .int z2, .ref z3, .int z4, .ref z5, .int z6, .ref z7, .long z8, .ref z9, .ref z10, .ref z11, .ref z12, .ref z13, .int z14, .int z15, .int z16, .int z17, .ref z18, .ref z19, .ref z20, .int z21, .int (nI zz), .int z23, .int z24, .int z25, .int z26, .int z27, .int z28, .int z29, .int z30, .int z31, .int z32, .int z33, .int z34, .int (lmV lm), .long z36, .long z37, .int (nI ll)]))]) [0] (by decide) rfl
            exact W.zret (v := 1) hx hb hr (by decide) (fun t9 ht9 hW9 => ⟨⟨1, (), rfl, (Or.inl ⟨rfl, by omega, Or.inr ⟨by omega, by omega⟩⟩), by rw [ht9]; exact hP9, va_K.moved hW9.alike hK, hD9⟩, hS.F ht9⟩) hS.2.2 dX8_isLast_42
