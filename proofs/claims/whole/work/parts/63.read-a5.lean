set_option maxHeartbeats 4000000 in
set_option maxRecDepth 100000 in
theorem c_Mod_hasRoom (l : Launch) (dC : Nat → ClassId) (dI : Nat → Nat → Nat) (kB kI : ClassId) (m0 : Nat) (z0 : Int32) (z1 : Nat) (z2 : Int32) (z3 : Nat) (z4 : Int32) (z5 : Nat) (z6 : Int32) (z7 : Nat) (z8 : Int64) (z9 : Nat) (z10 : Nat) (z11 : Nat) (z12 : Nat) (z13 : Nat) (z14 : Int32) (z15 : Int32) (z16 : Int32) (z17 : Int32) (z18 : Nat) (z19 : Nat) (z20 : Nat) (z21 : Int32) (z25 : Int32) (z26 : Int32) (z27 : Int32) (z28 : Int32) (z29 : Int32) (z31 : Int32) (z32 : Int32) (z33 : Int32) (z35 : Int32) (z36 : Int64) (z38 : Int32) (z23 : Int32) (z24 : Int32) (zz : Nat) (bb : Nat) (ln : Nat) (mo : Nat) (tp : Nat) (hz : zz ≤ 140000) (hb9 : bb ≤ zz) (hl9 : ln ≤ 100000000) (hmo : mo ≤ 5000000) : zMi l yX8_hasRoom wsX8_hasRoom ({ frames := 1, cells := 0, slots := 0, locals := 22 }) (dC, dI) kB kI [.ref m0, .int (nI tp)] [(m0, .inr (8, [.int z0, .ref z1, .int z2, .ref z3, .int z4, .ref z5, .int z6, .ref z7, .long z8, .ref z9, .ref z10, .ref z11, .ref z12, .ref z13, .int z14, .int z15, .int z16, .int z17, .ref z18, .ref z19, .ref z20, .int z21, .int (nI zz), .int z23, .int z24, .int z25, .int z26, .int z27, .int z28, .int z29, .int (nI mo), .int z31, .int z32, .int z33, .int (nI bb), .int z35, .long z36, .long (lN ln), .int z38]))] 0 0 (fun (r : Int32) => fun uu : Int32 × Int32 => (r = 1 ∧ zz - bb + ln ≤ mo ∧ zz + ln ≤ 140000 ∧ uu.1 = z23 ∧ uu.2 = z24) ∨ (r = 0 ∧ (mo < zz - bb + ln ∨ 140000 < zz + ln) ∧ uu.1 = 8 ∧ uu.2 = nI tp)) (fun uu : Int32 × Int32 => [(m0, .inr (8, [.int z0, .ref z1, .int z2, .ref z3, .int z4, .ref z5, .int z6, .ref z7, .long z8, .ref z9, .ref z10, .ref z11, .ref z12, .ref z13, .int z14, .int z15, .int z16, .int z17, .ref z18, .ref z19, .ref z20, .int z21, .int (nI zz), .int uu.1, .int uu.2, .int z25, .int z26, .int z27, .int z28, .int z29, .int (nI mo), .int z31, .int z32, .int z33, .int (nI bb), .int z35, .long z36, .long (lN ln), .int z38]))]) := by
  intro sz
  refine Met.ofW (cc := cX8_hasRoom) (maxL := 2) (ret := (some .boolean)) (by decide) rfl ?_
  intro p e s m args below meth c s₁ B hml hv
  obtain ⟨rfl, hsz, hP, hK, hD0⟩ := hv
  have hx := B.exec
  have hb := B.bytes
  have hr := B.returns
  have hts := atoms_spec (ws := wsX8_hasRoom) B.pre
  have hown : s.vm.findClass RX8 = some m.cls := findClass_of_methodNamed B.named
  have hlocks := B.notSynchronized
  subst hsz
  have hD := hD0.self (sz := s.heap.size)
  generalize hAe : va_A [(m0, .inr (8, [.int z0, .ref z1, .int z2, .ref z3, .int z4, .ref z5, .int z6, .ref z7, .long z8, .ref z9, .ref z10, .ref z11, .ref z12, .ref z13, .int z14, .int z15, .int z16, .int z17, .ref z18, .ref z19, .ref z20, .int z21, .int (nI zz), .int z23, .int z24, .int z25, .int z26, .int z27, .int z28, .int z29, .int (nI mo), .int z31, .int z32, .int z33, .int (nI bb), .int z35, .long z36, .long (lN ln), .int z38]))] s.heap.size = A at hD ⊢
  have hA : ∀ q : Nat, s.heap.size ≤ q → A q := fun q h => by rw [← hAe]; exact Or.inr h
  have hS : va_S A s.heap s.heap [] := va_S.rf
  have hP : va_P (dC, dI) vwCl [(m0, .inr (8, [.int z0, .ref z1, .int z2, .ref z3, .int z4, .ref z5, .int z6, .ref z7, .long z8, .ref z9, .ref z10, .ref z11, .ref z12, .ref z13, .int z14, .int z15, .int z16, .int z17, .ref z18, .ref z19, .ref z20, .int z21, .int (nI zz), .int z23, .int z24, .int z25, .int z26, .int z27, .int z28, .int z29, .int (nI mo), .int z31, .int z32, .int z33, .int (nI bb), .int z35, .long z36, .long (lN ln), .int z38]))] s.heap := hP
  have hl := lv_entry ([.ref m0, .int (nI tp)]) (n := 2) (Nat.le_of_ble_eq_true rfl)
  rw [lg_entry_eq]
  generalize (lg_sl ([.ref m0, .int (nI tp)]) ++ List.replicate (2 - (lg_sl ([.ref m0, .int (nI tp)])).length) Slot.unset).toArray = ls at hl ⊢
  have hl : lv_has ls 2 [(0, .ref m0), (1, .int (nI tp))] := hl
  refine zG (fun GG hG1 hG2 => ?_)
  refine lv_aload_n hx hb dX8_hasRoom_0 rfl (lv_at hl 0 rfl) ?_
  refine va_get (D := (dC, dI)) (ci := 8) (v := .int (nI zz)) (C := RX8) (T := TX8) (N := 39) hx hb hts (by decide +kernel) hown hK hP 0 rfl rfl 22 (by decide) (hts (.fieldLink RX8 205 "SequenceFramesModel" "size2" "I") (by decide +kernel)) (fun _ h9 => h9) rfl dX8_hasRoom_1 ?_
  refine lv_aload_n hx hb dX8_hasRoom_4 rfl (lv_at hl 0 rfl) ?_
  refine va_get (D := (dC, dI)) (ci := 8) (v := .int (nI bb)) (C := RX8) (T := TX8) (N := 39) hx hb hts (by decide +kernel) hown hK hP 0 rfl rfl 34 (by decide) (hts (.fieldLink RX8 223 "SequenceFramesModel" "blockBegin" "I") (by decide +kernel)) (fun _ h9 => h9) rfl dX8_hasRoom_5 ?_
  refine lv_isub hx hb dX8_hasRoom_8 ?_
  refine lv_is (y := (nI (zz - bb))) ((zn_sub rfl rfl (by omega)).trans (congrArg nI (by omega))) ?_
  refine lv_i2l (v := (lN (zz - bb))) hx hb dX8_hasRoom_9 (zln_i2l rfl (by omega)) ?_
  refine lv_aload_n hx hb dX8_hasRoom_10 rfl (lv_at hl 0 rfl) ?_
  refine va_get (D := (dC, dI)) (ci := 8) (v := .long (lN ln)) (C := RX8) (T := TX8) (N := 39) hx hb hts (by decide +kernel) hown hK hP 0 rfl rfl 37 (by decide) (hts (.fieldLink RX8 248 "SequenceFramesModel" "length" "J") (by decide +kernel)) (fun _ h9 => h9) rfl dX8_hasRoom_11 ?_
  refine lv_ladd hx hb dX8_hasRoom_14 ?_
  refine lv_isl (y := (lN ((zz - bb) + ln))) (zln_add rfl rfl) ?_
  refine lv_aload_n hx hb dX8_hasRoom_15 rfl (lv_at hl 0 rfl) ?_
  refine va_get (D := (dC, dI)) (ci := 8) (v := .int (nI mo)) (C := RX8) (T := TX8) (N := 39) hx hb hts (by decide +kernel) hown hK hP 0 rfl rfl 30 (by decide) (hts (.fieldLink RX8 197 "SequenceFramesModel" "most" "I") (by decide +kernel)) (fun _ h9 => h9) rfl dX8_hasRoom_16 ?_
  refine lv_i2l (v := (lN mo)) hx hb dX8_hasRoom_19 (zln_i2l rfl (by omega)) ?_
  refine zb_lcmp_gt (tgt := 41) (a := (((zz - bb) + ln : Nat) : Int)) (b := ((mo : Nat) : Int)) hx hb dX8_hasRoom_20 dX8_hasRoom_21 (by decide) (pk_lT (by omega)) (pk_lT (by omega)) (fun c21 => ?_) (fun c21 => ?_)
  · refine lv_aload_n hx hb dX8_hasRoom_41 rfl (lv_at hl 0 rfl) ?_
    refine lv_bipush (v := 8) hx hb dX8_hasRoom_42 (by decide) ?_
    refine lv_iload_n hx hb dX8_hasRoom_44 rfl (lv_at hl 1 rfl) ?_
    refine z_calli (wr := []) (va_runV (As := [.int 8, .int (nI tp)]) (rest := []) ⟨hx, hb, hml, hown, hts⟩ (c_Mod_fails l dC dI kB kI m0 z0 z1 z2 z3 z4 z5 z6 z7 z8 z9 z10 z11 z12 z13 z14 z15 z16 z17 z18 z19 z20 z21 (nI zz) z23 z24 z25 z26 z27 z28 z29 (nI mo) z31 z32 z33 (nI bb) z35 z36 (lN ln) z38 8 (nI tp)  s.heap.size) (cwV 2 hts gX8_hasRoom_X8_fails rfl rfl rfl (by decide +kernel) ⟨Nat.le_of_ble_eq_true rfl, Nat.le_of_ble_eq_true rfl⟩) (z_preV hK (hP.sub [0] rfl) (hD.sub [0] (by decide) rfl) (va_recv hK hP (ci := 8) (q0 := 0) rfl rfl)) rfl rfl hl.1 rfl (lv_room (Nat.le_of_ble_eq_true rfl)) dX8_hasRoom_45 ⟨Nat.le_of_ble_eq_true rfl, Nat.le_of_ble_eq_true rfl⟩) hK hP hD hS hA [0] [] rfl rfl (by decide) (by decide) (fun r1 uq2 H locs hw hP hD hS => ?_)
    replace hw : r1 = 0 := hw
    have hP : va_P (dC, dI) vwCl [(m0, .inr (8, [.int z0, .ref z1, .int z2, .ref z3, .int z4, .ref z5, .int z6, .ref z7, .long z8, .ref z9, .ref z10, .ref z11, .ref z12, .ref z13, .int z14, .int z15, .int z16, .int z17, .ref z18, .ref z19, .ref z20, .int z21, .int (nI zz), .int 8, .int (nI tp), .int z25, .int z26, .int z27, .int z28, .int z29, .int (nI mo), .int z31, .int z32, .int z33, .int (nI bb), .int z35, .long z36, .long (lN ln), .int z38]))] H := hP
    have hD : va_D A [(m0, .inr (8, [.int z0, .ref z1, .int z2, .ref z3, .int z4, .ref z5, .int z6, .ref z7, .long z8, .ref z9, .ref z10, .ref z11, .ref z12, .ref z13, .int z14, .int z15, .int z16, .int z17, .ref z18, .ref z19, .ref z20, .int z21, .int (nI zz), .int 8, .int (nI tp), .int z25, .int z26, .int z27, .int z28, .int z29, .int (nI mo), .int z31, .int z32, .int z33, .int (nI bb), .int z35, .long z36, .long (lN ln), .int z38]))] := hD
    subst hw
    refine lv_if_eq (tgt := 55) hx hb dX8_hasRoom_48 (by decide) (fun _ => ?_) (fun c => absurd c (by decide))
    refine lv_iconst (v := 0) hx hb dX8_hasRoom_55 (by decide) ?_
    have hP9 := hP.sub (ws' := [(m0, .inr (8, [.int z0, .ref z1, .int z2, .ref z3, .int z4, .ref z5, .int z6, .ref z7, .long z8, .ref z9, .ref z10, .ref z11, .ref z12, .ref z13, .int z14, .int z15, .int z16, .int z17, .ref z18, .ref z19, .ref z20, .int z21, .int (nI zz), .int 8, .int (nI tp), .int z25, .int z26, .int z27, .int z28, .int z29, .int (nI mo), .int z31, .int z32, .int z33, .int (nI bb), .int z35, .long z36, .long (lN ln), .int z38]))]) [0] rfl
    have hD9 := hD.sub (ws' := [(m0, .inr (8, [.int z0, .ref z1, .int z2, .ref z3, .int z4, .ref z5, .int z6, .ref z7, .long z8, .ref z9, .ref z10, .ref z11, .ref z12, .ref z13, .int z14, .int z15, .int z16, .int z17, .ref z18, .ref z19, .ref z20, .int z21, .int (nI zz), .int 8, .int (nI tp), .int z25, .int z26, .int z27, .int z28, .int z29, .int (nI mo), .int z31, .int z32, .int z33, .int (nI bb), .int z35, .long z36, .long (lN ln), .int z38]))]) [0] (by decide) rfl
    exact W.zret (v := 0) hx hb hr (by decide) (fun t9 ht9 hW9 => ⟨⟨0, (8, (nI tp)), rfl, (show (0 = 1 ∧ zz - bb + ln ≤ mo ∧ zz + ln ≤ 140000 ∧ 8 = z23 ∧ (nI tp) = z24) ∨ (0 = 0 ∧ (mo < zz - bb + ln ∨ 140000 < zz + ln) ∧ 8 = 8 ∧ (nI tp) = nI tp) from (Or.inr ⟨rfl, by omega, rfl, rfl⟩)), by rw [ht9]; exact hP9, va_K.moved hW9.alike hK, hD9⟩, hS.F ht9⟩) hS.2.2 dX8_hasRoom_56
  · refine lv_aload_n hx hb dX8_hasRoom_24 rfl (lv_at hl 0 rfl) ?_
    refine va_get (D := (dC, dI)) (ci := 8) (v := .int (nI zz)) (C := RX8) (T := TX8) (N := 39) hx hb hts (by decide +kernel) hown hK hP 0 rfl rfl 22 (by decide) (hts (.fieldLink RX8 205 "SequenceFramesModel" "size2" "I") (by decide +kernel)) (fun _ h9 => h9) rfl dX8_hasRoom_25 ?_
    refine lv_i2l (v := (lN zz)) hx hb dX8_hasRoom_28 (zln_i2l rfl (by omega)) ?_
    refine lv_aload_n hx hb dX8_hasRoom_29 rfl (lv_at hl 0 rfl) ?_
    refine va_get (D := (dC, dI)) (ci := 8) (v := .long (lN ln)) (C := RX8) (T := TX8) (N := 39) hx hb hts (by decide +kernel) hown hK hP 0 rfl rfl 37 (by decide) (hts (.fieldLink RX8 248 "SequenceFramesModel" "length" "J") (by decide +kernel)) (fun _ h9 => h9) rfl dX8_hasRoom_30 ?_
    refine lv_ladd hx hb dX8_hasRoom_33 ?_
    refine lv_isl (y := (lN (zz + ln))) (zln_add rfl rfl) ?_
    refine lv_ldc2 (v := 140000) hx hb hown (hts (.constantLong RX8 251 140000) (by decide +kernel)) dX8_hasRoom_34 ?_
    refine zb_lcmp_le (tgt := 51) (a := ((zz + ln : Nat) : Int)) (b := 140000) hx hb dX8_hasRoom_37 dX8_hasRoom_38 (by decide) (pk_lT (by omega)) (by decide) (fun c38 => ?_) (fun c38 => ?_)
    · refine lv_iconst (v := 1) hx hb dX8_hasRoom_51 (by decide) ?_
      refine lv_goto (tgt := 56) hx hb dX8_hasRoom_52 (by decide) ?_
      have hP9 := hP.sub (ws' := [(m0, .inr (8, [.int z0, .ref z1, .int z2, .ref z3, .int z4, .ref z5, .int z6, .ref z7, .long z8, .ref z9, .ref z10, .ref z11, .ref z12, .ref z13, .int z14, .int z15, .int z16, .int z17, .ref z18, .ref z19, .ref z20, .int z21, .int (nI zz), .int z23, .int z24, .int z25, .int z26, .int z27, .int z28, .int z29, .int (nI mo), .int z31, .int z32, .int z33, .int (nI bb), .int z35, .long z36, .long (lN ln), .int z38]))]) [0] rfl
      have hD9 := hD.sub (ws' := [(m0, .inr (8, [.int z0, .ref z1, .int z2, .ref z3, .int z4, .ref z5, .int z6, .ref z7, .long z8, .ref z9, .ref z10, .ref z11, .ref z12, .ref z13, .int z14, .int z15, .int z16, .int z17, .ref z18, .ref z19, .ref z20, .int z21, .int (nI zz), .int z23, .int z24, .int z25, .int z26, .int z27, .int z28, .int z29, .int (nI mo), .int z31, .int z32, .int z33, .int (nI bb), .int z35, .long z36, .long (lN ln), .int z38]))]) [0] (by decide) rfl
      exact W.zret (v := 1) hx hb hr (by decide) (fun t9 ht9 hW9 => ⟨⟨1, (z23, z24), rfl, (show (1 = 1 ∧ zz - bb + ln ≤ mo ∧ zz + ln ≤ 140000 ∧ z23 = z23 ∧ z24 = z24) ∨ (1 = 0 ∧ (mo < zz - bb + ln ∨ 140000 < zz + ln) ∧ z23 = 8 ∧ z24 = nI tp) from (Or.inl ⟨rfl, by omega, by omega, rfl, rfl⟩)), by rw [ht9]; exact hP9, va_K.moved hW9.alike hK, hD9⟩, hS.F ht9⟩) hS.2.2 dX8_hasRoom_56
    · refine lv_aload_n hx hb dX8_hasRoom_41 rfl (lv_at hl 0 rfl) ?_
      refine lv_bipush (v := 8) hx hb dX8_hasRoom_42 (by decide) ?_
      refine lv_iload_n hx hb dX8_hasRoom_44 rfl (lv_at hl 1 rfl) ?_
      refine z_calli (wr := []) (va_runV (As := [.int 8, .int (nI tp)]) (rest := []) ⟨hx, hb, hml, hown, hts⟩ (c_Mod_fails l dC dI kB kI m0 z0 z1 z2 z3 z4 z5 z6 z7 z8 z9 z10 z11 z12 z13 z14 z15 z16 z17 z18 z19 z20 z21 (nI zz) z23 z24 z25 z26 z27 z28 z29 (nI mo) z31 z32 z33 (nI bb) z35 z36 (lN ln) z38 8 (nI tp)  s.heap.size) (cwV 2 hts gX8_hasRoom_X8_fails rfl rfl rfl (by decide +kernel) ⟨Nat.le_of_ble_eq_true rfl, Nat.le_of_ble_eq_true rfl⟩) (z_preV hK (hP.sub [0] rfl) (hD.sub [0] (by decide) rfl) (va_recv hK hP (ci := 8) (q0 := 0) rfl rfl)) rfl rfl hl.1 rfl (lv_room (Nat.le_of_ble_eq_true rfl)) dX8_hasRoom_45 ⟨Nat.le_of_ble_eq_true rfl, Nat.le_of_ble_eq_true rfl⟩) hK hP hD hS hA [0] [] rfl rfl (by decide) (by decide) (fun r3 uq4 H locs hw hP hD hS => ?_)
      replace hw : r3 = 0 := hw
      have hP : va_P (dC, dI) vwCl [(m0, .inr (8, [.int z0, .ref z1, .int z2, .ref z3, .int z4, .ref z5, .int z6, .ref z7, .long z8, .ref z9, .ref z10, .ref z11, .ref z12, .ref z13, .int z14, .int z15, .int z16, .int z17, .ref z18, .ref z19, .ref z20, .int z21, .int (nI zz), .int 8, .int (nI tp), .int z25, .int z26, .int z27, .int z28, .int z29, .int (nI mo), .int z31, .int z32, .int z33, .int (nI bb), .int z35, .long z36, .long (lN ln), .int z38]))] H := hP
      have hD : va_D A [(m0, .inr (8, [.int z0, .ref z1, .int z2, .ref z3, .int z4, .ref z5, .int z6, .ref z7, .long z8, .ref z9, .ref z10, .ref z11, .ref z12, .ref z13, .int z14, .int z15, .int z16, .int z17, .ref z18, .ref z19, .ref z20, .int z21, .int (nI zz), .int 8, .int (nI tp), .int z25, .int z26, .int z27, .int z28, .int z29, .int (nI mo), .int z31, .int z32, .int z33, .int (nI bb), .int z35, .long z36, .long (lN ln), .int z38]))] := hD
      subst hw
      refine lv_if_eq (tgt := 55) hx hb dX8_hasRoom_48 (by decide) (fun _ => ?_) (fun c => absurd c (by decide))
      refine lv_iconst (v := 0) hx hb dX8_hasRoom_55 (by decide) ?_
      have hP9 := hP.sub (ws' := [(m0, .inr (8, [.int z0, .ref z1, .int z2, .ref z3, .int z4, .ref z5, .int z6, .ref z7, .long z8, .ref z9, .ref z10, .ref z11, .ref z12, .ref z13, .int z14, .int z15, .int z16, .int z17, .ref z18, .ref z19, .ref z20, .int z21, .int (nI zz), .int 8, .int (nI tp), .int z25, .int z26, .int z27, .int z28, .int z29, .int (nI mo), .int z31, .int z32, .int z33, .int (nI bb), .int z35, .long z36, .long (lN ln), .int z38]))]) [0] rfl
      have hD9 := hD.sub (ws' := [(m0, .inr (8, [.int z0, .ref z1, .int z2, .ref z3, .int z4, .ref z5, .int z6, .ref z7, .long z8, .ref z9, .ref z10, .ref z11, .ref z12, .ref z13, .int z14, .int z15, .int z16, .int z17, .ref z18, .ref z19, .ref z20, .int z21, .int (nI zz), .int 8, .int (nI tp), .int z25, .int z26, .int z27, .int z28, .int z29, .int (nI mo), .int z31, .int z32, .int z33, .int (nI bb), .int z35, .long z36, .long (lN ln), .int z38]))]) [0] (by decide) rfl
      exact W.zret (v := 0) hx hb hr (by decide) (fun t9 ht9 hW9 => ⟨⟨0, (8, (nI tp)), rfl, (show (0 = 1 ∧ zz - bb + ln ≤ mo ∧ zz + ln ≤ 140000 ∧ 8 = z23 ∧ (nI tp) = z24) ∨ (0 = 0 ∧ (mo < zz - bb + ln ∨ 140000 < zz + ln) ∧ 8 = 8 ∧ (nI tp) = nI tp) from (Or.inr ⟨rfl, by omega, rfl, rfl⟩)), by rw [ht9]; exact hP9, va_K.moved hW9.alike hK, hD9⟩, hS.F ht9⟩) hS.2.2 dX8_hasRoom_56
