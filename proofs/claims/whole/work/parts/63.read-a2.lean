set_option maxHeartbeats 4000000 in
set_option maxRecDepth 100000 in
theorem c_Mod_has (l : Launch) (dC : Nat → ClassId) (dI : Nat → Nat → Nat) (kB kI : ClassId) (m0 : Nat) (z0 : Int32) (z1 : Nat) (z2 : Int32) (z3 : Nat) (z5 : Nat) (z6 : Int32) (z7 : Nat) (z8 : Int64) (z9 : Nat) (z10 : Nat) (z11 : Nat) (z12 : Nat) (z13 : Nat) (z14 : Int32) (z15 : Int32) (z16 : Int32) (z17 : Int32) (z18 : Nat) (z19 : Nat) (z20 : Nat) (z22 : Int32) (z25 : Int32) (z26 : Int32) (z27 : Int32) (z28 : Int32) (z29 : Int32) (z30 : Int32) (z31 : Int32) (z32 : Int32) (z33 : Int32) (z34 : Int32) (z35 : Int32) (z36 : Int64) (z37 : Int64) (z38 : Int32) (z23 : Int32) (z24 : Int32) (n : Nat) (aa : Nat) (w : Nat) (hn : n ≤ 150000) (ha : aa ≤ n) (hw9 : w < 2 ^ 62) : zMi l yX8_has wsX8_has ({ frames := 1, cells := 0, slots := 0, locals := 22 }) (dC, dI) kB kI [.ref m0, .long (lN w)] [(m0, .inr (8, [.int z0, .ref z1, .int z2, .ref z3, .int (nI n), .ref z5, .int z6, .ref z7, .long z8, .ref z9, .ref z10, .ref z11, .ref z12, .ref z13, .int z14, .int z15, .int z16, .int z17, .ref z18, .ref z19, .ref z20, .int (nI aa), .int z22, .int z23, .int z24, .int z25, .int z26, .int z27, .int z28, .int z29, .int z30, .int z31, .int z32, .int z33, .int z34, .int z35, .long z36, .long z37, .int z38]))] 0 0 (fun (r : Int32) => fun uu : Int32 × Int32 => (r = 1 ∧ aa + w ≤ n ∧ uu.1 = z23 ∧ uu.2 = z24) ∨ (r = 0 ∧ n < aa + w ∧ uu.1 = 1 ∧ uu.2 = nI n)) (fun uu : Int32 × Int32 => [(m0, .inr (8, [.int z0, .ref z1, .int z2, .ref z3, .int (nI n), .ref z5, .int z6, .ref z7, .long z8, .ref z9, .ref z10, .ref z11, .ref z12, .ref z13, .int z14, .int z15, .int z16, .int z17, .ref z18, .ref z19, .ref z20, .int (nI aa), .int z22, .int uu.1, .int uu.2, .int z25, .int z26, .int z27, .int z28, .int z29, .int z30, .int z31, .int z32, .int z33, .int z34, .int z35, .long z36, .long z37, .int z38]))]) := by
  intro sz
  refine Met.ofW (cc := cX8_has) (maxL := 3) (ret := (some .boolean)) (by decide) rfl ?_
  intro p e s m args below meth c s₁ B hml hv
  obtain ⟨rfl, hsz, hP, hK, hD0⟩ := hv
  have hx := B.exec
  have hb := B.bytes
  have hr := B.returns
  have hts := atoms_spec (ws := wsX8_has) B.pre
  have hown : s.vm.findClass RX8 = some m.cls := findClass_of_methodNamed B.named
  have hlocks := B.notSynchronized
  subst hsz
  have hD := hD0.self (sz := s.heap.size)
  generalize hAe : va_A [(m0, .inr (8, [.int z0, .ref z1, .int z2, .ref z3, .int (nI n), .ref z5, .int z6, .ref z7, .long z8, .ref z9, .ref z10, .ref z11, .ref z12, .ref z13, .int z14, .int z15, .int z16, .int z17, .ref z18, .ref z19, .ref z20, .int (nI aa), .int z22, .int z23, .int z24, .int z25, .int z26, .int z27, .int z28, .int z29, .int z30, .int z31, .int z32, .int z33, .int z34, .int z35, .long z36, .long z37, .int z38]))] s.heap.size = A at hD ⊢
  have hA : ∀ q : Nat, s.heap.size ≤ q → A q := fun q h => by rw [← hAe]; exact Or.inr h
  have hS : va_S A s.heap s.heap [] := va_S.rf
  have hP : va_P (dC, dI) vwCl [(m0, .inr (8, [.int z0, .ref z1, .int z2, .ref z3, .int (nI n), .ref z5, .int z6, .ref z7, .long z8, .ref z9, .ref z10, .ref z11, .ref z12, .ref z13, .int z14, .int z15, .int z16, .int z17, .ref z18, .ref z19, .ref z20, .int (nI aa), .int z22, .int z23, .int z24, .int z25, .int z26, .int z27, .int z28, .int z29, .int z30, .int z31, .int z32, .int z33, .int z34, .int z35, .long z36, .long z37, .int z38]))] s.heap := hP
  have hl := lv_entry ([.ref m0, .long (lN w)]) (n := 3) (Nat.le_of_ble_eq_true rfl)
  rw [lg_entry_eq]
  generalize (lg_sl ([.ref m0, .long (lN w)]) ++ List.replicate (3 - (lg_sl ([.ref m0, .long (lN w)])).length) Slot.unset).toArray = ls at hl ⊢
  have hl : lv_has ls 3 [(0, .ref m0), (1, .long (lN w))] := hl
  refine zG (fun GG hG1 hG2 => ?_)
  refine lv_aload_n hx hb dX8_has_0 rfl (lv_at hl 0 rfl) ?_
  refine va_get (D := (dC, dI)) (ci := 8) (v := .int (nI n)) (C := RX8) (T := TX8) (N := 39) hx hb hts (by decide +kernel) hown hK hP 0 rfl rfl 4 (by decide) (hts (.fieldLink RX8 141 "SequenceFramesModel" "framed" "I") (by decide +kernel)) (fun _ h9 => h9) rfl dX8_has_1 ?_
  refine lv_aload_n hx hb dX8_has_4 rfl (lv_at hl 0 rfl) ?_
  refine va_get (D := (dC, dI)) (ci := 8) (v := .int (nI aa)) (C := RX8) (T := TX8) (N := 39) hx hb hts (by decide +kernel) hown hK hP 0 rfl rfl 21 (by decide) (hts (.fieldLink RX8 155 "SequenceFramesModel" "at" "I") (by decide +kernel)) (fun _ h9 => h9) rfl dX8_has_5 ?_
  refine lv_isub hx hb dX8_has_8 ?_
  refine lv_is (y := (nI (n - aa))) ((zn_sub rfl rfl (by omega)).trans (congrArg nI (by omega))) ?_
  refine lv_i2l (v := (lN (n - aa))) hx hb dX8_has_9 (zln_i2l rfl (by omega)) ?_
  refine lv_lload_n hx hb dX8_has_10 rfl (lv_at hl 1 rfl) ?_
  refine zb_lcmp_ge (tgt := 27) (a := ((n - aa : Nat) : Int)) (b := ((w : Nat) : Int)) hx hb dX8_has_11 dX8_has_12 (by decide) (pk_lT (by omega)) (pk_lT (by omega)) (fun c12 => ?_) (fun c12 => ?_)
  · refine lv_iconst (v := 1) hx hb dX8_has_27 (by decide) ?_
    refine lv_goto (tgt := 32) hx hb dX8_has_28 (by decide) ?_
    have hP9 := hP.sub (ws' := [(m0, .inr (8, [.int z0, .ref z1, .int z2, .ref z3, .int (nI n), .ref z5, .int z6, .ref z7, .long z8, .ref z9, .ref z10, .ref z11, .ref z12, .ref z13, .int z14, .int z15, .int z16, .int z17, .ref z18, .ref z19, .ref z20, .int (nI aa), .int z22, .int z23, .int z24, .int z25, .int z26, .int z27, .int z28, .int z29, .int z30, .int z31, .int z32, .int z33, .int z34, .int z35, .long z36, .long z37, .int z38]))]) [0] rfl
    have hD9 := hD.sub (ws' := [(m0, .inr (8, [.int z0, .ref z1, .int z2, .ref z3, .int (nI n), .ref z5, .int z6, .ref z7, .long z8, .ref z9, .ref z10, .ref z11, .ref z12, .ref z13, .int z14, .int z15, .int z16, .int z17, .ref z18, .ref z19, .ref z20, .int (nI aa), .int z22, .int z23, .int z24, .int z25, .int z26, .int z27, .int z28, .int z29, .int z30, .int z31, .int z32, .int z33, .int z34, .int z35, .long z36, .long z37, .int z38]))]) [0] (by decide) rfl
    exact W.zret (v := 1) hx hb hr (by decide) (fun t9 ht9 hW9 => ⟨⟨1, (z23, z24), rfl, (show (1 = 1 ∧ aa + w ≤ n ∧ z23 = z23 ∧ z24 = z24) ∨ (1 = 0 ∧ n < aa + w ∧ z23 = 1 ∧ z24 = nI n) from (Or.inl ⟨rfl, by omega, rfl, rfl⟩)), by rw [ht9]; exact hP9, va_K.moved hW9.alike hK, hD9⟩, hS.F ht9⟩) hS.2.2 dX8_has_32
  · refine lv_aload_n hx hb dX8_has_15 rfl (lv_at hl 0 rfl) ?_
    refine lv_iconst (v := 1) hx hb dX8_has_16 (by decide) ?_
    refine lv_aload_n hx hb dX8_has_17 rfl (lv_at hl 0 rfl) ?_
    refine va_get (D := (dC, dI)) (ci := 8) (v := .int (nI n)) (C := RX8) (T := TX8) (N := 39) hx hb hts (by decide +kernel) hown hK hP 0 rfl rfl 4 (by decide) (hts (.fieldLink RX8 141 "SequenceFramesModel" "framed" "I") (by decide +kernel)) (fun _ h9 => h9) rfl dX8_has_18 ?_
    refine z_calli (wr := []) (va_runV (As := [.int 1, .int (nI n)]) (rest := []) ⟨hx, hb, hml, hown, hts⟩ (c_Mod_fails l dC dI kB kI m0 z0 z1 z2 z3 (nI n) z5 z6 z7 z8 z9 z10 z11 z12 z13 z14 z15 z16 z17 z18 z19 z20 (nI aa) z22 z23 z24 z25 z26 z27 z28 z29 z30 z31 z32 z33 z34 z35 z36 z37 z38 1 (nI n)  s.heap.size) (cwV 2 hts gX8_has_X8_fails rfl rfl rfl (by decide +kernel) ⟨Nat.le_of_ble_eq_true rfl, Nat.le_of_ble_eq_true rfl⟩) (z_preV hK (hP.sub [0] rfl) (hD.sub [0] (by decide) rfl) (va_recv hK hP (ci := 8) (q0 := 0) rfl rfl)) rfl rfl hl.1 rfl (lv_room (Nat.le_of_ble_eq_true rfl)) dX8_has_21 ⟨Nat.le_of_ble_eq_true rfl, Nat.le_of_ble_eq_true rfl⟩) hK hP hD hS hA [0] [] rfl rfl (by decide) (by decide) (fun r1 uq2 H locs hw hP hD hS => ?_)
    replace hw : r1 = 0 := hw
    have hP : va_P (dC, dI) vwCl [(m0, .inr (8, [.int z0, .ref z1, .int z2, .ref z3, .int (nI n), .ref z5, .int z6, .ref z7, .long z8, .ref z9, .ref z10, .ref z11, .ref z12, .ref z13, .int z14, .int z15, .int z16, .int z17, .ref z18, .ref z19, .ref z20, .int (nI aa), .int z22, .int 1, .int (nI n), .int z25, .int z26, .int z27, .int z28, .int z29, .int z30, .int z31, .int z32, .int z33, .int z34, .int z35, .long z36, .long z37, .int z38]))] H := hP
    have hD : va_D A [(m0, .inr (8, [.int z0, .ref z1, .int z2, .ref z3, .int (nI n), .ref z5, .int z6, .ref z7, .long z8, .ref z9, .ref z10, .ref z11, .ref z12, .ref z13, .int z14, .int z15, .int z16, .int z17, .ref z18, .ref z19, .ref z20, .int (nI aa), .int z22, .int 1, .int (nI n), .int z25, .int z26, .int z27, .int z28, .int z29, .int z30, .int z31, .int z32, .int z33, .int z34, .int z35, .long z36, .long z37, .int z38]))] := hD
    subst hw
    refine lv_if_eq (tgt := 31) hx hb dX8_has_24 (by decide) (fun _ => ?_) (fun c => absurd c (by decide))
    refine lv_iconst (v := 0) hx hb dX8_has_31 (by decide) ?_
    have hP9 := hP.sub (ws' := [(m0, .inr (8, [.int z0, .ref z1, .int z2, .ref z3, .int (nI n), .ref z5, .int z6, .ref z7, .long z8, .ref z9, .ref z10, .ref z11, .ref z12, .ref z13, .int z14, .int z15, .int z16, .int z17, .ref z18, .ref z19, .ref z20, .int (nI aa), .int z22, .int 1, .int (nI n), .int z25, .int z26, .int z27, .int z28, .int z29, .int z30, .int z31, .int z32, .int z33, .int z34, .int z35, .long z36, .long z37, .int z38]))]) [0] rfl
    have hD9 := hD.sub (ws' := [(m0, .inr (8, [.int z0, .ref z1, .int z2, .ref z3, .int (nI n), .ref z5, .int z6, .ref z7, .long z8, .ref z9, .ref z10, .ref z11, .ref z12, .ref z13, .int z14, .int z15, .int z16, .int z17, .ref z18, .ref z19, .ref z20, .int (nI aa), .int z22, .int 1, .int (nI n), .int z25, .int z26, .int z27, .int z28, .int z29, .int z30, .int z31, .int z32, .int z33, .int z34, .int z35, .long z36, .long z37, .int z38]))]) [0] (by decide) rfl
    exact W.zret (v := 0) hx hb hr (by decide) (fun t9 ht9 hW9 => ⟨⟨0, (1, (nI n)), rfl, (show (0 = 1 ∧ aa + w ≤ n ∧ 1 = z23 ∧ (nI n) = z24) ∨ (0 = 0 ∧ n < aa + w ∧ 1 = 1 ∧ (nI n) = nI n) from (Or.inr ⟨rfl, by omega, rfl, rfl⟩)), by rw [ht9]; exact hP9, va_K.moved hW9.alike hK, hD9⟩, hS.F ht9⟩) hS.2.2 dX8_has_32
