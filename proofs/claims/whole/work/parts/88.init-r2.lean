set_option maxHeartbeats 4000000 in
set_option maxRecDepth 100000 in
theorem c_Opt_set (l : Launch) (dC : Nat → ClassId) (dI : Nat → Nat → Nat) (kB kI : ClassId) (o0 : Nat) (o1 : Nat) (v : Nat → Int32) (x : Int32) (xi : Int) (y : Int32) (yi : Int) (xh : x.toInt = xi) (yh : y.toInt = yi) : zMiO l yX3_set wsX3_set ({ frames := 0, cells := 0, slots := 0, locals := 0 }) (dC, dI) kB kI [.ref o0, .int x, .int y] [(o0, .inr (3, [.ref o1])), (o1, .inl (kI, 6, .inl v))] 0 0 (fun (r : Int32) => fun v2 : Nat → Int32 => optP v xi yi y r v2) (fun v2 : Nat → Int32 => [(o0, .inr (3, [.ref o1])), (o1, .inl (kI, 6, .inl v2))]) := by
  intro sz
  refine Met.ofW (cc := cX3_set) (maxL := 4) (ret := (some .int)) (by decide) rfl ?_
  intro p e s m args below meth c s₁ B hml hv
  obtain ⟨rfl, hsz, hP, hK, hD0, hO⟩ := hv
  have hx := B.exec
  have hb := B.bytes
  have hr := B.returns
  have hts := atoms_spec (ws := wsX3_set) B.pre
  have hown : s.vm.findClass RX3 = some m.cls := findClass_of_methodNamed B.named
  have hlocks := B.notSynchronized
  subst hsz
  have hD := hD0.self (sz := s.heap.size)
  generalize hAe : va_A [(o0, .inr (3, [.ref o1])), (o1, .inl (kI, 6, .inl v))] s.heap.size = A at hD hO ⊢
  have hA : ∀ q : Nat, s.heap.size ≤ q → A q := fun q h => by rw [← hAe]; exact Or.inr h
  have hS : va_S A s.heap s.heap [] := va_S.rf
  have hP : va_P (dC, dI) vwCl [(o0, .inr (3, [.ref o1])), (o1, .inl (kI, 6, .inl v))] s.heap := hP
  have hl := lv_entry ([.ref o0, .int x, .int y]) (n := 4) (Nat.le_of_ble_eq_true rfl)
  rw [lg_entry_eq]
  generalize (lg_sl ([.ref o0, .int x, .int y]) ++ List.replicate (4 - (lg_sl ([.ref o0, .int x, .int y])).length) Slot.unset).toArray = ls at hl ⊢
  have hl : lv_has ls 4 [(0, .ref o0), (1, .int x), (2, .int y)] := hl
  refine zG (fun GG hG1 hG2 => ?_)
  obtain ⟨t1, t2, hZ1, hZ2, hT1, hT2⟩ := id hO
  have hyr := Int32.toInt_lt y; have hyl := Int32.le_toInt y; have hxr := Int32.toInt_lt x; have hxl := Int32.le_toInt x
  refine lv_iload_n hx hb dX3_set_0 rfl (lv_at hl 1 rfl) ?_
  refine zb_if_lt (tgt := 31) (a := xi) hx hb dX3_set_1 (by decide) xh (fun c1 => ?_) (fun c1 => ?_)
  · refine lv_iconst (v := (-1)) hx hb dX3_set_31 (by decide) ?_
    have hP9 := hP.sub (ws' := [(o0, .inr (3, [.ref o1])), (o1, .inl (kI, 6, .inl v))]) [0, 1] rfl
    have hD9 := hD.sub (ws' := [(o0, .inr (3, [.ref o1])), (o1, .inl (kI, 6, .inl v))]) [0, 1] (by decide) rfl
    exact W.iret (v := (-1)) hx hb hr (fun t9 ht9 hW9 => ⟨⟨(-1), v, rfl, (Or.inr ⟨Or.inl (by omega), rfl, rfl⟩), by rw [ht9]; exact hP9, va_K.moved hW9.alike hK, hD9⟩, hS.F ht9⟩) hS.2.2 dX3_set_32
  · obtain ⟨k1, k1b, xe⟩ := z_nat (x := x) (by omega)
    subst xe
    rw [nI_toInt k1b] at xh
    subst xh
    have hlo := optL_i k1; have hhi := optM_i k1
    refine lv_iload_n hx hb dX3_set_4 rfl (lv_at hl 1 rfl) ?_
    refine lv_aload_n hx hb dX3_set_5 rfl (lv_at hl 0 rfl) ?_
    refine va_get (D := (dC, dI)) (ci := 3) (v := .ref o1) (C := RX3) (T := TX3) (N := 1) hx hb hts (by decide +kernel) hown hK hP 0 rfl rfl 0 (by decide) (hts (.fieldLink RX3 10 "SequenceFrames$Options" "values" "[I") (by decide +kernel)) (fun _ h9 => h9) rfl dX3_set_6 ?_
    refine va_alen (v := nI 6) hx hb hK hP 1 1 rfl rfl rfl dX3_set_9 ?_
    refine zb_icmp_ge (tgt := 31) (a := ((k1 : Nat) : Int)) (b := ((6 : Nat) : Int)) hx hb dX3_set_10 (by decide) (nI_toInt (by omega)) (nI_toInt (by omega)) (fun c10 => ?_) (fun c10 => ?_)
    · refine lv_iconst (v := (-1)) hx hb dX3_set_31 (by decide) ?_
      have hP9 := hP.sub (ws' := [(o0, .inr (3, [.ref o1])), (o1, .inl (kI, 6, .inl v))]) [0, 1] rfl
      have hD9 := hD.sub (ws' := [(o0, .inr (3, [.ref o1])), (o1, .inl (kI, 6, .inl v))]) [0, 1] (by decide) rfl
      exact W.iret (v := (-1)) hx hb hr (fun t9 ht9 hW9 => ⟨⟨(-1), v, rfl, (Or.inr ⟨Or.inr (Or.inl (by omega)), rfl, rfl⟩), by rw [ht9]; exact hP9, va_K.moved hW9.alike hK, hD9⟩, hS.F ht9⟩) hS.2.2 dX3_set_32
    · refine lv_iload_n hx hb dX3_set_13 rfl (lv_at hl 2 rfl) ?_
      refine va_gets hx hb hZ1 hS hown (hts (.fieldLink RX3 16 "SequenceFrames$Options" "LEAST" "[I") (by decide +kernel)) (fun _ h9 => h9) dX3_set_14 ?_
      refine lv_iload_n hx hb dX3_set_17 rfl (lv_at hl 1 rfl) ?_
      refine va_ti (v := .int (optL k1)) hx hb hT1 hS (zin rfl (by omega) (by omega)) (congrArg Value.int (zld optL rfl (by omega))) dX3_set_18 ?_
      refine zb_icmp_lt (tgt := 31) (a := yi) (b := ((optL k1)).toInt) hx hb dX3_set_19 (by decide) yh rfl (fun c19 => ?_) (fun c19 => ?_)
      · refine lv_iconst (v := (-1)) hx hb dX3_set_31 (by decide) ?_
        have hP9 := hP.sub (ws' := [(o0, .inr (3, [.ref o1])), (o1, .inl (kI, 6, .inl v))]) [0, 1] rfl
        have hD9 := hD.sub (ws' := [(o0, .inr (3, [.ref o1])), (o1, .inl (kI, 6, .inl v))]) [0, 1] (by decide) rfl
        exact W.iret (v := (-1)) hx hb hr (fun t9 ht9 hW9 => ⟨⟨(-1), v, rfl, (Or.inr ⟨Or.inr (Or.inr ⟨k1, rfl, by omega, Or.inl (by omega)⟩), rfl, rfl⟩), by rw [ht9]; exact hP9, va_K.moved hW9.alike hK, hD9⟩, hS.F ht9⟩) hS.2.2 dX3_set_32
      · refine lv_iload_n hx hb dX3_set_22 rfl (lv_at hl 2 rfl) ?_
        refine va_gets hx hb hZ2 hS hown (hts (.fieldLink RX3 19 "SequenceFrames$Options" "MOST" "[I") (by decide +kernel)) (fun _ h9 => h9) dX3_set_23 ?_
        refine lv_iload_n hx hb dX3_set_26 rfl (lv_at hl 1 rfl) ?_
        refine va_ti (v := .int (optM k1)) hx hb hT2 hS (zin rfl (by omega) (by omega)) (congrArg Value.int (zld optM rfl (by omega))) dX3_set_27 ?_
        refine zb_icmp_le (tgt := 33) (a := yi) (b := ((optM k1)).toInt) hx hb dX3_set_28 (by decide) yh rfl (fun c28 => ?_) (fun c28 => ?_)
        · refine lv_aload_n hx hb dX3_set_33 rfl (lv_at hl 0 rfl) ?_
          refine va_get (D := (dC, dI)) (ci := 3) (v := .ref o1) (C := RX3) (T := TX3) (N := 1) hx hb hts (by decide +kernel) hown hK hP 0 rfl rfl 0 (by decide) (hts (.fieldLink RX3 10 "SequenceFrames$Options" "values" "[I") (by decide +kernel)) (fun _ h9 => h9) rfl dX3_set_34 ?_
          refine lv_iload_n hx hb dX3_set_37 rfl (lv_at hl 1 rfl) ?_
          refine va_iald hx hb hK hP 1 1 rfl rfl (zin rfl (by omega) (by omega)) dX3_set_38 ?_
          refine lv_is (y := (v k1)) (zld v rfl (by omega)) ?_
          refine lv_istore_n (lv' := [(3, .int (v k1)), (0, .ref o0), (1, .int (nI k1)), (2, .int y)]) hx hb dX3_set_39 rfl hl (by decide) rfl (fun ls hl => ?_)
          refine lv_aload_n hx hb dX3_set_40 rfl (lv_at hl 1 rfl) ?_
          refine va_get (D := (dC, dI)) (ci := 3) (v := .ref o1) (C := RX3) (T := TX3) (N := 1) hx hb hts (by decide +kernel) hown hK hP 0 rfl rfl 0 (by decide) (hts (.fieldLink RX3 10 "SequenceFrames$Options" "values" "[I") (by decide +kernel)) (fun _ h9 => h9) rfl dX3_set_41 ?_
          refine lv_iload_n hx hb dX3_set_44 rfl (lv_at hl 2 rfl) ?_
          refine lv_iload_n hx hb dX3_set_45 rfl (lv_at hl 3 rfl) ?_
          refine va_iast hx hb hK hP hD hS 1 1 rfl rfl (zin rfl (by omega) (by omega)) dX3_set_46 (fun H locs hP hD hS => ?_)
          have ez := zst v y (i := (nI k1)) (j := k1) rfl (by omega)
          have hP : va_P (dC, dI) vwCl [(o0, .inr (3, [.ref o1])), (o1, .inl (kI, 6, .inl (upd v k1 y)))] H := by rw [← ez]; exact hP
          have hD : va_D A [(o0, .inr (3, [.ref o1])), (o1, .inl (kI, 6, .inl (upd v k1 y)))] := by rw [← ez]; exact hD
          refine lv_iload_n hx hb dX3_set_47 rfl (lv_at hl 0 rfl) ?_
          have hP9 := hP.sub (ws' := [(o0, .inr (3, [.ref o1])), (o1, .inl (kI, 6, .inl (upd v k1 y)))]) [0, 1] rfl
          have hD9 := hD.sub (ws' := [(o0, .inr (3, [.ref o1])), (o1, .inl (kI, 6, .inl (upd v k1 y)))]) [0, 1] (by decide) rfl
          exact W.iret (v := (v k1)) hx hb hr (fun t9 ht9 hW9 => ⟨⟨(v k1), (upd v k1 y), rfl, (Or.inl ⟨k1, rfl, by omega, by omega, by omega, rfl, rfl⟩), by rw [ht9]; exact hP9, va_K.moved hW9.alike hK, hD9⟩, hS.F ht9⟩) hS.2.2 dX3_set_48
        · refine lv_iconst (v := (-1)) hx hb dX3_set_31 (by decide) ?_
          have hP9 := hP.sub (ws' := [(o0, .inr (3, [.ref o1])), (o1, .inl (kI, 6, .inl v))]) [0, 1] rfl
          have hD9 := hD.sub (ws' := [(o0, .inr (3, [.ref o1])), (o1, .inl (kI, 6, .inl v))]) [0, 1] (by decide) rfl
          exact W.iret (v := (-1)) hx hb hr (fun t9 ht9 hW9 => ⟨⟨(-1), v, rfl, (Or.inr ⟨Or.inr (Or.inr ⟨k1, rfl, by omega, Or.inr (by omega)⟩), rfl, rfl⟩), by rw [ht9]; exact hP9, va_K.moved hW9.alike hK, hD9⟩, hS.F ht9⟩) hS.2.2 dX3_set_32
