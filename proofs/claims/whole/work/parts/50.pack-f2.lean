set_option maxHeartbeats 4000000 in
set_option maxRecDepth 100000 in
theorem c_Pck_writeEnd (l : Launch) (dC : Nat → ClassId) (dI : Nat → Nat → Nat) (kB kI : ClassId) (p0 : Nat) (a0 : Nat) (g0 : Nat) (o0 : Nat) (s0 : Nat) (b0 : Nat) (bl : Nat) (ra : Nat) (a1 : Nat) (n : Nat) (f : Nat → Int32) (g1 : Nat) (fr : Nat → Int32) (m1 : Nat) (lk : Bool) (ck : Bool) (sz : Bool) (ca : Bool) (hn : n ≤ 140000) (hm : m1 + (4 + 4 * ca.toNat) ≤ 150000) : zMv l yX4_writeEnd wsX4_writeEnd ({ frames := 3, cells := 0, slots := 0, locals := 79 }) (dC, dI) kB kI [.ref p0, .int (nI (flN lk ck sz ca))] [(p0, .inr (4, [.ref a0, .ref g0, .ref o0, .ref s0, .ref b0, .int (nI bl), .int (nI ra)])), (a0, .inr (5, [.ref a1, .int (nI n)])), (a1, .inl (kB, 140000, .inl f)), (g0, .inr (5, [.ref g1, .int (nI m1)])), (g1, .inl (kB, 150000, .inl fr))] 0 0 (fun _ : Unit => True) (fun _ : Unit => [(p0, .inr (4, [.ref a0, .ref g0, .ref o0, .ref s0, .ref b0, .int (nI bl), .int (nI ra)])), (a0, .inr (5, [.ref a1, .int (nI n)])), (a1, .inl (kB, 140000, .inl f)), (g0, .inr (5, [.ref g1, .int (nI (m1 + (4 + 4 * ca.toNat)))])), (g1, .inl (kB, 150000, .inl (apL fr m1 (enB ca f n))))]) := by
  intro sz
  refine Met.ofW (cc := cX4_writeEnd) (maxL := 2) (ret := none) (by decide) rfl ?_
  intro p e s m args below meth c s₁ B hml hv
  obtain ⟨rfl, hsz, hP, hK, hD0⟩ := hv
  have hx := B.exec
  have hb := B.bytes
  have hr := B.returns
  have hts := atoms_spec (ws := wsX4_writeEnd) B.pre
  have hown : s.vm.findClass RX4 = some m.cls := findClass_of_methodNamed B.named
  have hlocks := B.notSynchronized
  subst hsz
  have hD := hD0.self (sz := s.heap.size)
  generalize hAe : va_A [(p0, .inr (4, [.ref a0, .ref g0, .ref o0, .ref s0, .ref b0, .int (nI bl), .int (nI ra)])), (a0, .inr (5, [.ref a1, .int (nI n)])), (a1, .inl (kB, 140000, .inl f)), (g0, .inr (5, [.ref g1, .int (nI m1)])), (g1, .inl (kB, 150000, .inl fr))] s.heap.size = A at hD ⊢
  have hA : ∀ q : Nat, s.heap.size ≤ q → A q := fun q h => by rw [← hAe]; exact Or.inr h
  have hS : va_S A s.heap s.heap [] := va_S.rf
  have hP : va_P (dC, dI) vwCl [(p0, .inr (4, [.ref a0, .ref g0, .ref o0, .ref s0, .ref b0, .int (nI bl), .int (nI ra)])), (a0, .inr (5, [.ref a1, .int (nI n)])), (a1, .inl (kB, 140000, .inl f)), (g0, .inr (5, [.ref g1, .int (nI m1)])), (g1, .inl (kB, 150000, .inl fr))] s.heap := hP
  have hl := lv_entry ([.ref p0, .int (nI (flN lk ck sz ca))]) (n := 2) (Nat.le_of_ble_eq_true rfl)
  rw [lg_entry_eq]
  generalize (lg_sl ([.ref p0, .int (nI (flN lk ck sz ca))]) ++ List.replicate (2 - (lg_sl ([.ref p0, .int (nI (flN lk ck sz ca))])).length) Slot.unset).toArray = ls at hl ⊢
  have hl : lv_has ls 2 [(0, .ref p0), (1, .int (nI (flN lk ck sz ca)))] := hl
  refine zG (fun GG hG1 hG2 => ?_)
  have ba := Bool.toNat_le ca
  refine lv_aload_n hx hb dX4_writeEnd_0 rfl (lv_at hl 0 rfl) ?_
  refine va_get (D := (dC, dI)) (ci := 4) (v := .ref g0) (C := RX4) (T := TX4) (N := 7) hx hb hts (by decide +kernel) hown hK hP 0 rfl rfl 1 (by decide) (hts (.fieldLink RX4 19 "SequenceFrames$Packer" "frames" "LSequenceFrames$Row;") (by decide +kernel)) (fun _ h9 => h9) rfl dX4_writeEnd_1 ?_
  refine lv_lconst (v := 0) hx hb dX4_writeEnd_4 (by decide) ?_
  refine lv_iconst (v := 4) hx hb dX4_writeEnd_5 (by decide) ?_
  refine z_callv (wr := [(p0, .inr (4, [.ref a0, .ref g0, .ref o0, .ref s0, .ref b0, .int (nI bl), .int (nI ra)])), (a0, .inr (5, [.ref a1, .int (nI n)])), (a1, .inl (kB, 140000, .inl f))]) (va_runV (As := [.long 0, .int 4]) (rest := []) ⟨hx, hb, hml, hown, hts⟩ (c_Row_addNumber l dC dI kB kI g0 g1 150000 m1 fr 0 4 (by omega) (by omega) (by omega) s.heap.size) (cwV 2 hts gX4_writeEnd_X5_addNumber rfl rfl rfl (by decide +kernel) ⟨Nat.le_of_ble_eq_true rfl, Nat.le_of_ble_eq_true rfl⟩) (z_preV hK (hP.sub [3, 4] rfl) (hD.sub [3, 4] (by decide) rfl) (va_recv hK hP (ci := 5) (q0 := 3) rfl rfl)) rfl rfl hl.1 rfl (lv_room (Nat.le_of_ble_eq_true rfl)) dX4_writeEnd_6 ⟨Nat.le_of_ble_eq_true rfl, Nat.le_of_ble_eq_true rfl⟩) hK hP hD hS hA [3, 4] [0, 1, 2] rfl rfl (by decide) (by decide) (fun uq2 H locs hw hP hD hS => ?_)
  replace hw : True := hw
  have hP : va_P (dC, dI) vwCl [(p0, .inr (4, [.ref a0, .ref g0, .ref o0, .ref s0, .ref b0, .int (nI bl), .int (nI ra)])), (a0, .inr (5, [.ref a1, .int (nI n)])), (a1, .inl (kB, 140000, .inl f)), (g0, .inr (5, [.ref g1, .int (nI (m1 + 4))])), (g1, .inl (kB, 150000, .inl (apF fr m1 4 (loB 0))))] H := hP
  have hD : va_D A [(p0, .inr (4, [.ref a0, .ref g0, .ref o0, .ref s0, .ref b0, .int (nI bl), .int (nI ra)])), (a0, .inr (5, [.ref a1, .int (nI n)])), (a1, .inl (kB, 140000, .inl f)), (g0, .inr (5, [.ref g1, .int (nI (m1 + 4))])), (g1, .inl (kB, 150000, .inl (apF fr m1 4 (loB 0))))] := hD
  have eq9 : (apF fr m1 4 (loB 0)) = (apL fr m1 (numB 0 4)) := apL_of _ _ _ _
  have hP : va_P (dC, dI) vwCl [(p0, .inr (4, [.ref a0, .ref g0, .ref o0, .ref s0, .ref b0, .int (nI bl), .int (nI ra)])), (a0, .inr (5, [.ref a1, .int (nI n)])), (a1, .inl (kB, 140000, .inl f)), (g0, .inr (5, [.ref g1, .int (nI (m1 + 4))])), (g1, .inl (kB, 150000, .inl (apL fr m1 (numB 0 4))))] H := by rw [← eq9]; exact hP
  have hD : va_D A [(p0, .inr (4, [.ref a0, .ref g0, .ref o0, .ref s0, .ref b0, .int (nI bl), .int (nI ra)])), (a0, .inr (5, [.ref a1, .int (nI n)])), (a1, .inl (kB, 140000, .inl f)), (g0, .inr (5, [.ref g1, .int (nI (m1 + 4))])), (g1, .inl (kB, 150000, .inl (apL fr m1 (numB 0 4))))] := by rw [← eq9]; exact hD
  refine lv_iload_n hx hb dX4_writeEnd_9 rfl (lv_at hl 1 rfl) ?_
  refine lv_iconst (v := 4) hx hb dX4_writeEnd_10 (by decide) ?_
  refine lv_iand hx hb dX4_writeEnd_11 ?_
  refine lv_is (y := (nI (4 * ca.toNat))) (fl4 lk ck sz ca) ?_
  refine zb_if_eq (tgt := 40) (a := ((4 * ca.toNat : Nat) : Int)) hx hb dX4_writeEnd_12 (by decide) (nI_toInt (by omega)) (fun c12 => ?_) (fun c12 => ?_)
  · have eca : ca = false := by cases ca; rfl; exact absurd c12 (by decide)
    have eq9 : (apL fr m1 (numB 0 4)) = (apL fr m1 (enB ca f n)) := by unfold enB; rw [eca, if_neg (by decide), List.append_nil]
    have hP : va_P (dC, dI) vwCl [(p0, .inr (4, [.ref a0, .ref g0, .ref o0, .ref s0, .ref b0, .int (nI bl), .int (nI ra)])), (a0, .inr (5, [.ref a1, .int (nI n)])), (a1, .inl (kB, 140000, .inl f)), (g0, .inr (5, [.ref g1, .int (nI (m1 + 4))])), (g1, .inl (kB, 150000, .inl (apL fr m1 (enB ca f n))))] H := by rw [← eq9]; exact hP
    have hD : va_D A [(p0, .inr (4, [.ref a0, .ref g0, .ref o0, .ref s0, .ref b0, .int (nI bl), .int (nI ra)])), (a0, .inr (5, [.ref a1, .int (nI n)])), (a1, .inl (kB, 140000, .inl f)), (g0, .inr (5, [.ref g1, .int (nI (m1 + 4))])), (g1, .inl (kB, 150000, .inl (apL fr m1 (enB ca f n))))] := by rw [← eq9]; exact hD
    have eq9 : ((nI (m1 + 4)) : Int32) = (nI (m1 + (4 + 4 * ca.toNat))) := congrArg nI (by omega)
    have hP : va_P (dC, dI) vwCl [(p0, .inr (4, [.ref a0, .ref g0, .ref o0, .ref s0, .ref b0, .int (nI bl), .int (nI ra)])), (a0, .inr (5, [.ref a1, .int (nI n)])), (a1, .inl (kB, 140000, .inl f)), (g0, .inr (5, [.ref g1, .int (nI (m1 + (4 + 4 * ca.toNat)))])), (g1, .inl (kB, 150000, .inl (apL fr m1 (enB ca f n))))] H := by rw [← eq9]; exact hP
    have hD : va_D A [(p0, .inr (4, [.ref a0, .ref g0, .ref o0, .ref s0, .ref b0, .int (nI bl), .int (nI ra)])), (a0, .inr (5, [.ref a1, .int (nI n)])), (a1, .inl (kB, 140000, .inl f)), (g0, .inr (5, [.ref g1, .int (nI (m1 + (4 + 4 * ca.toNat)))])), (g1, .inl (kB, 150000, .inl (apL fr m1 (enB ca f n))))] := by rw [← eq9]; exact hD
    have hP9 := hP.sub (ws' := [(p0, .inr (4, [.ref a0, .ref g0, .ref o0, .ref s0, .ref b0, .int (nI bl), .int (nI ra)])), (a0, .inr (5, [.ref a1, .int (nI n)])), (a1, .inl (kB, 140000, .inl f)), (g0, .inr (5, [.ref g1, .int (nI (m1 + (4 + 4 * ca.toNat)))])), (g1, .inl (kB, 150000, .inl (apL fr m1 (enB ca f n))))]) [0, 1, 2, 3, 4] rfl
    have hD9 := hD.sub (ws' := [(p0, .inr (4, [.ref a0, .ref g0, .ref o0, .ref s0, .ref b0, .int (nI bl), .int (nI ra)])), (a0, .inr (5, [.ref a1, .int (nI n)])), (a1, .inl (kB, 140000, .inl f)), (g0, .inr (5, [.ref g1, .int (nI (m1 + (4 + 4 * ca.toNat)))])), (g1, .inl (kB, 150000, .inl (apL fr m1 (enB ca f n))))]) [0, 1, 2, 3, 4] (by decide) rfl
    exact W.vret hx hb hr (fun t9 ht9 hW9 => ⟨⟨(), rfl, trivial, by rw [ht9]; exact hP9, va_K.moved hW9.alike hK, hD9⟩, hS.F ht9⟩) hS.2.2 dX4_writeEnd_40
  · have eca : ca = true := by cases ca; exact absurd c12 (by decide); rfl
    refine lv_aload_n hx hb dX4_writeEnd_15 rfl (lv_at hl 0 rfl) ?_
    refine va_get (D := (dC, dI)) (ci := 4) (v := .ref g0) (C := RX4) (T := TX4) (N := 7) hx hb hts (by decide +kernel) hown hK hP 0 rfl rfl 1 (by decide) (hts (.fieldLink RX4 19 "SequenceFrames$Packer" "frames" "LSequenceFrames$Row;") (by decide +kernel)) (fun _ h9 => h9) rfl dX4_writeEnd_16 ?_
    refine lv_aload_n hx hb dX4_writeEnd_19 rfl (lv_at hl 0 rfl) ?_
    refine va_get (D := (dC, dI)) (ci := 4) (v := .ref a0) (C := RX4) (T := TX4) (N := 7) hx hb hts (by decide +kernel) hown hK hP 0 rfl rfl 0 (by decide) (hts (.fieldLink RX4 15 "SequenceFrames$Packer" "content" "LSequenceFrames$Row;") (by decide +kernel)) (fun _ h9 => h9) rfl dX4_writeEnd_20 ?_
    refine lv_iconst (v := 0) hx hb dX4_writeEnd_23 (by decide) ?_
    refine lv_aload_n hx hb dX4_writeEnd_24 rfl (lv_at hl 0 rfl) ?_
    refine va_get (D := (dC, dI)) (ci := 4) (v := .ref a0) (C := RX4) (T := TX4) (N := 7) hx hb hts (by decide +kernel) hown hK hP 0 rfl rfl 0 (by decide) (hts (.fieldLink RX4 15 "SequenceFrames$Packer" "content" "LSequenceFrames$Row;") (by decide +kernel)) (fun _ h9 => h9) rfl dX4_writeEnd_25 ?_
    refine va_get (D := (dC, dI)) (ci := 5) (v := .int (nI n)) (C := RX5) (T := TX5) (N := 2) hx hb hts (by decide +kernel) hown hK hP 1 rfl rfl 1 (by decide) (hts (.fieldLink RX4 61 "SequenceFrames$Row" "size" "I") (by decide +kernel)) (fun _ h9 => h9) rfl dX4_writeEnd_28 ?_
    refine lv_iconst (v := 0) hx hb dX4_writeEnd_31 (by decide) ?_
    refine z_calli (wr := [(p0, .inr (4, [.ref a0, .ref g0, .ref o0, .ref s0, .ref b0, .int (nI bl), .int (nI ra)])), (g0, .inr (5, [.ref g1, .int (nI (m1 + 4))])), (g1, .inl (kB, 150000, .inl (apL fr m1 (numB 0 4))))]) (va_runV (As := [.int 0, .int (nI n), .int 0]) (rest := [.ref g0]) ⟨hx, hb, hml, hown, hts⟩ (c_Row_hashOf l dC dI kB kI a0 a1 140000 n f 0 n 0 (by omega) (by omega) (by omega) H.size) (cwV 3 hts gX4_writeEnd_X5_hashOf rfl rfl rfl (by decide +kernel) ⟨Nat.le_of_ble_eq_true rfl, Nat.le_of_ble_eq_true rfl⟩) (z_preV hK (hP.sub [1, 2] rfl) (hD.sub [1, 2] (by decide) rfl) (va_recv hK hP (ci := 5) (q0 := 1) rfl rfl)) rfl rfl hl.1 rfl (lv_room (Nat.le_of_ble_eq_true rfl)) dX4_writeEnd_32 ⟨Nat.le_of_ble_eq_true rfl, Nat.le_of_ble_eq_true rfl⟩) hK hP hD hS hA [1, 2] [0, 3, 4] rfl rfl (by decide) (by decide) (fun r3 uq4 H locs hw hP hD hS => ?_)
    replace hw : r3 = hashF f 0 n 0 := hw
    have hP : va_P (dC, dI) vwCl [(p0, .inr (4, [.ref a0, .ref g0, .ref o0, .ref s0, .ref b0, .int (nI bl), .int (nI ra)])), (g0, .inr (5, [.ref g1, .int (nI (m1 + 4))])), (g1, .inl (kB, 150000, .inl (apL fr m1 (numB 0 4)))), (a0, .inr (5, [.ref a1, .int (nI n)])), (a1, .inl (kB, 140000, .inl f))] H := hP
    have hD : va_D A [(p0, .inr (4, [.ref a0, .ref g0, .ref o0, .ref s0, .ref b0, .int (nI bl), .int (nI ra)])), (g0, .inr (5, [.ref g1, .int (nI (m1 + 4))])), (g1, .inl (kB, 150000, .inl (apL fr m1 (numB 0 4)))), (a0, .inr (5, [.ref a1, .int (nI n)])), (a1, .inl (kB, 140000, .inl f))] := hD
    subst hw
    refine lv_i2l (v := ((hashF f 0 n 0).toInt64)) hx hb dX4_writeEnd_35 rfl ?_
    refine lv_iconst (v := 4) hx hb dX4_writeEnd_36 (by decide) ?_
    refine z_callv (wr := [(p0, .inr (4, [.ref a0, .ref g0, .ref o0, .ref s0, .ref b0, .int (nI bl), .int (nI ra)])), (a0, .inr (5, [.ref a1, .int (nI n)])), (a1, .inl (kB, 140000, .inl f))]) (va_runV (As := [.long ((hashF f 0 n 0).toInt64), .int 4]) (rest := []) ⟨hx, hb, hml, hown, hts⟩ (c_Row_addNumber l dC dI kB kI g0 g1 150000 (m1 + 4) (apL fr m1 (numB 0 4)) ((hashF f 0 n 0).toInt64) 4 (by omega) (by omega) (by omega) H.size) (cwV 2 hts gX4_writeEnd_X5_addNumber rfl rfl rfl (by decide +kernel) ⟨Nat.le_of_ble_eq_true rfl, Nat.le_of_ble_eq_true rfl⟩) (z_preV hK (hP.sub [1, 2] rfl) (hD.sub [1, 2] (by decide) rfl) (va_recv hK hP (ci := 5) (q0 := 1) rfl rfl)) rfl rfl hl.1 rfl (lv_room (Nat.le_of_ble_eq_true rfl)) dX4_writeEnd_37 ⟨Nat.le_of_ble_eq_true rfl, Nat.le_of_ble_eq_true rfl⟩) hK hP hD hS hA [1, 2] [0, 3, 4] rfl rfl (by decide) (by decide) (fun uq6 H locs hw hP hD hS => ?_)
    replace hw : True := hw
    have hP : va_P (dC, dI) vwCl [(p0, .inr (4, [.ref a0, .ref g0, .ref o0, .ref s0, .ref b0, .int (nI bl), .int (nI ra)])), (a0, .inr (5, [.ref a1, .int (nI n)])), (a1, .inl (kB, 140000, .inl f)), (g0, .inr (5, [.ref g1, .int (nI ((m1 + 4) + 4))])), (g1, .inl (kB, 150000, .inl (apF (apL fr m1 (numB 0 4)) (m1 + 4) 4 (loB ((hashF f 0 n 0).toInt64)))))] H := hP
    have hD : va_D A [(p0, .inr (4, [.ref a0, .ref g0, .ref o0, .ref s0, .ref b0, .int (nI bl), .int (nI ra)])), (a0, .inr (5, [.ref a1, .int (nI n)])), (a1, .inl (kB, 140000, .inl f)), (g0, .inr (5, [.ref g1, .int (nI ((m1 + 4) + 4))])), (g1, .inl (kB, 150000, .inl (apF (apL fr m1 (numB 0 4)) (m1 + 4) 4 (loB ((hashF f 0 n 0).toInt64)))))] := hD
    have eq9 : (apF (apL fr m1 (numB 0 4)) (m1 + 4) 4 (loB ((hashF f 0 n 0).toInt64))) = (apL fr m1 (enB ca f n)) := by rw [apL_of, hd_join _ _ (by rw [numB_len])]; unfold enB; rw [if_pos eca]; rfl
    have hP : va_P (dC, dI) vwCl [(p0, .inr (4, [.ref a0, .ref g0, .ref o0, .ref s0, .ref b0, .int (nI bl), .int (nI ra)])), (a0, .inr (5, [.ref a1, .int (nI n)])), (a1, .inl (kB, 140000, .inl f)), (g0, .inr (5, [.ref g1, .int (nI ((m1 + 4) + 4))])), (g1, .inl (kB, 150000, .inl (apL fr m1 (enB ca f n))))] H := by rw [← eq9]; exact hP
    have hD : va_D A [(p0, .inr (4, [.ref a0, .ref g0, .ref o0, .ref s0, .ref b0, .int (nI bl), .int (nI ra)])), (a0, .inr (5, [.ref a1, .int (nI n)])), (a1, .inl (kB, 140000, .inl f)), (g0, .inr (5, [.ref g1, .int (nI ((m1 + 4) + 4))])), (g1, .inl (kB, 150000, .inl (apL fr m1 (enB ca f n))))] := by rw [← eq9]; exact hD
    have eq9 : ((nI ((m1 + 4) + 4)) : Int32) = (nI (m1 + (4 + 4 * ca.toNat))) := congrArg nI (by omega)
    have hP : va_P (dC, dI) vwCl [(p0, .inr (4, [.ref a0, .ref g0, .ref o0, .ref s0, .ref b0, .int (nI bl), .int (nI ra)])), (a0, .inr (5, [.ref a1, .int (nI n)])), (a1, .inl (kB, 140000, .inl f)), (g0, .inr (5, [.ref g1, .int (nI (m1 + (4 + 4 * ca.toNat)))])), (g1, .inl (kB, 150000, .inl (apL fr m1 (enB ca f n))))] H := by rw [← eq9]; exact hP
    have hD : va_D A [(p0, .inr (4, [.ref a0, .ref g0, .ref o0, .ref s0, .ref b0, .int (nI bl), .int (nI ra)])), (a0, .inr (5, [.ref a1, .int (nI n)])), (a1, .inl (kB, 140000, .inl f)), (g0, .inr (5, [.ref g1, .int (nI (m1 + (4 + 4 * ca.toNat)))])), (g1, .inl (kB, 150000, .inl (apL fr m1 (enB ca f n))))] := by rw [← eq9]; exact hD
    have hP9 := hP.sub (ws' := [(p0, .inr (4, [.ref a0, .ref g0, .ref o0, .ref s0, .ref b0, .int (nI bl), .int (nI ra)])), (a0, .inr (5, [.ref a1, .int (nI n)])), (a1, .inl (kB, 140000, .inl f)), (g0, .inr (5, [.ref g1, .int (nI (m1 + (4 + 4 * ca.toNat)))])), (g1, .inl (kB, 150000, .inl (apL fr m1 (enB ca f n))))]) [0, 1, 2, 3, 4] rfl
    have hD9 := hD.sub (ws' := [(p0, .inr (4, [.ref a0, .ref g0, .ref o0, .ref s0, .ref b0, .int (nI bl), .int (nI ra)])), (a0, .inr (5, [.ref a1, .int (nI n)])), (a1, .inl (kB, 140000, .inl f)), (g0, .inr (5, [.ref g1, .int (nI (m1 + (4 + 4 * ca.toNat)))])), (g1, .inl (kB, 150000, .inl (apL fr m1 (enB ca f n))))]) [0, 1, 2, 3, 4] (by decide) rfl
    exact W.vret hx hb hr (fun t9 ht9 hW9 => ⟨⟨(), rfl, trivial, by rw [ht9]; exact hP9, va_K.moved hW9.alike hK, hD9⟩, hS.F ht9⟩) hS.2.2 dX4_writeEnd_40
