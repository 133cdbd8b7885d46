set_option maxHeartbeats 4000000 in
set_option maxRecDepth 100000 in
theorem c_Frd_readCheckF (l : Launch) (dC : Nat → ClassId) (dI : Nat → Nat → Nat) (kB kI : ClassId) (d0 : Nat) (g0 : Nat) (e0 : Nat) (f0 : Nat) (k0 : Nat) (d5 : Int32) (d6 : Int32) (d7 : Int32) (d8 : Int32) (d9 : Int64) (d10 : Int32) (d11 : Int32) (x1 : Int32) (x2 : Int32) (g1 : Nat) (f : Nat → Int32) (n : Nat) (aa : Nat) (i : Nat) (w : Nat) (y : Int32) (hn : n ≤ 150000) (ha : aa ≤ n) (hi : i + w ≤ n) : zMi l yX2_readCheck wsX2_readCheck ({ frames := 3, cells := 0, slots := 0, locals := 79 }) (dC, dI) kB kI [.ref d0, .ref g0, .int (nI i), .int (nI w), .int y] [(d0, .inr (2, [.ref g0, .ref e0, .ref f0, .ref k0, .int (nI aa), .int d5, .int d6, .int d7, .int d8, .long d9, .int d10, .int d11])), (f0, .inr (1, [.int x1, .int x2])), (g0, .inr (5, [.ref g1, .int (nI n)])), (g1, .inl (kB, 150000, .inl f))] 0 0 (fun (r : Int32) => fun uu : Nat × Int32 × Int32 => (aa + 4 ≤ n ∧ wd f aa = hashF f i w 0 ∧ r = 1 ∧ uu.1 = aa + 4 ∧ uu.2.1 = x1 ∧ uu.2.2 = x2) ∨ (n < aa + 4 ∧ r = 0 ∧ uu.2.1 = 1 ∧ uu.2.2 = nI n) ∨ (aa + 4 ≤ n ∧ wd f aa ≠ hashF f i w 0 ∧ r = 0 ∧ uu.2.1 = y ∧ uu.2.2 = nI aa)) (fun uu : Nat × Int32 × Int32 => [(d0, .inr (2, [.ref g0, .ref e0, .ref f0, .ref k0, .int (nI uu.1), .int d5, .int d6, .int d7, .int d8, .long d9, .int d10, .int d11])), (f0, .inr (1, [.int uu.2.1, .int uu.2.2])), (g0, .inr (5, [.ref g1, .int (nI n)])), (g1, .inl (kB, 150000, .inl f))]) := by
  intro sz
  refine Met.ofW (cc := cX2_readCheck) (maxL := 5) (ret := (some .boolean)) (by decide) rfl ?_
  intro p e s m args below meth c s₁ B hml hv
  obtain ⟨rfl, hsz, hP, hK, hD0⟩ := hv
  have hx := B.exec
  have hb := B.bytes
  have hr := B.returns
  have hts := atoms_spec (ws := wsX2_readCheck) B.pre
  have hown : s.vm.findClass RX2 = some m.cls := findClass_of_methodNamed B.named
  have hlocks := B.notSynchronized
  subst hsz
  have hD := hD0.self (sz := s.heap.size)
  generalize hAe : va_A [(d0, .inr (2, [.ref g0, .ref e0, .ref f0, .ref k0, .int (nI aa), .int d5, .int d6, .int d7, .int d8, .long d9, .int d10, .int d11])), (f0, .inr (1, [.int x1, .int x2])), (g0, .inr (5, [.ref g1, .int (nI n)])), (g1, .inl (kB, 150000, .inl f))] s.heap.size = A at hD ⊢
  have hA : ∀ q : Nat, s.heap.size ≤ q → A q := fun q h => by rw [← hAe]; exact Or.inr h
  have hS : va_S A s.heap s.heap [] := va_S.rf
  have hP : va_P (dC, dI) vwCl [(d0, .inr (2, [.ref g0, .ref e0, .ref f0, .ref k0, .int (nI aa), .int d5, .int d6, .int d7, .int d8, .long d9, .int d10, .int d11])), (f0, .inr (1, [.int x1, .int x2])), (g0, .inr (5, [.ref g1, .int (nI n)])), (g1, .inl (kB, 150000, .inl f))] s.heap := hP
  have hl := lv_entry ([.ref d0, .ref g0, .int (nI i), .int (nI w), .int y]) (n := 5) (Nat.le_of_ble_eq_true rfl)
  rw [lg_entry_eq]
  generalize (lg_sl ([.ref d0, .ref g0, .int (nI i), .int (nI w), .int y]) ++ List.replicate (5 - (lg_sl ([.ref d0, .ref g0, .int (nI i), .int (nI w), .int y])).length) Slot.unset).toArray = ls at hl ⊢
  have hl : lv_has ls 5 [(0, .ref d0), (1, .ref g0), (2, .int (nI i)), (3, .int (nI w)), (4, .int y)] := hl
  refine zG (fun GG hG1 hG2 => ?_)
  refine lv_aload_n hx hb dX2_readCheck_0 rfl (lv_at hl 0 rfl) ?_
  refine lv_ldc2 (v := 4) hx hb hown (hts (.constantLong RX2 44 4) (by decide +kernel)) dX2_readCheck_1 ?_
  refine z_calli (wr := [(g1, .inl (kB, 150000, .inl f))]) (va_runV (As := [.long 4]) (rest := []) ⟨hx, hb, hml, hown, hts⟩ (c_Frd_isThere l dC dI kB kI d0 g0 e0 f0 k0 d5 d6 d7 d8 d9 d10 d11 x1 x2 g1 n aa 4 (by omega) (by omega) (by omega) s.heap.size) (cwV 1 hts gX2_readCheck_X2_isThere rfl rfl rfl (by decide +kernel) ⟨Nat.le_of_ble_eq_true rfl, Nat.le_of_ble_eq_true rfl⟩) (z_preV hK (hP.sub [0, 2, 1] rfl) (hD.sub [0, 2, 1] (by decide) rfl) (va_recv hK hP (ci := 2) (q0 := 0) rfl rfl)) rfl rfl hl.1 rfl (lv_room (Nat.le_of_ble_eq_true rfl)) dX2_readCheck_4 ⟨Nat.le_of_ble_eq_true rfl, Nat.le_of_ble_eq_true rfl⟩) hK hP hD hS hA [0, 2, 1] [3] rfl rfl (by decide) (by decide) (fun r1 uq2 H locs hw hP hD hS => ?_)
  obtain ⟨fa3, fp3⟩ := uq2
  replace hw : (r1 = 1 ∧ aa + 4 ≤ n ∧ fa3 = x1 ∧ fp3 = x2) ∨ (r1 = 0 ∧ n < aa + 4 ∧ fa3 = 1 ∧ fp3 = nI n) := hw
  have hP : va_P (dC, dI) vwCl [(g1, .inl (kB, 150000, .inl f)), (d0, .inr (2, [.ref g0, .ref e0, .ref f0, .ref k0, .int (nI aa), .int d5, .int d6, .int d7, .int d8, .long d9, .int d10, .int d11])), (g0, .inr (5, [.ref g1, .int (nI n)])), (f0, .inr (1, [.int fa3, .int fp3]))] H := hP
  have hD : va_D A [(g1, .inl (kB, 150000, .inl f)), (d0, .inr (2, [.ref g0, .ref e0, .ref f0, .ref k0, .int (nI aa), .int d5, .int d6, .int d7, .int d8, .long d9, .int d10, .int d11])), (g0, .inr (5, [.ref g1, .int (nI n)])), (f0, .inr (1, [.int fa3, .int fp3]))] := hD
  rcases hw with ⟨r1e, hw, hfa, hfp⟩ | ⟨r1e, hw, hfa, hfp⟩ <;> subst r1e
  · replace hfa := hfa.symm; replace hfp := hfp.symm; subst hfa; subst hfp
    have hin := hw
    refine lv_if_ne (tgt := 12) hx hb dX2_readCheck_7 (by decide) (fun _ => ?_) (fun c => absurd c (by decide))
    refine lv_aload_n hx hb dX2_readCheck_12 rfl (lv_at hl 0 rfl) ?_
    refine va_get (D := (dC, dI)) (ci := 2) (v := .ref g0) (C := RX2) (T := TX2) (N := 12) hx hb hts (by decide +kernel) hown hK hP 1 rfl rfl 0 (by decide) (hts (.fieldLink RX2 9 "SequenceFrames$FrameReader" "frames" "LSequenceFrames$Row;") (by decide +kernel)) (fun _ h9 => h9) rfl dX2_readCheck_13 ?_
    refine lv_aload_n hx hb dX2_readCheck_16 rfl (lv_at hl 0 rfl) ?_
    refine va_get (D := (dC, dI)) (ci := 2) (v := .int (nI aa)) (C := RX2) (T := TX2) (N := 12) hx hb hts (by decide +kernel) hown hK hP 1 rfl rfl 4 (by decide) (hts (.fieldLink RX2 41 "SequenceFrames$FrameReader" "at" "I") (by decide +kernel)) (fun _ h9 => h9) rfl dX2_readCheck_17 ?_
    refine z_calli (wr := [(d0, .inr (2, [.ref g0, .ref e0, .ref f0, .ref k0, .int (nI aa), .int d5, .int d6, .int d7, .int d8, .long d9, .int d10, .int d11])), (f0, .inr (1, [.int x1, .int x2]))]) (va_runV (As := [.int (nI aa)]) (rest := []) ⟨hx, hb, hml, hown, hts⟩ (c_Row_word l dC dI kB kI g0 g1 150000 n f aa (by omega) (by omega) (by omega) H.size) (cwV 1 hts gX2_readCheck_X5_word rfl rfl rfl (by decide +kernel) ⟨Nat.le_of_ble_eq_true rfl, Nat.le_of_ble_eq_true rfl⟩) (z_preV hK (hP.sub [2, 0] rfl) (hD.sub [2, 0] (by decide) rfl) (va_recv hK hP (ci := 5) (q0 := 2) rfl rfl)) rfl rfl hl.1 rfl (lv_room (Nat.le_of_ble_eq_true rfl)) dX2_readCheck_20 ⟨Nat.le_of_ble_eq_true rfl, Nat.le_of_ble_eq_true rfl⟩) hK hP hD hS hA [2, 0] [1, 3] rfl rfl (by decide) (by decide) (fun r3 uq4 H locs hw hP hD hS => ?_)
    replace hw : r3 = wdG f n aa := hw
    have hP : va_P (dC, dI) vwCl [(d0, .inr (2, [.ref g0, .ref e0, .ref f0, .ref k0, .int (nI aa), .int d5, .int d6, .int d7, .int d8, .long d9, .int d10, .int d11])), (f0, .inr (1, [.int x1, .int x2])), (g0, .inr (5, [.ref g1, .int (nI n)])), (g1, .inl (kB, 150000, .inl f))] H := hP
    have hD : va_D A [(d0, .inr (2, [.ref g0, .ref e0, .ref f0, .ref k0, .int (nI aa), .int d5, .int d6, .int d7, .int d8, .long d9, .int d10, .int d11])), (f0, .inr (1, [.int x1, .int x2])), (g0, .inr (5, [.ref g1, .int (nI n)])), (g1, .inl (kB, 150000, .inl f))] := hD
    unfold wdG at hw; rw [if_pos (by omega)] at hw; subst hw
    refine lv_aload_n hx hb dX2_readCheck_23 rfl (lv_at hl 1 rfl) ?_
    refine lv_iload_n hx hb dX2_readCheck_24 rfl (lv_at hl 2 rfl) ?_
    refine lv_iload_n hx hb dX2_readCheck_25 rfl (lv_at hl 3 rfl) ?_
    refine lv_iconst (v := 0) hx hb dX2_readCheck_26 (by decide) ?_
    refine z_calli (wr := [(d0, .inr (2, [.ref g0, .ref e0, .ref f0, .ref k0, .int (nI aa), .int d5, .int d6, .int d7, .int d8, .long d9, .int d10, .int d11])), (f0, .inr (1, [.int x1, .int x2]))]) (va_runV (As := [.int (nI i), .int (nI w), .int 0]) (rest := [.int (wd f aa)]) ⟨hx, hb, hml, hown, hts⟩ (c_Row_hashOf l dC dI kB kI g0 g1 150000 n f i w 0 (by omega) (by omega) (by omega) H.size) (cwV 3 hts gX2_readCheck_X5_hashOf rfl rfl rfl (by decide +kernel) ⟨Nat.le_of_ble_eq_true rfl, Nat.le_of_ble_eq_true rfl⟩) (z_preV hK (hP.sub [2, 3] rfl) (hD.sub [2, 3] (by decide) rfl) (va_recv hK hP (ci := 5) (q0 := 2) rfl rfl)) rfl rfl hl.1 rfl (lv_room (Nat.le_of_ble_eq_true rfl)) dX2_readCheck_27 ⟨Nat.le_of_ble_eq_true rfl, Nat.le_of_ble_eq_true rfl⟩) hK hP hD hS hA [2, 3] [0, 1] rfl rfl (by decide) (by decide) (fun r5 uq6 H locs hw hP hD hS => ?_)
    replace hw : r5 = hashF f i w 0 := hw
    have hP : va_P (dC, dI) vwCl [(d0, .inr (2, [.ref g0, .ref e0, .ref f0, .ref k0, .int (nI aa), .int d5, .int d6, .int d7, .int d8, .long d9, .int d10, .int d11])), (f0, .inr (1, [.int x1, .int x2])), (g0, .inr (5, [.ref g1, .int (nI n)])), (g1, .inl (kB, 150000, .inl f))] H := hP
    have hD : va_D A [(d0, .inr (2, [.ref g0, .ref e0, .ref f0, .ref k0, .int (nI aa), .int d5, .int d6, .int d7, .int d8, .long d9, .int d10, .int d11])), (f0, .inr (1, [.int x1, .int x2])), (g0, .inr (5, [.ref g1, .int (nI n)])), (g1, .inl (kB, 150000, .inl f))] := hD
    subst hw
    refine lv_icmp_eq (tgt := 47) hx hb dX2_readCheck_30 (by decide) (fun c30 => ?_) (fun c30 => ?_)
    · refine lv_aload_n hx hb dX2_readCheck_47 rfl (lv_at hl 0 rfl) ?_
      refine lv_dup hx hb dX2_readCheck_48 rfl ?_
      refine va_get (D := (dC, dI)) (ci := 2) (v := .int (nI aa)) (C := RX2) (T := TX2) (N := 12) hx hb hts (by decide +kernel) hown hK hP 0 rfl rfl 4 (by decide) (hts (.fieldLink RX2 41 "SequenceFrames$FrameReader" "at" "I") (by decide +kernel)) (fun _ h9 => h9) rfl dX2_readCheck_49 ?_
      refine lv_iconst (v := 4) hx hb dX2_readCheck_52 (by decide) ?_
      refine lv_iadd hx hb dX2_readCheck_53 ?_
      refine lv_is (y := (nI (aa + 4))) ((zn_add rfl (show (4 : Int32) = nI 4 from rfl))) ?_
      refine va_put (D := (dC, dI)) (ci := 2) (v := .int (nI (aa + 4))) (ty := .int) (C := RX2) (T := TX2) (N := 12) hx hb hts (by decide +kernel) tyX2 tyX2_ok nmX2 hown hK hP hD hS 0 rfl rfl 4 (by decide) (hts (.fieldLink RX2 41 "SequenceFrames$FrameReader" "at" "I") (by decide +kernel)) (fun _ h9 => h9) rfl (by decide +kernel) rfl rfl (Nat.le_of_ble_eq_true rfl) dX2_readCheck_54 (fun H locs hP hD hS => ?_)
      have hP : va_P (dC, dI) vwCl [(d0, .inr (2, [.ref g0, .ref e0, .ref f0, .ref k0, .int (nI (aa + 4)), .int d5, .int d6, .int d7, .int d8, .long d9, .int d10, .int d11])), (f0, .inr (1, [.int x1, .int x2])), (g0, .inr (5, [.ref g1, .int (nI n)])), (g1, .inl (kB, 150000, .inl f))] H := hP
      have hD : va_D A [(d0, .inr (2, [.ref g0, .ref e0, .ref f0, .ref k0, .int (nI (aa + 4)), .int d5, .int d6, .int d7, .int d8, .long d9, .int d10, .int d11])), (f0, .inr (1, [.int x1, .int x2])), (g0, .inr (5, [.ref g1, .int (nI n)])), (g1, .inl (kB, 150000, .inl f))] := hD
      refine lv_iconst (v := 1) hx hb dX2_readCheck_57 (by decide) ?_
      have hP9 := hP.sub (ws' := [(d0, .inr (2, [.ref g0, .ref e0, .ref f0, .ref k0, .int (nI (aa + 4)), .int d5, .int d6, .int d7, .int d8, .long d9, .int d10, .int d11])), (f0, .inr (1, [.int x1, .int x2])), (g0, .inr (5, [.ref g1, .int (nI n)])), (g1, .inl (kB, 150000, .inl f))]) [0, 1, 2, 3] rfl
      have hD9 := hD.sub (ws' := [(d0, .inr (2, [.ref g0, .ref e0, .ref f0, .ref k0, .int (nI (aa + 4)), .int d5, .int d6, .int d7, .int d8, .long d9, .int d10, .int d11])), (f0, .inr (1, [.int x1, .int x2])), (g0, .inr (5, [.ref g1, .int (nI n)])), (g1, .inl (kB, 150000, .inl f))]) [0, 1, 2, 3] (by decide) rfl
      exact W.zret (v := 1) hx hb hr (by decide) (fun t9 ht9 hW9 => ⟨⟨1, ((aa + 4), x1, x2), rfl, (show (aa + 4 ≤ n ∧ wd f aa = hashF f i w 0 ∧ 1 = 1 ∧ (aa + 4) = aa + 4 ∧ x1 = x1 ∧ x2 = x2) ∨ (n < aa + 4 ∧ 1 = 0 ∧ x1 = 1 ∧ x2 = nI n) ∨ (aa + 4 ≤ n ∧ wd f aa ≠ hashF f i w 0 ∧ 1 = 0 ∧ x1 = y ∧ x2 = nI aa) from (Or.inl ⟨by omega, c30, rfl, rfl, rfl, rfl⟩)), by rw [ht9]; exact hP9, va_K.moved hW9.alike hK, hD9⟩, hS.F ht9⟩) hS.2.2 dX2_readCheck_58
    · refine lv_aload_n hx hb dX2_readCheck_33 rfl (lv_at hl 0 rfl) ?_
      refine va_get (D := (dC, dI)) (ci := 2) (v := .ref f0) (C := RX2) (T := TX2) (N := 12) hx hb hts (by decide +kernel) hown hK hP 0 rfl rfl 2 (by decide) (hts (.fieldLink RX2 18 "SequenceFrames$FrameReader" "fault" "LSequenceFrames$Fault;") (by decide +kernel)) (fun _ h9 => h9) rfl dX2_readCheck_34 ?_
      refine lv_iload hx hb dX2_readCheck_37 (lv_at hl 4 rfl) ?_
      refine lv_aload_n hx hb dX2_readCheck_39 rfl (lv_at hl 0 rfl) ?_
      refine va_get (D := (dC, dI)) (ci := 2) (v := .int (nI aa)) (C := RX2) (T := TX2) (N := 12) hx hb hts (by decide +kernel) hown hK hP 0 rfl rfl 4 (by decide) (hts (.fieldLink RX2 41 "SequenceFrames$FrameReader" "at" "I") (by decide +kernel)) (fun _ h9 => h9) rfl dX2_readCheck_40 ?_
      refine z_calli (wr := [(d0, .inr (2, [.ref g0, .ref e0, .ref f0, .ref k0, .int (nI aa), .int d5, .int d6, .int d7, .int d8, .long d9, .int d10, .int d11])), (g0, .inr (5, [.ref g1, .int (nI n)])), (g1, .inl (kB, 150000, .inl f))]) (va_runV (As := [.int y, .int (nI aa)]) (rest := []) ⟨hx, hb, hml, hown, hts⟩ (c_Fault_refuse l dC dI kB kI f0 x1 x2 y (nI aa)  H.size) (cwV 2 hts gX2_readCheck_X1_refuse rfl rfl rfl (by decide +kernel) ⟨Nat.le_of_ble_eq_true rfl, Nat.le_of_ble_eq_true rfl⟩) (z_preV hK (hP.sub [1] rfl) (hD.sub [1] (by decide) rfl) (va_recv hK hP (ci := 1) (q0 := 1) rfl rfl)) rfl rfl hl.1 rfl (lv_room (Nat.le_of_ble_eq_true rfl)) dX2_readCheck_43 ⟨Nat.le_of_ble_eq_true rfl, Nat.le_of_ble_eq_true rfl⟩) hK hP hD hS hA [1] [0, 2, 3] rfl rfl (by decide) (by decide) (fun r7 uq8 H locs hv hP hD hS => ?_)
      replace hv : r7 = 0 := hv
      have hP : va_P (dC, dI) vwCl [(d0, .inr (2, [.ref g0, .ref e0, .ref f0, .ref k0, .int (nI aa), .int d5, .int d6, .int d7, .int d8, .long d9, .int d10, .int d11])), (g0, .inr (5, [.ref g1, .int (nI n)])), (g1, .inl (kB, 150000, .inl f)), (f0, .inr (1, [.int y, .int (nI aa)]))] H := hP
      have hD : va_D A [(d0, .inr (2, [.ref g0, .ref e0, .ref f0, .ref k0, .int (nI aa), .int d5, .int d6, .int d7, .int d8, .long d9, .int d10, .int d11])), (g0, .inr (5, [.ref g1, .int (nI n)])), (g1, .inl (kB, 150000, .inl f)), (f0, .inr (1, [.int y, .int (nI aa)]))] := hD
      subst hv
      have hP9 := hP.sub (ws' := [(d0, .inr (2, [.ref g0, .ref e0, .ref f0, .ref k0, .int (nI aa), .int d5, .int d6, .int d7, .int d8, .long d9, .int d10, .int d11])), (f0, .inr (1, [.int y, .int (nI aa)])), (g0, .inr (5, [.ref g1, .int (nI n)])), (g1, .inl (kB, 150000, .inl f))]) [0, 3, 1, 2] rfl
      have hD9 := hD.sub (ws' := [(d0, .inr (2, [.ref g0, .ref e0, .ref f0, .ref k0, .int (nI aa), .int d5, .int d6, .int d7, .int d8, .long d9, .int d10, .int d11])), (f0, .inr (1, [.int y, .int (nI aa)])), (g0, .inr (5, [.ref g1, .int (nI n)])), (g1, .inl (kB, 150000, .inl f))]) [0, 3, 1, 2] (by decide) rfl
      exact W.zret (v := 0) hx hb hr (by decide) (fun t9 ht9 hW9 => ⟨⟨0, (aa, y, (nI aa)), rfl, (show (aa + 4 ≤ n ∧ wd f aa = hashF f i w 0 ∧ 0 = 1 ∧ aa = aa + 4 ∧ y = x1 ∧ (nI aa) = x2) ∨ (n < aa + 4 ∧ 0 = 0 ∧ y = 1 ∧ (nI aa) = nI n) ∨ (aa + 4 ≤ n ∧ wd f aa ≠ hashF f i w 0 ∧ 0 = 0 ∧ y = y ∧ (nI aa) = nI aa) from (Or.inr (Or.inr ⟨by omega, c30, rfl, rfl, rfl⟩))), by rw [ht9]; exact hP9, va_K.moved hW9.alike hK, hD9⟩, hS.F ht9⟩) hS.2.2 dX2_readCheck_46
  · refine lv_if_ne (tgt := 12) hx hb dX2_readCheck_7 (by decide) (fun c => absurd c (by decide)) (fun _ => ?_)
    refine lv_iconst (v := 0) hx hb dX2_readCheck_10 (by decide) ?_
    have hP9 := hP.sub (ws' := [(d0, .inr (2, [.ref g0, .ref e0, .ref f0, .ref k0, .int (nI aa), .int d5, .int d6, .int d7, .int d8, .long d9, .int d10, .int d11])), (f0, .inr (1, [.int fa3, .int fp3])), (g0, .inr (5, [.ref g1, .int (nI n)])), (g1, .inl (kB, 150000, .inl f))]) [1, 3, 2, 0] rfl
    have hD9 := hD.sub (ws' := [(d0, .inr (2, [.ref g0, .ref e0, .ref f0, .ref k0, .int (nI aa), .int d5, .int d6, .int d7, .int d8, .long d9, .int d10, .int d11])), (f0, .inr (1, [.int fa3, .int fp3])), (g0, .inr (5, [.ref g1, .int (nI n)])), (g1, .inl (kB, 150000, .inl f))]) [1, 3, 2, 0] (by decide) rfl
    exact W.zret (v := 0) hx hb hr (by decide) (fun t9 ht9 hW9 => ⟨⟨0, (aa, fa3, fp3), rfl, (show (aa + 4 ≤ n ∧ wd f aa = hashF f i w 0 ∧ 0 = 1 ∧ aa = aa + 4 ∧ fa3 = x1 ∧ fp3 = x2) ∨ (n < aa + 4 ∧ 0 = 0 ∧ fa3 = 1 ∧ fp3 = nI n) ∨ (aa + 4 ≤ n ∧ wd f aa ≠ hashF f i w 0 ∧ 0 = 0 ∧ fa3 = y ∧ fp3 = nI aa) from (Or.inr (Or.inl ⟨by omega, rfl, hfa, hfp⟩))), by rw [ht9]; exact hP9, va_K.moved hW9.alike hK, hD9⟩, hS.F ht9⟩) hS.2.2 dX2_readCheck_11
