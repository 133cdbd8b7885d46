set_option maxHeartbeats 4000000 in
set_option maxRecDepth 100000 in
theorem c_Frd_readSkipped (l : Launch) (dC : Nat → ClassId) (dI : Nat → Nat → Nat) (kB kI : ClassId) (d0 : Nat) (g0 : Nat) (e0 : Nat) (f0 : Nat) (k0 : Nat) (d5 : Int32) (d6 : Int32) (d7 : Int32) (d8 : Int32) (d9 : Int64) (d11 : Int32) (x1 : Int32) (x2 : Int32) (g1 : Nat) (f : Nat → Int32) (n : Nat) (aa : Nat) (fr : Nat) (hn : n ≤ 150000) (ha : aa ≤ n) : zMi l yX2_readSkipped wsX2_readSkipped ({ frames := 2, cells := 0, slots := 0, locals := 47 }) (dC, dI) kB kI [.ref d0] [(d0, .inr (2, [.ref g0, .ref e0, .ref f0, .ref k0, .int (nI aa), .int d5, .int d6, .int d7, .int d8, .long d9, .int (nI fr), .int d11])), (f0, .inr (1, [.int x1, .int x2])), (g0, .inr (5, [.ref g1, .int (nI n)])), (g1, .inl (kB, 150000, .inl f))] 0 0 (fun (r : Int32) => fun uu : Nat × Nat × Int32 × Int32 => (aa + 4 ≤ n ∧ aa + 4 + numN f aa 4 ≤ n ∧ r = 1 ∧ uu.1 = aa + 4 + numN f aa 4 ∧ uu.2.1 = fr + 1 ∧ uu.2.2.1 = x1 ∧ uu.2.2.2 = x2) ∨ ((n < aa + 4 ∨ n < aa + 4 + numN f aa 4) ∧ r = 0 ∧ uu.2.2.1 = 1 ∧ uu.2.2.2 = nI n)) (fun uu : Nat × Nat × Int32 × Int32 => [(d0, .inr (2, [.ref g0, .ref e0, .ref f0, .ref k0, .int (nI uu.1), .int d5, .int d6, .int d7, .int d8, .long d9, .int (nI uu.2.1), .int d11])), (f0, .inr (1, [.int uu.2.2.1, .int uu.2.2.2])), (g0, .inr (5, [.ref g1, .int (nI n)])), (g1, .inl (kB, 150000, .inl f))]) := by
  intro sz
  refine Met.ofW (cc := cX2_readSkipped) (maxL := 3) (ret := (some .boolean)) (by decide) rfl ?_
  intro p e s m args below meth c s₁ B hml hv
  obtain ⟨rfl, hsz, hP, hK, hD0⟩ := hv
  have hx := B.exec
  have hb := B.bytes
  have hr := B.returns
  have hts := atoms_spec (ws := wsX2_readSkipped) B.pre
  have hown : s.vm.findClass RX2 = some m.cls := findClass_of_methodNamed B.named
  have hlocks := B.notSynchronized
  subst hsz
  have hD := hD0.self (sz := s.heap.size)
  generalize hAe : va_A [(d0, .inr (2, [.ref g0, .ref e0, .ref f0, .ref k0, .int (nI aa), .int d5, .int d6, .int d7, .int d8, .long d9, .int (nI fr), .int d11])), (f0, .inr (1, [.int x1, .int x2])), (g0, .inr (5, [.ref g1, .int (nI n)])), (g1, .inl (kB, 150000, .inl f))] s.heap.size = A at hD ⊢
  have hA : ∀ q : Nat, s.heap.size ≤ q → A q := fun q h => by rw [← hAe]; exact Or.inr h
  have hS : va_S A s.heap s.heap [] := va_S.rf
  have hP : va_P (dC, dI) vwCl [(d0, .inr (2, [.ref g0, .ref e0, .ref f0, .ref k0, .int (nI aa), .int d5, .int d6, .int d7, .int d8, .long d9, .int (nI fr), .int d11])), (f0, .inr (1, [.int x1, .int x2])), (g0, .inr (5, [.ref g1, .int (nI n)])), (g1, .inl (kB, 150000, .inl f))] s.heap := hP
  have hl := lv_entry ([.ref d0]) (n := 3) (Nat.le_of_ble_eq_true rfl)
  rw [lg_entry_eq]
  generalize (lg_sl ([.ref d0]) ++ List.replicate (3 - (lg_sl ([.ref d0])).length) Slot.unset).toArray = ls at hl ⊢
  have hl : lv_has ls 3 [(0, .ref d0)] := hl
  refine zG (fun GG hG1 hG2 => ?_)
  refine lv_aload_n hx hb dX2_readSkipped_0 rfl (lv_at hl 0 rfl) ?_
  refine lv_ldc2 (v := 4) hx hb hown (hts (.constantLong RX2 44 4) (by decide +kernel)) dX2_readSkipped_1 ?_
  refine z_calli (wr := [(g1, .inl (kB, 150000, .inl f))]) (va_runV (As := [.long 4]) (rest := []) ⟨hx, hb, hml, hown, hts⟩ (c_Frd_isThere l dC dI kB kI d0 g0 e0 f0 k0 d5 d6 d7 d8 d9 (nI fr) d11 x1 x2 g1 n aa 4 (by omega) (by omega) (by omega) s.heap.size) (cwV 1 hts gX2_readSkipped_X2_isThere rfl rfl rfl (by decide +kernel) ⟨Nat.le_of_ble_eq_true rfl, Nat.le_of_ble_eq_true rfl⟩) (z_preV hK (hP.sub [0, 2, 1] rfl) (hD.sub [0, 2, 1] (by decide) rfl) (va_recv hK hP (ci := 2) (q0 := 0) rfl rfl)) rfl rfl hl.1 rfl (lv_room (Nat.le_of_ble_eq_true rfl)) dX2_readSkipped_4 ⟨Nat.le_of_ble_eq_true rfl, Nat.le_of_ble_eq_true rfl⟩) hK hP hD hS hA [0, 2, 1] [3] rfl rfl (by decide) (by decide) (fun r1 uq2 H locs hw hP hD hS => ?_)
  obtain ⟨fa3, fp3⟩ := uq2
  replace hw : (r1 = 1 ∧ aa + 4 ≤ n ∧ fa3 = x1 ∧ fp3 = x2) ∨ (r1 = 0 ∧ n < aa + 4 ∧ fa3 = 1 ∧ fp3 = nI n) := hw
  have hP : va_P (dC, dI) vwCl [(g1, .inl (kB, 150000, .inl f)), (d0, .inr (2, [.ref g0, .ref e0, .ref f0, .ref k0, .int (nI aa), .int d5, .int d6, .int d7, .int d8, .long d9, .int (nI fr), .int d11])), (g0, .inr (5, [.ref g1, .int (nI n)])), (f0, .inr (1, [.int fa3, .int fp3]))] H := hP
  have hD : va_D A [(g1, .inl (kB, 150000, .inl f)), (d0, .inr (2, [.ref g0, .ref e0, .ref f0, .ref k0, .int (nI aa), .int d5, .int d6, .int d7, .int d8, .long d9, .int (nI fr), .int d11])), (g0, .inr (5, [.ref g1, .int (nI n)])), (f0, .inr (1, [.int fa3, .int fp3]))] := hD
  rcases hw with ⟨r1e, hw, hfa, hfp⟩ | ⟨r1e, hw, hfa, hfp⟩ <;> subst r1e
  · replace hfa := hfa.symm; replace hfp := hfp.symm; subst hfa; subst hfp
    have hin := hw
    refine lv_if_ne (tgt := 12) hx hb dX2_readSkipped_7 (by decide) (fun _ => ?_) (fun c => absurd c (by decide))
    refine lv_aload_n hx hb dX2_readSkipped_12 rfl (lv_at hl 0 rfl) ?_
    refine va_get (D := (dC, dI)) (ci := 2) (v := .ref g0) (C := RX2) (T := TX2) (N := 12) hx hb hts (by decide +kernel) hown hK hP 1 rfl rfl 0 (by decide) (hts (.fieldLink RX2 9 "SequenceFrames$FrameReader" "frames" "LSequenceFrames$Row;") (by decide +kernel)) (fun _ h9 => h9) rfl dX2_readSkipped_13 ?_
    refine lv_aload_n hx hb dX2_readSkipped_16 rfl (lv_at hl 0 rfl) ?_
    refine va_get (D := (dC, dI)) (ci := 2) (v := .int (nI aa)) (C := RX2) (T := TX2) (N := 12) hx hb hts (by decide +kernel) hown hK hP 1 rfl rfl 4 (by decide) (hts (.fieldLink RX2 41 "SequenceFrames$FrameReader" "at" "I") (by decide +kernel)) (fun _ h9 => h9) rfl dX2_readSkipped_17 ?_
    refine lv_iconst (v := 4) hx hb dX2_readSkipped_20 (by decide) ?_
    refine z_calll (wr := [(d0, .inr (2, [.ref g0, .ref e0, .ref f0, .ref k0, .int (nI aa), .int d5, .int d6, .int d7, .int d8, .long d9, .int (nI fr), .int d11])), (f0, .inr (1, [.int x1, .int x2]))]) (va_runV (As := [.int (nI aa), .int 4]) (rest := []) ⟨hx, hb, hml, hown, hts⟩ (c_Row_numberAt l dC dI kB kI g0 g1 150000 n f aa 4 (by omega) (by omega) (by omega) (by omega) H.size) (cwV 2 hts gX2_readSkipped_X5_numberAt rfl rfl rfl (by decide +kernel) ⟨Nat.le_of_ble_eq_true rfl, Nat.le_of_ble_eq_true rfl⟩) (z_preV hK (hP.sub [2, 0] rfl) (hD.sub [2, 0] (by decide) rfl) (va_recv hK hP (ci := 5) (q0 := 2) rfl rfl)) rfl rfl hl.1 rfl (lv_room (Nat.le_of_ble_eq_true rfl)) dX2_readSkipped_21 ⟨Nat.le_of_ble_eq_true rfl, Nat.le_of_ble_eq_true rfl⟩) hK hP hD hS hA [2, 0] [1, 3] rfl rfl (by decide) (by decide) (fun r3 uq4 H locs hw hP hD hS => ?_)
    replace hw : r3 = numL f aa 4 := hw
    have hP : va_P (dC, dI) vwCl [(d0, .inr (2, [.ref g0, .ref e0, .ref f0, .ref k0, .int (nI aa), .int d5, .int d6, .int d7, .int d8, .long d9, .int (nI fr), .int d11])), (f0, .inr (1, [.int x1, .int x2])), (g0, .inr (5, [.ref g1, .int (nI n)])), (g1, .inl (kB, 150000, .inl f))] H := hP
    have hD : va_D A [(d0, .inr (2, [.ref g0, .ref e0, .ref f0, .ref k0, .int (nI aa), .int d5, .int d6, .int d7, .int d8, .long d9, .int (nI fr), .int d11])), (f0, .inr (1, [.int x1, .int x2])), (g0, .inr (5, [.ref g1, .int (nI n)])), (g1, .inl (kB, 150000, .inl f))] := hD
    rw [numL_eq f aa 4 (by omega)] at hw
    subst hw
    have hlt4 := numN_lt f aa 4
    obtain ⟨sk, esk⟩ : ∃ sk, numN f aa 4 = sk := ⟨_, rfl⟩
    have hsk : sk < 4294967296 := by rw [← esk]; exact hlt4
    refine lv_lstore_n (lv' := [(1, .long (lN (numN f aa 4))), (0, .ref d0)]) hx hb dX2_readSkipped_24 rfl hl (by decide) rfl (fun ls hl => ?_)
    refine lv_aload_n hx hb dX2_readSkipped_25 rfl (lv_at hl 1 rfl) ?_
    refine lv_dup hx hb dX2_readSkipped_26 rfl ?_
    refine va_get (D := (dC, dI)) (ci := 2) (v := .int (nI aa)) (C := RX2) (T := TX2) (N := 12) hx hb hts (by decide +kernel) hown hK hP 0 rfl rfl 4 (by decide) (hts (.fieldLink RX2 41 "SequenceFrames$FrameReader" "at" "I") (by decide +kernel)) (fun _ h9 => h9) rfl dX2_readSkipped_27 ?_
    refine lv_iconst (v := 4) hx hb dX2_readSkipped_30 (by decide) ?_
    refine lv_iadd hx hb dX2_readSkipped_31 ?_
    refine lv_is (y := (nI (aa + 4))) ((zn_add rfl (show (4 : Int32) = nI 4 from rfl))) ?_
    refine va_put (D := (dC, dI)) (ci := 2) (v := .int (nI (aa + 4))) (ty := .int) (C := RX2) (T := TX2) (N := 12) hx hb hts (by decide +kernel) tyX2 tyX2_ok nmX2 hown hK hP hD hS 0 rfl rfl 4 (by decide) (hts (.fieldLink RX2 41 "SequenceFrames$FrameReader" "at" "I") (by decide +kernel)) (fun _ h9 => h9) rfl (by decide +kernel) rfl rfl (Nat.le_of_ble_eq_true rfl) dX2_readSkipped_32 (fun H locs hP hD hS => ?_)
    have hP : va_P (dC, dI) vwCl [(d0, .inr (2, [.ref g0, .ref e0, .ref f0, .ref k0, .int (nI (aa + 4)), .int d5, .int d6, .int d7, .int d8, .long d9, .int (nI fr), .int d11])), (f0, .inr (1, [.int x1, .int x2])), (g0, .inr (5, [.ref g1, .int (nI n)])), (g1, .inl (kB, 150000, .inl f))] H := hP
    have hD : va_D A [(d0, .inr (2, [.ref g0, .ref e0, .ref f0, .ref k0, .int (nI (aa + 4)), .int d5, .int d6, .int d7, .int d8, .long d9, .int (nI fr), .int d11])), (f0, .inr (1, [.int x1, .int x2])), (g0, .inr (5, [.ref g1, .int (nI n)])), (g1, .inl (kB, 150000, .inl f))] := hD
    have eq9 : ((lN (numN f aa 4)) : Int64) = (lN sk) := congrArg lN esk
    have hl : lv_has ls 3 [(1, .long (lN sk)), (0, .ref d0)] := by rw [← eq9]; exact hl
    refine lv_aload_n hx hb dX2_readSkipped_35 rfl (lv_at hl 1 rfl) ?_
    refine lv_lload_n hx hb dX2_readSkipped_36 rfl (lv_at hl 0 rfl) ?_
    refine z_calli (wr := [(g1, .inl (kB, 150000, .inl f))]) (va_runV (As := [.long (lN sk)]) (rest := []) ⟨hx, hb, hml, hown, hts⟩ (c_Frd_isThere l dC dI kB kI d0 g0 e0 f0 k0 d5 d6 d7 d8 d9 (nI fr) d11 x1 x2 g1 n (aa + 4) sk (by omega) (by omega) (by omega) H.size) (cwV 1 hts gX2_readSkipped_X2_isThere rfl rfl rfl (by decide +kernel) ⟨Nat.le_of_ble_eq_true rfl, Nat.le_of_ble_eq_true rfl⟩) (z_preV hK (hP.sub [0, 2, 1] rfl) (hD.sub [0, 2, 1] (by decide) rfl) (va_recv hK hP (ci := 2) (q0 := 0) rfl rfl)) rfl rfl hl.1 rfl (lv_room (Nat.le_of_ble_eq_true rfl)) dX2_readSkipped_37 ⟨Nat.le_of_ble_eq_true rfl, Nat.le_of_ble_eq_true rfl⟩) hK hP hD hS hA [0, 2, 1] [3] rfl rfl (by decide) (by decide) (fun r5 uq6 H locs hw hP hD hS => ?_)
    obtain ⟨fa3, fp3⟩ := uq6
    replace hw : (r5 = 1 ∧ (aa + 4) + sk ≤ n ∧ fa3 = x1 ∧ fp3 = x2) ∨ (r5 = 0 ∧ n < (aa + 4) + sk ∧ fa3 = 1 ∧ fp3 = nI n) := hw
    have hP : va_P (dC, dI) vwCl [(g1, .inl (kB, 150000, .inl f)), (d0, .inr (2, [.ref g0, .ref e0, .ref f0, .ref k0, .int (nI (aa + 4)), .int d5, .int d6, .int d7, .int d8, .long d9, .int (nI fr), .int d11])), (g0, .inr (5, [.ref g1, .int (nI n)])), (f0, .inr (1, [.int fa3, .int fp3]))] H := hP
    have hD : va_D A [(g1, .inl (kB, 150000, .inl f)), (d0, .inr (2, [.ref g0, .ref e0, .ref f0, .ref k0, .int (nI (aa + 4)), .int d5, .int d6, .int d7, .int d8, .long d9, .int (nI fr), .int d11])), (g0, .inr (5, [.ref g1, .int (nI n)])), (f0, .inr (1, [.int fa3, .int fp3]))] := hD
    rcases hw with ⟨r5e, hw, hfa, hfp⟩ | ⟨r5e, hw, hfa, hfp⟩ <;> subst r5e
    · replace hfa := hfa.symm; replace hfp := hfp.symm; subst hfa; subst hfp
      refine lv_if_ne (tgt := 45) hx hb dX2_readSkipped_40 (by decide) (fun _ => ?_) (fun c => absurd c (by decide))
      refine lv_aload_n hx hb dX2_readSkipped_45 rfl (lv_at hl 1 rfl) ?_
      refine lv_dup hx hb dX2_readSkipped_46 rfl ?_
      refine va_get (D := (dC, dI)) (ci := 2) (v := .int (nI (aa + 4))) (C := RX2) (T := TX2) (N := 12) hx hb hts (by decide +kernel) hown hK hP 1 rfl rfl 4 (by decide) (hts (.fieldLink RX2 41 "SequenceFrames$FrameReader" "at" "I") (by decide +kernel)) (fun _ h9 => h9) rfl dX2_readSkipped_47 ?_
      refine lv_lload_n hx hb dX2_readSkipped_50 rfl (lv_at hl 0 rfl) ?_
      refine lv_l2i (v := (nI sk)) hx hb dX2_readSkipped_51 (zln_l2i rfl) ?_
      refine lv_iadd hx hb dX2_readSkipped_52 ?_
      refine lv_is (y := (nI ((aa + 4) + sk))) ((zn_add rfl rfl)) ?_
      refine va_put (D := (dC, dI)) (ci := 2) (v := .int (nI ((aa + 4) + sk))) (ty := .int) (C := RX2) (T := TX2) (N := 12) hx hb hts (by decide +kernel) tyX2 tyX2_ok nmX2 hown hK hP hD hS 1 rfl rfl 4 (by decide) (hts (.fieldLink RX2 41 "SequenceFrames$FrameReader" "at" "I") (by decide +kernel)) (fun _ h9 => h9) rfl (by decide +kernel) rfl rfl (Nat.le_of_ble_eq_true rfl) dX2_readSkipped_53 (fun H locs hP hD hS => ?_)
      have hP : va_P (dC, dI) vwCl [(g1, .inl (kB, 150000, .inl f)), (d0, .inr (2, [.ref g0, .ref e0, .ref f0, .ref k0, .int (nI ((aa + 4) + sk)), .int d5, .int d6, .int d7, .int d8, .long d9, .int (nI fr), .int d11])), (g0, .inr (5, [.ref g1, .int (nI n)])), (f0, .inr (1, [.int x1, .int x2]))] H := hP
      have hD : va_D A [(g1, .inl (kB, 150000, .inl f)), (d0, .inr (2, [.ref g0, .ref e0, .ref f0, .ref k0, .int (nI ((aa + 4) + sk)), .int d5, .int d6, .int d7, .int d8, .long d9, .int (nI fr), .int d11])), (g0, .inr (5, [.ref g1, .int (nI n)])), (f0, .inr (1, [.int x1, .int x2]))] := hD
      refine lv_aload_n hx hb dX2_readSkipped_56 rfl (lv_at hl 1 rfl) ?_
      refine lv_dup hx hb dX2_readSkipped_57 rfl ?_
      refine va_get (D := (dC, dI)) (ci := 2) (v := .int (nI fr)) (C := RX2) (T := TX2) (N := 12) hx hb hts (by decide +kernel) hown hK hP 1 rfl rfl 10 (by decide) (hts (.fieldLink RX2 83 "SequenceFrames$FrameReader" "framesRead" "I") (by decide +kernel)) (fun _ h9 => h9) rfl dX2_readSkipped_58 ?_
      refine lv_iconst (v := 1) hx hb dX2_readSkipped_61 (by decide) ?_
      refine lv_iadd hx hb dX2_readSkipped_62 ?_
      refine lv_is (y := (nI (fr + 1))) ((zn_add rfl (show (1 : Int32) = nI 1 from rfl))) ?_
      refine va_put (D := (dC, dI)) (ci := 2) (v := .int (nI (fr + 1))) (ty := .int) (C := RX2) (T := TX2) (N := 12) hx hb hts (by decide +kernel) tyX2 tyX2_ok nmX2 hown hK hP hD hS 1 rfl rfl 10 (by decide) (hts (.fieldLink RX2 83 "SequenceFrames$FrameReader" "framesRead" "I") (by decide +kernel)) (fun _ h9 => h9) rfl (by decide +kernel) rfl rfl (Nat.le_of_ble_eq_true rfl) dX2_readSkipped_63 (fun H locs hP hD hS => ?_)
      have hP : va_P (dC, dI) vwCl [(g1, .inl (kB, 150000, .inl f)), (d0, .inr (2, [.ref g0, .ref e0, .ref f0, .ref k0, .int (nI ((aa + 4) + sk)), .int d5, .int d6, .int d7, .int d8, .long d9, .int (nI (fr + 1)), .int d11])), (g0, .inr (5, [.ref g1, .int (nI n)])), (f0, .inr (1, [.int x1, .int x2]))] H := hP
      have hD : va_D A [(g1, .inl (kB, 150000, .inl f)), (d0, .inr (2, [.ref g0, .ref e0, .ref f0, .ref k0, .int (nI ((aa + 4) + sk)), .int d5, .int d6, .int d7, .int d8, .long d9, .int (nI (fr + 1)), .int d11])), (g0, .inr (5, [.ref g1, .int (nI n)])), (f0, .inr (1, [.int x1, .int x2]))] := hD
      refine lv_iconst (v := 1) hx hb dX2_readSkipped_66 (by decide) ?_
      have hP9 := hP.sub (ws' := [(d0, .inr (2, [.ref g0, .ref e0, .ref f0, .ref k0, .int (nI (aa + 4 + sk)), .int d5, .int d6, .int d7, .int d8, .long d9, .int (nI (fr + 1)), .int d11])), (f0, .inr (1, [.int x1, .int x2])), (g0, .inr (5, [.ref g1, .int (nI n)])), (g1, .inl (kB, 150000, .inl f))]) [1, 3, 2, 0] rfl
      have hD9 := hD.sub (ws' := [(d0, .inr (2, [.ref g0, .ref e0, .ref f0, .ref k0, .int (nI (aa + 4 + sk)), .int d5, .int d6, .int d7, .int d8, .long d9, .int (nI (fr + 1)), .int d11])), (f0, .inr (1, [.int x1, .int x2])), (g0, .inr (5, [.ref g1, .int (nI n)])), (g1, .inl (kB, 150000, .inl f))]) [1, 3, 2, 0] (by decide) rfl
      exact W.zret (v := 1) hx hb hr (by decide) (fun t9 ht9 hW9 => ⟨⟨1, ((aa + 4 + sk), (fr + 1), x1, x2), rfl, (show (aa + 4 ≤ n ∧ aa + 4 + numN f aa 4 ≤ n ∧ 1 = 1 ∧ (aa + 4 + sk) = aa + 4 + numN f aa 4 ∧ (fr + 1) = fr + 1 ∧ x1 = x1 ∧ x2 = x2) ∨ ((n < aa + 4 ∨ n < aa + 4 + numN f aa 4) ∧ 1 = 0 ∧ x1 = 1 ∧ x2 = nI n) from (Or.inl (by rw [esk]; exact ⟨by omega, by omega, rfl, rfl, rfl, rfl, rfl⟩))), by rw [ht9]; exact hP9, va_K.moved hW9.alike hK, hD9⟩, hS.F ht9⟩) hS.2.2 dX2_readSkipped_67
    · refine lv_if_ne (tgt := 45) hx hb dX2_readSkipped_40 (by decide) (fun c => absurd c (by decide)) (fun _ => ?_)
      refine lv_iconst (v := 0) hx hb dX2_readSkipped_43 (by decide) ?_
      have hP9 := hP.sub (ws' := [(d0, .inr (2, [.ref g0, .ref e0, .ref f0, .ref k0, .int (nI (aa + 4)), .int d5, .int d6, .int d7, .int d8, .long d9, .int (nI fr), .int d11])), (f0, .inr (1, [.int fa3, .int fp3])), (g0, .inr (5, [.ref g1, .int (nI n)])), (g1, .inl (kB, 150000, .inl f))]) [1, 3, 2, 0] rfl
      have hD9 := hD.sub (ws' := [(d0, .inr (2, [.ref g0, .ref e0, .ref f0, .ref k0, .int (nI (aa + 4)), .int d5, .int d6, .int d7, .int d8, .long d9, .int (nI fr), .int d11])), (f0, .inr (1, [.int fa3, .int fp3])), (g0, .inr (5, [.ref g1, .int (nI n)])), (g1, .inl (kB, 150000, .inl f))]) [1, 3, 2, 0] (by decide) rfl
      exact W.zret (v := 0) hx hb hr (by decide) (fun t9 ht9 hW9 => ⟨⟨0, ((aa + 4), fr, fa3, fp3), rfl, (show (aa + 4 ≤ n ∧ aa + 4 + numN f aa 4 ≤ n ∧ 0 = 1 ∧ (aa + 4) = aa + 4 + numN f aa 4 ∧ fr = fr + 1 ∧ fa3 = x1 ∧ fp3 = x2) ∨ ((n < aa + 4 ∨ n < aa + 4 + numN f aa 4) ∧ 0 = 0 ∧ fa3 = 1 ∧ fp3 = nI n) from (Or.inr (by rw [esk]; exact ⟨by omega, rfl, hfa, hfp⟩))), by rw [ht9]; exact hP9, va_K.moved hW9.alike hK, hD9⟩, hS.F ht9⟩) hS.2.2 dX2_readSkipped_44
  · refine lv_if_ne (tgt := 12) hx hb dX2_readSkipped_7 (by decide) (fun c => absurd c (by decide)) (fun _ => ?_)
    refine lv_iconst (v := 0) hx hb dX2_readSkipped_10 (by decide) ?_
    have hP9 := hP.sub (ws' := [(d0, .inr (2, [.ref g0, .ref e0, .ref f0, .ref k0, .int (nI aa), .int d5, .int d6, .int d7, .int d8, .long d9, .int (nI fr), .int d11])), (f0, .inr (1, [.int fa3, .int fp3])), (g0, .inr (5, [.ref g1, .int (nI n)])), (g1, .inl (kB, 150000, .inl f))]) [1, 3, 2, 0] rfl
    have hD9 := hD.sub (ws' := [(d0, .inr (2, [.ref g0, .ref e0, .ref f0, .ref k0, .int (nI aa), .int d5, .int d6, .int d7, .int d8, .long d9, .int (nI fr), .int d11])), (f0, .inr (1, [.int fa3, .int fp3])), (g0, .inr (5, [.ref g1, .int (nI n)])), (g1, .inl (kB, 150000, .inl f))]) [1, 3, 2, 0] (by decide) rfl
    exact W.zret (v := 0) hx hb hr (by decide) (fun t9 ht9 hW9 => ⟨⟨0, (aa, fr, fa3, fp3), rfl, (show (aa + 4 ≤ n ∧ aa + 4 + numN f aa 4 ≤ n ∧ 0 = 1 ∧ aa = aa + 4 + numN f aa 4 ∧ fr = fr + 1 ∧ fa3 = x1 ∧ fp3 = x2) ∨ ((n < aa + 4 ∨ n < aa + 4 + numN f aa 4) ∧ 0 = 0 ∧ fa3 = 1 ∧ fp3 = nI n) from (Or.inr ⟨by omega, rfl, hfa, hfp⟩)), by rw [ht9]; exact hP9, va_K.moved hW9.alike hK, hD9⟩, hS.F ht9⟩) hS.2.2 dX2_readSkipped_11
