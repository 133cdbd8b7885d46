set_option maxHeartbeats 4000000 in
set_option maxRecDepth 100000 in
theorem c_Frd_readSize (l : Launch) (dC : Nat → ClassId) (dI : Nat → Nat → Nat) (kB kI : ClassId) (d0 : Nat) (g0 : Nat) (e0 : Nat) (f0 : Nat) (k0 : Nat) (d5 : Int32) (d6 : Int32) (d8 : Int32) (d10 : Int32) (d11 : Int32) (d9 : Int64) (x1 : Int32) (x2 : Int32) (g1 : Nat) (f : Nat → Int32) (n : Nat) (aa : Nat) (fl : Nat) (hn : n ≤ 150000) (ha : aa ≤ n) (hfl : fl < 256) : zMi l yX2_readSize wsX2_readSize ({ frames := 2, cells := 0, slots := 0, locals := 47 }) (dC, dI) kB kI [.ref d0] [(d0, .inr (2, [.ref g0, .ref e0, .ref f0, .ref k0, .int (nI aa), .int d5, .int d6, .int (nI fl), .int d8, .long d9, .int d10, .int d11])), (f0, .inr (1, [.int x1, .int x2])), (g0, .inr (5, [.ref g1, .int (nI n)])), (g1, .inl (kB, 150000, .inl f))] 0 0 (fun (r : Int32) => fun uu : Nat × Int64 × Int32 × Int32 => (aa + 8 * (fl / 8 % 2) ≤ n ∧ r = 1 ∧ uu.1 = aa + 8 * (fl / 8 % 2) ∧ (fl / 8 % 2 = 1 → uu.2.1 = lN (numN f aa 8)) ∧ uu.2.2.1 = x1 ∧ uu.2.2.2 = x2) ∨ (n < aa + 8 * (fl / 8 % 2) ∧ r = 0 ∧ uu.2.2.1 = 1 ∧ uu.2.2.2 = nI n)) (fun uu : Nat × Int64 × Int32 × Int32 => [(d0, .inr (2, [.ref g0, .ref e0, .ref f0, .ref k0, .int (nI uu.1), .int d5, .int d6, .int (nI fl), .int d8, .long uu.2.1, .int d10, .int d11])), (f0, .inr (1, [.int uu.2.2.1, .int uu.2.2.2])), (g0, .inr (5, [.ref g1, .int (nI n)])), (g1, .inl (kB, 150000, .inl f))]) := by
  intro sz
  refine Met.ofW (cc := cX2_readSize) (maxL := 1) (ret := (some .boolean)) (by decide) rfl ?_
  intro p e s m args below meth c s₁ B hml hv
  obtain ⟨rfl, hsz, hP, hK, hD0⟩ := hv
  have hx := B.exec
  have hb := B.bytes
  have hr := B.returns
  have hts := atoms_spec (ws := wsX2_readSize) B.pre
  have hown : s.vm.findClass RX2 = some m.cls := findClass_of_methodNamed B.named
  have hlocks := B.notSynchronized
  subst hsz
  have hD := hD0.self (sz := s.heap.size)
  generalize hAe : va_A [(d0, .inr (2, [.ref g0, .ref e0, .ref f0, .ref k0, .int (nI aa), .int d5, .int d6, .int (nI fl), .int d8, .long d9, .int d10, .int d11])), (f0, .inr (1, [.int x1, .int x2])), (g0, .inr (5, [.ref g1, .int (nI n)])), (g1, .inl (kB, 150000, .inl f))] s.heap.size = A at hD ⊢
  have hA : ∀ q : Nat, s.heap.size ≤ q → A q := fun q h => by rw [← hAe]; exact Or.inr h
  have hS : va_S A s.heap s.heap [] := va_S.rf
  have hP : va_P (dC, dI) vwCl [(d0, .inr (2, [.ref g0, .ref e0, .ref f0, .ref k0, .int (nI aa), .int d5, .int d6, .int (nI fl), .int d8, .long d9, .int d10, .int d11])), (f0, .inr (1, [.int x1, .int x2])), (g0, .inr (5, [.ref g1, .int (nI n)])), (g1, .inl (kB, 150000, .inl f))] s.heap := hP
  have hl := lv_entry ([.ref d0]) (n := 1) (Nat.le_of_ble_eq_true rfl)
  rw [lg_entry_eq]
  generalize (lg_sl ([.ref d0]) ++ List.replicate (1 - (lg_sl ([.ref d0])).length) Slot.unset).toArray = ls at hl ⊢
  have hl : lv_has ls 1 [(0, .ref d0)] := hl
  refine zG (fun GG hG1 hG2 => ?_)
  refine lv_aload_n hx hb dX2_readSize_0 rfl (lv_at hl 0 rfl) ?_
  refine va_get (D := (dC, dI)) (ci := 2) (v := .int (nI fl)) (C := RX2) (T := TX2) (N := 12) hx hb hts (by decide +kernel) hown hK hP 0 rfl rfl 7 (by decide) (hts (.fieldLink RX2 105 "SequenceFrames$FrameReader" "flags" "I") (by decide +kernel)) (fun _ h9 => h9) rfl dX2_readSize_1 ?_
  refine lv_bipush (v := 8) hx hb dX2_readSize_4 (by decide) ?_
  refine lv_iand hx hb dX2_readSize_6 ?_
  refine lv_is (y := (nI (8 * (fl / 8 % 2)))) (and8b fl hfl) ?_
  refine zb_if_ne (tgt := 12) (a := ((8 * (fl / 8 % 2) : Nat) : Int)) hx hb dX2_readSize_7 (by decide) (nI_toInt (by omega)) (fun c7 => ?_) (fun c7 => ?_)
  · refine lv_aload_n hx hb dX2_readSize_12 rfl (lv_at hl 0 rfl) ?_
    refine lv_ldc2 (v := 8) hx hb hown (hts (.constantLong RX2 111 8) (by decide +kernel)) dX2_readSize_13 ?_
    refine z_calli (wr := [(g1, .inl (kB, 150000, .inl f))]) (va_runV (As := [.long 8]) (rest := []) ⟨hx, hb, hml, hown, hts⟩ (c_Frd_isThere l dC dI kB kI d0 g0 e0 f0 k0 d5 d6 (nI fl) d8 d9 d10 d11 x1 x2 g1 n aa 8 (by omega) (by omega) (by omega) s.heap.size) (cwV 1 hts gX2_readSize_X2_isThere rfl rfl rfl (by decide +kernel) ⟨Nat.le_of_ble_eq_true rfl, Nat.le_of_ble_eq_true rfl⟩) (z_preV hK (hP.sub [0, 2, 1] rfl) (hD.sub [0, 2, 1] (by decide) rfl) (va_recv hK hP (ci := 2) (q0 := 0) rfl rfl)) rfl rfl hl.1 rfl (lv_room (Nat.le_of_ble_eq_true rfl)) dX2_readSize_16 ⟨Nat.le_of_ble_eq_true rfl, Nat.le_of_ble_eq_true rfl⟩) hK hP hD hS hA [0, 2, 1] [3] rfl rfl (by decide) (by decide) (fun r1 uq2 H locs hw hP hD hS => ?_)
    obtain ⟨fa3, fp3⟩ := uq2
    replace hw : (r1 = 1 ∧ aa + 8 ≤ n ∧ fa3 = x1 ∧ fp3 = x2) ∨ (r1 = 0 ∧ n < aa + 8 ∧ fa3 = 1 ∧ fp3 = nI n) := hw
    have hP : va_P (dC, dI) vwCl [(g1, .inl (kB, 150000, .inl f)), (d0, .inr (2, [.ref g0, .ref e0, .ref f0, .ref k0, .int (nI aa), .int d5, .int d6, .int (nI fl), .int d8, .long d9, .int d10, .int d11])), (g0, .inr (5, [.ref g1, .int (nI n)])), (f0, .inr (1, [.int fa3, .int fp3]))] H := hP
    have hD : va_D A [(g1, .inl (kB, 150000, .inl f)), (d0, .inr (2, [.ref g0, .ref e0, .ref f0, .ref k0, .int (nI aa), .int d5, .int d6, .int (nI fl), .int d8, .long d9, .int d10, .int d11])), (g0, .inr (5, [.ref g1, .int (nI n)])), (f0, .inr (1, [.int fa3, .int fp3]))] := hD
    rcases hw with ⟨r1e, hw, hfa, hfp⟩ | ⟨r1e, hw, hfa, hfp⟩ <;> subst r1e
    · replace hfa := hfa.symm; replace hfp := hfp.symm; subst hfa; subst hfp
      have hin := hw
      refine lv_if_ne (tgt := 24) hx hb dX2_readSize_19 (by decide) (fun _ => ?_) (fun c => absurd c (by decide))
      refine lv_aload_n hx hb dX2_readSize_24 rfl (lv_at hl 0 rfl) ?_
      refine lv_aload_n hx hb dX2_readSize_25 rfl (lv_at hl 0 rfl) ?_
      refine va_get (D := (dC, dI)) (ci := 2) (v := .ref g0) (C := RX2) (T := TX2) (N := 12) hx hb hts (by decide +kernel) hown hK hP 1 rfl rfl 0 (by decide) (hts (.fieldLink RX2 9 "SequenceFrames$FrameReader" "frames" "LSequenceFrames$Row;") (by decide +kernel)) (fun _ h9 => h9) rfl dX2_readSize_26 ?_
      refine lv_aload_n hx hb dX2_readSize_29 rfl (lv_at hl 0 rfl) ?_
      refine va_get (D := (dC, dI)) (ci := 2) (v := .int (nI aa)) (C := RX2) (T := TX2) (N := 12) hx hb hts (by decide +kernel) hown hK hP 1 rfl rfl 4 (by decide) (hts (.fieldLink RX2 41 "SequenceFrames$FrameReader" "at" "I") (by decide +kernel)) (fun _ h9 => h9) rfl dX2_readSize_30 ?_
      refine lv_bipush (v := 8) hx hb dX2_readSize_33 (by decide) ?_
      refine z_calll (wr := [(d0, .inr (2, [.ref g0, .ref e0, .ref f0, .ref k0, .int (nI aa), .int d5, .int d6, .int (nI fl), .int d8, .long d9, .int d10, .int d11])), (f0, .inr (1, [.int x1, .int x2]))]) (va_runV (As := [.int (nI aa), .int 8]) (rest := [.ref d0]) ⟨hx, hb, hml, hown, hts⟩ (c_Row_numberAt l dC dI kB kI g0 g1 150000 n f aa 8 (by omega) (by omega) (by omega) (by omega) H.size) (cwV 2 hts gX2_readSize_X5_numberAt rfl rfl rfl (by decide +kernel) ⟨Nat.le_of_ble_eq_true rfl, Nat.le_of_ble_eq_true rfl⟩) (z_preV hK (hP.sub [2, 0] rfl) (hD.sub [2, 0] (by decide) rfl) (va_recv hK hP (ci := 5) (q0 := 2) rfl rfl)) rfl rfl hl.1 rfl (lv_room (Nat.le_of_ble_eq_true rfl)) dX2_readSize_35 ⟨Nat.le_of_ble_eq_true rfl, Nat.le_of_ble_eq_true rfl⟩) hK hP hD hS hA [2, 0] [1, 3] rfl rfl (by decide) (by decide) (fun r3 uq4 H locs hw hP hD hS => ?_)
      replace hw : r3 = numL f aa 8 := hw
      have hP : va_P (dC, dI) vwCl [(d0, .inr (2, [.ref g0, .ref e0, .ref f0, .ref k0, .int (nI aa), .int d5, .int d6, .int (nI fl), .int d8, .long d9, .int d10, .int d11])), (f0, .inr (1, [.int x1, .int x2])), (g0, .inr (5, [.ref g1, .int (nI n)])), (g1, .inl (kB, 150000, .inl f))] H := hP
      have hD : va_D A [(d0, .inr (2, [.ref g0, .ref e0, .ref f0, .ref k0, .int (nI aa), .int d5, .int d6, .int (nI fl), .int d8, .long d9, .int d10, .int d11])), (f0, .inr (1, [.int x1, .int x2])), (g0, .inr (5, [.ref g1, .int (nI n)])), (g1, .inl (kB, 150000, .inl f))] := hD
      rw [numL_eq f aa 8 (by omega)] at hw
      subst hw
      refine va_put (D := (dC, dI)) (ci := 2) (v := .long (lN (numN f aa 8))) (ty := .long) (C := RX2) (T := TX2) (N := 12) hx hb hts (by decide +kernel) tyX2 tyX2_ok nmX2 hown hK hP hD hS 0 rfl rfl 9 (by decide) (hts (.fieldLink RX2 113 "SequenceFrames$FrameReader" "toldSize" "J") (by decide +kernel)) (fun _ h9 => h9) rfl (by decide +kernel) rfl rfl (Nat.le_of_ble_eq_true rfl) dX2_readSize_38 (fun H locs hP hD hS => ?_)
      have hP : va_P (dC, dI) vwCl [(d0, .inr (2, [.ref g0, .ref e0, .ref f0, .ref k0, .int (nI aa), .int d5, .int d6, .int (nI fl), .int d8, .long (lN (numN f aa 8)), .int d10, .int d11])), (f0, .inr (1, [.int x1, .int x2])), (g0, .inr (5, [.ref g1, .int (nI n)])), (g1, .inl (kB, 150000, .inl f))] H := hP
      have hD : va_D A [(d0, .inr (2, [.ref g0, .ref e0, .ref f0, .ref k0, .int (nI aa), .int d5, .int d6, .int (nI fl), .int d8, .long (lN (numN f aa 8)), .int d10, .int d11])), (f0, .inr (1, [.int x1, .int x2])), (g0, .inr (5, [.ref g1, .int (nI n)])), (g1, .inl (kB, 150000, .inl f))] := hD
      refine lv_aload_n hx hb dX2_readSize_41 rfl (lv_at hl 0 rfl) ?_
      refine lv_dup hx hb dX2_readSize_42 rfl ?_
      refine va_get (D := (dC, dI)) (ci := 2) (v := .int (nI aa)) (C := RX2) (T := TX2) (N := 12) hx hb hts (by decide +kernel) hown hK hP 0 rfl rfl 4 (by decide) (hts (.fieldLink RX2 41 "SequenceFrames$FrameReader" "at" "I") (by decide +kernel)) (fun _ h9 => h9) rfl dX2_readSize_43 ?_
      refine lv_bipush (v := 8) hx hb dX2_readSize_46 (by decide) ?_
      refine lv_iadd hx hb dX2_readSize_48 ?_
      refine lv_is (y := (nI (aa + 8))) ((zn_add rfl (show (8 : Int32) = nI 8 from rfl))) ?_
      refine va_put (D := (dC, dI)) (ci := 2) (v := .int (nI (aa + 8))) (ty := .int) (C := RX2) (T := TX2) (N := 12) hx hb hts (by decide +kernel) tyX2 tyX2_ok nmX2 hown hK hP hD hS 0 rfl rfl 4 (by decide) (hts (.fieldLink RX2 41 "SequenceFrames$FrameReader" "at" "I") (by decide +kernel)) (fun _ h9 => h9) rfl (by decide +kernel) rfl rfl (Nat.le_of_ble_eq_true rfl) dX2_readSize_49 (fun H locs hP hD hS => ?_)
      have hP : va_P (dC, dI) vwCl [(d0, .inr (2, [.ref g0, .ref e0, .ref f0, .ref k0, .int (nI (aa + 8)), .int d5, .int d6, .int (nI fl), .int d8, .long (lN (numN f aa 8)), .int d10, .int d11])), (f0, .inr (1, [.int x1, .int x2])), (g0, .inr (5, [.ref g1, .int (nI n)])), (g1, .inl (kB, 150000, .inl f))] H := hP
      have hD : va_D A [(d0, .inr (2, [.ref g0, .ref e0, .ref f0, .ref k0, .int (nI (aa + 8)), .int d5, .int d6, .int (nI fl), .int d8, .long (lN (numN f aa 8)), .int d10, .int d11])), (f0, .inr (1, [.int x1, .int x2])), (g0, .inr (5, [.ref g1, .int (nI n)])), (g1, .inl (kB, 150000, .inl f))] := hD
      have eq9 : ((nI (aa + 8)) : Int32) = (nI (aa + 8 * (fl / 8 % 2))) := congrArg nI (by omega)
      have hP : va_P (dC, dI) vwCl [(d0, .inr (2, [.ref g0, .ref e0, .ref f0, .ref k0, .int (nI (aa + 8 * (fl / 8 % 2))), .int d5, .int d6, .int (nI fl), .int d8, .long (lN (numN f aa 8)), .int d10, .int d11])), (f0, .inr (1, [.int x1, .int x2])), (g0, .inr (5, [.ref g1, .int (nI n)])), (g1, .inl (kB, 150000, .inl f))] H := by rw [← eq9]; exact hP
      have hD : va_D A [(d0, .inr (2, [.ref g0, .ref e0, .ref f0, .ref k0, .int (nI (aa + 8 * (fl / 8 % 2))), .int d5, .int d6, .int (nI fl), .int d8, .long (lN (numN f aa 8)), .int d10, .int d11])), (f0, .inr (1, [.int x1, .int x2])), (g0, .inr (5, [.ref g1, .int (nI n)])), (g1, .inl (kB, 150000, .inl f))] := by rw [← eq9]; exact hD
      refine lv_iconst (v := 1) hx hb dX2_readSize_52 (by decide) ?_
      have hP9 := hP.sub (ws' := [(d0, .inr (2, [.ref g0, .ref e0, .ref f0, .ref k0, .int (nI (aa + 8 * (fl / 8 % 2))), .int d5, .int d6, .int (nI fl), .int d8, .long (lN (numN f aa 8)), .int d10, .int d11])), (f0, .inr (1, [.int x1, .int x2])), (g0, .inr (5, [.ref g1, .int (nI n)])), (g1, .inl (kB, 150000, .inl f))]) [0, 1, 2, 3] rfl
      have hD9 := hD.sub (ws' := [(d0, .inr (2, [.ref g0, .ref e0, .ref f0, .ref k0, .int (nI (aa + 8 * (fl / 8 % 2))), .int d5, .int d6, .int (nI fl), .int d8, .long (lN (numN f aa 8)), .int d10, .int d11])), (f0, .inr (1, [.int x1, .int x2])), (g0, .inr (5, [.ref g1, .int (nI n)])), (g1, .inl (kB, 150000, .inl f))]) [0, 1, 2, 3] (by decide) rfl
      exact W.zret (v := 1) hx hb hr (by decide) (fun t9 ht9 hW9 => ⟨⟨1, ((aa + 8 * (fl / 8 % 2)), (lN (numN f aa 8)), x1, x2), rfl, (show (aa + 8 * (fl / 8 % 2) ≤ n ∧ 1 = 1 ∧ (aa + 8 * (fl / 8 % 2)) = aa + 8 * (fl / 8 % 2) ∧ (fl / 8 % 2 = 1 → (lN (numN f aa 8)) = lN (numN f aa 8)) ∧ x1 = x1 ∧ x2 = x2) ∨ (n < aa + 8 * (fl / 8 % 2) ∧ 1 = 0 ∧ x1 = 1 ∧ x2 = nI n) from (Or.inl ⟨by omega, rfl, rfl, fun _ => rfl, rfl, rfl⟩)), by rw [ht9]; exact hP9, va_K.moved hW9.alike hK, hD9⟩, hS.F ht9⟩) hS.2.2 dX2_readSize_53
    · refine lv_if_ne (tgt := 24) hx hb dX2_readSize_19 (by decide) (fun c => absurd c (by decide)) (fun _ => ?_)
      refine lv_iconst (v := 0) hx hb dX2_readSize_22 (by decide) ?_
      have hP9 := hP.sub (ws' := [(d0, .inr (2, [.ref g0, .ref e0, .ref f0, .ref k0, .int (nI aa), .int d5, .int d6, .int (nI fl), .int d8, .long d9, .int d10, .int d11])), (f0, .inr (1, [.int fa3, .int fp3])), (g0, .inr (5, [.ref g1, .int (nI n)])), (g1, .inl (kB, 150000, .inl f))]) [1, 3, 2, 0] rfl
      have hD9 := hD.sub (ws' := [(d0, .inr (2, [.ref g0, .ref e0, .ref f0, .ref k0, .int (nI aa), .int d5, .int d6, .int (nI fl), .int d8, .long d9, .int d10, .int d11])), (f0, .inr (1, [.int fa3, .int fp3])), (g0, .inr (5, [.ref g1, .int (nI n)])), (g1, .inl (kB, 150000, .inl f))]) [1, 3, 2, 0] (by decide) rfl
      exact W.zret (v := 0) hx hb hr (by decide) (fun t9 ht9 hW9 => ⟨⟨0, (aa, d9, fa3, fp3), rfl, (show (aa + 8 * (fl / 8 % 2) ≤ n ∧ 0 = 1 ∧ aa = aa + 8 * (fl / 8 % 2) ∧ (fl / 8 % 2 = 1 → d9 = lN (numN f aa 8)) ∧ fa3 = x1 ∧ fp3 = x2) ∨ (n < aa + 8 * (fl / 8 % 2) ∧ 0 = 0 ∧ fa3 = 1 ∧ fp3 = nI n) from (Or.inr ⟨by omega, rfl, hfa, hfp⟩)), by rw [ht9]; exact hP9, va_K.moved hW9.alike hK, hD9⟩, hS.F ht9⟩) hS.2.2 dX2_readSize_23
  · have eq9 : ((nI aa) : Int32) = (nI (aa + 8 * (fl / 8 % 2))) := congrArg nI (by omega)
    have hP : va_P (dC, dI) vwCl [(d0, .inr (2, [.ref g0, .ref e0, .ref f0, .ref k0, .int (nI (aa + 8 * (fl / 8 % 2))), .int d5, .int d6, .int (nI fl), .int d8, .long d9, .int d10, .int d11])), (f0, .inr (1, [.int x1, .int x2])), (g0, .inr (5, [.ref g1, .int (nI n)])), (g1, .inl (kB, 150000, .inl f))] s.heap := by rw [← eq9]; exact hP
    have hD : va_D A [(d0, .inr (2, [.ref g0, .ref e0, .ref f0, .ref k0, .int (nI (aa + 8 * (fl / 8 % 2))), .int d5, .int d6, .int (nI fl), .int d8, .long d9, .int d10, .int d11])), (f0, .inr (1, [.int x1, .int x2])), (g0, .inr (5, [.ref g1, .int (nI n)])), (g1, .inl (kB, 150000, .inl f))] := by rw [← eq9]; exact hD
    refine lv_iconst (v := 1) hx hb dX2_readSize_10 (by decide) ?_
    have hP9 := hP.sub (ws' := [(d0, .inr (2, [.ref g0, .ref e0, .ref f0, .ref k0, .int (nI (aa + 8 * (fl / 8 % 2))), .int d5, .int d6, .int (nI fl), .int d8, .long d9, .int d10, .int d11])), (f0, .inr (1, [.int x1, .int x2])), (g0, .inr (5, [.ref g1, .int (nI n)])), (g1, .inl (kB, 150000, .inl f))]) [0, 1, 2, 3] rfl
    have hD9 := hD.sub (ws' := [(d0, .inr (2, [.ref g0, .ref e0, .ref f0, .ref k0, .int (nI (aa + 8 * (fl / 8 % 2))), .int d5, .int d6, .int (nI fl), .int d8, .long d9, .int d10, .int d11])), (f0, .inr (1, [.int x1, .int x2])), (g0, .inr (5, [.ref g1, .int (nI n)])), (g1, .inl (kB, 150000, .inl f))]) [0, 1, 2, 3] (by decide) rfl
    exact W.zret (v := 1) hx hb hr (by decide) (fun t9 ht9 hW9 => ⟨⟨1, ((aa + 8 * (fl / 8 % 2)), d9, x1, x2), rfl, (show (aa + 8 * (fl / 8 % 2) ≤ n ∧ 1 = 1 ∧ (aa + 8 * (fl / 8 % 2)) = aa + 8 * (fl / 8 % 2) ∧ (fl / 8 % 2 = 1 → d9 = lN (numN f aa 8)) ∧ x1 = x1 ∧ x2 = x2) ∨ (n < aa + 8 * (fl / 8 % 2) ∧ 1 = 0 ∧ x1 = 1 ∧ x2 = nI n) from (Or.inl ⟨by omega, rfl, rfl, fun h => absurd h (by omega), rfl, rfl⟩)), by rw [ht9]; exact hP9, va_K.moved hW9.alike hK, hD9⟩, hS.F ht9⟩) hS.2.2 dX2_readSize_11
