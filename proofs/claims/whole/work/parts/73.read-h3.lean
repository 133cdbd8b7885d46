set_option maxHeartbeats 4000000 in
set_option maxRecDepth 100000 in
theorem c_Frd_readFlags (l : Launch) (dC : Nat → ClassId) (dI : Nat → Nat → Nat) (kB kI : ClassId) (d0 : Nat) (g0 : Nat) (e0 : Nat) (f0 : Nat) (k0 : Nat) (d5 : Int32) (d6 : Int32) (d8 : Int32) (d9 : Int64) (d10 : Int32) (d11 : Int32) (d7 : Int32) (x1 : Int32) (x2 : Int32) (g1 : Nat) (f : Nat → Int32) (n : Nat) (aa : Nat) (hn : n ≤ 150000) (ha : aa ≤ n) : zMi l yX2_readFlags wsX2_readFlags ({ frames := 2, cells := 0, slots := 0, locals := 44 }) (dC, dI) kB kI [.ref d0] [(d0, .inr (2, [.ref g0, .ref e0, .ref f0, .ref k0, .int (nI aa), .int d5, .int d6, .int d7, .int d8, .long d9, .int d10, .int d11])), (f0, .inr (1, [.int x1, .int x2])), (g0, .inr (5, [.ref g1, .int (nI n)])), (g1, .inl (kB, 150000, .inl f))] 0 0 (fun (r : Int32) => fun uu : Nat × Int32 × Int32 × Int32 => (aa + 1 ≤ n ∧ ub (f aa) / 64 = 1 ∧ ub (f aa) % 4 = 0 ∧ r = 1 ∧ uu.1 = aa + 1 ∧ uu.2.1 = nI (ub (f aa)) ∧ uu.2.2.1 = x1 ∧ uu.2.2.2 = x2) ∨ (n < aa + 1 ∧ r = 0 ∧ uu.2.2.1 = 1 ∧ uu.2.2.2 = nI n) ∨ (aa + 1 ≤ n ∧ ¬ (ub (f aa) / 64 = 1 ∧ ub (f aa) % 4 = 0) ∧ r = 0 ∧ uu.2.2.1 = 3 ∧ uu.2.2.2 = nI aa)) (fun uu : Nat × Int32 × Int32 × Int32 => [(d0, .inr (2, [.ref g0, .ref e0, .ref f0, .ref k0, .int (nI uu.1), .int d5, .int d6, .int uu.2.1, .int d8, .long d9, .int d10, .int d11])), (f0, .inr (1, [.int uu.2.2.1, .int uu.2.2.2])), (g0, .inr (5, [.ref g1, .int (nI n)])), (g1, .inl (kB, 150000, .inl f))]) := by
  intro sz
  refine Met.ofW (cc := cX2_readFlags) (maxL := 1) (ret := (some .boolean)) (by decide) rfl ?_
  intro p e s m args below meth c s₁ B hml hv
  obtain ⟨rfl, hsz, hP, hK, hD0⟩ := hv
  have hx := B.exec
  have hb := B.bytes
  have hr := B.returns
  have hts := atoms_spec (ws := wsX2_readFlags) B.pre
  have hown : s.vm.findClass RX2 = some m.cls := findClass_of_methodNamed B.named
  have hlocks := B.notSynchronized
  subst hsz
  have hD := hD0.self (sz := s.heap.size)
  generalize hAe : va_A [(d0, .inr (2, [.ref g0, .ref e0, .ref f0, .ref k0, .int (nI aa), .int d5, .int d6, .int d7, .int d8, .long d9, .int d10, .int d11])), (f0, .inr (1, [.int x1, .int x2])), (g0, .inr (5, [.ref g1, .int (nI n)])), (g1, .inl (kB, 150000, .inl f))] s.heap.size = A at hD ⊢
  have hA : ∀ q : Nat, s.heap.size ≤ q → A q := fun q h => by rw [← hAe]; exact Or.inr h
  have hS : va_S A s.heap s.heap [] := va_S.rf
  have hP : va_P (dC, dI) vwCl [(d0, .inr (2, [.ref g0, .ref e0, .ref f0, .ref k0, .int (nI aa), .int d5, .int d6, .int d7, .int d8, .long d9, .int d10, .int d11])), (f0, .inr (1, [.int x1, .int x2])), (g0, .inr (5, [.ref g1, .int (nI n)])), (g1, .inl (kB, 150000, .inl f))] s.heap := hP
  have hl := lv_entry ([.ref d0]) (n := 1) (Nat.le_of_ble_eq_true rfl)
  rw [lg_entry_eq]
  generalize (lg_sl ([.ref d0]) ++ List.replicate (1 - (lg_sl ([.ref d0])).length) Slot.unset).toArray = ls at hl ⊢
  have hl : lv_has ls 1 [(0, .ref d0)] := hl
  refine zG (fun GG hG1 hG2 => ?_)
  refine lv_aload_n hx hb dX2_readFlags_0 rfl (lv_at hl 0 rfl) ?_
  refine lv_lconst (v := 1) hx hb dX2_readFlags_1 (by decide) ?_
  refine z_calli (wr := [(g1, .inl (kB, 150000, .inl f))]) (va_runV (As := [.long 1]) (rest := []) ⟨hx, hb, hml, hown, hts⟩ (c_Frd_isThere l dC dI kB kI d0 g0 e0 f0 k0 d5 d6 d7 d8 d9 d10 d11 x1 x2 g1 n aa 1 (by omega) (by omega) (by omega) s.heap.size) (cwV 1 hts gX2_readFlags_X2_isThere rfl rfl rfl (by decide +kernel) ⟨Nat.le_of_ble_eq_true rfl, Nat.le_of_ble_eq_true rfl⟩) (z_preV hK (hP.sub [0, 2, 1] rfl) (hD.sub [0, 2, 1] (by decide) rfl) (va_recv hK hP (ci := 2) (q0 := 0) rfl rfl)) rfl rfl hl.1 rfl (lv_room (Nat.le_of_ble_eq_true rfl)) dX2_readFlags_2 ⟨Nat.le_of_ble_eq_true rfl, Nat.le_of_ble_eq_true rfl⟩) hK hP hD hS hA [0, 2, 1] [3] rfl rfl (by decide) (by decide) (fun r1 uq2 H locs hw hP hD hS => ?_)
  obtain ⟨fa3, fp3⟩ := uq2
  replace hw : (r1 = 1 ∧ aa + 1 ≤ n ∧ fa3 = x1 ∧ fp3 = x2) ∨ (r1 = 0 ∧ n < aa + 1 ∧ fa3 = 1 ∧ fp3 = nI n) := hw
  have hP : va_P (dC, dI) vwCl [(g1, .inl (kB, 150000, .inl f)), (d0, .inr (2, [.ref g0, .ref e0, .ref f0, .ref k0, .int (nI aa), .int d5, .int d6, .int d7, .int d8, .long d9, .int d10, .int d11])), (g0, .inr (5, [.ref g1, .int (nI n)])), (f0, .inr (1, [.int fa3, .int fp3]))] H := hP
  have hD : va_D A [(g1, .inl (kB, 150000, .inl f)), (d0, .inr (2, [.ref g0, .ref e0, .ref f0, .ref k0, .int (nI aa), .int d5, .int d6, .int d7, .int d8, .long d9, .int d10, .int d11])), (g0, .inr (5, [.ref g1, .int (nI n)])), (f0, .inr (1, [.int fa3, .int fp3]))] := hD
  rcases hw with ⟨r1e, hw, hfa, hfp⟩ | ⟨r1e, hw, hfa, hfp⟩ <;> subst r1e
  · replace hfa := hfa.symm; replace hfp := hfp.symm; subst hfa; subst hfp
    have hin := hw
    refine lv_if_ne (tgt := 10) hx hb dX2_readFlags_5 (by decide) (fun _ => ?_) (fun c => absurd c (by decide))
    refine lv_aload_n hx hb dX2_readFlags_10 rfl (lv_at hl 0 rfl) ?_
    refine lv_aload_n hx hb dX2_readFlags_11 rfl (lv_at hl 0 rfl) ?_
    refine va_get (D := (dC, dI)) (ci := 2) (v := .ref g0) (C := RX2) (T := TX2) (N := 12) hx hb hts (by decide +kernel) hown hK hP 1 rfl rfl 0 (by decide) (hts (.fieldLink RX2 9 "SequenceFrames$FrameReader" "frames" "LSequenceFrames$Row;") (by decide +kernel)) (fun _ h9 => h9) rfl dX2_readFlags_12 ?_
    refine lv_aload_n hx hb dX2_readFlags_15 rfl (lv_at hl 0 rfl) ?_
    refine va_get (D := (dC, dI)) (ci := 2) (v := .int (nI aa)) (C := RX2) (T := TX2) (N := 12) hx hb hts (by decide +kernel) hown hK hP 1 rfl rfl 4 (by decide) (hts (.fieldLink RX2 41 "SequenceFrames$FrameReader" "at" "I") (by decide +kernel)) (fun _ h9 => h9) rfl dX2_readFlags_16 ?_
    refine z_calli (wr := [(d0, .inr (2, [.ref g0, .ref e0, .ref f0, .ref k0, .int (nI aa), .int d5, .int d6, .int d7, .int d8, .long d9, .int d10, .int d11])), (f0, .inr (1, [.int x1, .int x2]))]) (va_runV (As := [.int (nI aa)]) (rest := [.ref d0]) ⟨hx, hb, hml, hown, hts⟩ (c_Row_get l dC dI kB kI g0 g1 150000 n f (nI aa) ((aa : Nat) : Int) (by omega) (by omega) (nI_toInt (by omega)) H.size) (cwV 1 hts gX2_readFlags_X5_get rfl rfl rfl (by decide +kernel) ⟨Nat.le_of_ble_eq_true rfl, Nat.le_of_ble_eq_true rfl⟩) (z_preV hK (hP.sub [2, 0] rfl) (hD.sub [2, 0] (by decide) rfl) (va_recv hK hP (ci := 5) (q0 := 2) rfl rfl)) rfl rfl hl.1 rfl (lv_room (Nat.le_of_ble_eq_true rfl)) dX2_readFlags_19 ⟨Nat.le_of_ble_eq_true rfl, Nat.le_of_ble_eq_true rfl⟩) hK hP hD hS hA [2, 0] [1, 3] rfl rfl (by decide) (by decide) (fun r3 uq4 H locs hw hP hD hS => ?_)
    replace hw : (∃ j : Nat, ((aa : Nat) : Int) = j ∧ j < n ∧ r3 = f j &&& 255) ∨ ((((aa : Nat) : Int) < 0 ∨ (n : Int) ≤ ((aa : Nat) : Int)) ∧ r3 = -1) := hw
    have hP : va_P (dC, dI) vwCl [(d0, .inr (2, [.ref g0, .ref e0, .ref f0, .ref k0, .int (nI aa), .int d5, .int d6, .int d7, .int d8, .long d9, .int d10, .int d11])), (f0, .inr (1, [.int x1, .int x2])), (g0, .inr (5, [.ref g1, .int (nI n)])), (g1, .inl (kB, 150000, .inl f))] H := hP
    have hD : va_D A [(d0, .inr (2, [.ref g0, .ref e0, .ref f0, .ref k0, .int (nI aa), .int d5, .int d6, .int d7, .int d8, .long d9, .int d10, .int d11])), (f0, .inr (1, [.int x1, .int x2])), (g0, .inr (5, [.ref g1, .int (nI n)])), (g1, .inl (kB, 150000, .inl f))] := hD
    have hw2 : r3 = nI (ub (f aa)) := by
      rcases hw with ⟨j1, ej1, hj1, er⟩ | ⟨hw, er⟩
      · rw [er, show j1 = aa by omega]; exact ub_eq _
      · omega
    clear hw
    subst hw2
    have hub := ub_lt (f aa)
    refine va_put (D := (dC, dI)) (ci := 2) (v := .int (nI (ub (f aa)))) (ty := .int) (C := RX2) (T := TX2) (N := 12) hx hb hts (by decide +kernel) tyX2 tyX2_ok nmX2 hown hK hP hD hS 0 rfl rfl 7 (by decide) (hts (.fieldLink RX2 105 "SequenceFrames$FrameReader" "flags" "I") (by decide +kernel)) (fun _ h9 => h9) rfl (by decide +kernel) rfl rfl (Nat.le_of_ble_eq_true rfl) dX2_readFlags_22 (fun H locs hP hD hS => ?_)
    have hP : va_P (dC, dI) vwCl [(d0, .inr (2, [.ref g0, .ref e0, .ref f0, .ref k0, .int (nI aa), .int d5, .int d6, .int (nI (ub (f aa))), .int d8, .long d9, .int d10, .int d11])), (f0, .inr (1, [.int x1, .int x2])), (g0, .inr (5, [.ref g1, .int (nI n)])), (g1, .inl (kB, 150000, .inl f))] H := hP
    have hD : va_D A [(d0, .inr (2, [.ref g0, .ref e0, .ref f0, .ref k0, .int (nI aa), .int d5, .int d6, .int (nI (ub (f aa))), .int d8, .long d9, .int d10, .int d11])), (f0, .inr (1, [.int x1, .int x2])), (g0, .inr (5, [.ref g1, .int (nI n)])), (g1, .inl (kB, 150000, .inl f))] := hD
    refine lv_aload_n hx hb dX2_readFlags_25 rfl (lv_at hl 0 rfl) ?_
    refine va_get (D := (dC, dI)) (ci := 2) (v := .int (nI (ub (f aa)))) (C := RX2) (T := TX2) (N := 12) hx hb hts (by decide +kernel) hown hK hP 0 rfl rfl 7 (by decide) (hts (.fieldLink RX2 105 "SequenceFrames$FrameReader" "flags" "I") (by decide +kernel)) (fun _ h9 => h9) rfl dX2_readFlags_26 ?_
    refine lv_sipush (v := 195) hx hb dX2_readFlags_29 (by decide) ?_
    refine lv_iand hx hb dX2_readFlags_32 ?_
    refine lv_bipush (v := 64) hx hb dX2_readFlags_33 (by decide) ?_
    refine lv_icmp_eq (tgt := 51) hx hb dX2_readFlags_35 (by decide) (fun c35 => ?_) (fun c35 => ?_)
    · have h195 := (and195 _ hub).mp c35
      refine lv_aload_n hx hb dX2_readFlags_51 rfl (lv_at hl 0 rfl) ?_
      refine lv_dup hx hb dX2_readFlags_52 rfl ?_
      refine va_get (D := (dC, dI)) (ci := 2) (v := .int (nI aa)) (C := RX2) (T := TX2) (N := 12) hx hb hts (by decide +kernel) hown hK hP 0 rfl rfl 4 (by decide) (hts (.fieldLink RX2 41 "SequenceFrames$FrameReader" "at" "I") (by decide +kernel)) (fun _ h9 => h9) rfl dX2_readFlags_53 ?_
      refine lv_iconst (v := 1) hx hb dX2_readFlags_56 (by decide) ?_
      refine lv_iadd hx hb dX2_readFlags_57 ?_
      refine lv_is (y := (nI (aa + 1))) ((zn_add rfl (show (1 : Int32) = nI 1 from rfl))) ?_
      refine va_put (D := (dC, dI)) (ci := 2) (v := .int (nI (aa + 1))) (ty := .int) (C := RX2) (T := TX2) (N := 12) hx hb hts (by decide +kernel) tyX2 tyX2_ok nmX2 hown hK hP hD hS 0 rfl rfl 4 (by decide) (hts (.fieldLink RX2 41 "SequenceFrames$FrameReader" "at" "I") (by decide +kernel)) (fun _ h9 => h9) rfl (by decide +kernel) rfl rfl (Nat.le_of_ble_eq_true rfl) dX2_readFlags_58 (fun H locs hP hD hS => ?_)
      have hP : va_P (dC, dI) vwCl [(d0, .inr (2, [.ref g0, .ref e0, .ref f0, .ref k0, .int (nI (aa + 1)), .int d5, .int d6, .int (nI (ub (f aa))), .int d8, .long d9, .int d10, .int d11])), (f0, .inr (1, [.int x1, .int x2])), (g0, .inr (5, [.ref g1, .int (nI n)])), (g1, .inl (kB, 150000, .inl f))] H := hP
      have hD : va_D A [(d0, .inr (2, [.ref g0, .ref e0, .ref f0, .ref k0, .int (nI (aa + 1)), .int d5, .int d6, .int (nI (ub (f aa))), .int d8, .long d9, .int d10, .int d11])), (f0, .inr (1, [.int x1, .int x2])), (g0, .inr (5, [.ref g1, .int (nI n)])), (g1, .inl (kB, 150000, .inl f))] := hD
      refine lv_iconst (v := 1) hx hb dX2_readFlags_61 (by decide) ?_
      have hP9 := hP.sub (ws' := [(d0, .inr (2, [.ref g0, .ref e0, .ref f0, .ref k0, .int (nI (aa + 1)), .int d5, .int d6, .int (nI (ub (f aa))), .int d8, .long d9, .int d10, .int d11])), (f0, .inr (1, [.int x1, .int x2])), (g0, .inr (5, [.ref g1, .int (nI n)])), (g1, .inl (kB, 150000, .inl f))]) [0, 1, 2, 3] rfl
      have hD9 := hD.sub (ws' := [(d0, .inr (2, [.ref g0, .ref e0, .ref f0, .ref k0, .int (nI (aa + 1)), .int d5, .int d6, .int (nI (ub (f aa))), .int d8, .long d9, .int d10, .int d11])), (f0, .inr (1, [.int x1, .int x2])), (g0, .inr (5, [.ref g1, .int (nI n)])), (g1, .inl (kB, 150000, .inl f))]) [0, 1, 2, 3] (by decide) rfl
      exact W.zret (v := 1) hx hb hr (by decide) (fun t9 ht9 hW9 => ⟨⟨1, ((aa + 1), (nI (ub (f aa))), x1, x2), rfl, (show (aa + 1 ≤ n ∧ ub (f aa) / 64 = 1 ∧ ub (f aa) % 4 = 0 ∧ 1 = 1 ∧ (aa + 1) = aa + 1 ∧ (nI (ub (f aa))) = nI (ub (f aa)) ∧ x1 = x1 ∧ x2 = x2) ∨ (n < aa + 1 ∧ 1 = 0 ∧ x1 = 1 ∧ x2 = nI n) ∨ (aa + 1 ≤ n ∧ ¬ (ub (f aa) / 64 = 1 ∧ ub (f aa) % 4 = 0) ∧ 1 = 0 ∧ x1 = 3 ∧ x2 = nI aa) from (Or.inl ⟨by omega, h195.1, h195.2, rfl, rfl, rfl, rfl, rfl⟩)), by rw [ht9]; exact hP9, va_K.moved hW9.alike hK, hD9⟩, hS.F ht9⟩) hS.2.2 dX2_readFlags_62
    · refine lv_aload_n hx hb dX2_readFlags_38 rfl (lv_at hl 0 rfl) ?_
      refine va_get (D := (dC, dI)) (ci := 2) (v := .ref f0) (C := RX2) (T := TX2) (N := 12) hx hb hts (by decide +kernel) hown hK hP 0 rfl rfl 2 (by decide) (hts (.fieldLink RX2 18 "SequenceFrames$FrameReader" "fault" "LSequenceFrames$Fault;") (by decide +kernel)) (fun _ h9 => h9) rfl dX2_readFlags_39 ?_
      refine lv_iconst (v := 3) hx hb dX2_readFlags_42 (by decide) ?_
      refine lv_aload_n hx hb dX2_readFlags_43 rfl (lv_at hl 0 rfl) ?_
      refine va_get (D := (dC, dI)) (ci := 2) (v := .int (nI aa)) (C := RX2) (T := TX2) (N := 12) hx hb hts (by decide +kernel) hown hK hP 0 rfl rfl 4 (by decide) (hts (.fieldLink RX2 41 "SequenceFrames$FrameReader" "at" "I") (by decide +kernel)) (fun _ h9 => h9) rfl dX2_readFlags_44 ?_
      refine z_calli (wr := [(d0, .inr (2, [.ref g0, .ref e0, .ref f0, .ref k0, .int (nI aa), .int d5, .int d6, .int (nI (ub (f aa))), .int d8, .long d9, .int d10, .int d11])), (g0, .inr (5, [.ref g1, .int (nI n)])), (g1, .inl (kB, 150000, .inl f))]) (va_runV (As := [.int 3, .int (nI aa)]) (rest := []) ⟨hx, hb, hml, hown, hts⟩ (c_Fault_refuse l dC dI kB kI f0 x1 x2 3 (nI aa)  H.size) (cwV 2 hts gX2_readFlags_X1_refuse rfl rfl rfl (by decide +kernel) ⟨Nat.le_of_ble_eq_true rfl, Nat.le_of_ble_eq_true rfl⟩) (z_preV hK (hP.sub [1] rfl) (hD.sub [1] (by decide) rfl) (va_recv hK hP (ci := 1) (q0 := 1) rfl rfl)) rfl rfl hl.1 rfl (lv_room (Nat.le_of_ble_eq_true rfl)) dX2_readFlags_47 ⟨Nat.le_of_ble_eq_true rfl, Nat.le_of_ble_eq_true rfl⟩) hK hP hD hS hA [1] [0, 2, 3] rfl rfl (by decide) (by decide) (fun r5 uq6 H locs hv hP hD hS => ?_)
      replace hv : r5 = 0 := hv
      have hP : va_P (dC, dI) vwCl [(d0, .inr (2, [.ref g0, .ref e0, .ref f0, .ref k0, .int (nI aa), .int d5, .int d6, .int (nI (ub (f aa))), .int d8, .long d9, .int d10, .int d11])), (g0, .inr (5, [.ref g1, .int (nI n)])), (g1, .inl (kB, 150000, .inl f)), (f0, .inr (1, [.int 3, .int (nI aa)]))] H := hP
      have hD : va_D A [(d0, .inr (2, [.ref g0, .ref e0, .ref f0, .ref k0, .int (nI aa), .int d5, .int d6, .int (nI (ub (f aa))), .int d8, .long d9, .int d10, .int d11])), (g0, .inr (5, [.ref g1, .int (nI n)])), (g1, .inl (kB, 150000, .inl f)), (f0, .inr (1, [.int 3, .int (nI aa)]))] := hD
      subst hv
      have hP9 := hP.sub (ws' := [(d0, .inr (2, [.ref g0, .ref e0, .ref f0, .ref k0, .int (nI aa), .int d5, .int d6, .int (nI (ub (f aa))), .int d8, .long d9, .int d10, .int d11])), (f0, .inr (1, [.int 3, .int (nI aa)])), (g0, .inr (5, [.ref g1, .int (nI n)])), (g1, .inl (kB, 150000, .inl f))]) [0, 3, 1, 2] rfl
      have hD9 := hD.sub (ws' := [(d0, .inr (2, [.ref g0, .ref e0, .ref f0, .ref k0, .int (nI aa), .int d5, .int d6, .int (nI (ub (f aa))), .int d8, .long d9, .int d10, .int d11])), (f0, .inr (1, [.int 3, .int (nI aa)])), (g0, .inr (5, [.ref g1, .int (nI n)])), (g1, .inl (kB, 150000, .inl f))]) [0, 3, 1, 2] (by decide) rfl
      exact W.zret (v := 0) hx hb hr (by decide) (fun t9 ht9 hW9 => ⟨⟨0, (aa, (nI (ub (f aa))), 3, (nI aa)), rfl, (show (aa + 1 ≤ n ∧ ub (f aa) / 64 = 1 ∧ ub (f aa) % 4 = 0 ∧ 0 = 1 ∧ aa = aa + 1 ∧ (nI (ub (f aa))) = nI (ub (f aa)) ∧ 3 = x1 ∧ (nI aa) = x2) ∨ (n < aa + 1 ∧ 0 = 0 ∧ 3 = 1 ∧ (nI aa) = nI n) ∨ (aa + 1 ≤ n ∧ ¬ (ub (f aa) / 64 = 1 ∧ ub (f aa) % 4 = 0) ∧ 0 = 0 ∧ 3 = 3 ∧ (nI aa) = nI aa) from (Or.inr (Or.inr ⟨by omega, fun h => c35 ((and195 _ hub).mpr h), rfl, rfl, rfl⟩))), by rw [ht9]; exact hP9, va_K.moved hW9.alike hK, hD9⟩, hS.F ht9⟩) hS.2.2 dX2_readFlags_50
  · refine lv_if_ne (tgt := 10) hx hb dX2_readFlags_5 (by decide) (fun c => absurd c (by decide)) (fun _ => ?_)
    refine lv_iconst (v := 0) hx hb dX2_readFlags_8 (by decide) ?_
    have hP9 := hP.sub (ws' := [(d0, .inr (2, [.ref g0, .ref e0, .ref f0, .ref k0, .int (nI aa), .int d5, .int d6, .int d7, .int d8, .long d9, .int d10, .int d11])), (f0, .inr (1, [.int fa3, .int fp3])), (g0, .inr (5, [.ref g1, .int (nI n)])), (g1, .inl (kB, 150000, .inl f))]) [1, 3, 2, 0] rfl
    have hD9 := hD.sub (ws' := [(d0, .inr (2, [.ref g0, .ref e0, .ref f0, .ref k0, .int (nI aa), .int d5, .int d6, .int d7, .int d8, .long d9, .int d10, .int d11])), (f0, .inr (1, [.int fa3, .int fp3])), (g0, .inr (5, [.ref g1, .int (nI n)])), (g1, .inl (kB, 150000, .inl f))]) [1, 3, 2, 0] (by decide) rfl
    exact W.zret (v := 0) hx hb hr (by decide) (fun t9 ht9 hW9 => ⟨⟨0, (aa, d7, fa3, fp3), rfl, (show (aa + 1 ≤ n ∧ ub (f aa) / 64 = 1 ∧ ub (f aa) % 4 = 0 ∧ 0 = 1 ∧ aa = aa + 1 ∧ d7 = nI (ub (f aa)) ∧ fa3 = x1 ∧ fp3 = x2) ∨ (n < aa + 1 ∧ 0 = 0 ∧ fa3 = 1 ∧ fp3 = nI n) ∨ (aa + 1 ≤ n ∧ ¬ (ub (f aa) / 64 = 1 ∧ ub (f aa) % 4 = 0) ∧ 0 = 0 ∧ fa3 = 3 ∧ fp3 = nI aa) from (Or.inr (Or.inl ⟨by omega, rfl, hfa, hfp⟩))), by rw [ht9]; exact hP9, va_K.moved hW9.alike hK, hD9⟩, hS.F ht9⟩) hS.2.2 dX2_readFlags_9
