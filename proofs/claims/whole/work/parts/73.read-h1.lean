set_option maxHeartbeats 4000000 in
set_option maxRecDepth 100000 in
theorem c_Frd_isThere (l : Launch) (dC : Nat → ClassId) (dI : Nat → Nat → Nat) (kB kI : ClassId) (d0 : Nat) (g0 : Nat) (e0 : Nat) (f0 : Nat) (k0 : Nat) (d5 : Int32) (d6 : Int32) (d7 : Int32) (d8 : Int32) (d9 : Int64) (d10 : Int32) (d11 : Int32) (x1 : Int32) (x2 : Int32) (g1 : Nat) (n : Nat) (aa : Nat) (w : Nat) (hn : n ≤ 150000) (ha : aa ≤ n) (hw9 : w < 2 ^ 62) : zMi l yX2_isThere wsX2_isThere ({ frames := 1, cells := 0, slots := 0, locals := 22 }) (dC, dI) kB kI [.ref d0, .long (lN w)] [(d0, .inr (2, [.ref g0, .ref e0, .ref f0, .ref k0, .int (nI aa), .int d5, .int d6, .int d7, .int d8, .long d9, .int d10, .int d11])), (g0, .inr (5, [.ref g1, .int (nI n)])), (f0, .inr (1, [.int x1, .int x2]))] 0 0 (fun (r : Int32) => fun uu : Int32 × Int32 => (r = 1 ∧ aa + w ≤ n ∧ uu.1 = x1 ∧ uu.2 = x2) ∨ (r = 0 ∧ n < aa + w ∧ uu.1 = 1 ∧ uu.2 = nI n)) (fun uu : Int32 × Int32 => [(d0, .inr (2, [.ref g0, .ref e0, .ref f0, .ref k0, .int (nI aa), .int d5, .int d6, .int d7, .int d8, .long d9, .int d10, .int d11])), (g0, .inr (5, [.ref g1, .int (nI n)])), (f0, .inr (1, [.int uu.1, .int uu.2]))]) := by
  intro sz
  refine Met.ofW (cc := cX2_isThere) (maxL := 3) (ret := (some .boolean)) (by decide) rfl ?_
  intro p e s m args below meth c s₁ B hml hv
  obtain ⟨rfl, hsz, hP, hK, hD0⟩ := hv
  have hx := B.exec
  have hb := B.bytes
  have hr := B.returns
  have hts := atoms_spec (ws := wsX2_isThere) B.pre
  have hown : s.vm.findClass RX2 = some m.cls := findClass_of_methodNamed B.named
  have hlocks := B.notSynchronized
  subst hsz
  have hD := hD0.self (sz := s.heap.size)
  generalize hAe : va_A [(d0, .inr (2, [.ref g0, .ref e0, .ref f0, .ref k0, .int (nI aa), .int d5, .int d6, .int d7, .int d8, .long d9, .int d10, .int d11])), (g0, .inr (5, [.ref g1, .int (nI n)])), (f0, .inr (1, [.int x1, .int x2]))] s.heap.size = A at hD ⊢
  have hA : ∀ q : Nat, s.heap.size ≤ q → A q := fun q h => by rw [← hAe]; exact Or.inr h
  have hS : va_S A s.heap s.heap [] := va_S.rf
  have hP : va_P (dC, dI) vwCl [(d0, .inr (2, [.ref g0, .ref e0, .ref f0, .ref k0, .int (nI aa), .int d5, .int d6, .int d7, .int d8, .long d9, .int d10, .int d11])), (g0, .inr (5, [.ref g1, .int (nI n)])), (f0, .inr (1, [.int x1, .int x2]))] s.heap := hP
  have hl := lv_entry ([.ref d0, .long (lN w)]) (n := 3) (Nat.le_of_ble_eq_true rfl)
  rw [lg_entry_eq]
  generalize (lg_sl ([.ref d0, .long (lN w)]) ++ List.replicate (3 - (lg_sl ([.ref d0, .long (lN w)])).length) Slot.unset).toArray = ls at hl ⊢
  have hl : lv_has ls 3 [(0, .ref d0), (1, .long (lN w))] := hl
  refine zG (fun GG hG1 hG2 => ?_)
  refine lv_lload_n hx hb dX2_isThere_0 rfl (lv_at hl 1 rfl) ?_
  refine lv_aload_n hx hb dX2_isThere_1 rfl (lv_at hl 0 rfl) ?_
  refine va_get (D := (dC, dI)) (ci := 2) (v := .ref g0) (C := RX2) (T := TX2) (N := 12) hx hb hts (by decide +kernel) hown hK hP 0 rfl rfl 0 (by decide) (hts (.fieldLink RX2 9 "SequenceFrames$FrameReader" "frames" "LSequenceFrames$Row;") (by decide +kernel)) (fun _ h9 => h9) rfl dX2_isThere_2 ?_
  refine va_get (D := (dC, dI)) (ci := 5) (v := .int (nI n)) (C := RX5) (T := TX5) (N := 2) hx hb hts (by decide +kernel) hown hK hP 1 rfl rfl 1 (by decide) (hts (.fieldLink RX2 31 "SequenceFrames$Row" "size" "I") (by decide +kernel)) (fun _ h9 => h9) rfl dX2_isThere_5 ?_
  refine lv_aload_n hx hb dX2_isThere_8 rfl (lv_at hl 0 rfl) ?_
  refine va_get (D := (dC, dI)) (ci := 2) (v := .int (nI aa)) (C := RX2) (T := TX2) (N := 12) hx hb hts (by decide +kernel) hown hK hP 0 rfl rfl 4 (by decide) (hts (.fieldLink RX2 41 "SequenceFrames$FrameReader" "at" "I") (by decide +kernel)) (fun _ h9 => h9) rfl dX2_isThere_9 ?_
  refine lv_isub hx hb dX2_isThere_12 ?_
  refine lv_is (y := (nI (n - aa))) ((zn_sub rfl rfl (by omega)).trans (congrArg nI (by omega))) ?_
  refine lv_i2l (v := (lN (n - aa))) hx hb dX2_isThere_13 (zln_i2l rfl (by omega)) ?_
  refine zb_lcmp_le (tgt := 36) (a := ((w : Nat) : Int)) (b := ((n - aa : Nat) : Int)) hx hb dX2_isThere_14 dX2_isThere_15 (by decide) (pk_lT (by omega)) (pk_lT (by omega)) (fun c15 => ?_) (fun c15 => ?_)
  · refine lv_iconst (v := 1) hx hb dX2_isThere_36 (by decide) ?_
    refine lv_goto (tgt := 41) hx hb dX2_isThere_37 (by decide) ?_
    have hP9 := hP.sub (ws' := [(d0, .inr (2, [.ref g0, .ref e0, .ref f0, .ref k0, .int (nI aa), .int d5, .int d6, .int d7, .int d8, .long d9, .int d10, .int d11])), (g0, .inr (5, [.ref g1, .int (nI n)])), (f0, .inr (1, [.int x1, .int x2]))]) [0, 1, 2] rfl
    have hD9 := hD.sub (ws' := [(d0, .inr (2, [.ref g0, .ref e0, .ref f0, .ref k0, .int (nI aa), .int d5, .int d6, .int d7, .int d8, .long d9, .int d10, .int d11])), (g0, .inr (5, [.ref g1, .int (nI n)])), (f0, .inr (1, [.int x1, .int x2]))]) [0, 1, 2] (by decide) rfl
    exact W.zret (v := 1) hx hb hr (by decide) (fun t9 ht9 hW9 => ⟨⟨1, (x1, x2), rfl, (show (1 = 1 ∧ aa + w ≤ n ∧ x1 = x1 ∧ x2 = x2) ∨ (1 = 0 ∧ n < aa + w ∧ x1 = 1 ∧ x2 = nI n) from (Or.inl ⟨rfl, by omega, rfl, rfl⟩)), by rw [ht9]; exact hP9, va_K.moved hW9.alike hK, hD9⟩, hS.F ht9⟩) hS.2.2 dX2_isThere_41
  · refine lv_aload_n hx hb dX2_isThere_18 rfl (lv_at hl 0 rfl) ?_
    refine va_get (D := (dC, dI)) (ci := 2) (v := .ref f0) (C := RX2) (T := TX2) (N := 12) hx hb hts (by decide +kernel) hown hK hP 0 rfl rfl 2 (by decide) (hts (.fieldLink RX2 18 "SequenceFrames$FrameReader" "fault" "LSequenceFrames$Fault;") (by decide +kernel)) (fun _ h9 => h9) rfl dX2_isThere_19 ?_
    refine lv_iconst (v := 1) hx hb dX2_isThere_22 (by decide) ?_
    refine lv_aload_n hx hb dX2_isThere_23 rfl (lv_at hl 0 rfl) ?_
    refine va_get (D := (dC, dI)) (ci := 2) (v := .ref g0) (C := RX2) (T := TX2) (N := 12) hx hb hts (by decide +kernel) hown hK hP 0 rfl rfl 0 (by decide) (hts (.fieldLink RX2 9 "SequenceFrames$FrameReader" "frames" "LSequenceFrames$Row;") (by decide +kernel)) (fun _ h9 => h9) rfl dX2_isThere_24 ?_
    refine va_get (D := (dC, dI)) (ci := 5) (v := .int (nI n)) (C := RX5) (T := TX5) (N := 2) hx hb hts (by decide +kernel) hown hK hP 1 rfl rfl 1 (by decide) (hts (.fieldLink RX2 31 "SequenceFrames$Row" "size" "I") (by decide +kernel)) (fun _ h9 => h9) rfl dX2_isThere_27 ?_
    refine z_calli (wr := [(d0, .inr (2, [.ref g0, .ref e0, .ref f0, .ref k0, .int (nI aa), .int d5, .int d6, .int d7, .int d8, .long d9, .int d10, .int d11])), (g0, .inr (5, [.ref g1, .int (nI n)]))]) (va_runV (As := [.int 1, .int (nI n)]) (rest := []) ⟨hx, hb, hml, hown, hts⟩ (c_Fault_refuse l dC dI kB kI f0 x1 x2 1 (nI n)  s.heap.size) (cwV 2 hts gX2_isThere_X1_refuse rfl rfl rfl (by decide +kernel) ⟨Nat.le_of_ble_eq_true rfl, Nat.le_of_ble_eq_true rfl⟩) (z_preV hK (hP.sub [2] rfl) (hD.sub [2] (by decide) rfl) (va_recv hK hP (ci := 1) (q0 := 2) rfl rfl)) rfl rfl hl.1 rfl (lv_room (Nat.le_of_ble_eq_true rfl)) dX2_isThere_30 ⟨Nat.le_of_ble_eq_true rfl, Nat.le_of_ble_eq_true rfl⟩) hK hP hD hS hA [2] [0, 1] rfl rfl (by decide) (by decide) (fun r1 uq2 H locs hw hP hD hS => ?_)
    replace hw : r1 = 0 := hw
    have hP : va_P (dC, dI) vwCl [(d0, .inr (2, [.ref g0, .ref e0, .ref f0, .ref k0, .int (nI aa), .int d5, .int d6, .int d7, .int d8, .long d9, .int d10, .int d11])), (g0, .inr (5, [.ref g1, .int (nI n)])), (f0, .inr (1, [.int 1, .int (nI n)]))] H := hP
    have hD : va_D A [(d0, .inr (2, [.ref g0, .ref e0, .ref f0, .ref k0, .int (nI aa), .int d5, .int d6, .int d7, .int d8, .long d9, .int d10, .int d11])), (g0, .inr (5, [.ref g1, .int (nI n)])), (f0, .inr (1, [.int 1, .int (nI n)]))] := hD
    subst hw
    refine lv_if_eq (tgt := 40) hx hb dX2_isThere_33 (by decide) (fun _ => ?_) (fun c => absurd c (by decide))
    refine lv_iconst (v := 0) hx hb dX2_isThere_40 (by decide) ?_
    have hP9 := hP.sub (ws' := [(d0, .inr (2, [.ref g0, .ref e0, .ref f0, .ref k0, .int (nI aa), .int d5, .int d6, .int d7, .int d8, .long d9, .int d10, .int d11])), (g0, .inr (5, [.ref g1, .int (nI n)])), (f0, .inr (1, [.int 1, .int (nI n)]))]) [0, 1, 2] rfl
    have hD9 := hD.sub (ws' := [(d0, .inr (2, [.ref g0, .ref e0, .ref f0, .ref k0, .int (nI aa), .int d5, .int d6, .int d7, .int d8, .long d9, .int d10, .int d11])), (g0, .inr (5, [.ref g1, .int (nI n)])), (f0, .inr (1, [.int 1, .int (nI n)]))]) [0, 1, 2] (by decide) rfl
    exact W.zret (v := 0) hx hb hr (by decide) (fun t9 ht9 hW9 => ⟨⟨0, (1, (nI n)), rfl, (show (0 = 1 ∧ aa + w ≤ n ∧ 1 = x1 ∧ (nI n) = x2) ∨ (0 = 0 ∧ n < aa + w ∧ 1 = 1 ∧ (nI n) = nI n) from (Or.inr ⟨rfl, by omega, rfl, rfl⟩)), by rw [ht9]; exact hP9, va_K.moved hW9.alike hK, hD9⟩, hS.F ht9⟩) hS.2.2 dX2_isThere_41
