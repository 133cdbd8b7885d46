set_option maxHeartbeats 4000000 in
set_option maxRecDepth 100000 in
theorem c_Blk_mayGrowBy (l : Launch) (dC : Nat → ClassId) (dI : Nat → Nat → Nat) (kB kI : ClassId) (k0 : Nat) (g0 : Nat) (e0 : Nat) (f0 : Nat) (k3 : Int32) (k4 : Int32) (k5 : Int32) (k8 : Int32) (k9 : Int32) (k10 : Int32) (k11 : Int32) (k12 : Int32) (mo : Nat) (bb : Nat) (e1 : Nat) (oo : Nat → Int32) (zz : Nat) (w : Nat) (hz : zz ≤ 140000) (hb9 : bb ≤ zz) (hmo : mo ≤ 5000000) (hw9 : w ≤ 100000000) : zMi l yX0_mayGrowBy wsX0_mayGrowBy ({ frames := 1, cells := 0, slots := 0, locals := 20 }) (dC, dI) kB kI [.ref k0, .int (nI w)] [(k0, .inr (0, [.ref g0, .ref e0, .ref f0, .int k3, .int k4, .int k5, .int (nI mo), .int (nI bb), .int k8, .int k9, .int k10, .int k11, .int k12])), (e0, .inr (5, [.ref e1, .int (nI zz)])), (e1, .inl (kB, 140000, .inl oo))] 0 0 (fun (r : Int32) => fun _ : Unit => (r = 1 ∧ zz - bb + w ≤ mo ∧ zz + w ≤ 140000) ∨ (r = 0 ∧ (mo < zz - bb + w ∨ 140000 < zz + w))) (fun _ : Unit => [(k0, .inr (0, [.ref g0, .ref e0, .ref f0, .int k3, .int k4, .int k5, .int (nI mo), .int (nI bb), .int k8, .int k9, .int k10, .int k11, .int k12])), (e0, .inr (5, [.ref e1, .int (nI zz)])), (e1, .inl (kB, 140000, .inl oo))]) := by
  intro sz
  refine Met.ofW (cc := cX0_mayGrowBy) (maxL := 2) (ret := (some .boolean)) (by decide) rfl ?_
  intro p e s m args below meth c s₁ B hml hv
  obtain ⟨rfl, hsz, hP, hK, hD0⟩ := hv
  have hx := B.exec
  have hb := B.bytes
  have hr := B.returns
  have hts := atoms_spec (ws := wsX0_mayGrowBy) B.pre
  have hown : s.vm.findClass RX0 = some m.cls := findClass_of_methodNamed B.named
  have hlocks := B.notSynchronized
  subst hsz
  have hD := hD0.self (sz := s.heap.size)
  generalize hAe : va_A [(k0, .inr (0, [.ref g0, .ref e0, .ref f0, .int k3, .int k4, .int k5, .int (nI mo), .int (nI bb), .int k8, .int k9, .int k10, .int k11, .int k12])), (e0, .inr (5, [.ref e1, .int (nI zz)])), (e1, .inl (kB, 140000, .inl oo))] s.heap.size = A at hD ⊢
  have hA : ∀ q : Nat, s.heap.size ≤ q → A q := fun q h => by rw [← hAe]; exact Or.inr h
  have hS : va_S A s.heap s.heap [] := va_S.rf
  have hP : va_P (dC, dI) vwCl [(k0, .inr (0, [.ref g0, .ref e0, .ref f0, .int k3, .int k4, .int k5, .int (nI mo), .int (nI bb), .int k8, .int k9, .int k10, .int k11, .int k12])), (e0, .inr (5, [.ref e1, .int (nI zz)])), (e1, .inl (kB, 140000, .inl oo))] s.heap := hP
  have hl := lv_entry ([.ref k0, .int (nI w)]) (n := 2) (Nat.le_of_ble_eq_true rfl)
  rw [lg_entry_eq]
  generalize (lg_sl ([.ref k0, .int (nI w)]) ++ List.replicate (2 - (lg_sl ([.ref k0, .int (nI w)])).length) Slot.unset).toArray = ls at hl ⊢
  have hl : lv_has ls 2 [(0, .ref k0), (1, .int (nI w))] := hl
  refine zG (fun GG hG1 hG2 => ?_)
  refine lv_iload_n hx hb dX0_mayGrowBy_0 rfl (lv_at hl 1 rfl) ?_
  refine lv_aload_n hx hb dX0_mayGrowBy_1 rfl (lv_at hl 0 rfl) ?_
  refine va_get (D := (dC, dI)) (ci := 0) (v := .int (nI mo)) (C := RX0) (T := TX0) (N := 13) hx hb hts (by decide +kernel) hown hK hP 0 rfl rfl 6 (by decide) (hts (.fieldLink RX0 43 "SequenceFrames$BlockReader" "most" "I") (by decide +kernel)) (fun _ h9 => h9) rfl dX0_mayGrowBy_2 ?_
  refine lv_aload_n hx hb dX0_mayGrowBy_5 rfl (lv_at hl 0 rfl) ?_
  refine va_get (D := (dC, dI)) (ci := 0) (v := .ref e0) (C := RX0) (T := TX0) (N := 13) hx hb hts (by decide +kernel) hown hK hP 0 rfl rfl 1 (by decide) (hts (.fieldLink RX0 15 "SequenceFrames$BlockReader" "output" "LSequenceFrames$Row;") (by decide +kernel)) (fun _ h9 => h9) rfl dX0_mayGrowBy_6 ?_
  refine va_get (D := (dC, dI)) (ci := 5) (v := .int (nI zz)) (C := RX5) (T := TX5) (N := 2) hx hb hts (by decide +kernel) hown hK hP 1 rfl rfl 1 (by decide) (hts (.fieldLink RX0 29 "SequenceFrames$Row" "size" "I") (by decide +kernel)) (fun _ h9 => h9) rfl dX0_mayGrowBy_9 ?_
  refine lv_aload_n hx hb dX0_mayGrowBy_12 rfl (lv_at hl 0 rfl) ?_
  refine va_get (D := (dC, dI)) (ci := 0) (v := .int (nI bb)) (C := RX0) (T := TX0) (N := 13) hx hb hts (by decide +kernel) hown hK hP 0 rfl rfl 7 (by decide) (hts (.fieldLink RX0 46 "SequenceFrames$BlockReader" "blockStart" "I") (by decide +kernel)) (fun _ h9 => h9) rfl dX0_mayGrowBy_13 ?_
  refine lv_isub hx hb dX0_mayGrowBy_16 ?_
  refine lv_isub hx hb dX0_mayGrowBy_17 ?_
  refine zb_icmp_gt (tgt := 36) (a := ((w : Nat) : Int)) (b := (((mo : Nat) : Int) - (((zz : Nat) : Int) - ((bb : Nat) : Int)))) hx hb dX0_mayGrowBy_18 (by decide) (nI_toInt (by omega)) (zi_sub (nI_toInt (by omega)) (zi_sub (nI_toInt (by omega)) (nI_toInt (by omega)) (by omega) (by omega)) (by omega) (by omega)) (fun c18 => ?_) (fun c18 => ?_)
  · refine lv_iconst (v := 0) hx hb dX0_mayGrowBy_36 (by decide) ?_
    have hP9 := hP.sub (ws' := [(k0, .inr (0, [.ref g0, .ref e0, .ref f0, .int k3, .int k4, .int k5, .int (nI mo), .int (nI bb), .int k8, .int k9, .int k10, .int k11, .int k12])), (e0, .inr (5, [.ref e1, .int (nI zz)])), (e1, .inl (kB, 140000, .inl oo))]) [0, 1, 2] rfl
    have hD9 := hD.sub (ws' := [(k0, .inr (0, [.ref g0, .ref e0, .ref f0, .int k3, .int k4, .int k5, .int (nI mo), .int (nI bb), .int k8, .int k9, .int k10, .int k11, .int k12])), (e0, .inr (5, [.ref e1, .int (nI zz)])), (e1, .inl (kB, 140000, .inl oo))]) [0, 1, 2] (by decide) rfl
    exact W.zret (v := 0) hx hb hr (by decide) (fun t9 ht9 hW9 => ⟨⟨0, (), rfl, (Or.inr ⟨rfl, by omega⟩), by rw [ht9]; exact hP9, va_K.moved hW9.alike hK, hD9⟩, hS.F ht9⟩) hS.2.2 dX0_mayGrowBy_37
  · refine lv_iload_n hx hb dX0_mayGrowBy_21 rfl (lv_at hl 1 rfl) ?_
    refine lv_aload_n hx hb dX0_mayGrowBy_22 rfl (lv_at hl 0 rfl) ?_
    refine va_get (D := (dC, dI)) (ci := 0) (v := .ref e0) (C := RX0) (T := TX0) (N := 13) hx hb hts (by decide +kernel) hown hK hP 0 rfl rfl 1 (by decide) (hts (.fieldLink RX0 15 "SequenceFrames$BlockReader" "output" "LSequenceFrames$Row;") (by decide +kernel)) (fun _ h9 => h9) rfl dX0_mayGrowBy_23 ?_
    refine z_calli (wr := [(k0, .inr (0, [.ref g0, .ref e0, .ref f0, .int k3, .int k4, .int k5, .int (nI mo), .int (nI bb), .int k8, .int k9, .int k10, .int k11, .int k12]))]) (va_runV (As := []) (rest := [.int (nI w)]) ⟨hx, hb, hml, hown, hts⟩ (c_Row_room l dC dI kB kI e0 e1 140000 zz oo (by omega) (by omega) s.heap.size) (cwV 0 hts gX0_mayGrowBy_X5_room rfl rfl rfl (by decide +kernel) ⟨Nat.le_of_ble_eq_true rfl, Nat.le_of_ble_eq_true rfl⟩) (z_preV hK (hP.sub [1, 2] rfl) (hD.sub [1, 2] (by decide) rfl) (va_recv hK hP (ci := 5) (q0 := 1) rfl rfl)) rfl rfl hl.1 rfl (lv_room (Nat.le_of_ble_eq_true rfl)) dX0_mayGrowBy_26 ⟨Nat.le_of_ble_eq_true rfl, Nat.le_of_ble_eq_true rfl⟩) hK hP hD hS hA [1, 2] [0] rfl rfl (by decide) (by decide) (fun r1 uq2 H locs hw hP hD hS => ?_)
    replace hw : r1 = nI (140000 - zz) := hw
    have hP : va_P (dC, dI) vwCl [(k0, .inr (0, [.ref g0, .ref e0, .ref f0, .int k3, .int k4, .int k5, .int (nI mo), .int (nI bb), .int k8, .int k9, .int k10, .int k11, .int k12])), (e0, .inr (5, [.ref e1, .int (nI zz)])), (e1, .inl (kB, 140000, .inl oo))] H := hP
    have hD : va_D A [(k0, .inr (0, [.ref g0, .ref e0, .ref f0, .int k3, .int k4, .int k5, .int (nI mo), .int (nI bb), .int k8, .int k9, .int k10, .int k11, .int k12])), (e0, .inr (5, [.ref e1, .int (nI zz)])), (e1, .inl (kB, 140000, .inl oo))] := hD
    subst hw
    refine zb_icmp_gt (tgt := 36) (a := ((w : Nat) : Int)) (b := ((140000 - zz : Nat) : Int)) hx hb dX0_mayGrowBy_29 (by decide) (nI_toInt (by omega)) (nI_toInt (by omega)) (fun c29 => ?_) (fun c29 => ?_)
    · refine lv_iconst (v := 0) hx hb dX0_mayGrowBy_36 (by decide) ?_
      have hP9 := hP.sub (ws' := [(k0, .inr (0, [.ref g0, .ref e0, .ref f0, .int k3, .int k4, .int k5, .int (nI mo), .int (nI bb), .int k8, .int k9, .int k10, .int k11, .int k12])), (e0, .inr (5, [.ref e1, .int (nI zz)])), (e1, .inl (kB, 140000, .inl oo))]) [0, 1, 2] rfl
      have hD9 := hD.sub (ws' := [(k0, .inr (0, [.ref g0, .ref e0, .ref f0, .int k3, .int k4, .int k5, .int (nI mo), .int (nI bb), .int k8, .int k9, .int k10, .int k11, .int k12])), (e0, .inr (5, [.ref e1, .int (nI zz)])), (e1, .inl (kB, 140000, .inl oo))]) [0, 1, 2] (by decide) rfl
      exact W.zret (v := 0) hx hb hr (by decide) (fun t9 ht9 hW9 => ⟨⟨0, (), rfl, (Or.inr ⟨rfl, by omega⟩), by rw [ht9]; exact hP9, va_K.moved hW9.alike hK, hD9⟩, hS.F ht9⟩) hS.2.2 dX0_mayGrowBy_37
    · refine lv_iconst (v := 1) hx hb dX0_mayGrowBy_32 (by decide) ?_
      refine lv_goto (tgt := 37) hx hb dX0_mayGrowBy_33 (by decide) ?_
      have hP9 := hP.sub (ws' := [(k0, .inr (0, [.ref g0, .ref e0, .ref f0, .int k3, .int k4, .int k5, .int (nI mo), .int (nI bb), .int k8, .int k9, .int k10, .int k11, .int k12])), (e0, .inr (5, [.ref e1, .int (nI zz)])), (e1, .inl (kB, 140000, .inl oo))]) [0, 1, 2] rfl
      have hD9 := hD.sub (ws' := [(k0, .inr (0, [.ref g0, .ref e0, .ref f0, .int k3, .int k4, .int k5, .int (nI mo), .int (nI bb), .int k8, .int k9, .int k10, .int k11, .int k12])), (e0, .inr (5, [.ref e1, .int (nI zz)])), (e1, .inl (kB, 140000, .inl oo))]) [0, 1, 2] (by decide) rfl
      exact W.zret (v := 1) hx hb hr (by decide) (fun t9 ht9 hW9 => ⟨⟨1, (), rfl, (Or.inl ⟨rfl, by omega, by omega⟩), by rw [ht9]; exact hP9, va_K.moved hW9.alike hK, hD9⟩, hS.F ht9⟩) hS.2.2 dX0_mayGrowBy_37
