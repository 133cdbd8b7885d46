set_option maxHeartbeats 4000000 in
set_option maxRecDepth 100000 in
theorem c_Flt_init (l : Launch) (dC : Nat → ClassId) (dI : Nat → Nat → Nat) (kB kI : ClassId) (f0 : Nat)  : zMv l yX1_init wsX1_init ({ frames := 1, cells := 0, slots := 0, locals := 16 }) (dC, dI) kB kI [.ref f0] [(f0, .inr (1, [.int 0, .int 0]))] 0 0 (fun _ : Unit => True) (fun _ : Unit => [(f0, .inr (1, [.int 0, .int (-1)]))]) := by
  intro sz
  refine Met.ofW (cc := cX1_init) (maxL := 1) (ret := none) (by decide) rfl ?_
  intro p e s m args below meth c s₁ B hml hv
  obtain ⟨rfl, hsz, hP, hK, hD0⟩ := hv
  have hx := B.exec
  have hb := B.bytes
  have hr := B.returns
  have hts := atoms_spec (ws := wsX1_init) B.pre
  have hown : s.vm.findClass RX1 = some m.cls := findClass_of_methodNamed B.named
  have hlocks := B.notSynchronized
  have hin : meth.name = "<init>" := (name_of_methodNamed B.named B.method).1
  subst hsz
  have hD := hD0.self (sz := s.heap.size)
  generalize hAe : va_A [(f0, .inr (1, [.int 0, .int 0]))] s.heap.size = A at hD ⊢
  have hA : ∀ q : Nat, s.heap.size ≤ q → A q := fun q h => by rw [← hAe]; exact Or.inr h
  have hS : va_S A s.heap s.heap [] := va_S.rf
  have hP : va_P (dC, dI) vwCl [(f0, .inr (1, [.int 0, .int 0]))] s.heap := hP
  have hl := lv_entry ([.ref f0]) (n := 1) (Nat.le_of_ble_eq_true rfl)
  rw [lg_entry_eq]
  generalize (lg_sl ([.ref f0]) ++ List.replicate (1 - (lg_sl ([.ref f0])).length) Slot.unset).toArray = ls at hl ⊢
  have hl : lv_has ls 1 [(0, .ref f0)] := hl
  refine zG (fun GG hG1 hG2 => ?_)
  refine lv_aload_n hx hb dX1_init_0 rfl (lv_at hl 0 rfl) ?_
  refine W.objInit hx hb hown (hts (.methodLink RX1 3 objectInit) (by decide +kernel)) (hts (.instanceMethod objectInit) (by decide +kernel)) (hts (.code objectInit ⟨#[0xb1]⟩ 1 none) (List.mem_of_getElem? (i := 3) rfl)) rfl (by rw [hml]; exact hl.1) rfl dX1_init_1 (Nat.le_of_ble_eq_true rfl) (Nat.le_of_ble_eq_true rfl) ?_
  refine W.eq (g2 := F0 m 4 ls []) rfl ?_
  refine lv_aload_n hx hb dX1_init_4 rfl (lv_at hl 0 rfl) ?_
  refine lv_iconst (v := (-1)) hx hb dX1_init_5 (by decide) ?_
  refine va_put (D := (dC, dI)) (ci := 1) (v := .int (-1)) (ty := .int) (C := RX1) (T := TX1) (N := 2) hx hb hts (by decide +kernel) tyX1 tyX1_ok nmX1 hown hK hP hD hS 0 rfl rfl 1 (by decide) (hts (.fieldLink RX1 9 "SequenceFrames$Fault" "where" "I") (by decide +kernel)) (fun _ h9 => h9) rfl (by decide +kernel) rfl rfl (Nat.le_of_ble_eq_true rfl) dX1_init_6 (fun H locs hP hD hS => ?_)
  have hP : va_P (dC, dI) vwCl [(f0, .inr (1, [.int 0, .int (-1)]))] H := hP
  have hD : va_D A [(f0, .inr (1, [.int 0, .int (-1)]))] := hD
  have hP9 := hP.sub (ws' := [(f0, .inr (1, [.int 0, .int (-1)]))]) [0] rfl
  have hD9 := hD.sub (ws' := [(f0, .inr (1, [.int 0, .int (-1)]))]) [0] (by decide) rfl
  exact W.vret hx hb hr (fun t9 ht9 hW9 => ⟨⟨(), rfl, trivial, by rw [ht9]; exact hP9, va_K.moved hW9.alike hK, hD9⟩, hS.F ht9⟩) hS.2.2 dX1_init_9

set_option maxHeartbeats 4000000 in
set_option maxRecDepth 100000 in
theorem c_Blk_init (l : Launch) (dC : Nat → ClassId) (dI : Nat → Nat → Nat) (kB kI : ClassId) (k0 : Nat) (g0 : Nat) (e0 : Nat) (f0 : Nat)  : zMv l yX0_init wsX0_init ({ frames := 1, cells := 0, slots := 0, locals := 16 }) (dC, dI) kB kI [.ref k0, .ref g0, .ref e0, .ref f0] [(k0, .inr (0, [.null, .null, .null, .int 0, .int 0, .int 0, .int 0, .int 0, .int 0, .int 0, .int 0, .int 0, .int 0]))] 0 0 (fun _ : Unit => True) (fun _ : Unit => [(k0, .inr (0, [.ref g0, .ref e0, .ref f0, .int 0, .int 0, .int 0, .int 0, .int 0, .int 0, .int 0, .int 0, .int 0, .int 0]))]) := by
  intro sz
  refine Met.ofW (cc := cX0_init) (maxL := 4) (ret := none) (by decide) rfl ?_
  intro p e s m args below meth c s₁ B hml hv
  obtain ⟨rfl, hsz, hP, hK, hD0⟩ := hv
  have hx := B.exec
  have hb := B.bytes
  have hr := B.returns
  have hts := atoms_spec (ws := wsX0_init) B.pre
  have hown : s.vm.findClass RX0 = some m.cls := findClass_of_methodNamed B.named
  have hlocks := B.notSynchronized
  have hin : meth.name = "<init>" := (name_of_methodNamed B.named B.method).1
  subst hsz
  have hD := hD0.self (sz := s.heap.size)
  generalize hAe : va_A [(k0, .inr (0, [.null, .null, .null, .int 0, .int 0, .int 0, .int 0, .int 0, .int 0, .int 0, .int 0, .int 0, .int 0]))] s.heap.size = A at hD ⊢
  have hA : ∀ q : Nat, s.heap.size ≤ q → A q := fun q h => by rw [← hAe]; exact Or.inr h
  have hS : va_S A s.heap s.heap [] := va_S.rf
  have hP : va_P (dC, dI) vwCl [(k0, .inr (0, [.null, .null, .null, .int 0, .int 0, .int 0, .int 0, .int 0, .int 0, .int 0, .int 0, .int 0, .int 0]))] s.heap := hP
  have hl := lv_entry ([.ref k0, .ref g0, .ref e0, .ref f0]) (n := 4) (Nat.le_of_ble_eq_true rfl)
  rw [lg_entry_eq]
  generalize (lg_sl ([.ref k0, .ref g0, .ref e0, .ref f0]) ++ List.replicate (4 - (lg_sl ([.ref k0, .ref g0, .ref e0, .ref f0])).length) Slot.unset).toArray = ls at hl ⊢
  have hl : lv_has ls 4 [(0, .ref k0), (1, .ref g0), (2, .ref e0), (3, .ref f0)] := hl
  refine zG (fun GG hG1 hG2 => ?_)
  refine lv_aload_n hx hb dX0_init_0 rfl (lv_at hl 0 rfl) ?_
  refine W.objInit hx hb hown (hts (.methodLink RX0 3 objectInit) (by decide +kernel)) (hts (.instanceMethod objectInit) (by decide +kernel)) (hts (.code objectInit ⟨#[0xb1]⟩ 1 none) (List.mem_of_getElem? (i := 3) rfl)) rfl (by rw [hml]; exact hl.1) rfl dX0_init_1 (Nat.le_of_ble_eq_true rfl) (Nat.le_of_ble_eq_true rfl) ?_
  refine W.eq (g2 := F0 m 4 ls []) rfl ?_
  refine lv_aload_n hx hb dX0_init_4 rfl (lv_at hl 0 rfl) ?_
  refine lv_aload_n hx hb dX0_init_5 rfl (lv_at hl 1 rfl) ?_
  refine va_putF (D := (dC, dI)) (ci := 0) (v := .ref g0) (ty := .object "SequenceFrames$Row") (C := RX0) (T := TX0) (N := 13) hx hb hts (by decide +kernel) tyX0 tyX0_ok nmX0 hown hK hP hD hS 0 rfl rfl 0 (by decide) (hts (.fieldLink RX0 9 "SequenceFrames$BlockReader" "frames" "LSequenceFrames$Row;") (by decide +kernel)) (fun _ h9 => h9) rfl hin rfl (by decide +kernel) rfl rfl (Nat.le_of_ble_eq_true rfl) dX0_init_6 (fun H locs hP hD hS => ?_)
  have hP : va_P (dC, dI) vwCl [(k0, .inr (0, [.ref g0, .null, .null, .int 0, .int 0, .int 0, .int 0, .int 0, .int 0, .int 0, .int 0, .int 0, .int 0]))] H := hP
  have hD : va_D A [(k0, .inr (0, [.ref g0, .null, .null, .int 0, .int 0, .int 0, .int 0, .int 0, .int 0, .int 0, .int 0, .int 0, .int 0]))] := hD
  refine lv_aload_n hx hb dX0_init_9 rfl (lv_at hl 0 rfl) ?_
  refine lv_aload_n hx hb dX0_init_10 rfl (lv_at hl 2 rfl) ?_
  refine va_putF (D := (dC, dI)) (ci := 0) (v := .ref e0) (ty := .object "SequenceFrames$Row") (C := RX0) (T := TX0) (N := 13) hx hb hts (by decide +kernel) tyX0 tyX0_ok nmX0 hown hK hP hD hS 0 rfl rfl 1 (by decide) (hts (.fieldLink RX0 15 "SequenceFrames$BlockReader" "output" "LSequenceFrames$Row;") (by decide +kernel)) (fun _ h9 => h9) rfl hin rfl (by decide +kernel) rfl rfl (Nat.le_of_ble_eq_true rfl) dX0_init_11 (fun H locs hP hD hS => ?_)
  have hP : va_P (dC, dI) vwCl [(k0, .inr (0, [.ref g0, .ref e0, .null, .int 0, .int 0, .int 0, .int 0, .int 0, .int 0, .int 0, .int 0, .int 0, .int 0]))] H := hP
  have hD : va_D A [(k0, .inr (0, [.ref g0, .ref e0, .null, .int 0, .int 0, .int 0, .int 0, .int 0, .int 0, .int 0, .int 0, .int 0, .int 0]))] := hD
  refine lv_aload_n hx hb dX0_init_14 rfl (lv_at hl 0 rfl) ?_
  refine lv_aload_n hx hb dX0_init_15 rfl (lv_at hl 3 rfl) ?_
  refine va_putF (D := (dC, dI)) (ci := 0) (v := .ref f0) (ty := .object "SequenceFrames$Fault") (C := RX0) (T := TX0) (N := 13) hx hb hts (by decide +kernel) tyX0 tyX0_ok nmX0 hown hK hP hD hS 0 rfl rfl 2 (by decide) (hts (.fieldLink RX0 18 "SequenceFrames$BlockReader" "fault" "LSequenceFrames$Fault;") (by decide +kernel)) (fun _ h9 => h9) rfl hin rfl (by decide +kernel) rfl rfl (Nat.le_of_ble_eq_true rfl) dX0_init_16 (fun H locs hP hD hS => ?_)
  have hP : va_P (dC, dI) vwCl [(k0, .inr (0, [.ref g0, .ref e0, .ref f0, .int 0, .int 0, .int 0, .int 0, .int 0, .int 0, .int 0, .int 0, .int 0, .int 0]))] H := hP
  have hD : va_D A [(k0, .inr (0, [.ref g0, .ref e0, .ref f0, .int 0, .int 0, .int 0, .int 0, .int 0, .int 0, .int 0, .int 0, .int 0, .int 0]))] := hD
  have hP9 := hP.sub (ws' := [(k0, .inr (0, [.ref g0, .ref e0, .ref f0, .int 0, .int 0, .int 0, .int 0, .int 0, .int 0, .int 0, .int 0, .int 0, .int 0]))]) [0] rfl
  have hD9 := hD.sub (ws' := [(k0, .inr (0, [.ref g0, .ref e0, .ref f0, .int 0, .int 0, .int 0, .int 0, .int 0, .int 0, .int 0, .int 0, .int 0, .int 0]))]) [0] (by decide) rfl
  exact W.vret hx hb hr (fun t9 ht9 hW9 => ⟨⟨(), rfl, trivial, by rw [ht9]; exact hP9, va_K.moved hW9.alike hK, hD9⟩, hS.F ht9⟩) hS.2.2 dX0_init_19

set_option maxHeartbeats 4000000 in
set_option maxRecDepth 100000 in
theorem c_Frd_init (l : Launch) (dC : Nat → ClassId) (dI : Nat → Nat → Nat) (kB kI : ClassId) (d0 : Nat) (g0 : Nat) (e0 : Nat) (f0 : Nat)  : zMv l yX2_init wsX2_init ({ frames := 2, cells := 1, slots := 13, locals := 39 }) (dC, dI) kB kI [.ref d0, .ref g0, .ref e0, .ref f0] [(d0, .inr (2, [.null, .null, .null, .null, .int 0, .int 0, .int 0, .int 0, .int 0, .long 0, .int 0, .int 0]))] 1 13 (fun q0 : Nat => True) (fun q0 : Nat => [(d0, .inr (2, [.ref g0, .ref e0, .ref f0, .ref q0, .int 0, .int 0, .int 0, .int 0, .int 0, .long 0, .int 0, .int 0])), (q0, .inr (0, [.ref g0, .ref e0, .ref f0, .int 0, .int 0, .int 0, .int 0, .int 0, .int 0, .int 0, .int 0, .int 0, .int 0]))]) := by
  intro sz
  refine Met.ofW (cc := cX2_init) (maxL := 4) (ret := none) (by decide) rfl ?_
  intro p e s m args below meth c s₁ B hml hv
  obtain ⟨rfl, hsz, hP, hK, hD0⟩ := hv
  have hx := B.exec
  have hb := B.bytes
  have hr := B.returns
  have hts := atoms_spec (ws := wsX2_init) B.pre
  have hown : s.vm.findClass RX2 = some m.cls := findClass_of_methodNamed B.named
  have hlocks := B.notSynchronized
  have hin : meth.name = "<init>" := (name_of_methodNamed B.named B.method).1
  subst hsz
  have hD := hD0.self (sz := s.heap.size)
  generalize hAe : va_A [(d0, .inr (2, [.null, .null, .null, .null, .int 0, .int 0, .int 0, .int 0, .int 0, .long 0, .int 0, .int 0]))] s.heap.size = A at hD ⊢
  have hA : ∀ q : Nat, s.heap.size ≤ q → A q := fun q h => by rw [← hAe]; exact Or.inr h
  have hS : va_S A s.heap s.heap [] := va_S.rf
  have hP : va_P (dC, dI) vwCl [(d0, .inr (2, [.null, .null, .null, .null, .int 0, .int 0, .int 0, .int 0, .int 0, .long 0, .int 0, .int 0]))] s.heap := hP
  have hl := lv_entry ([.ref d0, .ref g0, .ref e0, .ref f0]) (n := 4) (Nat.le_of_ble_eq_true rfl)
  rw [lg_entry_eq]
  generalize (lg_sl ([.ref d0, .ref g0, .ref e0, .ref f0]) ++ List.replicate (4 - (lg_sl ([.ref d0, .ref g0, .ref e0, .ref f0])).length) Slot.unset).toArray = ls at hl ⊢
  have hl : lv_has ls 4 [(0, .ref d0), (1, .ref g0), (2, .ref e0), (3, .ref f0)] := hl
  refine zG (fun GG hG1 hG2 => ?_)
  refine lv_aload_n hx hb dX2_init_0 rfl (lv_at hl 0 rfl) ?_
  refine W.objInit hx hb hown (hts (.methodLink RX2 3 objectInit) (by decide +kernel)) (hts (.instanceMethod objectInit) (by decide +kernel)) (hts (.code objectInit ⟨#[0xb1]⟩ 1 none) (List.mem_of_getElem? (i := 3) rfl)) rfl (by rw [hml]; exact hl.1) rfl dX2_init_1 (Nat.le_of_ble_eq_true rfl) (Nat.le_of_ble_eq_true rfl) ?_
  refine W.eq (g2 := F0 m 4 ls []) rfl ?_
  refine lv_aload_n hx hb dX2_init_4 rfl (lv_at hl 0 rfl) ?_
  refine lv_aload_n hx hb dX2_init_5 rfl (lv_at hl 1 rfl) ?_
  refine va_putF (D := (dC, dI)) (ci := 2) (v := .ref g0) (ty := .object "SequenceFrames$Row") (C := RX2) (T := TX2) (N := 12) hx hb hts (by decide +kernel) tyX2 tyX2_ok nmX2 hown hK hP hD hS 0 rfl rfl 0 (by decide) (hts (.fieldLink RX2 9 "SequenceFrames$FrameReader" "frames" "LSequenceFrames$Row;") (by decide +kernel)) (fun _ h9 => h9) rfl hin rfl (by decide +kernel) rfl rfl (Nat.le_of_ble_eq_true rfl) dX2_init_6 (fun H locs hP hD hS => ?_)
  have hP : va_P (dC, dI) vwCl [(d0, .inr (2, [.ref g0, .null, .null, .null, .int 0, .int 0, .int 0, .int 0, .int 0, .long 0, .int 0, .int 0]))] H := hP
  have hD : va_D A [(d0, .inr (2, [.ref g0, .null, .null, .null, .int 0, .int 0, .int 0, .int 0, .int 0, .long 0, .int 0, .int 0]))] := hD
  refine lv_aload_n hx hb dX2_init_9 rfl (lv_at hl 0 rfl) ?_
  refine lv_aload_n hx hb dX2_init_10 rfl (lv_at hl 2 rfl) ?_
  refine va_putF (D := (dC, dI)) (ci := 2) (v := .ref e0) (ty := .object "SequenceFrames$Row") (C := RX2) (T := TX2) (N := 12) hx hb hts (by decide +kernel) tyX2 tyX2_ok nmX2 hown hK hP hD hS 0 rfl rfl 1 (by decide) (hts (.fieldLink RX2 15 "SequenceFrames$FrameReader" "output" "LSequenceFrames$Row;") (by decide +kernel)) (fun _ h9 => h9) rfl hin rfl (by decide +kernel) rfl rfl (Nat.le_of_ble_eq_true rfl) dX2_init_11 (fun H locs hP hD hS => ?_)
  have hP : va_P (dC, dI) vwCl [(d0, .inr (2, [.ref g0, .ref e0, .null, .null, .int 0, .int 0, .int 0, .int 0, .int 0, .long 0, .int 0, .int 0]))] H := hP
  have hD : va_D A [(d0, .inr (2, [.ref g0, .ref e0, .null, .null, .int 0, .int 0, .int 0, .int 0, .int 0, .long 0, .int 0, .int 0]))] := hD
  refine lv_aload_n hx hb dX2_init_14 rfl (lv_at hl 0 rfl) ?_
  refine lv_aload_n hx hb dX2_init_15 rfl (lv_at hl 3 rfl) ?_
  refine va_putF (D := (dC, dI)) (ci := 2) (v := .ref f0) (ty := .object "SequenceFrames$Fault") (C := RX2) (T := TX2) (N := 12) hx hb hts (by decide +kernel) tyX2 tyX2_ok nmX2 hown hK hP hD hS 0 rfl rfl 2 (by decide) (hts (.fieldLink RX2 18 "SequenceFrames$FrameReader" "fault" "LSequenceFrames$Fault;") (by decide +kernel)) (fun _ h9 => h9) rfl hin rfl (by decide +kernel) rfl rfl (Nat.le_of_ble_eq_true rfl) dX2_init_16 (fun H locs hP hD hS => ?_)
  have hP : va_P (dC, dI) vwCl [(d0, .inr (2, [.ref g0, .ref e0, .ref f0, .null, .int 0, .int 0, .int 0, .int 0, .int 0, .long 0, .int 0, .int 0]))] H := hP
  have hD : va_D A [(d0, .inr (2, [.ref g0, .ref e0, .ref f0, .null, .int 0, .int 0, .int 0, .int 0, .int 0, .long 0, .int 0, .int 0]))] := hD
  refine lv_aload_n hx hb dX2_init_19 rfl (lv_at hl 0 rfl) ?_
  refine va_new (ci := 0) (fs := [.null, .null, .null, .int 0, .int 0, .int 0, .int 0, .int 0, .int 0, .int 0, .int 0, .int 0, .int 0]) (C := RX0) (T := TX0) (N := 13) hx hb hts (by decide +kernel) tyX0 tyX0_ok hown (hts (.classLink RX2 22 RX0) (by decide +kernel)) (hts (.instantiable RX0 13) (by decide +kernel)) (hts (.initialized RX0) (by decide +kernel)) hK hP hD hS hA rfl (fun j hj => by rcases (show j = 0 ∨ j = 1 ∨ j = 2 ∨ j = 3 ∨ j = 4 ∨ j = 5 ∨ j = 6 ∨ j = 7 ∨ j = 8 ∨ j = 9 ∨ j = 10 ∨ j = 11 ∨ j = 12 by omega) with rfl | rfl | rfl | rfl | rfl | rfl | rfl | rfl | rfl | rfl | rfl | rfl | rfl <;> rfl) (Nat.le_of_ble_eq_true rfl) (Nat.le_of_ble_eq_true rfl) dX2_init_20 (fun q9 H hP hD hS => ?_)
  have hP : va_P (dC, dI) vwCl [(d0, .inr (2, [.ref g0, .ref e0, .ref f0, .null, .int 0, .int 0, .int 0, .int 0, .int 0, .long 0, .int 0, .int 0])), (q9, .inr (0, [.null, .null, .null, .int 0, .int 0, .int 0, .int 0, .int 0, .int 0, .int 0, .int 0, .int 0, .int 0]))] H := hP
  have hD : va_D A [(d0, .inr (2, [.ref g0, .ref e0, .ref f0, .null, .int 0, .int 0, .int 0, .int 0, .int 0, .long 0, .int 0, .int 0])), (q9, .inr (0, [.null, .null, .null, .int 0, .int 0, .int 0, .int 0, .int 0, .int 0, .int 0, .int 0, .int 0, .int 0]))] := hD
  refine W.widen (k := 1) (n := 13) (Nat.le_of_ble_eq_true rfl) (Nat.le_of_ble_eq_true rfl) ?_
  refine lv_dup hx hb dX2_init_23 rfl ?_
  refine lv_aload_n hx hb dX2_init_24 rfl (lv_at hl 1 rfl) ?_
  refine lv_aload_n hx hb dX2_init_25 rfl (lv_at hl 2 rfl) ?_
  refine lv_aload_n hx hb dX2_init_26 rfl (lv_at hl 3 rfl) ?_
  refine z_callv (wr := [(d0, .inr (2, [.ref g0, .ref e0, .ref f0, .null, .int 0, .int 0, .int 0, .int 0, .int 0, .long 0, .int 0, .int 0]))]) (va_runI (As := [.ref g0, .ref e0, .ref f0]) (rest := [.ref q9, .ref d0]) ⟨hx, hb, hml, hown, hts⟩ (c_Blk_init l dC dI kB kI q9 g0 e0 f0  H.size) (cwI 3 hts gX2_init_X0_init rfl rfl rfl (hts (.initialized RX0) (by decide +kernel)) (hts (.methodLink RX2 24 yX0_init) (by decide +kernel)) (hts (.instanceMethod yX0_init) (by decide +kernel)) rfl (by decide +kernel) ⟨Nat.le_of_ble_eq_true rfl, Nat.le_of_ble_eq_true rfl⟩) (z_preS hK (hP.sub [1] rfl) (hD.sub [1] (by decide) rfl)) rfl rfl hl.1 rfl (lv_room (Nat.le_of_ble_eq_true rfl)) dX2_init_27 ⟨Nat.le_of_ble_eq_true rfl, Nat.le_of_ble_eq_true rfl⟩) hK hP hD hS hA [1] [0] rfl rfl (by decide) (by decide) (fun uq2 H locs hw hP hD hS => ?_)
  replace hw : True := hw
  have hP : va_P (dC, dI) vwCl [(d0, .inr (2, [.ref g0, .ref e0, .ref f0, .null, .int 0, .int 0, .int 0, .int 0, .int 0, .long 0, .int 0, .int 0])), (q9, .inr (0, [.ref g0, .ref e0, .ref f0, .int 0, .int 0, .int 0, .int 0, .int 0, .int 0, .int 0, .int 0, .int 0, .int 0]))] H := hP
  have hD : va_D A [(d0, .inr (2, [.ref g0, .ref e0, .ref f0, .null, .int 0, .int 0, .int 0, .int 0, .int 0, .long 0, .int 0, .int 0])), (q9, .inr (0, [.ref g0, .ref e0, .ref f0, .int 0, .int 0, .int 0, .int 0, .int 0, .int 0, .int 0, .int 0, .int 0, .int 0]))] := hD
  refine va_putF (D := (dC, dI)) (ci := 2) (v := .ref q9) (ty := .object "SequenceFrames$BlockReader") (C := RX2) (T := TX2) (N := 12) hx hb hts (by decide +kernel) tyX2 tyX2_ok nmX2 hown hK hP hD hS 0 rfl rfl 3 (by decide) (hts (.fieldLink RX2 27 "SequenceFrames$FrameReader" "blockReader" "LSequenceFrames$BlockReader;") (by decide +kernel)) (fun _ h9 => h9) rfl hin rfl (by decide +kernel) rfl rfl (Nat.le_of_ble_eq_true rfl) dX2_init_30 (fun H locs hP hD hS => ?_)
  have hP : va_P (dC, dI) vwCl [(d0, .inr (2, [.ref g0, .ref e0, .ref f0, .ref q9, .int 0, .int 0, .int 0, .int 0, .int 0, .long 0, .int 0, .int 0])), (q9, .inr (0, [.ref g0, .ref e0, .ref f0, .int 0, .int 0, .int 0, .int 0, .int 0, .int 0, .int 0, .int 0, .int 0, .int 0]))] H := hP
  have hD : va_D A [(d0, .inr (2, [.ref g0, .ref e0, .ref f0, .ref q9, .int 0, .int 0, .int 0, .int 0, .int 0, .long 0, .int 0, .int 0])), (q9, .inr (0, [.ref g0, .ref e0, .ref f0, .int 0, .int 0, .int 0, .int 0, .int 0, .int 0, .int 0, .int 0, .int 0, .int 0]))] := hD
  have hP9 := hP.sub (ws' := [(d0, .inr (2, [.ref g0, .ref e0, .ref f0, .ref q9, .int 0, .int 0, .int 0, .int 0, .int 0, .long 0, .int 0, .int 0])), (q9, .inr (0, [.ref g0, .ref e0, .ref f0, .int 0, .int 0, .int 0, .int 0, .int 0, .int 0, .int 0, .int 0, .int 0, .int 0]))]) [0, 1] rfl
  have hD9 := hD.sub (ws' := [(d0, .inr (2, [.ref g0, .ref e0, .ref f0, .ref q9, .int 0, .int 0, .int 0, .int 0, .int 0, .long 0, .int 0, .int 0])), (q9, .inr (0, [.ref g0, .ref e0, .ref f0, .int 0, .int 0, .int 0, .int 0, .int 0, .int 0, .int 0, .int 0, .int 0, .int 0]))]) [0, 1] (by decide) rfl
  exact W.vret hx hb hr (fun t9 ht9 hW9 => ⟨⟨q9, rfl, trivial, by rw [ht9]; exact hP9, va_K.moved hW9.alike hK, hD9⟩, hS.F ht9⟩) hS.2.2 dX2_init_33

set_option maxHeartbeats 4000000 in
set_option maxRecDepth 100000 in
theorem c_Row_init (l : Launch) (dC : Nat → ClassId) (dI : Nat → Nat → Nat) (kB kI : ClassId) (a0 : Nat) (cap : Nat) (hc : cap ≤ 150000) : zMv l yX5_init wsX5_init ({ frames := 1, cells := 1, slots := cap, locals := 21 }) (dC, dI) kB kI [.ref a0, .int (nI cap)] [(a0, .inr (5, [.null, .int 0]))] 1 cap (fun q0 : Nat => True) (fun q0 : Nat => [(a0, .inr (5, [.ref q0, .int (nI 0)])), (q0, .inl (kB, cap, .inl (fun _ => 0)))]) := by
  intro sz
  refine Met.ofW (cc := cX5_init) (maxL := 2) (ret := none) (by decide) rfl ?_
  intro p e s m args below meth c s₁ B hml hv
  obtain ⟨rfl, hsz, hP, hK, hD0⟩ := hv
  have hx := B.exec
  have hb := B.bytes
  have hr := B.returns
  have hts := atoms_spec (ws := wsX5_init) B.pre
  have hown : s.vm.findClass RX5 = some m.cls := findClass_of_methodNamed B.named
  have hlocks := B.notSynchronized
  have hin : meth.name = "<init>" := (name_of_methodNamed B.named B.method).1
  subst hsz
  have hD := hD0.self (sz := s.heap.size)
  generalize hAe : va_A [(a0, .inr (5, [.null, .int 0]))] s.heap.size = A at hD ⊢
  have hA : ∀ q : Nat, s.heap.size ≤ q → A q := fun q h => by rw [← hAe]; exact Or.inr h
  have hS : va_S A s.heap s.heap [] := va_S.rf
  have hP : va_P (dC, dI) vwCl [(a0, .inr (5, [.null, .int 0]))] s.heap := hP
  have hl := lv_entry ([.ref a0, .int (nI cap)]) (n := 2) (Nat.le_of_ble_eq_true rfl)
  rw [lg_entry_eq]
  generalize (lg_sl ([.ref a0, .int (nI cap)]) ++ List.replicate (2 - (lg_sl ([.ref a0, .int (nI cap)])).length) Slot.unset).toArray = ls at hl ⊢
  have hl : lv_has ls 2 [(0, .ref a0), (1, .int (nI cap))] := hl
  refine zG (fun GG hG1 hG2 => ?_)
  refine lv_aload_n hx hb dX5_init_0 rfl (lv_at hl 0 rfl) ?_
  refine W.objInit hx hb hown (hts (.methodLink RX5 3 objectInit) (by decide +kernel)) (hts (.instanceMethod objectInit) (by decide +kernel)) (hts (.code objectInit ⟨#[0xb1]⟩ 1 none) (List.mem_of_getElem? (i := 3) rfl)) rfl (by rw [hml]; exact hl.1) rfl dX5_init_1 (Nat.le_of_ble_eq_true rfl) (Nat.le_of_ble_eq_true rfl) ?_
  refine W.eq (g2 := F0 m 4 ls []) rfl ?_
  refine lv_aload_n hx hb dX5_init_4 rfl (lv_at hl 0 rfl) ?_
  refine lv_iconst (v := 0) hx hb dX5_init_5 (by decide) ?_
  refine lv_iload_n hx hb dX5_init_6 rfl (lv_at hl 1 rfl) ?_
  refine va_mmax hx hb (hml.trans hl.1.symm) hown (hts (.methodLink RX5 9 Lib.Math.max.name) (by decide +kernel)) (hts (.static Lib.Math.max.name) (by decide +kernel)) (hts (.initialized "java/lang/Math") (by decide +kernel)) (hts (.code Lib.Math.max.name Lib.Math.max.code 2 (some .int)) (by decide +kernel)) (Nat.le_of_ble_eq_true rfl) (Nat.le_of_ble_eq_true rfl) (Nat.zero_le _) (Nat.zero_le _) dX5_init_7 ?_
  refine lv_is (y := (nI cap)) (z_max0 (by omega)) ?_
  refine z_newB (n := (nI cap)) (N' := cap) hx hb (hts (.arrayClass .byte) (by decide +kernel)) hK hP hD hS hA (rfl) (by omega) (Nat.le_of_ble_eq_true rfl) (Nat.le_of_eq (Nat.zero_add _)) dX5_init_10 (fun q9 H hP hD hS => ?_)
  have hP : va_P (dC, dI) vwCl [(a0, .inr (5, [.null, .int 0])), (q9, .inl (kB, cap, .inl (fun _ => 0)))] H := hP
  have hD : va_D A [(a0, .inr (5, [.null, .int 0])), (q9, .inl (kB, cap, .inl (fun _ => 0)))] := hD
  refine W.widen (k := 1) (n := cap) (Nat.le_of_ble_eq_true rfl) (Nat.le_of_eq (Nat.zero_add _)) ?_
  refine va_putF (D := (dC, dI)) (ci := 5) (v := .ref q9) (ty := (.array .byte)) (C := RX5) (T := TX5) (N := 2) hx hb hts (by decide +kernel) tyX5 tyX5_ok nmX5 hown hK hP hD hS 0 rfl rfl 0 (by decide) (hts (.fieldLink RX5 15 "SequenceFrames$Row" "bytes" "[B") (by decide +kernel)) (fun _ h9 => h9) rfl hin rfl (by decide +kernel) rfl rfl (Nat.le_of_ble_eq_true rfl) dX5_init_12 (fun H locs hP hD hS => ?_)
  have hP : va_P (dC, dI) vwCl [(a0, .inr (5, [.ref q9, .int 0])), (q9, .inl (kB, cap, .inl (fun _ => 0)))] H := hP
  have hD : va_D A [(a0, .inr (5, [.ref q9, .int 0])), (q9, .inl (kB, cap, .inl (fun _ => 0)))] := hD
  have eq9 : (0 : Int32) = (nI 0) := rfl
  have hP : va_P (dC, dI) vwCl [(a0, .inr (5, [.ref q9, .int (nI 0)])), (q9, .inl (kB, cap, .inl (fun _ => 0)))] H := by rw [← eq9]; exact hP
  have hD : va_D A [(a0, .inr (5, [.ref q9, .int (nI 0)])), (q9, .inl (kB, cap, .inl (fun _ => 0)))] := by rw [← eq9]; exact hD
  have hP9 := hP.sub (ws' := [(a0, .inr (5, [.ref q9, .int (nI 0)])), (q9, .inl (kB, cap, .inl (fun _ => 0)))]) [0, 1] rfl
  have hD9 := hD.sub (ws' := [(a0, .inr (5, [.ref q9, .int (nI 0)])), (q9, .inl (kB, cap, .inl (fun _ => 0)))]) [0, 1] (by decide) rfl
  exact W.vret hx hb hr (fun t9 ht9 hW9 => ⟨⟨q9, rfl, trivial, by rw [ht9]; exact hP9, va_K.moved hW9.alike hK, hD9⟩, hS.F ht9⟩) hS.2.2 dX5_init_15

set_option maxHeartbeats 4000000 in
set_option maxRecDepth 100000 in
theorem c_Opt_init (l : Launch) (dC : Nat → ClassId) (dI : Nat → Nat → Nat) (kB kI : ClassId) (o0 : Nat)  : zMv l yX3_init wsX3_init ({ frames := 1, cells := 1, slots := 6, locals := 16 }) (dC, dI) kB kI [.ref o0] [(o0, .inr (3, [.null]))] 1 6 (fun q0 : Nat => True) (fun q0 : Nat => [(o0, .inr (3, [.ref q0])), (q0, .inl (kI, 6, .inl optD))]) := by
  intro sz
  refine Met.ofW (cc := cX3_init) (maxL := 1) (ret := none) (by decide) rfl ?_
  intro p e s m args below meth c s₁ B hml hv
  obtain ⟨rfl, hsz, hP, hK, hD0⟩ := hv
  have hx := B.exec
  have hb := B.bytes
  have hr := B.returns
  have hts := atoms_spec (ws := wsX3_init) B.pre
  have hown : s.vm.findClass RX3 = some m.cls := findClass_of_methodNamed B.named
  have hlocks := B.notSynchronized
  have hin : meth.name = "<init>" := (name_of_methodNamed B.named B.method).1
  subst hsz
  have hD := hD0.self (sz := s.heap.size)
  generalize hAe : va_A [(o0, .inr (3, [.null]))] s.heap.size = A at hD ⊢
  have hA : ∀ q : Nat, s.heap.size ≤ q → A q := fun q h => by rw [← hAe]; exact Or.inr h
  have hS : va_S A s.heap s.heap [] := va_S.rf
  have hP : va_P (dC, dI) vwCl [(o0, .inr (3, [.null]))] s.heap := hP
  have hl := lv_entry ([.ref o0]) (n := 1) (Nat.le_of_ble_eq_true rfl)
  rw [lg_entry_eq]
  generalize (lg_sl ([.ref o0]) ++ List.replicate (1 - (lg_sl ([.ref o0])).length) Slot.unset).toArray = ls at hl ⊢
  have hl : lv_has ls 1 [(0, .ref o0)] := hl
  refine zG (fun GG hG1 hG2 => ?_)
  refine lv_aload_n hx hb dX3_init_0 rfl (lv_at hl 0 rfl) ?_
  refine W.objInit hx hb hown (hts (.methodLink RX3 3 objectInit) (by decide +kernel)) (hts (.instanceMethod objectInit) (by decide +kernel)) (hts (.code objectInit ⟨#[0xb1]⟩ 1 none) (List.mem_of_getElem? (i := 3) rfl)) rfl (by rw [hml]; exact hl.1) rfl dX3_init_1 (Nat.le_of_ble_eq_true rfl) (Nat.le_of_ble_eq_true rfl) ?_
  refine W.eq (g2 := F0 m 4 ls []) rfl ?_
  refine lv_aload_n hx hb dX3_init_4 rfl (lv_at hl 0 rfl) ?_
  refine lv_bipush (v := 6) hx hb dX3_init_5 (by decide) ?_
  refine z_newI (n := 6) (N' := 6) hx hb (hts (.arrayClass .int) (by decide +kernel)) hK hP hD hS hA (rfl) (by omega) (Nat.le_of_ble_eq_true rfl) (Nat.le_of_ble_eq_true rfl) dX3_init_7 (fun q9 H hP hD hS => ?_)
  have hP : va_P (dC, dI) vwCl [(o0, .inr (3, [.null])), (q9, .inl (kI, 6, .inl (fun _ => 0)))] H := hP
  have hD : va_D A [(o0, .inr (3, [.null])), (q9, .inl (kI, 6, .inl (fun _ => 0)))] := hD
  refine W.widen (k := 1) (n := 6) (Nat.le_of_ble_eq_true rfl) (Nat.le_of_ble_eq_true rfl) ?_
  refine lv_dup hx hb dX3_init_9 rfl ?_
  refine lv_iconst (v := 0) hx hb dX3_init_10 (by decide) ?_
  refine lv_iconst (v := 0) hx hb dX3_init_11 (by decide) ?_
  refine va_iast hx hb hK hP hD hS 1 1 rfl rfl (zin (show (0 : Int32) = nI 0 from rfl) (by omega) (by omega)) dX3_init_12 (fun H locs hP hD hS => ?_)
  have ez := zst (fun _ => 0) 0 (i := 0) (j := 0) (show (0 : Int32) = nI 0 from rfl) (by omega)
  have hP : va_P (dC, dI) vwCl [(o0, .inr (3, [.null])), (q9, .inl (kI, 6, .inl (upd (fun _ => 0) 0 0)))] H := by rw [← ez]; exact hP
  have hD : va_D A [(o0, .inr (3, [.null])), (q9, .inl (kI, 6, .inl (upd (fun _ => 0) 0 0)))] := by rw [← ez]; exact hD
  refine lv_dup hx hb dX3_init_13 rfl ?_
  refine lv_iconst (v := 1) hx hb dX3_init_14 (by decide) ?_
  refine lv_iconst (v := 0) hx hb dX3_init_15 (by decide) ?_
  refine va_iast hx hb hK hP hD hS 1 1 rfl rfl (zin (show (1 : Int32) = nI 1 from rfl) (by omega) (by omega)) dX3_init_16 (fun H locs hP hD hS => ?_)
  have ez := zst (upd (fun _ => 0) 0 0) 0 (i := 1) (j := 1) (show (1 : Int32) = nI 1 from rfl) (by omega)
  have hP : va_P (dC, dI) vwCl [(o0, .inr (3, [.null])), (q9, .inl (kI, 6, .inl (upd (upd (fun _ => 0) 0 0) 1 0)))] H := by rw [← ez]; exact hP
  have hD : va_D A [(o0, .inr (3, [.null])), (q9, .inl (kI, 6, .inl (upd (upd (fun _ => 0) 0 0) 1 0)))] := by rw [← ez]; exact hD
  refine lv_dup hx hb dX3_init_17 rfl ?_
  refine lv_iconst (v := 2) hx hb dX3_init_18 (by decide) ?_
  refine lv_iconst (v := 0) hx hb dX3_init_19 (by decide) ?_
  refine va_iast hx hb hK hP hD hS 1 1 rfl rfl (zin (show (2 : Int32) = nI 2 from rfl) (by omega) (by omega)) dX3_init_20 (fun H locs hP hD hS => ?_)
  have ez := zst (upd (upd (fun _ => 0) 0 0) 1 0) 0 (i := 2) (j := 2) (show (2 : Int32) = nI 2 from rfl) (by omega)
  have hP : va_P (dC, dI) vwCl [(o0, .inr (3, [.null])), (q9, .inl (kI, 6, .inl (upd (upd (upd (fun _ => 0) 0 0) 1 0) 2 0)))] H := by rw [← ez]; exact hP
  have hD : va_D A [(o0, .inr (3, [.null])), (q9, .inl (kI, 6, .inl (upd (upd (upd (fun _ => 0) 0 0) 1 0) 2 0)))] := by rw [← ez]; exact hD
  refine lv_dup hx hb dX3_init_21 rfl ?_
  refine lv_iconst (v := 3) hx hb dX3_init_22 (by decide) ?_
  refine lv_iconst (v := 0) hx hb dX3_init_23 (by decide) ?_
  refine va_iast hx hb hK hP hD hS 1 1 rfl rfl (zin (show (3 : Int32) = nI 3 from rfl) (by omega) (by omega)) dX3_init_24 (fun H locs hP hD hS => ?_)
  have ez := zst (upd (upd (upd (fun _ => 0) 0 0) 1 0) 2 0) 0 (i := 3) (j := 3) (show (3 : Int32) = nI 3 from rfl) (by omega)
  have hP : va_P (dC, dI) vwCl [(o0, .inr (3, [.null])), (q9, .inl (kI, 6, .inl (upd (upd (upd (upd (fun _ => 0) 0 0) 1 0) 2 0) 3 0)))] H := by rw [← ez]; exact hP
  have hD : va_D A [(o0, .inr (3, [.null])), (q9, .inl (kI, 6, .inl (upd (upd (upd (upd (fun _ => 0) 0 0) 1 0) 2 0) 3 0)))] := by rw [← ez]; exact hD
  refine lv_dup hx hb dX3_init_25 rfl ?_
  refine lv_iconst (v := 4) hx hb dX3_init_26 (by decide) ?_
  refine lv_iconst (v := 4) hx hb dX3_init_27 (by decide) ?_
  refine va_iast hx hb hK hP hD hS 1 1 rfl rfl (zin (show (4 : Int32) = nI 4 from rfl) (by omega) (by omega)) dX3_init_28 (fun H locs hP hD hS => ?_)
  have ez := zst (upd (upd (upd (upd (fun _ => 0) 0 0) 1 0) 2 0) 3 0) 4 (i := 4) (j := 4) (show (4 : Int32) = nI 4 from rfl) (by omega)
  have hP : va_P (dC, dI) vwCl [(o0, .inr (3, [.null])), (q9, .inl (kI, 6, .inl (upd (upd (upd (upd (upd (fun _ => 0) 0 0) 1 0) 2 0) 3 0) 4 4)))] H := by rw [← ez]; exact hP
  have hD : va_D A [(o0, .inr (3, [.null])), (q9, .inl (kI, 6, .inl (upd (upd (upd (upd (upd (fun _ => 0) 0 0) 1 0) 2 0) 3 0) 4 4)))] := by rw [← ez]; exact hD
  refine lv_dup hx hb dX3_init_29 rfl ?_
  refine lv_iconst (v := 5) hx hb dX3_init_30 (by decide) ?_
  refine lv_ldc (v := 65536) hx hb hown (hts (.constant RX3 9 65536) (by decide +kernel)) dX3_init_31 ?_
  refine va_iast hx hb hK hP hD hS 1 1 rfl rfl (zin (show (5 : Int32) = nI 5 from rfl) (by omega) (by omega)) dX3_init_33 (fun H locs hP hD hS => ?_)
  have ez := zst (upd (upd (upd (upd (upd (fun _ => 0) 0 0) 1 0) 2 0) 3 0) 4 4) 65536 (i := 5) (j := 5) (show (5 : Int32) = nI 5 from rfl) (by omega)
  have hP : va_P (dC, dI) vwCl [(o0, .inr (3, [.null])), (q9, .inl (kI, 6, .inl (upd (upd (upd (upd (upd (upd (fun _ => 0) 0 0) 1 0) 2 0) 3 0) 4 4) 5 65536)))] H := by rw [← ez]; exact hP
  have hD : va_D A [(o0, .inr (3, [.null])), (q9, .inl (kI, 6, .inl (upd (upd (upd (upd (upd (upd (fun _ => 0) 0 0) 1 0) 2 0) 3 0) 4 4) 5 65536)))] := by rw [← ez]; exact hD
  refine va_putF (D := (dC, dI)) (ci := 3) (v := .ref q9) (ty := (.array .int)) (C := RX3) (T := TX3) (N := 1) hx hb hts (by decide +kernel) tyX3 tyX3_ok nmX3 hown hK hP hD hS 0 rfl rfl 0 (by decide) (hts (.fieldLink RX3 10 "SequenceFrames$Options" "values" "[I") (by decide +kernel)) (fun _ h9 => h9) rfl hin rfl (by decide +kernel) rfl rfl (Nat.le_of_ble_eq_true rfl) dX3_init_34 (fun H locs hP hD hS => ?_)
  have hP : va_P (dC, dI) vwCl [(o0, .inr (3, [.ref q9])), (q9, .inl (kI, 6, .inl (upd (upd (upd (upd (upd (upd (fun _ => 0) 0 0) 1 0) 2 0) 3 0) 4 4) 5 65536)))] H := hP
  have hD : va_D A [(o0, .inr (3, [.ref q9])), (q9, .inl (kI, 6, .inl (upd (upd (upd (upd (upd (upd (fun _ => 0) 0 0) 1 0) 2 0) 3 0) 4 4) 5 65536)))] := hD
  obtain ⟨hP, hD⟩ := za_congr (g := optD) hP hD 1 rfl (fun j hj => by rcases (show j = 0 ∨ j = 1 ∨ j = 2 ∨ j = 3 ∨ j = 4 ∨ j = 5 by omega) with rfl | rfl | rfl | rfl | rfl | rfl <;> rfl)
  have hP : va_P (dC, dI) vwCl [(o0, .inr (3, [.ref q9])), (q9, .inl (kI, 6, .inl optD))] H := hP
  have hD : va_D A [(o0, .inr (3, [.ref q9])), (q9, .inl (kI, 6, .inl optD))] := hD
  have hP9 := hP.sub (ws' := [(o0, .inr (3, [.ref q9])), (q9, .inl (kI, 6, .inl optD))]) [0, 1] rfl
  have hD9 := hD.sub (ws' := [(o0, .inr (3, [.ref q9])), (q9, .inl (kI, 6, .inl optD))]) [0, 1] (by decide) rfl
  exact W.vret hx hb hr (fun t9 ht9 hW9 => ⟨⟨q9, rfl, trivial, by rw [ht9]; exact hP9, va_K.moved hW9.alike hK, hD9⟩, hS.F ht9⟩) hS.2.2 dX3_init_37

set_option maxHeartbeats 4000000 in
set_option maxRecDepth 100000 in
theorem c_Seq_init (l : Launch) (dC : Nat → ClassId) (dI : Nat → Nat → Nat) (kB kI : ClassId) (s0 : Nat)  : zMv l yX6_init wsX6_init ({ frames := 1, cells := 3, slots := 420001, locals := 16 }) (dC, dI) kB kI [.ref s0] [(s0, .inr (6, [.null, .null, .null, .int 0, .int 0, .int 0]))] 3 420001 (fun uu : Nat × Nat × Nat => True) (fun uu : Nat × Nat × Nat => [(s0, .inr (6, [.ref uu.1, .ref uu.2.1, .ref uu.2.2, .int (nI 1), .int (nI 0), .int (nI 0)])), (uu.1, .inl (kI, 140001, .inl (fun _ => 0))), (uu.2.1, .inl (kI, 140000, .inl (fun _ => 0))), (uu.2.2, .inl (kI, 140000, .inl (fun _ => 0)))]) := by
  intro sz
  refine Met.ofW (cc := cX6_init) (maxL := 1) (ret := none) (by decide) rfl ?_
  intro p e s m args below meth c s₁ B hml hv
  obtain ⟨rfl, hsz, hP, hK, hD0⟩ := hv
  have hx := B.exec
  have hb := B.bytes
  have hr := B.returns
  have hts := atoms_spec (ws := wsX6_init) B.pre
  have hown : s.vm.findClass RX6 = some m.cls := findClass_of_methodNamed B.named
  have hlocks := B.notSynchronized
  have hin : meth.name = "<init>" := (name_of_methodNamed B.named B.method).1
  subst hsz
  have hD := hD0.self (sz := s.heap.size)
  generalize hAe : va_A [(s0, .inr (6, [.null, .null, .null, .int 0, .int 0, .int 0]))] s.heap.size = A at hD ⊢
  have hA : ∀ q : Nat, s.heap.size ≤ q → A q := fun q h => by rw [← hAe]; exact Or.inr h
  have hS : va_S A s.heap s.heap [] := va_S.rf
  have hP : va_P (dC, dI) vwCl [(s0, .inr (6, [.null, .null, .null, .int 0, .int 0, .int 0]))] s.heap := hP
  have hl := lv_entry ([.ref s0]) (n := 1) (Nat.le_of_ble_eq_true rfl)
  rw [lg_entry_eq]
  generalize (lg_sl ([.ref s0]) ++ List.replicate (1 - (lg_sl ([.ref s0])).length) Slot.unset).toArray = ls at hl ⊢
  have hl : lv_has ls 1 [(0, .ref s0)] := hl
  refine zG (fun GG hG1 hG2 => ?_)
  refine lv_aload_n hx hb dX6_init_0 rfl (lv_at hl 0 rfl) ?_
  refine W.objInit hx hb hown (hts (.methodLink RX6 3 objectInit) (by decide +kernel)) (hts (.instanceMethod objectInit) (by decide +kernel)) (hts (.code objectInit ⟨#[0xb1]⟩ 1 none) (List.mem_of_getElem? (i := 3) rfl)) rfl (by rw [hml]; exact hl.1) rfl dX6_init_1 (Nat.le_of_ble_eq_true rfl) (Nat.le_of_ble_eq_true rfl) ?_
  refine W.eq (g2 := F0 m 4 ls []) rfl ?_
  refine lv_aload_n hx hb dX6_init_4 rfl (lv_at hl 0 rfl) ?_
  refine lv_ldc (v := 140001) hx hb hown (hts (.constant RX6 9 140001) (by decide +kernel)) dX6_init_5 ?_
  refine z_newI (n := 140001) (N' := 140001) hx hb (hts (.arrayClass .int) (by decide +kernel)) hK hP hD hS hA (rfl) (by omega) (Nat.le_of_ble_eq_true rfl) (Nat.le_of_ble_eq_true rfl) dX6_init_7 (fun q7 H hP hD hS => ?_)
  have hP : va_P (dC, dI) vwCl [(s0, .inr (6, [.null, .null, .null, .int 0, .int 0, .int 0])), (q7, .inl (kI, 140001, .inl (fun _ => 0)))] H := hP
  have hD : va_D A [(s0, .inr (6, [.null, .null, .null, .int 0, .int 0, .int 0])), (q7, .inl (kI, 140001, .inl (fun _ => 0)))] := hD
  refine W.widen (k := 1) (n := 140001) (Nat.le_of_ble_eq_true rfl) (Nat.le_of_ble_eq_true rfl) ?_
  refine va_putF (D := (dC, dI)) (ci := 6) (v := .ref q7) (ty := (.array .int)) (C := RX6) (T := TX6) (N := 6) hx hb hts (by decide +kernel) tyX6 tyX6_ok nmX6 hown hK hP hD hS 0 rfl rfl 0 (by decide) (hts (.fieldLink RX6 10 "SequenceFrames$Sequences" "starts" "[I") (by decide +kernel)) (fun _ h9 => h9) rfl hin rfl (by decide +kernel) rfl rfl (Nat.le_of_ble_eq_true rfl) dX6_init_9 (fun H locs hP hD hS => ?_)
  have hP : va_P (dC, dI) vwCl [(s0, .inr (6, [.ref q7, .null, .null, .int 0, .int 0, .int 0])), (q7, .inl (kI, 140001, .inl (fun _ => 0)))] H := hP
  have hD : va_D A [(s0, .inr (6, [.ref q7, .null, .null, .int 0, .int 0, .int 0])), (q7, .inl (kI, 140001, .inl (fun _ => 0)))] := hD
  refine lv_aload_n hx hb dX6_init_12 rfl (lv_at hl 0 rfl) ?_
  refine lv_ldc (v := 140000) hx hb hown (hts (.constant RX6 16 140000) (by decide +kernel)) dX6_init_13 ?_
  refine z_newI (n := 140000) (N' := 140000) hx hb (hts (.arrayClass .int) (by decide +kernel)) hK hP hD hS hA (rfl) (by omega) (Nat.le_of_ble_eq_true rfl) (Nat.le_of_ble_eq_true rfl) dX6_init_15 (fun q8 H hP hD hS => ?_)
  have hP : va_P (dC, dI) vwCl [(s0, .inr (6, [.ref q7, .null, .null, .int 0, .int 0, .int 0])), (q7, .inl (kI, 140001, .inl (fun _ => 0))), (q8, .inl (kI, 140000, .inl (fun _ => 0)))] H := hP
  have hD : va_D A [(s0, .inr (6, [.ref q7, .null, .null, .int 0, .int 0, .int 0])), (q7, .inl (kI, 140001, .inl (fun _ => 0))), (q8, .inl (kI, 140000, .inl (fun _ => 0)))] := hD
  refine W.widen (k := 2) (n := 280001) (Nat.le_of_ble_eq_true rfl) (Nat.le_of_ble_eq_true rfl) ?_
  refine va_putF (D := (dC, dI)) (ci := 6) (v := .ref q8) (ty := (.array .int)) (C := RX6) (T := TX6) (N := 6) hx hb hts (by decide +kernel) tyX6 tyX6_ok nmX6 hown hK hP hD hS 0 rfl rfl 1 (by decide) (hts (.fieldLink RX6 17 "SequenceFrames$Sequences" "literals" "[I") (by decide +kernel)) (fun _ h9 => h9) rfl hin rfl (by decide +kernel) rfl rfl (Nat.le_of_ble_eq_true rfl) dX6_init_17 (fun H locs hP hD hS => ?_)
  have hP : va_P (dC, dI) vwCl [(s0, .inr (6, [.ref q7, .ref q8, .null, .int 0, .int 0, .int 0])), (q7, .inl (kI, 140001, .inl (fun _ => 0))), (q8, .inl (kI, 140000, .inl (fun _ => 0)))] H := hP
  have hD : va_D A [(s0, .inr (6, [.ref q7, .ref q8, .null, .int 0, .int 0, .int 0])), (q7, .inl (kI, 140001, .inl (fun _ => 0))), (q8, .inl (kI, 140000, .inl (fun _ => 0)))] := hD
  refine lv_aload_n hx hb dX6_init_20 rfl (lv_at hl 0 rfl) ?_
  refine lv_ldc (v := 140000) hx hb hown (hts (.constant RX6 16 140000) (by decide +kernel)) dX6_init_21 ?_
  refine z_newI (n := 140000) (N' := 140000) hx hb (hts (.arrayClass .int) (by decide +kernel)) hK hP hD hS hA (rfl) (by omega) (Nat.le_of_ble_eq_true rfl) (Nat.le_of_ble_eq_true rfl) dX6_init_23 (fun q9 H hP hD hS => ?_)
  have hP : va_P (dC, dI) vwCl [(s0, .inr (6, [.ref q7, .ref q8, .null, .int 0, .int 0, .int 0])), (q7, .inl (kI, 140001, .inl (fun _ => 0))), (q8, .inl (kI, 140000, .inl (fun _ => 0))), (q9, .inl (kI, 140000, .inl (fun _ => 0)))] H := hP
  have hD : va_D A [(s0, .inr (6, [.ref q7, .ref q8, .null, .int 0, .int 0, .int 0])), (q7, .inl (kI, 140001, .inl (fun _ => 0))), (q8, .inl (kI, 140000, .inl (fun _ => 0))), (q9, .inl (kI, 140000, .inl (fun _ => 0)))] := hD
  refine W.widen (k := 3) (n := 420001) (Nat.le_of_ble_eq_true rfl) (Nat.le_of_ble_eq_true rfl) ?_
  refine va_putF (D := (dC, dI)) (ci := 6) (v := .ref q9) (ty := (.array .int)) (C := RX6) (T := TX6) (N := 6) hx hb hts (by decide +kernel) tyX6 tyX6_ok nmX6 hown hK hP hD hS 0 rfl rfl 2 (by decide) (hts (.fieldLink RX6 20 "SequenceFrames$Sequences" "offsets" "[I") (by decide +kernel)) (fun _ h9 => h9) rfl hin rfl (by decide +kernel) rfl rfl (Nat.le_of_ble_eq_true rfl) dX6_init_25 (fun H locs hP hD hS => ?_)
  have hP : va_P (dC, dI) vwCl [(s0, .inr (6, [.ref q7, .ref q8, .ref q9, .int 0, .int 0, .int 0])), (q7, .inl (kI, 140001, .inl (fun _ => 0))), (q8, .inl (kI, 140000, .inl (fun _ => 0))), (q9, .inl (kI, 140000, .inl (fun _ => 0)))] H := hP
  have hD : va_D A [(s0, .inr (6, [.ref q7, .ref q8, .ref q9, .int 0, .int 0, .int 0])), (q7, .inl (kI, 140001, .inl (fun _ => 0))), (q8, .inl (kI, 140000, .inl (fun _ => 0))), (q9, .inl (kI, 140000, .inl (fun _ => 0)))] := hD
  refine lv_aload_n hx hb dX6_init_28 rfl (lv_at hl 0 rfl) ?_
  refine lv_iconst (v := 1) hx hb dX6_init_29 (by decide) ?_
  refine va_put (D := (dC, dI)) (ci := 6) (v := .int 1) (ty := .int) (C := RX6) (T := TX6) (N := 6) hx hb hts (by decide +kernel) tyX6 tyX6_ok nmX6 hown hK hP hD hS 0 rfl rfl 3 (by decide) (hts (.fieldLink RX6 23 "SequenceFrames$Sequences" "part" "I") (by decide +kernel)) (fun _ h9 => h9) rfl (by decide +kernel) rfl rfl (Nat.le_of_ble_eq_true rfl) dX6_init_30 (fun H locs hP hD hS => ?_)
  have hP : va_P (dC, dI) vwCl [(s0, .inr (6, [.ref q7, .ref q8, .ref q9, .int 1, .int 0, .int 0])), (q7, .inl (kI, 140001, .inl (fun _ => 0))), (q8, .inl (kI, 140000, .inl (fun _ => 0))), (q9, .inl (kI, 140000, .inl (fun _ => 0)))] H := hP
  have hD : va_D A [(s0, .inr (6, [.ref q7, .ref q8, .ref q9, .int 1, .int 0, .int 0])), (q7, .inl (kI, 140001, .inl (fun _ => 0))), (q8, .inl (kI, 140000, .inl (fun _ => 0))), (q9, .inl (kI, 140000, .inl (fun _ => 0)))] := hD
  have eq9 : (1 : Int32) = (nI 1) := rfl
  have hP : va_P (dC, dI) vwCl [(s0, .inr (6, [.ref q7, .ref q8, .ref q9, .int (nI 1), .int 0, .int 0])), (q7, .inl (kI, 140001, .inl (fun _ => 0))), (q8, .inl (kI, 140000, .inl (fun _ => 0))), (q9, .inl (kI, 140000, .inl (fun _ => 0)))] H := by rw [← eq9]; exact hP
  have hD : va_D A [(s0, .inr (6, [.ref q7, .ref q8, .ref q9, .int (nI 1), .int 0, .int 0])), (q7, .inl (kI, 140001, .inl (fun _ => 0))), (q8, .inl (kI, 140000, .inl (fun _ => 0))), (q9, .inl (kI, 140000, .inl (fun _ => 0)))] := by rw [← eq9]; exact hD
  have eq9 : (0 : Int32) = (nI 0) := rfl
  have hP : va_P (dC, dI) vwCl [(s0, .inr (6, [.ref q7, .ref q8, .ref q9, .int (nI 1), .int (nI 0), .int 0])), (q7, .inl (kI, 140001, .inl (fun _ => 0))), (q8, .inl (kI, 140000, .inl (fun _ => 0))), (q9, .inl (kI, 140000, .inl (fun _ => 0)))] H := by rw [← eq9]; exact hP
  have hD : va_D A [(s0, .inr (6, [.ref q7, .ref q8, .ref q9, .int (nI 1), .int (nI 0), .int 0])), (q7, .inl (kI, 140001, .inl (fun _ => 0))), (q8, .inl (kI, 140000, .inl (fun _ => 0))), (q9, .inl (kI, 140000, .inl (fun _ => 0)))] := by rw [← eq9]; exact hD
  have eq9 : (0 : Int32) = (nI 0) := rfl
  have hP : va_P (dC, dI) vwCl [(s0, .inr (6, [.ref q7, .ref q8, .ref q9, .int (nI 1), .int (nI 0), .int (nI 0)])), (q7, .inl (kI, 140001, .inl (fun _ => 0))), (q8, .inl (kI, 140000, .inl (fun _ => 0))), (q9, .inl (kI, 140000, .inl (fun _ => 0)))] H := by rw [← eq9]; exact hP
  have hD : va_D A [(s0, .inr (6, [.ref q7, .ref q8, .ref q9, .int (nI 1), .int (nI 0), .int (nI 0)])), (q7, .inl (kI, 140001, .inl (fun _ => 0))), (q8, .inl (kI, 140000, .inl (fun _ => 0))), (q9, .inl (kI, 140000, .inl (fun _ => 0)))] := by rw [← eq9]; exact hD
  have hP9 := hP.sub (ws' := [(s0, .inr (6, [.ref q7, .ref q8, .ref q9, .int (nI 1), .int (nI 0), .int (nI 0)])), (q7, .inl (kI, 140001, .inl (fun _ => 0))), (q8, .inl (kI, 140000, .inl (fun _ => 0))), (q9, .inl (kI, 140000, .inl (fun _ => 0)))]) [0, 1, 2, 3] rfl
  have hD9 := hD.sub (ws' := [(s0, .inr (6, [.ref q7, .ref q8, .ref q9, .int (nI 1), .int (nI 0), .int (nI 0)])), (q7, .inl (kI, 140001, .inl (fun _ => 0))), (q8, .inl (kI, 140000, .inl (fun _ => 0))), (q9, .inl (kI, 140000, .inl (fun _ => 0)))]) [0, 1, 2, 3] (by decide) rfl
  exact W.vret hx hb hr (fun t9 ht9 hW9 => ⟨⟨(q7, q8, q9), rfl, (show True from trivial), by rw [ht9]; exact hP9, va_K.moved hW9.alike hK, hD9⟩, hS.F ht9⟩) hS.2.2 dX6_init_33

set_option maxHeartbeats 4000000 in
set_option maxRecDepth 100000 in
theorem c_Pck_init (l : Launch) (dC : Nat → ClassId) (dI : Nat → Nat → Nat) (kB kI : ClassId) (p0 : Nat) (a0 : Nat) (g0 : Nat) (o0 : Nat) (s0 : Nat)  : zMv l yX4_init wsX4_init ({ frames := 1, cells := 1, slots := 4096, locals := 16 }) (dC, dI) kB kI [.ref p0, .ref a0, .ref g0, .ref o0, .ref s0] [(p0, .inr (4, [.null, .null, .null, .null, .null, .int 0, .int 0]))] 1 4096 (fun q0 : Nat => True) (fun q0 : Nat => [(p0, .inr (4, [.ref a0, .ref g0, .ref o0, .ref s0, .ref q0, .int (nI 0), .int (nI 0)])), (q0, .inl (kI, 4096, .inl (fun _ => 0)))]) := by
  intro sz
  refine Met.ofW (cc := cX4_init) (maxL := 5) (ret := none) (by decide) rfl ?_
  intro p e s m args below meth c s₁ B hml hv
  obtain ⟨rfl, hsz, hP, hK, hD0⟩ := hv
  have hx := B.exec
  have hb := B.bytes
  have hr := B.returns
  have hts := atoms_spec (ws := wsX4_init) B.pre
  have hown : s.vm.findClass RX4 = some m.cls := findClass_of_methodNamed B.named
  have hlocks := B.notSynchronized
  have hin : meth.name = "<init>" := (name_of_methodNamed B.named B.method).1
  subst hsz
  have hD := hD0.self (sz := s.heap.size)
  generalize hAe : va_A [(p0, .inr (4, [.null, .null, .null, .null, .null, .int 0, .int 0]))] s.heap.size = A at hD ⊢
  have hA : ∀ q : Nat, s.heap.size ≤ q → A q := fun q h => by rw [← hAe]; exact Or.inr h
  have hS : va_S A s.heap s.heap [] := va_S.rf
  have hP : va_P (dC, dI) vwCl [(p0, .inr (4, [.null, .null, .null, .null, .null, .int 0, .int 0]))] s.heap := hP
  have hl := lv_entry ([.ref p0, .ref a0, .ref g0, .ref o0, .ref s0]) (n := 5) (Nat.le_of_ble_eq_true rfl)
  rw [lg_entry_eq]
  generalize (lg_sl ([.ref p0, .ref a0, .ref g0, .ref o0, .ref s0]) ++ List.replicate (5 - (lg_sl ([.ref p0, .ref a0, .ref g0, .ref o0, .ref s0])).length) Slot.unset).toArray = ls at hl ⊢
  have hl : lv_has ls 5 [(0, .ref p0), (1, .ref a0), (2, .ref g0), (3, .ref o0), (4, .ref s0)] := hl
  refine zG (fun GG hG1 hG2 => ?_)
  refine lv_aload_n hx hb dX4_init_0 rfl (lv_at hl 0 rfl) ?_
  refine W.objInit hx hb hown (hts (.methodLink RX4 3 objectInit) (by decide +kernel)) (hts (.instanceMethod objectInit) (by decide +kernel)) (hts (.code objectInit ⟨#[0xb1]⟩ 1 none) (List.mem_of_getElem? (i := 3) rfl)) rfl (by rw [hml]; exact hl.1) rfl dX4_init_1 (Nat.le_of_ble_eq_true rfl) (Nat.le_of_ble_eq_true rfl) ?_
  refine W.eq (g2 := F0 m 4 ls []) rfl ?_
  refine lv_aload_n hx hb dX4_init_4 rfl (lv_at hl 0 rfl) ?_
  refine lv_sipush (v := 4096) hx hb dX4_init_5 (by decide) ?_
  refine z_newI (n := 4096) (N' := 4096) hx hb (hts (.arrayClass .int) (by decide +kernel)) hK hP hD hS hA (rfl) (by omega) (Nat.le_of_ble_eq_true rfl) (Nat.le_of_ble_eq_true rfl) dX4_init_8 (fun q9 H hP hD hS => ?_)
  have hP : va_P (dC, dI) vwCl [(p0, .inr (4, [.null, .null, .null, .null, .null, .int 0, .int 0])), (q9, .inl (kI, 4096, .inl (fun _ => 0)))] H := hP
  have hD : va_D A [(p0, .inr (4, [.null, .null, .null, .null, .null, .int 0, .int 0])), (q9, .inl (kI, 4096, .inl (fun _ => 0)))] := hD
  refine W.widen (k := 1) (n := 4096) (Nat.le_of_ble_eq_true rfl) (Nat.le_of_ble_eq_true rfl) ?_
  refine va_putF (D := (dC, dI)) (ci := 4) (v := .ref q9) (ty := (.array .int)) (C := RX4) (T := TX4) (N := 7) hx hb hts (by decide +kernel) tyX4 tyX4_ok nmX4 hown hK hP hD hS 0 rfl rfl 4 (by decide) (hts (.fieldLink RX4 11 "SequenceFrames$Packer" "table" "[I") (by decide +kernel)) (fun _ h9 => h9) rfl hin rfl (by decide +kernel) rfl rfl (Nat.le_of_ble_eq_true rfl) dX4_init_10 (fun H locs hP hD hS => ?_)
  have hP : va_P (dC, dI) vwCl [(p0, .inr (4, [.null, .null, .null, .null, .ref q9, .int 0, .int 0])), (q9, .inl (kI, 4096, .inl (fun _ => 0)))] H := hP
  have hD : va_D A [(p0, .inr (4, [.null, .null, .null, .null, .ref q9, .int 0, .int 0])), (q9, .inl (kI, 4096, .inl (fun _ => 0)))] := hD
  refine lv_aload_n hx hb dX4_init_13 rfl (lv_at hl 0 rfl) ?_
  refine lv_aload_n hx hb dX4_init_14 rfl (lv_at hl 1 rfl) ?_
  refine va_putF (D := (dC, dI)) (ci := 4) (v := .ref a0) (ty := .object "SequenceFrames$Row") (C := RX4) (T := TX4) (N := 7) hx hb hts (by decide +kernel) tyX4 tyX4_ok nmX4 hown hK hP hD hS 0 rfl rfl 0 (by decide) (hts (.fieldLink RX4 15 "SequenceFrames$Packer" "content" "LSequenceFrames$Row;") (by decide +kernel)) (fun _ h9 => h9) rfl hin rfl (by decide +kernel) rfl rfl (Nat.le_of_ble_eq_true rfl) dX4_init_15 (fun H locs hP hD hS => ?_)
  have hP : va_P (dC, dI) vwCl [(p0, .inr (4, [.ref a0, .null, .null, .null, .ref q9, .int 0, .int 0])), (q9, .inl (kI, 4096, .inl (fun _ => 0)))] H := hP
  have hD : va_D A [(p0, .inr (4, [.ref a0, .null, .null, .null, .ref q9, .int 0, .int 0])), (q9, .inl (kI, 4096, .inl (fun _ => 0)))] := hD
  refine lv_aload_n hx hb dX4_init_18 rfl (lv_at hl 0 rfl) ?_
  refine lv_aload_n hx hb dX4_init_19 rfl (lv_at hl 2 rfl) ?_
  refine va_putF (D := (dC, dI)) (ci := 4) (v := .ref g0) (ty := .object "SequenceFrames$Row") (C := RX4) (T := TX4) (N := 7) hx hb hts (by decide +kernel) tyX4 tyX4_ok nmX4 hown hK hP hD hS 0 rfl rfl 1 (by decide) (hts (.fieldLink RX4 19 "SequenceFrames$Packer" "frames" "LSequenceFrames$Row;") (by decide +kernel)) (fun _ h9 => h9) rfl hin rfl (by decide +kernel) rfl rfl (Nat.le_of_ble_eq_true rfl) dX4_init_20 (fun H locs hP hD hS => ?_)
  have hP : va_P (dC, dI) vwCl [(p0, .inr (4, [.ref a0, .ref g0, .null, .null, .ref q9, .int 0, .int 0])), (q9, .inl (kI, 4096, .inl (fun _ => 0)))] H := hP
  have hD : va_D A [(p0, .inr (4, [.ref a0, .ref g0, .null, .null, .ref q9, .int 0, .int 0])), (q9, .inl (kI, 4096, .inl (fun _ => 0)))] := hD
  refine lv_aload_n hx hb dX4_init_23 rfl (lv_at hl 0 rfl) ?_
  refine lv_aload_n hx hb dX4_init_24 rfl (lv_at hl 3 rfl) ?_
  refine va_putF (D := (dC, dI)) (ci := 4) (v := .ref o0) (ty := .object "SequenceFrames$Options") (C := RX4) (T := TX4) (N := 7) hx hb hts (by decide +kernel) tyX4 tyX4_ok nmX4 hown hK hP hD hS 0 rfl rfl 2 (by decide) (hts (.fieldLink RX4 22 "SequenceFrames$Packer" "options" "LSequenceFrames$Options;") (by decide +kernel)) (fun _ h9 => h9) rfl hin rfl (by decide +kernel) rfl rfl (Nat.le_of_ble_eq_true rfl) dX4_init_25 (fun H locs hP hD hS => ?_)
  have hP : va_P (dC, dI) vwCl [(p0, .inr (4, [.ref a0, .ref g0, .ref o0, .null, .ref q9, .int 0, .int 0])), (q9, .inl (kI, 4096, .inl (fun _ => 0)))] H := hP
  have hD : va_D A [(p0, .inr (4, [.ref a0, .ref g0, .ref o0, .null, .ref q9, .int 0, .int 0])), (q9, .inl (kI, 4096, .inl (fun _ => 0)))] := hD
  refine lv_aload_n hx hb dX4_init_28 rfl (lv_at hl 0 rfl) ?_
  refine lv_aload hx hb dX4_init_29 (lv_at hl 4 rfl) ?_
  refine va_putF (D := (dC, dI)) (ci := 4) (v := .ref s0) (ty := .object "SequenceFrames$Sequences") (C := RX4) (T := TX4) (N := 7) hx hb hts (by decide +kernel) tyX4 tyX4_ok nmX4 hown hK hP hD hS 0 rfl rfl 3 (by decide) (hts (.fieldLink RX4 26 "SequenceFrames$Packer" "found" "LSequenceFrames$Sequences;") (by decide +kernel)) (fun _ h9 => h9) rfl hin rfl (by decide +kernel) rfl rfl (Nat.le_of_ble_eq_true rfl) dX4_init_31 (fun H locs hP hD hS => ?_)
  have hP : va_P (dC, dI) vwCl [(p0, .inr (4, [.ref a0, .ref g0, .ref o0, .ref s0, .ref q9, .int 0, .int 0])), (q9, .inl (kI, 4096, .inl (fun _ => 0)))] H := hP
  have hD : va_D A [(p0, .inr (4, [.ref a0, .ref g0, .ref o0, .ref s0, .ref q9, .int 0, .int 0])), (q9, .inl (kI, 4096, .inl (fun _ => 0)))] := hD
  have eq9 : (0 : Int32) = (nI 0) := rfl
  have hP : va_P (dC, dI) vwCl [(p0, .inr (4, [.ref a0, .ref g0, .ref o0, .ref s0, .ref q9, .int (nI 0), .int 0])), (q9, .inl (kI, 4096, .inl (fun _ => 0)))] H := by rw [← eq9]; exact hP
  have hD : va_D A [(p0, .inr (4, [.ref a0, .ref g0, .ref o0, .ref s0, .ref q9, .int (nI 0), .int 0])), (q9, .inl (kI, 4096, .inl (fun _ => 0)))] := by rw [← eq9]; exact hD
  have eq9 : (0 : Int32) = (nI 0) := rfl
  have hP : va_P (dC, dI) vwCl [(p0, .inr (4, [.ref a0, .ref g0, .ref o0, .ref s0, .ref q9, .int (nI 0), .int (nI 0)])), (q9, .inl (kI, 4096, .inl (fun _ => 0)))] H := by rw [← eq9]; exact hP
  have hD : va_D A [(p0, .inr (4, [.ref a0, .ref g0, .ref o0, .ref s0, .ref q9, .int (nI 0), .int (nI 0)])), (q9, .inl (kI, 4096, .inl (fun _ => 0)))] := by rw [← eq9]; exact hD
  have hP9 := hP.sub (ws' := [(p0, .inr (4, [.ref a0, .ref g0, .ref o0, .ref s0, .ref q9, .int (nI 0), .int (nI 0)])), (q9, .inl (kI, 4096, .inl (fun _ => 0)))]) [0, 1] rfl
  have hD9 := hD.sub (ws' := [(p0, .inr (4, [.ref a0, .ref g0, .ref o0, .ref s0, .ref q9, .int (nI 0), .int (nI 0)])), (q9, .inl (kI, 4096, .inl (fun _ => 0)))]) [0, 1] (by decide) rfl
  exact W.vret hx hb hr (fun t9 ht9 hW9 => ⟨⟨q9, rfl, trivial, by rw [ht9]; exact hP9, va_K.moved hW9.alike hK, hD9⟩, hS.F ht9⟩) hS.2.2 dX4_init_34
