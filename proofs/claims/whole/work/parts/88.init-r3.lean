set_option maxHeartbeats 4000000 in
set_option maxRecDepth 100000 in
theorem c_Top_option (l : Launch) (dC : Nat → ClassId) (dI : Nat → Nat → Nat) (kB kI : ClassId) (t0 : Nat) (y0 : Nat) (y1 : Nat) (y2 : Nat) (y3 : Nat) (y5 : Nat) (y6 : Nat) (y7 : Int32) (y8 : Int32) (y9 : Int32) (o0 : Nat) (o1 : Nat) (v : Nat → Int32) (x : Int32) (xi : Int) (y : Int32) (yi : Int) (xh : x.toInt = xi) (yh : y.toInt = yi) : zMiO l yX7_option wsX7_option ({ frames := 1, cells := 0, slots := 0, locals := 23 }) (dC, dI) kB kI [.ref t0, .int x, .int y] [(t0, .inr (7, [.ref y0, .ref y1, .ref y2, .ref y3, .ref o0, .ref y5, .ref y6, .int y7, .int y8, .int y9])), (o0, .inr (3, [.ref o1])), (o1, .inl (kI, 6, .inl v))] 0 0 (fun (r : Int32) => fun v2 : Nat → Int32 => optP v xi yi y r v2) (fun v2 : Nat → Int32 => [(t0, .inr (7, [.ref y0, .ref y1, .ref y2, .ref y3, .ref o0, .ref y5, .ref y6, .int y7, .int y8, .int y9])), (o0, .inr (3, [.ref o1])), (o1, .inl (kI, 6, .inl v2))]) := by
  intro sz
  refine Met.ofW (cc := cX7_option) (maxL := 3) (ret := (some .int)) (by decide) rfl ?_
  intro p e s m args below meth c s₁ B hml hv
  obtain ⟨rfl, hsz, hP, hK, hD0, hO⟩ := hv
  have hx := B.exec
  have hb := B.bytes
  have hr := B.returns
  have hts := atoms_spec (ws := wsX7_option) B.pre
  have hown : s.vm.findClass RX7 = some m.cls := findClass_of_methodNamed B.named
  have hlocks := B.notSynchronized
  subst hsz
  have hD := hD0.self (sz := s.heap.size)
  generalize hAe : va_A [(t0, .inr (7, [.ref y0, .ref y1, .ref y2, .ref y3, .ref o0, .ref y5, .ref y6, .int y7, .int y8, .int y9])), (o0, .inr (3, [.ref o1])), (o1, .inl (kI, 6, .inl v))] s.heap.size = A at hD hO ⊢
  have hA : ∀ q : Nat, s.heap.size ≤ q → A q := fun q h => by rw [← hAe]; exact Or.inr h
  have hS : va_S A s.heap s.heap [] := va_S.rf
  have hP : va_P (dC, dI) vwCl [(t0, .inr (7, [.ref y0, .ref y1, .ref y2, .ref y3, .ref o0, .ref y5, .ref y6, .int y7, .int y8, .int y9])), (o0, .inr (3, [.ref o1])), (o1, .inl (kI, 6, .inl v))] s.heap := hP
  have hl := lv_entry ([.ref t0, .int x, .int y]) (n := 3) (Nat.le_of_ble_eq_true rfl)
  rw [lg_entry_eq]
  generalize (lg_sl ([.ref t0, .int x, .int y]) ++ List.replicate (3 - (lg_sl ([.ref t0, .int x, .int y])).length) Slot.unset).toArray = ls at hl ⊢
  have hl : lv_has ls 3 [(0, .ref t0), (1, .int x), (2, .int y)] := hl
  refine zG (fun GG hG1 hG2 => ?_)
  refine lv_aload_n hx hb dX7_option_0 rfl (lv_at hl 0 rfl) ?_
  refine va_get (D := (dC, dI)) (ci := 7) (v := .ref o0) (C := RX7) (T := TX7) (N := 10) hx hb hts (by decide +kernel) hown hK hP 0 rfl rfl 4 (by decide) (hts (.fieldLink RX7 32 "SequenceFrames" "options" "LSequenceFrames$Options;") (by decide +kernel)) (fun _ h9 => h9) rfl dX7_option_1 ?_
  refine lv_iload_n hx hb dX7_option_4 rfl (lv_at hl 1 rfl) ?_
  refine lv_iload_n hx hb dX7_option_5 rfl (lv_at hl 2 rfl) ?_
  refine z_calli (wr := [(t0, .inr (7, [.ref y0, .ref y1, .ref y2, .ref y3, .ref o0, .ref y5, .ref y6, .int y7, .int y8, .int y9]))]) (va_runV (As := [.int x, .int y]) (rest := []) ⟨hx, hb, hml, hown, hts⟩ (c_Opt_set l dC dI kB kI o0 o1 v x xi y yi xh yh s.heap.size) (cwV 2 hts gX7_option_X3_set rfl rfl rfl (by decide +kernel) ⟨Nat.le_of_ble_eq_true rfl, Nat.le_of_ble_eq_true rfl⟩) (z_preVO hK (hP.sub [1, 2] rfl) (hD.sub [1, 2] (by decide) rfl) hO hS (va_free hD hS hA [1, 2] rfl) (va_recv hK hP (ci := 3) (q0 := 1) rfl rfl)) rfl rfl hl.1 rfl (lv_room (Nat.le_of_ble_eq_true rfl)) dX7_option_6 ⟨Nat.le_of_ble_eq_true rfl, Nat.le_of_ble_eq_true rfl⟩) hK hP hD hS hA [1, 2] [0] rfl rfl (by decide) (by decide) (fun r1 uq2 H locs hw hP hD hS => ?_)
  obtain ⟨v9, rfl⟩ : ∃ z, z = uq2 := ⟨_, rfl⟩
  replace hw : optP v xi yi y r1 v9 := hw
  have hP : va_P (dC, dI) vwCl [(t0, .inr (7, [.ref y0, .ref y1, .ref y2, .ref y3, .ref o0, .ref y5, .ref y6, .int y7, .int y8, .int y9])), (o0, .inr (3, [.ref o1])), (o1, .inl (kI, 6, .inl v9))] H := hP
  have hD : va_D A [(t0, .inr (7, [.ref y0, .ref y1, .ref y2, .ref y3, .ref o0, .ref y5, .ref y6, .int y7, .int y8, .int y9])), (o0, .inr (3, [.ref o1])), (o1, .inl (kI, 6, .inl v9))] := hD
  have hP9 := hP.sub (ws' := [(t0, .inr (7, [.ref y0, .ref y1, .ref y2, .ref y3, .ref o0, .ref y5, .ref y6, .int y7, .int y8, .int y9])), (o0, .inr (3, [.ref o1])), (o1, .inl (kI, 6, .inl v9))]) [0, 1, 2] rfl
  have hD9 := hD.sub (ws' := [(t0, .inr (7, [.ref y0, .ref y1, .ref y2, .ref y3, .ref o0, .ref y5, .ref y6, .int y7, .int y8, .int y9])), (o0, .inr (3, [.ref o1])), (o1, .inl (kI, 6, .inl v9))]) [0, 1, 2] (by decide) rfl
  exact W.iret (v := r1) hx hb hr (fun t9 ht9 hW9 => ⟨⟨r1, v9, rfl, hw, by rw [ht9]; exact hP9, va_K.moved hW9.alike hK, hD9⟩, hS.F ht9⟩) hS.2.2 dX7_option_9
