set_option maxHeartbeats 4000000 in
set_option maxRecDepth 100000 in
theorem c_Blk_breaksRules (l : Launch) (dC : Nat → ClassId) (dI : Nat → Nat → Nat) (kB kI : ClassId) (k0 : Nat) (g0 : Nat) (e0 : Nat) (f0 : Nat) (k4 : Int32) (k5 : Int32) (k6 : Int32) (k7 : Int32) (k8 : Int32) (k9 : Int32) (k10 : Int32) (k11 : Int32) (k12 : Int32) (np : Nat) (x1 : Int32) (x2 : Int32)  : zMi l yX0_breaksRules wsX0_breaksRules ({ frames := 1, cells := 0, slots := 0, locals := 22 }) (dC, dI) kB kI [.ref k0] [(k0, .inr (0, [.ref g0, .ref e0, .ref f0, .int (nI np), .int k4, .int k5, .int k6, .int k7, .int k8, .int k9, .int k10, .int k11, .int k12])), (f0, .inr (1, [.int x1, .int x2]))] 0 0 (fun (r : Int32) => fun _ : Unit => r = 0) (fun _ : Unit => [(k0, .inr (0, [.ref g0, .ref e0, .ref f0, .int (nI np), .int k4, .int k5, .int k6, .int k7, .int k8, .int k9, .int k10, .int k11, .int k12])), (f0, .inr (1, [.int 9, .int (nI np)]))]) := by
  intro sz
  refine Met.ofW (cc := cX0_breaksRules) (maxL := 1) (ret := (some .boolean)) (by decide) rfl ?_
  intro p e s m args below meth c s₁ B hml hv
  obtain ⟨rfl, hsz, hP, hK, hD0⟩ := hv
  have hx := B.exec
  have hb := B.bytes
  have hr := B.returns
  have hts := atoms_spec (ws := wsX0_breaksRules) B.pre
  have hown : s.vm.findClass RX0 = some m.cls := findClass_of_methodNamed B.named
  have hlocks := B.notSynchronized
  subst hsz
  have hD := hD0.self (sz := s.heap.size)
  generalize hAe : va_A [(k0, .inr (0, [.ref g0, .ref e0, .ref f0, .int (nI np), .int k4, .int k5, .int k6, .int k7, .int k8, .int k9, .int k10, .int k11, .int k12])), (f0, .inr (1, [.int x1, .int x2]))] s.heap.size = A at hD ⊢
  have hA : ∀ q : Nat, s.heap.size ≤ q → A q := fun q h => by rw [← hAe]; exact Or.inr h
  have hS : va_S A s.heap s.heap [] := va_S.rf
  have hP : va_P (dC, dI) vwCl [(k0, .inr (0, [.ref g0, .ref e0, .ref f0, .int (nI np), .int k4, .int k5, .int k6, .int k7, .int k8, .int k9, .int k10, .int k11, .int k12])), (f0, .inr (1, [.int x1, .int x2]))] s.heap := hP
  have hl := lv_entry ([.ref k0]) (n := 1) (Nat.le_of_ble_eq_true rfl)
  rw [lg_entry_eq]
  generalize (lg_sl ([.ref k0]) ++ List.replicate (1 - (lg_sl ([.ref k0])).length) Slot.unset).toArray = ls at hl ⊢
  have hl : lv_has ls 1 [(0, .ref k0)] := hl
  refine zG (fun GG hG1 hG2 => ?_)
  refine lv_aload_n hx hb dX0_breaksRules_0 rfl (lv_at hl 0 rfl) ?_
  refine va_get (D := (dC, dI)) (ci := 0) (v := .ref f0) (C := RX0) (T := TX0) (N := 13) hx hb hts (by decide +kernel) hown hK hP 0 rfl rfl 2 (by decide) (hts (.fieldLink RX0 18 "SequenceFrames$BlockReader" "fault" "LSequenceFrames$Fault;") (by decide +kernel)) (fun _ h9 => h9) rfl dX0_breaksRules_1 ?_
  refine lv_bipush (v := 9) hx hb dX0_breaksRules_4 (by decide) ?_
  refine lv_aload_n hx hb dX0_breaksRules_6 rfl (lv_at hl 0 rfl) ?_
  refine va_get (D := (dC, dI)) (ci := 0) (v := .int (nI np)) (C := RX0) (T := TX0) (N := 13) hx hb hts (by decide +kernel) hown hK hP 0 rfl rfl 3 (by decide) (hts (.fieldLink RX0 22 "SequenceFrames$BlockReader" "sizePlace" "I") (by decide +kernel)) (fun _ h9 => h9) rfl dX0_breaksRules_7 ?_
  refine z_calli (wr := [(k0, .inr (0, [.ref g0, .ref e0, .ref f0, .int (nI np), .int k4, .int k5, .int k6, .int k7, .int k8, .int k9, .int k10, .int k11, .int k12]))]) (va_runV (As := [.int 9, .int (nI np)]) (rest := []) ⟨hx, hb, hml, hown, hts⟩ (c_Fault_refuse l dC dI kB kI f0 x1 x2 9 (nI np)  s.heap.size) (cwV 2 hts gX0_breaksRules_X1_refuse rfl rfl rfl (by decide +kernel) ⟨Nat.le_of_ble_eq_true rfl, Nat.le_of_ble_eq_true rfl⟩) (z_preV hK (hP.sub [1] rfl) (hD.sub [1] (by decide) rfl) (va_recv hK hP (ci := 1) (q0 := 1) rfl rfl)) rfl rfl hl.1 rfl (lv_room (Nat.le_of_ble_eq_true rfl)) dX0_breaksRules_10 ⟨Nat.le_of_ble_eq_true rfl, Nat.le_of_ble_eq_true rfl⟩) hK hP hD hS hA [1] [0] rfl rfl (by decide) (by decide) (fun r1 uq2 H locs hw hP hD hS => ?_)
  replace hw : r1 = 0 := hw
  have hP : va_P (dC, dI) vwCl [(k0, .inr (0, [.ref g0, .ref e0, .ref f0, .int (nI np), .int k4, .int k5, .int k6, .int k7, .int k8, .int k9, .int k10, .int k11, .int k12])), (f0, .inr (1, [.int 9, .int (nI np)]))] H := hP
  have hD : va_D A [(k0, .inr (0, [.ref g0, .ref e0, .ref f0, .int (nI np), .int k4, .int k5, .int k6, .int k7, .int k8, .int k9, .int k10, .int k11, .int k12])), (f0, .inr (1, [.int 9, .int (nI np)]))] := hD
  subst hw
  have hP9 := hP.sub (ws' := [(k0, .inr (0, [.ref g0, .ref e0, .ref f0, .int (nI np), .int k4, .int k5, .int k6, .int k7, .int k8, .int k9, .int k10, .int k11, .int k12])), (f0, .inr (1, [.int 9, .int (nI np)]))]) [0, 1] rfl
  have hD9 := hD.sub (ws' := [(k0, .inr (0, [.ref g0, .ref e0, .ref f0, .int (nI np), .int k4, .int k5, .int k6, .int k7, .int k8, .int k9, .int k10, .int k11, .int k12])), (f0, .inr (1, [.int 9, .int (nI np)]))]) [0, 1] (by decide) rfl
  exact W.zret (v := 0) hx hb hr (by decide) (fun t9 ht9 hW9 => ⟨⟨0, (), rfl, rfl, by rw [ht9]; exact hP9, va_K.moved hW9.alike hK, hD9⟩, hS.F ht9⟩) hS.2.2 dX0_breaksRules_13
