set_option maxHeartbeats 4000000 in
set_option maxRecDepth 100000 in
theorem c_Row_room (l : Launch) (dC : Nat → ClassId) (dI : Nat → Nat → Nat) (kB kI : ClassId) (a0 : Nat) (a1 : Nat) (cap : Nat) (n : Nat) (f : Nat → Int32) (hn : n ≤ cap) (hc : cap ≤ 150000) : zMi l yX5_room wsX5_room ({ frames := 0, cells := 0, slots := 0, locals := 0 }) (dC, dI) kB kI [.ref a0] [(a0, .inr (5, [.ref a1, .int (nI n)])), (a1, .inl (kB, cap, .inl f))] 0 0 (fun (r : Int32) => fun _ : Unit => r = nI (cap - n)) (fun _ : Unit => [(a0, .inr (5, [.ref a1, .int (nI n)])), (a1, .inl (kB, cap, .inl f))]) := by
  intro sz
  refine Met.ofW (cc := cX5_room) (maxL := 1) (ret := (some .int)) (by decide) rfl ?_
  intro p e s m args below meth c s₁ B hml hv
  obtain ⟨rfl, hsz, hP, hK, hD0⟩ := hv
  have hx := B.exec
  have hb := B.bytes
  have hr := B.returns
  have hts := atoms_spec (ws := wsX5_room) B.pre
  have hown : s.vm.findClass RX5 = some m.cls := findClass_of_methodNamed B.named
  have hlocks := B.notSynchronized
  subst hsz
  have hD := hD0.self (sz := s.heap.size)
  generalize hAe : va_A [(a0, .inr (5, [.ref a1, .int (nI n)])), (a1, .inl (kB, cap, .inl f))] s.heap.size = A at hD ⊢
  have hA : ∀ q : Nat, s.heap.size ≤ q → A q := fun q h => by rw [← hAe]; exact Or.inr h
  have hS : va_S A s.heap s.heap [] := va_S.rf
  have hP : va_P (dC, dI) vwCl [(a0, .inr (5, [.ref a1, .int (nI n)])), (a1, .inl (kB, cap, .inl f))] s.heap := hP
  have hl := lv_entry ([.ref a0]) (n := 1) (Nat.le_of_ble_eq_true rfl)
  rw [lg_entry_eq]
  generalize (lg_sl ([.ref a0]) ++ List.replicate (1 - (lg_sl ([.ref a0])).length) Slot.unset).toArray = ls at hl ⊢
  have hl : lv_has ls 1 [(0, .ref a0)] := hl
  refine zG (fun GG hG1 hG2 => ?_)
  refine lv_aload_n hx hb dX5_room_0 rfl (lv_at hl 0 rfl) ?_
  refine va_get (D := (dC, dI)) (ci := 5) (v := .ref a1) (C := RX5) (T := TX5) (N := 2) hx hb hts (by decide +kernel) hown hK hP 0 rfl rfl 0 (by decide) (hts (.fieldLink RX5 15 "SequenceFrames$Row" "bytes" "[B") (by decide +kernel)) (fun _ h9 => h9) rfl dX5_room_1 ?_
  refine va_alen (v := nI cap) hx hb hK hP 1 0 rfl rfl rfl dX5_room_4 ?_
  refine lv_aload_n hx hb dX5_room_5 rfl (lv_at hl 0 rfl) ?_
  refine va_get (D := (dC, dI)) (ci := 5) (v := .int (nI n)) (C := RX5) (T := TX5) (N := 2) hx hb hts (by decide +kernel) hown hK hP 0 rfl rfl 1 (by decide) (hts (.fieldLink RX5 21 "SequenceFrames$Row" "size" "I") (by decide +kernel)) (fun _ h9 => h9) rfl dX5_room_6 ?_
  refine lv_isub hx hb dX5_room_9 ?_
  refine lv_is (y := (nI (cap - n))) ((zn_sub rfl rfl (by omega))) ?_
  have hP9 := hP.sub (ws' := [(a0, .inr (5, [.ref a1, .int (nI n)])), (a1, .inl (kB, cap, .inl f))]) [0, 1] rfl
  have hD9 := hD.sub (ws' := [(a0, .inr (5, [.ref a1, .int (nI n)])), (a1, .inl (kB, cap, .inl f))]) [0, 1] (by decide) rfl
  exact W.iret (v := (nI (cap - n))) hx hb hr (fun t9 ht9 hW9 => ⟨⟨(nI (cap - n)), (), rfl, rfl, by rw [ht9]; exact hP9, va_K.moved hW9.alike hK, hD9⟩, hS.F ht9⟩) hS.2.2 dX5_room_10

set_option maxHeartbeats 4000000 in
set_option maxRecDepth 100000 in
theorem c_Row_hasPiece (l : Launch) (dC : Nat → ClassId) (dI : Nat → Nat → Nat) (kB kI : ClassId) (a0 : Nat) (a1 : Nat) (cap : Nat) (n : Nat) (f : Nat → Int32) (x : Int32) (xi : Int) (y : Int32) (yi : Int) (hn : n ≤ cap) (hc : cap ≤ 150000) (xh : x.toInt = xi) (yh : y.toInt = yi) : zMi l yX5_hasPiece wsX5_hasPiece ({ frames := 0, cells := 0, slots := 0, locals := 0 }) (dC, dI) kB kI [.ref a0, .int x, .int y] [(a0, .inr (5, [.ref a1, .int (nI n)])), (a1, .inl (kB, cap, .inl f))] 0 0 (fun (r : Int32) => fun _ : Unit => (r = 1 ∧ 0 ≤ xi ∧ 0 ≤ yi ∧ xi + yi ≤ n) ∨ (r = 0 ∧ (xi < 0 ∨ yi < 0 ∨ (n : Int) < xi + yi))) (fun _ : Unit => [(a0, .inr (5, [.ref a1, .int (nI n)])), (a1, .inl (kB, cap, .inl f))]) := by
  intro sz
  refine Met.ofW (cc := cX5_hasPiece) (maxL := 3) (ret := (some .boolean)) (by decide) rfl ?_
  intro p e s m args below meth c s₁ B hml hv
  obtain ⟨rfl, hsz, hP, hK, hD0⟩ := hv
  have hx := B.exec
  have hb := B.bytes
  have hr := B.returns
  have hts := atoms_spec (ws := wsX5_hasPiece) B.pre
  have hown : s.vm.findClass RX5 = some m.cls := findClass_of_methodNamed B.named
  have hlocks := B.notSynchronized
  subst hsz
  have hD := hD0.self (sz := s.heap.size)
  generalize hAe : va_A [(a0, .inr (5, [.ref a1, .int (nI n)])), (a1, .inl (kB, cap, .inl f))] s.heap.size = A at hD ⊢
  have hA : ∀ q : Nat, s.heap.size ≤ q → A q := fun q h => by rw [← hAe]; exact Or.inr h
  have hS : va_S A s.heap s.heap [] := va_S.rf
  have hP : va_P (dC, dI) vwCl [(a0, .inr (5, [.ref a1, .int (nI n)])), (a1, .inl (kB, cap, .inl f))] s.heap := hP
  have hl := lv_entry ([.ref a0, .int x, .int y]) (n := 3) (Nat.le_of_ble_eq_true rfl)
  rw [lg_entry_eq]
  generalize (lg_sl ([.ref a0, .int x, .int y]) ++ List.replicate (3 - (lg_sl ([.ref a0, .int x, .int y])).length) Slot.unset).toArray = ls at hl ⊢
  have hl : lv_has ls 3 [(0, .ref a0), (1, .int x), (2, .int y)] := hl
  refine zG (fun GG hG1 hG2 => ?_)
  have hxr := Int32.toInt_lt x; have hxl := Int32.le_toInt x; have hyr := Int32.toInt_lt y; have hyl := Int32.le_toInt y
  refine lv_iload_n hx hb dX5_hasPiece_0 rfl (lv_at hl 1 rfl) ?_
  refine zb_if_lt (tgt := 30) (a := xi) hx hb dX5_hasPiece_1 (by decide) xh (fun c1 => ?_) (fun c1 => ?_)
  · refine lv_iconst (v := 0) hx hb dX5_hasPiece_30 (by decide) ?_
    have hP9 := hP.sub (ws' := [(a0, .inr (5, [.ref a1, .int (nI n)])), (a1, .inl (kB, cap, .inl f))]) [0, 1] rfl
    have hD9 := hD.sub (ws' := [(a0, .inr (5, [.ref a1, .int (nI n)])), (a1, .inl (kB, cap, .inl f))]) [0, 1] (by decide) rfl
    exact W.zret (v := 0) hx hb hr (by decide) (fun t9 ht9 hW9 => ⟨⟨0, (), rfl, (by right; exact ⟨rfl, by omega⟩), by rw [ht9]; exact hP9, va_K.moved hW9.alike hK, hD9⟩, hS.F ht9⟩) hS.2.2 dX5_hasPiece_31
  · refine lv_iload_n hx hb dX5_hasPiece_4 rfl (lv_at hl 2 rfl) ?_
    refine zb_if_lt (tgt := 30) (a := yi) hx hb dX5_hasPiece_5 (by decide) yh (fun c5 => ?_) (fun c5 => ?_)
    · refine lv_iconst (v := 0) hx hb dX5_hasPiece_30 (by decide) ?_
      have hP9 := hP.sub (ws' := [(a0, .inr (5, [.ref a1, .int (nI n)])), (a1, .inl (kB, cap, .inl f))]) [0, 1] rfl
      have hD9 := hD.sub (ws' := [(a0, .inr (5, [.ref a1, .int (nI n)])), (a1, .inl (kB, cap, .inl f))]) [0, 1] (by decide) rfl
      exact W.zret (v := 0) hx hb hr (by decide) (fun t9 ht9 hW9 => ⟨⟨0, (), rfl, (by right; exact ⟨rfl, by omega⟩), by rw [ht9]; exact hP9, va_K.moved hW9.alike hK, hD9⟩, hS.F ht9⟩) hS.2.2 dX5_hasPiece_31
    · refine lv_iload_n hx hb dX5_hasPiece_8 rfl (lv_at hl 1 rfl) ?_
      refine lv_aload_n hx hb dX5_hasPiece_9 rfl (lv_at hl 0 rfl) ?_
      refine va_get (D := (dC, dI)) (ci := 5) (v := .int (nI n)) (C := RX5) (T := TX5) (N := 2) hx hb hts (by decide +kernel) hown hK hP 0 rfl rfl 1 (by decide) (hts (.fieldLink RX5 21 "SequenceFrames$Row" "size" "I") (by decide +kernel)) (fun _ h9 => h9) rfl dX5_hasPiece_10 ?_
      refine zb_icmp_gt (tgt := 30) (a := xi) (b := ((n : Nat) : Int)) hx hb dX5_hasPiece_13 (by decide) xh (nI_toInt (by omega)) (fun c13 => ?_) (fun c13 => ?_)
      · refine lv_iconst (v := 0) hx hb dX5_hasPiece_30 (by decide) ?_
        have hP9 := hP.sub (ws' := [(a0, .inr (5, [.ref a1, .int (nI n)])), (a1, .inl (kB, cap, .inl f))]) [0, 1] rfl
        have hD9 := hD.sub (ws' := [(a0, .inr (5, [.ref a1, .int (nI n)])), (a1, .inl (kB, cap, .inl f))]) [0, 1] (by decide) rfl
        exact W.zret (v := 0) hx hb hr (by decide) (fun t9 ht9 hW9 => ⟨⟨0, (), rfl, (by right; exact ⟨rfl, by omega⟩), by rw [ht9]; exact hP9, va_K.moved hW9.alike hK, hD9⟩, hS.F ht9⟩) hS.2.2 dX5_hasPiece_31
      · refine lv_iload_n hx hb dX5_hasPiece_16 rfl (lv_at hl 2 rfl) ?_
        refine lv_aload_n hx hb dX5_hasPiece_17 rfl (lv_at hl 0 rfl) ?_
        refine va_get (D := (dC, dI)) (ci := 5) (v := .int (nI n)) (C := RX5) (T := TX5) (N := 2) hx hb hts (by decide +kernel) hown hK hP 0 rfl rfl 1 (by decide) (hts (.fieldLink RX5 21 "SequenceFrames$Row" "size" "I") (by decide +kernel)) (fun _ h9 => h9) rfl dX5_hasPiece_18 ?_
        refine lv_iload_n hx hb dX5_hasPiece_21 rfl (lv_at hl 1 rfl) ?_
        refine lv_isub hx hb dX5_hasPiece_22 ?_
        refine zb_icmp_gt (tgt := 30) (a := yi) (b := (((n : Nat) : Int) - xi)) hx hb dX5_hasPiece_23 (by decide) yh (zi_sub (nI_toInt (by omega)) xh (by omega) (by omega)) (fun c23 => ?_) (fun c23 => ?_)
        · refine lv_iconst (v := 0) hx hb dX5_hasPiece_30 (by decide) ?_
          have hP9 := hP.sub (ws' := [(a0, .inr (5, [.ref a1, .int (nI n)])), (a1, .inl (kB, cap, .inl f))]) [0, 1] rfl
          have hD9 := hD.sub (ws' := [(a0, .inr (5, [.ref a1, .int (nI n)])), (a1, .inl (kB, cap, .inl f))]) [0, 1] (by decide) rfl
          exact W.zret (v := 0) hx hb hr (by decide) (fun t9 ht9 hW9 => ⟨⟨0, (), rfl, (by right; exact ⟨rfl, by omega⟩), by rw [ht9]; exact hP9, va_K.moved hW9.alike hK, hD9⟩, hS.F ht9⟩) hS.2.2 dX5_hasPiece_31
        · refine lv_iconst (v := 1) hx hb dX5_hasPiece_26 (by decide) ?_
          refine lv_goto (tgt := 31) hx hb dX5_hasPiece_27 (by decide) ?_
          have hP9 := hP.sub (ws' := [(a0, .inr (5, [.ref a1, .int (nI n)])), (a1, .inl (kB, cap, .inl f))]) [0, 1] rfl
          have hD9 := hD.sub (ws' := [(a0, .inr (5, [.ref a1, .int (nI n)])), (a1, .inl (kB, cap, .inl f))]) [0, 1] (by decide) rfl
          exact W.zret (v := 1) hx hb hr (by decide) (fun t9 ht9 hW9 => ⟨⟨1, (), rfl, (by left; exact ⟨rfl, by omega⟩), by rw [ht9]; exact hP9, va_K.moved hW9.alike hK, hD9⟩, hS.F ht9⟩) hS.2.2 dX5_hasPiece_31

set_option maxHeartbeats 4000000 in
set_option maxRecDepth 100000 in
theorem c_Row_get (l : Launch) (dC : Nat → ClassId) (dI : Nat → Nat → Nat) (kB kI : ClassId) (a0 : Nat) (a1 : Nat) (cap : Nat) (n : Nat) (f : Nat → Int32) (x : Int32) (xi : Int) (hn : n ≤ cap) (hc : cap ≤ 150000) (xh : x.toInt = xi) : zMi l yX5_get wsX5_get ({ frames := 0, cells := 0, slots := 0, locals := 0 }) (dC, dI) kB kI [.ref a0, .int x] [(a0, .inr (5, [.ref a1, .int (nI n)])), (a1, .inl (kB, cap, .inl f))] 0 0 (fun (r : Int32) => fun _ : Unit => (∃ j : Nat, xi = j ∧ j < n ∧ r = f j &&& 255) ∨ ((xi < 0 ∨ (n : Int) ≤ xi) ∧ r = -1)) (fun _ : Unit => [(a0, .inr (5, [.ref a1, .int (nI n)])), (a1, .inl (kB, cap, .inl f))]) := by
  intro sz
  refine Met.ofW (cc := cX5_get) (maxL := 2) (ret := (some .int)) (by decide) rfl ?_
  intro p e s m args below meth c s₁ B hml hv
  obtain ⟨rfl, hsz, hP, hK, hD0⟩ := hv
  have hx := B.exec
  have hb := B.bytes
  have hr := B.returns
  have hts := atoms_spec (ws := wsX5_get) B.pre
  have hown : s.vm.findClass RX5 = some m.cls := findClass_of_methodNamed B.named
  have hlocks := B.notSynchronized
  subst hsz
  have hD := hD0.self (sz := s.heap.size)
  generalize hAe : va_A [(a0, .inr (5, [.ref a1, .int (nI n)])), (a1, .inl (kB, cap, .inl f))] s.heap.size = A at hD ⊢
  have hA : ∀ q : Nat, s.heap.size ≤ q → A q := fun q h => by rw [← hAe]; exact Or.inr h
  have hS : va_S A s.heap s.heap [] := va_S.rf
  have hP : va_P (dC, dI) vwCl [(a0, .inr (5, [.ref a1, .int (nI n)])), (a1, .inl (kB, cap, .inl f))] s.heap := hP
  have hl := lv_entry ([.ref a0, .int x]) (n := 2) (Nat.le_of_ble_eq_true rfl)
  rw [lg_entry_eq]
  generalize (lg_sl ([.ref a0, .int x]) ++ List.replicate (2 - (lg_sl ([.ref a0, .int x])).length) Slot.unset).toArray = ls at hl ⊢
  have hl : lv_has ls 2 [(0, .ref a0), (1, .int x)] := hl
  refine zG (fun GG hG1 hG2 => ?_)
  refine lv_iload_n hx hb dX5_get_0 rfl (lv_at hl 1 rfl) ?_
  refine zb_if_lt (tgt := 25) (a := xi) hx hb dX5_get_1 (by decide) xh (fun c1 => ?_) (fun c1 => ?_)
  · refine lv_iconst (v := (-1)) hx hb dX5_get_25 (by decide) ?_
    have hP9 := hP.sub (ws' := [(a0, .inr (5, [.ref a1, .int (nI n)])), (a1, .inl (kB, cap, .inl f))]) [0, 1] rfl
    have hD9 := hD.sub (ws' := [(a0, .inr (5, [.ref a1, .int (nI n)])), (a1, .inl (kB, cap, .inl f))]) [0, 1] (by decide) rfl
    exact W.iret (v := (-1)) hx hb hr (fun t9 ht9 hW9 => ⟨⟨(-1), (), rfl, (by right; exact ⟨by omega, rfl⟩), by rw [ht9]; exact hP9, va_K.moved hW9.alike hK, hD9⟩, hS.F ht9⟩) hS.2.2 dX5_get_26
  · refine lv_iload_n hx hb dX5_get_4 rfl (lv_at hl 1 rfl) ?_
    refine lv_aload_n hx hb dX5_get_5 rfl (lv_at hl 0 rfl) ?_
    refine va_get (D := (dC, dI)) (ci := 5) (v := .int (nI n)) (C := RX5) (T := TX5) (N := 2) hx hb hts (by decide +kernel) hown hK hP 0 rfl rfl 1 (by decide) (hts (.fieldLink RX5 21 "SequenceFrames$Row" "size" "I") (by decide +kernel)) (fun _ h9 => h9) rfl dX5_get_6 ?_
    refine zb_icmp_ge (tgt := 25) (a := xi) (b := ((n : Nat) : Int)) hx hb dX5_get_9 (by decide) xh (nI_toInt (by omega)) (fun c9 => ?_) (fun c9 => ?_)
    · refine lv_iconst (v := (-1)) hx hb dX5_get_25 (by decide) ?_
      have hP9 := hP.sub (ws' := [(a0, .inr (5, [.ref a1, .int (nI n)])), (a1, .inl (kB, cap, .inl f))]) [0, 1] rfl
      have hD9 := hD.sub (ws' := [(a0, .inr (5, [.ref a1, .int (nI n)])), (a1, .inl (kB, cap, .inl f))]) [0, 1] (by decide) rfl
      exact W.iret (v := (-1)) hx hb hr (fun t9 ht9 hW9 => ⟨⟨(-1), (), rfl, (by right; exact ⟨by omega, rfl⟩), by rw [ht9]; exact hP9, va_K.moved hW9.alike hK, hD9⟩, hS.F ht9⟩) hS.2.2 dX5_get_26
    · obtain ⟨j, jb, xe⟩ := z_nat (x := x) (by omega)
      subst xe
      rw [nI_toInt jb] at xh
      subst xh
      refine lv_aload_n hx hb dX5_get_12 rfl (lv_at hl 0 rfl) ?_
      refine va_get (D := (dC, dI)) (ci := 5) (v := .ref a1) (C := RX5) (T := TX5) (N := 2) hx hb hts (by decide +kernel) hown hK hP 0 rfl rfl 0 (by decide) (hts (.fieldLink RX5 15 "SequenceFrames$Row" "bytes" "[B") (by decide +kernel)) (fun _ h9 => h9) rfl dX5_get_13 ?_
      refine lv_iload_n hx hb dX5_get_16 rfl (lv_at hl 1 rfl) ?_
      refine va_bald hx hb hK hP 1 0 rfl rfl (zin rfl (by omega) (by omega)) dX5_get_17 ?_
      refine lv_is (y := (f j)) (zld f rfl (by omega)) ?_
      refine lv_sipush (v := 255) hx hb dX5_get_18 (by decide) ?_
      refine lv_iand hx hb dX5_get_21 ?_
      refine lv_goto (tgt := 26) hx hb dX5_get_22 (by decide) ?_
      have hP9 := hP.sub (ws' := [(a0, .inr (5, [.ref a1, .int (nI n)])), (a1, .inl (kB, cap, .inl f))]) [0, 1] rfl
      have hD9 := hD.sub (ws' := [(a0, .inr (5, [.ref a1, .int (nI n)])), (a1, .inl (kB, cap, .inl f))]) [0, 1] (by decide) rfl
      exact W.iret (v := ((f j) &&& 255)) hx hb hr (fun t9 ht9 hW9 => ⟨⟨((f j) &&& 255), (), rfl, (by left; exact ⟨j, rfl, by omega, rfl⟩), by rw [ht9]; exact hP9, va_K.moved hW9.alike hK, hD9⟩, hS.F ht9⟩) hS.2.2 dX5_get_26

set_option maxHeartbeats 4000000 in
set_option maxRecDepth 100000 in
theorem c_Row_set (l : Launch) (dC : Nat → ClassId) (dI : Nat → Nat → Nat) (kB kI : ClassId) (a0 : Nat) (a1 : Nat) (cap : Nat) (n : Nat) (f : Nat → Int32) (x : Int32) (xi : Int) (y : Int32) (hn : n ≤ cap) (hc : cap ≤ 150000) (xh : x.toInt = xi) : zMi l yX5_set wsX5_set ({ frames := 1, cells := 0, slots := 0, locals := 21 }) (dC, dI) kB kI [.ref a0, .int x, .int y] [(a0, .inr (5, [.ref a1, .int (nI n)])), (a1, .inl (kB, cap, .inl f))] 0 0 (fun (r : Int32) => fun f2 : Nat → Int32 => (∃ j : Nat, xi = j ∧ j < n ∧ r = f j &&& 255 ∧ f2 = upd f j (i2b y)) ∨ ((xi < 0 ∨ (n : Int) ≤ xi) ∧ r = -1 ∧ f2 = f)) (fun f2 : Nat → Int32 => [(a0, .inr (5, [.ref a1, .int (nI n)])), (a1, .inl (kB, cap, .inl f2))]) := by
  intro sz
  refine Met.ofW (cc := cX5_set) (maxL := 4) (ret := (some .int)) (by decide) rfl ?_
  intro p e s m args below meth c s₁ B hml hv
  obtain ⟨rfl, hsz, hP, hK, hD0⟩ := hv
  have hx := B.exec
  have hb := B.bytes
  have hr := B.returns
  have hts := atoms_spec (ws := wsX5_set) B.pre
  have hown : s.vm.findClass RX5 = some m.cls := findClass_of_methodNamed B.named
  have hlocks := B.notSynchronized
  subst hsz
  have hD := hD0.self (sz := s.heap.size)
  generalize hAe : va_A [(a0, .inr (5, [.ref a1, .int (nI n)])), (a1, .inl (kB, cap, .inl f))] s.heap.size = A at hD ⊢
  have hA : ∀ q : Nat, s.heap.size ≤ q → A q := fun q h => by rw [← hAe]; exact Or.inr h
  have hS : va_S A s.heap s.heap [] := va_S.rf
  have hP : va_P (dC, dI) vwCl [(a0, .inr (5, [.ref a1, .int (nI n)])), (a1, .inl (kB, cap, .inl f))] s.heap := hP
  have hl := lv_entry ([.ref a0, .int x, .int y]) (n := 4) (Nat.le_of_ble_eq_true rfl)
  rw [lg_entry_eq]
  generalize (lg_sl ([.ref a0, .int x, .int y]) ++ List.replicate (4 - (lg_sl ([.ref a0, .int x, .int y])).length) Slot.unset).toArray = ls at hl ⊢
  have hl : lv_has ls 4 [(0, .ref a0), (1, .int x), (2, .int y)] := hl
  refine zG (fun GG hG1 hG2 => ?_)
  refine lv_aload_n hx hb dX5_set_0 rfl (lv_at hl 0 rfl) ?_
  refine lv_iload_n hx hb dX5_set_1 rfl (lv_at hl 1 rfl) ?_
  refine z_calli (wr := []) (va_runV (As := [.int x]) (rest := []) ⟨hx, hb, hml, hown, hts⟩ (c_Row_get l dC dI kB kI a0 a1 cap n f x xi (by omega) (by omega) xh s.heap.size) (cwV 1 hts gX5_set_X5_get rfl rfl rfl (by decide +kernel) ⟨Nat.le_of_ble_eq_true rfl, Nat.le_of_ble_eq_true rfl⟩) (z_preV hK (hP.sub [0, 1] rfl) (hD.sub [0, 1] (by decide) rfl) (va_recv hK hP (ci := 5) (q0 := 0) rfl rfl)) rfl rfl hl.1 rfl (lv_room (Nat.le_of_ble_eq_true rfl)) dX5_set_2 ⟨Nat.le_of_ble_eq_true rfl, Nat.le_of_ble_eq_true rfl⟩) hK hP hD hS hA [0, 1] [] rfl rfl (by decide) (by decide) (fun r1 u2 H locs hw hP hD hS => ?_)
  have hw : (∃ j : Nat, xi = j ∧ j < n ∧ r1 = f j &&& 255) ∨ ((xi < 0 ∨ (n : Int) ≤ xi) ∧ r1 = -1) := hw
  have hP : va_P (dC, dI) vwCl [(a0, .inr (5, [.ref a1, .int (nI n)])), (a1, .inl (kB, cap, .inl f))] H := hP
  have hD : va_D A [(a0, .inr (5, [.ref a1, .int (nI n)])), (a1, .inl (kB, cap, .inl f))] := hD
  rcases hw with ⟨j, ej, hj, er⟩ | ⟨hj, er⟩
  · obtain ⟨k, kb, xe⟩ := z_nat (x := x) (by omega)
    subst xe
    rw [nI_toInt kb] at xh
    subst xh
    have h255 := z255 (f j); rw [← er] at h255; have ekj : j = k := by omega
    refine lv_istore_n (lv' := [(3, .int r1), (0, .ref a0), (1, .int (nI k)), (2, .int y)]) hx hb dX5_set_5 rfl hl (by decide) rfl (fun ls hl => ?_)
    refine lv_iload_n hx hb dX5_set_6 rfl (lv_at hl 0 rfl) ?_
    refine lv_iconst (v := (-1)) hx hb dX5_set_7 (by decide) ?_
    refine zb_icmp_eq (tgt := 19) (a := (r1).toInt) (b := (-1)) hx hb dX5_set_8 (by decide) rfl (by decide) (fun c8 => ?_) (fun c8 => ?_)
    · omega
    · refine lv_aload_n hx hb dX5_set_11 rfl (lv_at hl 1 rfl) ?_
      refine va_get (D := (dC, dI)) (ci := 5) (v := .ref a1) (C := RX5) (T := TX5) (N := 2) hx hb hts (by decide +kernel) hown hK hP 0 rfl rfl 0 (by decide) (hts (.fieldLink RX5 15 "SequenceFrames$Row" "bytes" "[B") (by decide +kernel)) (fun _ h9 => h9) rfl dX5_set_12 ?_
      refine lv_iload_n hx hb dX5_set_15 rfl (lv_at hl 2 rfl) ?_
      refine lv_iload_n hx hb dX5_set_16 rfl (lv_at hl 3 rfl) ?_
      refine lv_i2b (v := (i2b y)) hx hb dX5_set_17 rfl ?_
      refine va_bast hx hb hK hP hD hS 1 0 rfl rfl (zin rfl (by omega) (by omega)) dX5_set_18 (fun H locs hP hD hS => ?_)
      have ez := (congrArg (upd f ((nI k) : Int32).toNatClampNeg) (show vp_nar .byte (i2b y) = (i2b y) from pk_vb _)).trans (zst f (i2b y) (i := (nI k)) (j := k) rfl (by omega))
      have hP : va_P (dC, dI) vwCl [(a0, .inr (5, [.ref a1, .int (nI n)])), (a1, .inl (kB, cap, .inl (upd f k (i2b y))))] H := by rw [← ez]; exact hP
      have hD : va_D A [(a0, .inr (5, [.ref a1, .int (nI n)])), (a1, .inl (kB, cap, .inl (upd f k (i2b y))))] := by rw [← ez]; exact hD
      refine lv_iload_n hx hb dX5_set_19 rfl (lv_at hl 0 rfl) ?_
      have hP9 := hP.sub (ws' := [(a0, .inr (5, [.ref a1, .int (nI n)])), (a1, .inl (kB, cap, .inl (upd f k (i2b y))))]) [0, 1] rfl
      have hD9 := hD.sub (ws' := [(a0, .inr (5, [.ref a1, .int (nI n)])), (a1, .inl (kB, cap, .inl (upd f k (i2b y))))]) [0, 1] (by decide) rfl
      exact W.iret (v := r1) hx hb hr (fun t9 ht9 hW9 => ⟨⟨r1, (upd f k (i2b y)), rfl, (by left; exact ⟨k, rfl, by omega, by rw [er, ekj], rfl⟩), by rw [ht9]; exact hP9, va_K.moved hW9.alike hK, hD9⟩, hS.F ht9⟩) hS.2.2 dX5_set_20
  · subst er
    refine lv_istore_n (lv' := [(3, .int (-1)), (0, .ref a0), (1, .int x), (2, .int y)]) hx hb dX5_set_5 rfl hl (by decide) rfl (fun ls hl => ?_)
    refine lv_iload_n hx hb dX5_set_6 rfl (lv_at hl 0 rfl) ?_
    refine lv_iconst (v := (-1)) hx hb dX5_set_7 (by decide) ?_
    refine lv_icmp_eq (tgt := 19) hx hb dX5_set_8 (by decide) (fun _ => ?_) (fun c => absurd c (by decide))
    refine lv_iload_n hx hb dX5_set_19 rfl (lv_at hl 0 rfl) ?_
    have hP9 := hP.sub (ws' := [(a0, .inr (5, [.ref a1, .int (nI n)])), (a1, .inl (kB, cap, .inl f))]) [0, 1] rfl
    have hD9 := hD.sub (ws' := [(a0, .inr (5, [.ref a1, .int (nI n)])), (a1, .inl (kB, cap, .inl f))]) [0, 1] (by decide) rfl
    exact W.iret (v := (-1)) hx hb hr (fun t9 ht9 hW9 => ⟨⟨(-1), f, rfl, (by right; exact ⟨hj, rfl, rfl⟩), by rw [ht9]; exact hP9, va_K.moved hW9.alike hK, hD9⟩, hS.F ht9⟩) hS.2.2 dX5_set_20

set_option maxHeartbeats 4000000 in
set_option maxRecDepth 100000 in
theorem c_Row_shorten (l : Launch) (dC : Nat → ClassId) (dI : Nat → Nat → Nat) (kB kI : ClassId) (a0 : Nat) (a1 : Nat) (cap : Nat) (n : Nat) (f : Nat → Int32) (x : Int32) (xi : Int) (hn : n ≤ cap) (hc : cap ≤ 150000) (xh : x.toInt = xi) : zMi l yX5_shorten wsX5_shorten ({ frames := 0, cells := 0, slots := 0, locals := 0 }) (dC, dI) kB kI [.ref a0, .int x] [(a0, .inr (5, [.ref a1, .int (nI n)])), (a1, .inl (kB, cap, .inl f))] 0 0 (fun (r : Int32) => fun n2 : Nat => (∃ j : Nat, xi = j ∧ j ≤ n ∧ r = nI n ∧ n2 = j) ∨ ((xi < 0 ∨ (n : Int) < xi) ∧ r = -1 ∧ n2 = n)) (fun n2 : Nat => [(a0, .inr (5, [.ref a1, .int (nI n2)])), (a1, .inl (kB, cap, .inl f))]) := by
  intro sz
  refine Met.ofW (cc := cX5_shorten) (maxL := 3) (ret := (some .int)) (by decide) rfl ?_
  intro p e s m args below meth c s₁ B hml hv
  obtain ⟨rfl, hsz, hP, hK, hD0⟩ := hv
  have hx := B.exec
  have hb := B.bytes
  have hr := B.returns
  have hts := atoms_spec (ws := wsX5_shorten) B.pre
  have hown : s.vm.findClass RX5 = some m.cls := findClass_of_methodNamed B.named
  have hlocks := B.notSynchronized
  subst hsz
  have hD := hD0.self (sz := s.heap.size)
  generalize hAe : va_A [(a0, .inr (5, [.ref a1, .int (nI n)])), (a1, .inl (kB, cap, .inl f))] s.heap.size = A at hD ⊢
  have hA : ∀ q : Nat, s.heap.size ≤ q → A q := fun q h => by rw [← hAe]; exact Or.inr h
  have hS : va_S A s.heap s.heap [] := va_S.rf
  have hP : va_P (dC, dI) vwCl [(a0, .inr (5, [.ref a1, .int (nI n)])), (a1, .inl (kB, cap, .inl f))] s.heap := hP
  have hl := lv_entry ([.ref a0, .int x]) (n := 3) (Nat.le_of_ble_eq_true rfl)
  rw [lg_entry_eq]
  generalize (lg_sl ([.ref a0, .int x]) ++ List.replicate (3 - (lg_sl ([.ref a0, .int x])).length) Slot.unset).toArray = ls at hl ⊢
  have hl : lv_has ls 3 [(0, .ref a0), (1, .int x)] := hl
  refine zG (fun GG hG1 hG2 => ?_)
  refine lv_iload_n hx hb dX5_shorten_0 rfl (lv_at hl 1 rfl) ?_
  refine zb_if_lt (tgt := 12) (a := xi) hx hb dX5_shorten_1 (by decide) xh (fun c1 => ?_) (fun c1 => ?_)
  · refine lv_iconst (v := (-1)) hx hb dX5_shorten_12 (by decide) ?_
    have hP9 := hP.sub (ws' := [(a0, .inr (5, [.ref a1, .int (nI n)])), (a1, .inl (kB, cap, .inl f))]) [0, 1] rfl
    have hD9 := hD.sub (ws' := [(a0, .inr (5, [.ref a1, .int (nI n)])), (a1, .inl (kB, cap, .inl f))]) [0, 1] (by decide) rfl
    exact W.iret (v := (-1)) hx hb hr (fun t9 ht9 hW9 => ⟨⟨(-1), n, rfl, (by right; exact ⟨by omega, rfl, rfl⟩), by rw [ht9]; exact hP9, va_K.moved hW9.alike hK, hD9⟩, hS.F ht9⟩) hS.2.2 dX5_shorten_13
  · refine lv_iload_n hx hb dX5_shorten_4 rfl (lv_at hl 1 rfl) ?_
    refine lv_aload_n hx hb dX5_shorten_5 rfl (lv_at hl 0 rfl) ?_
    refine va_get (D := (dC, dI)) (ci := 5) (v := .int (nI n)) (C := RX5) (T := TX5) (N := 2) hx hb hts (by decide +kernel) hown hK hP 0 rfl rfl 1 (by decide) (hts (.fieldLink RX5 21 "SequenceFrames$Row" "size" "I") (by decide +kernel)) (fun _ h9 => h9) rfl dX5_shorten_6 ?_
    refine zb_icmp_le (tgt := 14) (a := xi) (b := ((n : Nat) : Int)) hx hb dX5_shorten_9 (by decide) xh (nI_toInt (by omega)) (fun c9 => ?_) (fun c9 => ?_)
    · obtain ⟨j, jb, xe⟩ := z_nat (x := x) (by omega)
      subst xe
      rw [nI_toInt jb] at xh
      subst xh
      refine lv_aload_n hx hb dX5_shorten_14 rfl (lv_at hl 0 rfl) ?_
      refine va_get (D := (dC, dI)) (ci := 5) (v := .int (nI n)) (C := RX5) (T := TX5) (N := 2) hx hb hts (by decide +kernel) hown hK hP 0 rfl rfl 1 (by decide) (hts (.fieldLink RX5 21 "SequenceFrames$Row" "size" "I") (by decide +kernel)) (fun _ h9 => h9) rfl dX5_shorten_15 ?_
      refine lv_istore_n (lv' := [(2, .int (nI n)), (0, .ref a0), (1, .int (nI j))]) hx hb dX5_shorten_18 rfl hl (by decide) rfl (fun ls hl => ?_)
      refine lv_aload_n hx hb dX5_shorten_19 rfl (lv_at hl 1 rfl) ?_
      refine lv_iload_n hx hb dX5_shorten_20 rfl (lv_at hl 2 rfl) ?_
      refine va_put (D := (dC, dI)) (ci := 5) (v := .int (nI j)) (ty := .int) (C := RX5) (T := TX5) (N := 2) hx hb hts (by decide +kernel) tyX5 tyX5_ok nmX5 hown hK hP hD hS 0 rfl rfl 1 (by decide) (hts (.fieldLink RX5 21 "SequenceFrames$Row" "size" "I") (by decide +kernel)) (fun _ h9 => h9) rfl (by decide +kernel) rfl rfl (Nat.le_of_ble_eq_true rfl) dX5_shorten_21 (fun H locs hP hD hS => ?_)
      have hP : va_P (dC, dI) vwCl [(a0, .inr (5, [.ref a1, .int (nI j)])), (a1, .inl (kB, cap, .inl f))] H := hP
      have hD : va_D A [(a0, .inr (5, [.ref a1, .int (nI j)])), (a1, .inl (kB, cap, .inl f))] := hD
      refine lv_iload_n hx hb dX5_shorten_24 rfl (lv_at hl 0 rfl) ?_
      have hP9 := hP.sub (ws' := [(a0, .inr (5, [.ref a1, .int (nI j)])), (a1, .inl (kB, cap, .inl f))]) [0, 1] rfl
      have hD9 := hD.sub (ws' := [(a0, .inr (5, [.ref a1, .int (nI j)])), (a1, .inl (kB, cap, .inl f))]) [0, 1] (by decide) rfl
      exact W.iret (v := (nI n)) hx hb hr (fun t9 ht9 hW9 => ⟨⟨(nI n), j, rfl, (by left; exact ⟨j, rfl, by omega, rfl, rfl⟩), by rw [ht9]; exact hP9, va_K.moved hW9.alike hK, hD9⟩, hS.F ht9⟩) hS.2.2 dX5_shorten_25
    · refine lv_iconst (v := (-1)) hx hb dX5_shorten_12 (by decide) ?_
      have hP9 := hP.sub (ws' := [(a0, .inr (5, [.ref a1, .int (nI n)])), (a1, .inl (kB, cap, .inl f))]) [0, 1] rfl
      have hD9 := hD.sub (ws' := [(a0, .inr (5, [.ref a1, .int (nI n)])), (a1, .inl (kB, cap, .inl f))]) [0, 1] (by decide) rfl
      exact W.iret (v := (-1)) hx hb hr (fun t9 ht9 hW9 => ⟨⟨(-1), n, rfl, (by right; exact ⟨by omega, rfl, rfl⟩), by rw [ht9]; exact hP9, va_K.moved hW9.alike hK, hD9⟩, hS.F ht9⟩) hS.2.2 dX5_shorten_13

set_option maxHeartbeats 4000000 in
set_option maxRecDepth 100000 in
theorem c_Row_add (l : Launch) (dC : Nat → ClassId) (dI : Nat → Nat → Nat) (kB kI : ClassId) (a0 : Nat) (a1 : Nat) (cap : Nat) (n : Nat) (f : Nat → Int32) (y : Int32) (hn : n < cap) (hc : cap ≤ 150000) : zMv l yX5_add wsX5_add ({ frames := 0, cells := 0, slots := 0, locals := 0 }) (dC, dI) kB kI [.ref a0, .int y] [(a0, .inr (5, [.ref a1, .int (nI n)])), (a1, .inl (kB, cap, .inl f))] 0 0 (fun _ : Unit => True) (fun _ : Unit => [(a0, .inr (5, [.ref a1, .int (nI (n + 1))])), (a1, .inl (kB, cap, .inl (upd f n (i2b y))))]) := by
  intro sz
  refine Met.ofW (cc := cX5_add) (maxL := 2) (ret := none) (by decide) rfl ?_
  intro p e s m args below meth c s₁ B hml hv
  obtain ⟨rfl, hsz, hP, hK, hD0⟩ := hv
  have hx := B.exec
  have hb := B.bytes
  have hr := B.returns
  have hts := atoms_spec (ws := wsX5_add) B.pre
  have hown : s.vm.findClass RX5 = some m.cls := findClass_of_methodNamed B.named
  have hlocks := B.notSynchronized
  subst hsz
  have hD := hD0.self (sz := s.heap.size)
  generalize hAe : va_A [(a0, .inr (5, [.ref a1, .int (nI n)])), (a1, .inl (kB, cap, .inl f))] s.heap.size = A at hD ⊢
  have hA : ∀ q : Nat, s.heap.size ≤ q → A q := fun q h => by rw [← hAe]; exact Or.inr h
  have hS : va_S A s.heap s.heap [] := va_S.rf
  have hP : va_P (dC, dI) vwCl [(a0, .inr (5, [.ref a1, .int (nI n)])), (a1, .inl (kB, cap, .inl f))] s.heap := hP
  have hl := lv_entry ([.ref a0, .int y]) (n := 2) (Nat.le_of_ble_eq_true rfl)
  rw [lg_entry_eq]
  generalize (lg_sl ([.ref a0, .int y]) ++ List.replicate (2 - (lg_sl ([.ref a0, .int y])).length) Slot.unset).toArray = ls at hl ⊢
  have hl : lv_has ls 2 [(0, .ref a0), (1, .int y)] := hl
  refine zG (fun GG hG1 hG2 => ?_)
  refine lv_aload_n hx hb dX5_add_0 rfl (lv_at hl 0 rfl) ?_
  refine va_get (D := (dC, dI)) (ci := 5) (v := .int (nI n)) (C := RX5) (T := TX5) (N := 2) hx hb hts (by decide +kernel) hown hK hP 0 rfl rfl 1 (by decide) (hts (.fieldLink RX5 21 "SequenceFrames$Row" "size" "I") (by decide +kernel)) (fun _ h9 => h9) rfl dX5_add_1 ?_
  refine lv_aload_n hx hb dX5_add_4 rfl (lv_at hl 0 rfl) ?_
  refine va_get (D := (dC, dI)) (ci := 5) (v := .ref a1) (C := RX5) (T := TX5) (N := 2) hx hb hts (by decide +kernel) hown hK hP 0 rfl rfl 0 (by decide) (hts (.fieldLink RX5 15 "SequenceFrames$Row" "bytes" "[B") (by decide +kernel)) (fun _ h9 => h9) rfl dX5_add_5 ?_
  refine va_alen (v := nI cap) hx hb hK hP 1 0 rfl rfl rfl dX5_add_8 ?_
  refine zb_icmp_ge (tgt := 33) (a := ((n : Nat) : Int)) (b := ((cap : Nat) : Int)) hx hb dX5_add_9 (by decide) (nI_toInt (by omega)) (nI_toInt (by omega)) (fun c9 => ?_) (fun c9 => ?_)
  · omega
  · refine lv_aload_n hx hb dX5_add_12 rfl (lv_at hl 0 rfl) ?_
    refine va_get (D := (dC, dI)) (ci := 5) (v := .ref a1) (C := RX5) (T := TX5) (N := 2) hx hb hts (by decide +kernel) hown hK hP 0 rfl rfl 0 (by decide) (hts (.fieldLink RX5 15 "SequenceFrames$Row" "bytes" "[B") (by decide +kernel)) (fun _ h9 => h9) rfl dX5_add_13 ?_
    refine lv_aload_n hx hb dX5_add_16 rfl (lv_at hl 0 rfl) ?_
    refine va_get (D := (dC, dI)) (ci := 5) (v := .int (nI n)) (C := RX5) (T := TX5) (N := 2) hx hb hts (by decide +kernel) hown hK hP 0 rfl rfl 1 (by decide) (hts (.fieldLink RX5 21 "SequenceFrames$Row" "size" "I") (by decide +kernel)) (fun _ h9 => h9) rfl dX5_add_17 ?_
    refine lv_iload_n hx hb dX5_add_20 rfl (lv_at hl 1 rfl) ?_
    refine lv_i2b (v := (i2b y)) hx hb dX5_add_21 rfl ?_
    refine va_bast hx hb hK hP hD hS 1 0 rfl rfl (zin rfl (by omega) (by omega)) dX5_add_22 (fun H locs hP hD hS => ?_)
    have ez := (congrArg (upd f ((nI n) : Int32).toNatClampNeg) (show vp_nar .byte (i2b y) = (i2b y) from pk_vb _)).trans (zst f (i2b y) (i := (nI n)) (j := n) rfl (by omega))
    have hP : va_P (dC, dI) vwCl [(a0, .inr (5, [.ref a1, .int (nI n)])), (a1, .inl (kB, cap, .inl (upd f n (i2b y))))] H := by rw [← ez]; exact hP
    have hD : va_D A [(a0, .inr (5, [.ref a1, .int (nI n)])), (a1, .inl (kB, cap, .inl (upd f n (i2b y))))] := by rw [← ez]; exact hD
    refine lv_aload_n hx hb dX5_add_23 rfl (lv_at hl 0 rfl) ?_
    refine lv_dup hx hb dX5_add_24 rfl ?_
    refine va_get (D := (dC, dI)) (ci := 5) (v := .int (nI n)) (C := RX5) (T := TX5) (N := 2) hx hb hts (by decide +kernel) hown hK hP 0 rfl rfl 1 (by decide) (hts (.fieldLink RX5 21 "SequenceFrames$Row" "size" "I") (by decide +kernel)) (fun _ h9 => h9) rfl dX5_add_25 ?_
    refine lv_iconst (v := 1) hx hb dX5_add_28 (by decide) ?_
    refine lv_iadd hx hb dX5_add_29 ?_
    refine lv_is (y := (nI (n + 1))) ((zn_add rfl rfl)) ?_
    refine va_put (D := (dC, dI)) (ci := 5) (v := .int (nI (n + 1))) (ty := .int) (C := RX5) (T := TX5) (N := 2) hx hb hts (by decide +kernel) tyX5 tyX5_ok nmX5 hown hK hP hD hS 0 rfl rfl 1 (by decide) (hts (.fieldLink RX5 21 "SequenceFrames$Row" "size" "I") (by decide +kernel)) (fun _ h9 => h9) rfl (by decide +kernel) rfl rfl (Nat.le_of_ble_eq_true rfl) dX5_add_30 (fun H locs hP hD hS => ?_)
    have hP : va_P (dC, dI) vwCl [(a0, .inr (5, [.ref a1, .int (nI (n + 1))])), (a1, .inl (kB, cap, .inl (upd f n (i2b y))))] H := hP
    have hD : va_D A [(a0, .inr (5, [.ref a1, .int (nI (n + 1))])), (a1, .inl (kB, cap, .inl (upd f n (i2b y))))] := hD
    have hP9 := hP.sub (ws' := [(a0, .inr (5, [.ref a1, .int (nI (n + 1))])), (a1, .inl (kB, cap, .inl (upd f n (i2b y))))]) [0, 1] rfl
    have hD9 := hD.sub (ws' := [(a0, .inr (5, [.ref a1, .int (nI (n + 1))])), (a1, .inl (kB, cap, .inl (upd f n (i2b y))))]) [0, 1] (by decide) rfl
    exact W.vret hx hb hr (fun t9 ht9 hW9 => ⟨⟨(), rfl, trivial, by rw [ht9]; exact hP9, va_K.moved hW9.alike hK, hD9⟩, hS.F ht9⟩) hS.2.2 dX5_add_33
